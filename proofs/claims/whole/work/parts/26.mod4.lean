def mSt (dep : Nat → Int32) (dr he : Int32) (n : Nat) (win cel : Nat → Int32) : Nat → ((Nat → Int32) × (Nat → Int32)) × Int32
  | 0 => ((win, cel), 0)
  | k + 1 => if (mSt dep dr he n win cel k).1.2 k = -1 then mSt dep dr he n win cel k
    else if mLeave (mSt dep dr he n win cel k).1.2 dep dr he (nI k) = 0 then
      (if mGoal (mSt dep dr he n win cel k).1.2 dep (mSt dep dr he n win cel k).1.1 dr he (nI k) n ((mSt dep dr he n win cel k).1.2 k) = -1 then mSt dep dr he n win cel k
       else (mGo (mSt dep dr he n win cel k).1.1 (mSt dep dr he n win cel k).1.2 (nI k) (mGoal (mSt dep dr he n win cel k).1.2 dep (mSt dep dr he n win cel k).1.1 dr he (nI k) n ((mSt dep dr he n win cel k).1.2 k)), (mSt dep dr he n win cel k).2 + 1))
    else (mGo (mSt dep dr he n win cel k).1.1 (mSt dep dr he n win cel k).1.2 (nI k) (-1), (mSt dep dr he n win cel k).2 + 1)
theorem mGoal_ok {cel dep win : Nat → Int32} {dr he w : Int32} {n : Nat} {x : Int32} (hX : ¬ uK x 48) (h : ¬ mGoal cel dep win dr he w n x = -1) : ¬ uK (mGoal cel dep win dr he w n x) 48 := by
  have hc : ¬ mCr cel dep win dr he w n x = -1 → ¬ uK (mCr cel dep win dr he w n x) 48 := by
    unfold mCr
    by_cases h1 : mCt dr x = -1
    · rw [if_pos h1]; exact fun q => absurd rfl q
    · rw [if_neg h1]
      by_cases h2 : win (mCt dr x).toNatClampNeg = -1
      · rw [if_pos h2]
        by_cases h3 : he < mEn cel dep dr w n (mCt dr x) - mEn cel dep dr w n x
        · rw [if_pos h3]; exact fun q => absurd rfl q
        · rw [if_neg h3]; exact mCt_ok hX
      · rw [if_neg h2]; exact fun q => absurd rfl q
  revert h
  unfold mGoal
  by_cases h1 : mGb cel dep win dr w n x 4 = -1
  · rw [if_pos h1]; exact hc
  · rw [if_neg h1]
    by_cases h2 : mEn cel dep dr w n x ≤ mEn cel dep dr w n (mGb cel dep win dr w n x 4)
    · rw [if_pos h2]; exact hc
    · rw [if_neg h2]; exact mGb_ok hX 4
theorem mSt_ok {dep : Nat → Int32} {dr he : Int32} {n : Nat} {win cel : Nat → Int32} (h : ∀ j, ¬ cel j = -1 → ¬ uK (cel j) 48) : ∀ k, k < 2 ^ 31 → ∀ j, ¬ (mSt dep dr he n win cel k).1.2 j = -1 → ¬ uK ((mSt dep dr he n win cel k).1.2 j) 48 := by
  intro k
  induction k with
  | zero => exact fun _ => h
  | succ k ih =>
    intro hk j
    have ih := ih (by omega)
    unfold mSt
    generalize mSt dep dr he n win cel k = s at ih ⊢
    by_cases h1 : s.1.2 k = -1
    · rw [if_pos h1]; exact ih j
    · rw [if_neg h1]
      by_cases h2 : mLeave s.1.2 dep dr he (nI k) = 0
      · rw [if_pos h2]
        by_cases h3 : mGoal s.1.2 dep s.1.1 dr he (nI k) n (s.1.2 k) = -1
        · rw [if_pos h3]; exact ih j
        · rw [if_neg h3]
          have hg := mGoal_ok (ih k h1) h3
          show ¬ upd s.1.2 (nI k).toNatClampNeg _ j = -1 → ¬ uK (upd s.1.2 (nI k).toNatClampNeg _ j) 48
          unfold upd
          by_cases q : j = (nI k).toNatClampNeg
          · rw [if_pos q]; exact fun _ => hg
          · rw [if_neg q]; exact ih j
      · rw [if_neg h2]
        show ¬ upd s.1.2 (nI k).toNatClampNeg (-1) j = -1 → ¬ uK (upd s.1.2 (nI k).toNatClampNeg (-1) j) 48
        unfold upd
        by_cases q : j = (nI k).toNatClampNeg
        · rw [if_pos q]; exact fun z => absurd rfl z
        · rw [if_neg q]; exact ih j
section MStep
variable {dep : Nat → Int32} {dr he : Int32} {n : Nat} {win cel : Nat → Int32} {k : Nat}
theorem mSt_no (h : (mSt dep dr he n win cel k).1.2 k = -1) : mSt dep dr he n win cel (k + 1) = mSt dep dr he n win cel k := by
  show (if (mSt dep dr he n win cel k).1.2 k = -1 then _ else _) = _
  rw [if_pos h]
theorem mSt_stay (h : ¬ (mSt dep dr he n win cel k).1.2 k = -1) (h2 : mLeave (mSt dep dr he n win cel k).1.2 dep dr he (nI k) = 0) (h3 : mGoal (mSt dep dr he n win cel k).1.2 dep (mSt dep dr he n win cel k).1.1 dr he (nI k) n ((mSt dep dr he n win cel k).1.2 k) = -1) : mSt dep dr he n win cel (k + 1) = mSt dep dr he n win cel k := by
  show (if (mSt dep dr he n win cel k).1.2 k = -1 then _ else _) = _
  rw [if_neg h, if_pos h2, if_pos h3]
theorem mSt_goes (h : ¬ (mSt dep dr he n win cel k).1.2 k = -1) (h2 : mLeave (mSt dep dr he n win cel k).1.2 dep dr he (nI k) = 0) (h3 : ¬ mGoal (mSt dep dr he n win cel k).1.2 dep (mSt dep dr he n win cel k).1.1 dr he (nI k) n ((mSt dep dr he n win cel k).1.2 k) = -1) : mSt dep dr he n win cel (k + 1) = (mGo (mSt dep dr he n win cel k).1.1 (mSt dep dr he n win cel k).1.2 (nI k) (mGoal (mSt dep dr he n win cel k).1.2 dep (mSt dep dr he n win cel k).1.1 dr he (nI k) n ((mSt dep dr he n win cel k).1.2 k)), (mSt dep dr he n win cel k).2 + 1) := by
  show (if (mSt dep dr he n win cel k).1.2 k = -1 then _ else _) = _
  rw [if_neg h, if_pos h2, if_neg h3]
theorem mSt_leaves (h : ¬ (mSt dep dr he n win cel k).1.2 k = -1) (h2 : ¬ mLeave (mSt dep dr he n win cel k).1.2 dep dr he (nI k) = 0) : mSt dep dr he n win cel (k + 1) = (mGo (mSt dep dr he n win cel k).1.1 (mSt dep dr he n win cel k).1.2 (nI k) (-1), (mSt dep dr he n win cel k).2 + 1) := by
  show (if (mSt dep dr he n win cel k).1.2 k = -1 then _ else _) = _
  rw [if_neg h, if_neg h2]
end MStep
theorem set_abab {w : va_W} {p q : Nat} {x y x2 y2 : Nat × va_E} (h : q ≠ p) : (((w.set p x).set q y).set p x2).set q y2 = (w.set p x2).set q y2 := set_pul h
set_option maxHeartbeats 4000000 in
set_option maxRecDepth 100000 in
theorem metX8_stepOnce (l : Launch) (G : va_G) (tys : List (ClassId × FieldType)) {cI : ClassId} (htI : tI tys cI) {A : Nat → Prop} (ws : va_W) {am : Nat} {ad : Nat → Nat} {z : Nat → Int32} {wi dm : Int64} {F : Nat → Nat → Int32} (hm : ws[12]? = some (am, .inr (9, mF ad z wi dm))) (hA18 : ws[18]? = some (ad 18, .inl (cI, 48, .inl (F 18)))) (hA19 : ws[19]? = some (ad 19, .inl (cI, 48, .inl (F 19)))) (hA20 : ws[20]? = some (ad 20, .inl (cI, 20, .inl (F 20)))) {nW : Nat} (hnW : z 9 = nI nW) (hW20 : nW ≤ 20) (hce : ∀ j, ¬ F 20 j = -1 → ¬ uK (F 20 j) 48) : Met l yX8_stepOnce wsX8_stepOnce ({ frames := 3, cells := 0, slots := 0, locals := 72 }) (pcM G tys ws A [.ref am]) (va_Qi (fun (r : Int32) (_ : Unit) => r = (mSt (F 18) (z 11) (z 12) nW (F 19) (F 20) nW).2) (fun _ t => va_P G vwCl ((ws.set 19 (ad 19, .inl (cI, 48, .inl ((mSt (F 18) (z 11) (z 12) nW (F 19) (F 20) nW).1.1)))).set 20 (ad 20, .inl (cI, 20, .inl ((mSt (F 18) (z 11) (z 12) nW (F 19) (F 20) nW).1.2)))) t.heap ∧ va_D A ((ws.set 19 (ad 19, .inl (cI, 48, .inl ((mSt (F 18) (z 11) (z 12) nW (F 19) (F 20) nW).1.1)))).set 20 (ad 20, .inl (cI, 20, .inl ((mSt (F 18) (z 11) (z 12) nW (F 19) (F 20) nW).1.2))))) A) 0 0 A := by
  refine ofM (cc := cX8_stepOnce) (maxL := 4) (ret := some .int) (by decide) rfl (Nat.le_of_ble_eq_true rfl) ?_
  intro p e s m below meth c ls hx hb hr hlocks hml hown hts hin hl hP hK hD hA hS
  have hown : s.vm.findClass RX8 = some m.cls := hown
  have hiX8 : ∀ w ∈ u_ws RX8 TX8 39, w ∈ wsX8_stepOnce := fun _ h => List.mem_cons_of_mem _ (List.mem_append_right _ h)
  have hl : lv_has ls 4 [(0, .ref am)] := hl
  have hm0 := hm
  have hA180 := hA18
  have hA190 := hA19
  have hA200 := hA20
  refine lv_iconst (v := 0) hx hb dX8_stepOnce_0 (by decide) ?_
  refine lv_istore_n (lv' := [(1, .int (0 : Int32)), (0, .ref am)]) hx hb dX8_stepOnce_1 rfl hl (by decide) rfl (fun ls hl => ?_)
  refine lv_iconst (v := 0) hx hb dX8_stepOnce_2 (by decide) ?_
  refine lv_istore_n (lv' := [(2, .int (0 : Int32)), (1, .int (0 : Int32)), (0, .ref am)]) hx hb dX8_stepOnce_3 rfl hl (by decide) rfl (fun ls hl => ?_)
  have hself : (ws.set 19 (ad 19, .inl (cI, 48, .inl ((mSt (F 18) (z 11) (z 12) nW (F 19) (F 20) 0).1.1)))).set 20 (ad 20, .inl (cI, 20, .inl ((mSt (F 18) (z 11) (z 12) nW (F 19) (F 20) 0).1.2))) = ws := by show (ws.set 19 (ad 19, .inl (cI, 48, .inl (F 19)))).set 20 (ad 20, .inl (cI, 20, .inl (F 20))) = ws; rw [va_self hA19, va_self hA20]
  have hl : lv_has ls 4 [(2, .int (0 : Int32)), (1, .int ((mSt (F 18) (z 11) (z 12) nW (F 19) (F 20) 0).2)), (0, .ref am)] := hl
  refine loopM nW 4 4 (fun i => [(0, .ref am), (1, .int ((mSt (F 18) (z 11) (z 12) nW (F 19) (F 20) i).2)), (2, .int (nI i))]) (fun i => (ws.set 19 (ad 19, .inl (cI, 48, .inl ((mSt (F 18) (z 11) (z 12) nW (F 19) (F 20) i).1.1)))).set 20 (ad 20, .inl (cI, 20, .inl ((mSt (F 18) (z 11) (z 12) nW (F 19) (F 20) i).1.2)))) (fun i => True) (fun i hNi hKi ihi H locs ls hP hD hS hl => ?_) (i0 := 0) (by omega) (trivial) (by rw [hself]; exact hP) (by rw [hself]; exact hD) hS (lv_sub hl [2, 1, 0] rfl)
  have hl : lv_has ls 4 [(0, .ref am), (1, .int ((mSt (F 18) (z 11) (z 12) nW (F 19) (F 20) i).2)), (2, .int (nI i))] := hl
  have hP : va_P G vwCl ((ws.set 19 (ad 19, .inl (cI, 48, .inl ((mSt (F 18) (z 11) (z 12) nW (F 19) (F 20) i).1.1)))).set 20 (ad 20, .inl (cI, 20, .inl ((mSt (F 18) (z 11) (z 12) nW (F 19) (F 20) i).1.2)))) H := hP
  have hD : va_D A ((ws.set 19 (ad 19, .inl (cI, 48, .inl ((mSt (F 18) (z 11) (z 12) nW (F 19) (F 20) i).1.1)))).set 20 (ad 20, .inl (cI, 20, .inl ((mSt (F 18) (z 11) (z 12) nW (F 19) (F 20) i).1.2)))) := hD
  have hm := va_gs (k := 20) (e := (ad 20, .inl (cI, 20, .inl ((mSt (F 18) (z 11) (z 12) nW (F 19) (F 20) i).1.2)))) (by decide) (va_gs (k := 19) (e := (ad 19, .inl (cI, 48, .inl ((mSt (F 18) (z 11) (z 12) nW (F 19) (F 20) i).1.1)))) (by decide) hm0)
  have hA18 := va_gs (k := 20) (e := (ad 20, .inl (cI, 20, .inl ((mSt (F 18) (z 11) (z 12) nW (F 19) (F 20) i).1.2)))) (by decide) (va_gs (k := 19) (e := (ad 19, .inl (cI, 48, .inl ((mSt (F 18) (z 11) (z 12) nW (F 19) (F 20) i).1.1)))) (by decide) hA180)
  have hA19 := va_gs (k := 20) (e := (ad 20, .inl (cI, 20, .inl ((mSt (F 18) (z 11) (z 12) nW (F 19) (F 20) i).1.2)))) (by decide) (va_ge (e := (ad 19, .inl (cI, 48, .inl ((mSt (F 18) (z 11) (z 12) nW (F 19) (F 20) i).1.1)))) hA190)
  have hA20 : ((ws.set 19 (ad 19, .inl (cI, 48, .inl ((mSt (F 18) (z 11) (z 12) nW (F 19) (F 20) i).1.1)))).set 20 (ad 20, .inl (cI, 20, .inl ((mSt (F 18) (z 11) (z 12) nW (F 19) (F 20) i).1.2))))[20]? = _ := va_ge (e := (ad 20, .inl (cI, 20, .inl ((mSt (F 18) (z 11) (z 12) nW (F 19) (F 20) i).1.2)))) (va_gs (k := 19) (e := (ad 19, .inl (cI, 48, .inl ((mSt (F 18) (z 11) (z 12) nW (F 19) (F 20) i).1.1)))) (by decide) hA200)
  have hok := mSt_ok (dep := F 18) (dr := z 11) (he := z 12) (n := nW) (win := F 19) hce i (by omega)
  refine lv_iload_n hx hb dX8_stepOnce_4 rfl (lv_at hl 2 rfl) ?_
  refine lv_aload_n hx hb dX8_stepOnce_5 rfl (lv_at hl 0 rfl) ?_
  refine va_get (D := G) (ci := 9) (v := .int (z 9)) (C := RX8) (T := TX8) (N := 39) hx hb hts hiX8 hown hK hP 12 hm rfl 9 (by decide) (hts (.fieldLink RX8 115 "VortexpinModel" "whirls" "I") (List.mem_of_getElem? (i := 1) rfl)) (fun _ h9 => h9) rfl dX8_stepOnce_6 ?_
  refine lv_icmp_ge (tgt := 68) hx hb dX8_stepOnce_9 (by decide) (fun c9 => ?_) (fun c9 => ?_)
  · have heqi : i = nW := by rw [hnW] at c9; exact Nat.le_antisymm hNi ((nI_leI (by omega) (by omega)).mp c9)
    refine lv_iload_n hx hb dX8_stepOnce_68 rfl (lv_at hl 1 rfl) ?_
    rw [heqi] at hP hD
    exact W.iret (v := (mSt (F 18) (z 11) (z 12) nW (F 19) (F 20) i).2) hx hb hr (fun t ht hW => ⟨⟨(mSt (F 18) (z 11) (z 12) nW (F 19) (F 20) i).2, (), rfl, (by rw [heqi]), by show va_P G vwCl _ t.heap ∧ va_D A _; rw [ht]; exact ⟨hP, hD⟩⟩, hS.F ht⟩) hS.2.2 dX8_stepOnce_69
  · have hlti : i < nW := by rw [hnW] at c9; exact Nat.lt_of_not_le (mt (nI_leI (by omega) (by omega)).mpr c9)
    refine lv_aload_n hx hb dX8_stepOnce_12 rfl (lv_at hl 0 rfl) ?_
    refine va_get (D := G) (ci := 9) (v := .ref (ad 20)) (C := RX8) (T := TX8) (N := 39) hx hb hts hiX8 hown hK hP 12 hm rfl 10 (by decide) (hts (.fieldLink RX8 31 "VortexpinModel" "cellOf" "[I") (List.mem_of_getElem? (i := 2) rfl)) (fun _ h9 => h9) rfl dX8_stepOnce_13 ?_
    refine lv_iload_n hx hb dX8_stepOnce_16 rfl (lv_at hl 2 rfl) ?_
    refine va_iald hx hb hK hP 20 0 hA20 htI (vp_in_nI (show i < 20 by omega) (by omega)) dX8_stepOnce_17 ?_
    refine rd_i (j := i) (nI_clamp (by omega)) ?_
    refine lv_iconst (v := -1) hx hb dX8_stepOnce_18 (by decide) ?_
    refine lv_icmp_eq (tgt := 62) hx hb dX8_stepOnce_19 (by decide) (fun c19 => ?_) (fun c19 => ?_)
    · refine lv_iinc (v := nI (i + 1)) (lv' := [(2, .int (nI (i + 1))), (0, .ref am), (1, .int ((mSt (F 18) (z 11) (z 12) nW (F 19) (F 20) i).2))]) hx hb dX8_stepOnce_62 hl (k := 2) rfl (nI_1 i) (by decide) rfl (fun ls hl => ?_)
      refine lv_goto (tgt := 4) hx hb dX8_stepOnce_65 (by decide) ?_
      have ea1 : (mSt (F 18) (z 11) (z 12) nW (F 19) (F 20) i).2 = (mSt (F 18) (z 11) (z 12) nW (F 19) (F 20) (i + 1)).2 := by rw [mSt_no c19]
      rw [ea1] at hl
      have ew : (ws.set 19 (ad 19, .inl (cI, 48, .inl ((mSt (F 18) (z 11) (z 12) nW (F 19) (F 20) i).1.1)))).set 20 (ad 20, .inl (cI, 20, .inl ((mSt (F 18) (z 11) (z 12) nW (F 19) (F 20) i).1.2))) = (ws.set 19 (ad 19, .inl (cI, 48, .inl ((mSt (F 18) (z 11) (z 12) nW (F 19) (F 20) (i + 1)).1.1)))).set 20 (ad 20, .inl (cI, 20, .inl ((mSt (F 18) (z 11) (z 12) nW (F 19) (F 20) (i + 1)).1.2))) := by rw [mSt_no c19]
      have hP : va_P G vwCl ((ws.set 19 (ad 19, .inl (cI, 48, .inl ((mSt (F 18) (z 11) (z 12) nW (F 19) (F 20) i).1.1)))).set 20 (ad 20, .inl (cI, 20, .inl ((mSt (F 18) (z 11) (z 12) nW (F 19) (F 20) i).1.2)))) H := hP
      have hD : va_D A ((ws.set 19 (ad 19, .inl (cI, 48, .inl ((mSt (F 18) (z 11) (z 12) nW (F 19) (F 20) i).1.1)))).set 20 (ad 20, .inl (cI, 20, .inl ((mSt (F 18) (z 11) (z 12) nW (F 19) (F 20) i).1.2)))) := hD
      rw [ew] at hP hD
      exact ihi H _ ls hlti (trivial) hP hD hS (lv_sub hl [1, 2, 0] rfl)
    · refine lv_aload_n hx hb dX8_stepOnce_22 rfl (lv_at hl 0 rfl) ?_
      refine lv_iload_n hx hb dX8_stepOnce_23 rfl (lv_at hl 2 rfl) ?_
      refine vp_callSi (va_Run.run (va_runV (As := [.int (nI i)]) (rest := []) ⟨hx, hb, hml, hown, hts⟩ (metX8_leaves l G tys htI _ (F := (updF (updF F 19 (mSt (F 18) (z 11) (z 12) nW (F 19) (F 20) i).1.1) 20 (mSt (F 18) (z 11) (z 12) nW (F 19) (F 20) i).1.2)) hm hA18 hA20 (nI i) (uK_of (n := 20) (by omega) (by decide)) (by rw [nI_clamp (show i < 2 ^ 31 by omega)]; exact hok i c19)) (cwV 1 hts gX8_stepOnce_X8_leaves rfl rfl rfl (by decide +kernel) ⟨Nat.le_of_ble_eq_true rfl, Nat.le_of_ble_eq_true rfl⟩) ⟨pcR_b, va_recv hK hP (ci := 9) (q0 := 12) rfl hm, pcR_u hP hK⟩ rfl rfl hl.1 rfl (lv_room (Nat.le_of_ble_eq_true rfl)) dX8_stepOnce_24 ⟨Nat.le_of_ble_eq_true rfl, Nat.le_of_ble_eq_true rfl⟩)) (fun r24 h24 => ?_)
      have h24 : r24 = mLeave (mSt (F 18) (z 11) (z 12) nW (F 19) (F 20) i).1.2 (F 18) (z 11) (z 12) (nI i) := h24
      refine lv_if_eq (tgt := 42) hx hb dX8_stepOnce_27 (by decide) (fun c27 => ?_) (fun c27 => ?_)
      · refine lv_aload_n hx hb dX8_stepOnce_42 rfl (lv_at hl 0 rfl) ?_
        refine lv_iload_n hx hb dX8_stepOnce_43 rfl (lv_at hl 2 rfl) ?_
        refine vp_callSi (va_Run.run (va_runV (As := [.int (nI i)]) (rest := []) ⟨hx, hb, hml, hown, hts⟩ (metX8_goal l G tys htI _ (F := (updF (updF F 19 (mSt (F 18) (z 11) (z 12) nW (F 19) (F 20) i).1.1) 20 (mSt (F 18) (z 11) (z 12) nW (F 19) (F 20) i).1.2)) hm hA18 hA19 hA20 hnW hW20 (nI i) (uK_of (n := 20) (by omega) (by decide)) (by rw [nI_clamp (show i < 2 ^ 31 by omega)]; exact hok i c19)) (cwV 1 hts gX8_stepOnce_X8_goal rfl rfl rfl (by decide +kernel) ⟨Nat.le_of_ble_eq_true rfl, Nat.le_of_ble_eq_true rfl⟩) ⟨pcR_b, va_recv hK hP (ci := 9) (q0 := 12) rfl hm, pcR_u hP hK⟩ rfl rfl hl.1 rfl (lv_room (Nat.le_of_ble_eq_true rfl)) dX8_stepOnce_44 ⟨Nat.le_of_ble_eq_true rfl, Nat.le_of_ble_eq_true rfl⟩)) (fun r44 h44 => ?_)
        have h44 : r44 = mGoal (mSt (F 18) (z 11) (z 12) nW (F 19) (F 20) i).1.2 (F 18) (mSt (F 18) (z 11) (z 12) nW (F 19) (F 20) i).1.1 (z 11) (z 12) (nI i) nW ((mSt (F 18) (z 11) (z 12) nW (F 19) (F 20) i).1.2 i) := h44.trans (by rw [nI_clamp (show i < 2 ^ 31 by omega)]; rfl)
        refine lv_istore_n (lv' := [(3, .int r44), (0, .ref am), (1, .int ((mSt (F 18) (z 11) (z 12) nW (F 19) (F 20) i).2)), (2, .int (nI i))]) hx hb dX8_stepOnce_47 rfl hl (by decide) rfl (fun ls hl => ?_)
        refine lv_iload_n hx hb dX8_stepOnce_48 rfl (lv_at hl 0 rfl) ?_
        refine lv_iconst (v := -1) hx hb dX8_stepOnce_49 (by decide) ?_
        refine lv_icmp_eq (tgt := 62) hx hb dX8_stepOnce_50 (by decide) (fun c50 => ?_) (fun c50 => ?_)
        · refine lv_iinc (v := nI (i + 1)) (lv' := [(2, .int (nI (i + 1))), (3, .int r44), (0, .ref am), (1, .int ((mSt (F 18) (z 11) (z 12) nW (F 19) (F 20) i).2))]) hx hb dX8_stepOnce_62 hl (k := 3) rfl (nI_1 i) (by decide) rfl (fun ls hl => ?_)
          refine lv_goto (tgt := 4) hx hb dX8_stepOnce_65 (by decide) ?_
          have ea1 : (mSt (F 18) (z 11) (z 12) nW (F 19) (F 20) i).2 = (mSt (F 18) (z 11) (z 12) nW (F 19) (F 20) (i + 1)).2 := by rw [mSt_stay c19 (by rw [← h24]; exact c27) (by rw [← h44]; exact c50)]
          rw [ea1] at hl
          have ew : (ws.set 19 (ad 19, .inl (cI, 48, .inl ((mSt (F 18) (z 11) (z 12) nW (F 19) (F 20) i).1.1)))).set 20 (ad 20, .inl (cI, 20, .inl ((mSt (F 18) (z 11) (z 12) nW (F 19) (F 20) i).1.2))) = (ws.set 19 (ad 19, .inl (cI, 48, .inl ((mSt (F 18) (z 11) (z 12) nW (F 19) (F 20) (i + 1)).1.1)))).set 20 (ad 20, .inl (cI, 20, .inl ((mSt (F 18) (z 11) (z 12) nW (F 19) (F 20) (i + 1)).1.2))) := by rw [mSt_stay c19 (by rw [← h24]; exact c27) (by rw [← h44]; exact c50)]
          have hP : va_P G vwCl ((ws.set 19 (ad 19, .inl (cI, 48, .inl ((mSt (F 18) (z 11) (z 12) nW (F 19) (F 20) i).1.1)))).set 20 (ad 20, .inl (cI, 20, .inl ((mSt (F 18) (z 11) (z 12) nW (F 19) (F 20) i).1.2)))) H := hP
          have hD : va_D A ((ws.set 19 (ad 19, .inl (cI, 48, .inl ((mSt (F 18) (z 11) (z 12) nW (F 19) (F 20) i).1.1)))).set 20 (ad 20, .inl (cI, 20, .inl ((mSt (F 18) (z 11) (z 12) nW (F 19) (F 20) i).1.2)))) := hD
          rw [ew] at hP hD
          exact ihi H _ ls hlti (trivial) hP hD hS (lv_sub hl [2, 3, 0] rfl)
        · refine lv_aload_n hx hb dX8_stepOnce_53 rfl (lv_at hl 1 rfl) ?_
          refine lv_iload_n hx hb dX8_stepOnce_54 rfl (lv_at hl 3 rfl) ?_
          refine lv_iload_n hx hb dX8_stepOnce_55 rfl (lv_at hl 0 rfl) ?_
          refine va_callv (va_runV (As := [.int (nI i), .int r44]) (rest := []) ⟨hx, hb, hml, hown, hts⟩ (metX8_go l G tys htI _ (F := (updF (updF F 19 (mSt (F 18) (z 11) (z 12) nW (F 19) (F 20) i).1.1) 20 (mSt (F 18) (z 11) (z 12) nW (F 19) (F 20) i).1.2)) hm hA19 hA20 (nI i) r44 (uK_of (n := 20) (by omega) (by decide)) (by rw [nI_clamp (show i < 2 ^ 31 by omega)]; exact hok i c19) (fun q9 => by rw [h44]; exact mGoal_ok (hok i c19) (by rw [← h44]; exact q9))) (cwV 2 hts gX8_stepOnce_X8_go rfl rfl rfl (by decide +kernel) ⟨Nat.le_of_ble_eq_true rfl, Nat.le_of_ble_eq_true rfl⟩) ⟨pcM_b, va_recv hK hP (ci := 9) (q0 := 12) rfl hm, pcM_u hP hK hD hS hA⟩ rfl rfl hl.1 rfl (lv_room (Nat.le_of_ble_eq_true rfl)) dX8_stepOnce_56 ⟨Nat.le_of_ble_eq_true rfl, Nat.le_of_ble_eq_true rfl⟩) hS (fun q _ h => h) (fun q h => h) (fun u t H locs ht hvm hu hB hsz hk1 hS => ?_)
          rw [ht] at hB
          obtain ⟨hP, hD⟩ := hB
          have hP : va_P G vwCl ((((ws.set 19 (ad 19, .inl (cI, 48, .inl ((mSt (F 18) (z 11) (z 12) nW (F 19) (F 20) i).1.1)))).set 20 (ad 20, .inl (cI, 20, .inl ((mSt (F 18) (z 11) (z 12) nW (F 19) (F 20) i).1.2)))).set 19 (ad 19, .inl (cI, 48, .inl ((mGo (mSt (F 18) (z 11) (z 12) nW (F 19) (F 20) i).1.1 (mSt (F 18) (z 11) (z 12) nW (F 19) (F 20) i).1.2 (nI i) r44).1)))).set 20 (ad 20, .inl (cI, 20, .inl ((mGo (mSt (F 18) (z 11) (z 12) nW (F 19) (F 20) i).1.1 (mSt (F 18) (z 11) (z 12) nW (F 19) (F 20) i).1.2 (nI i) r44).2)))) H := hP
          have hD : va_D A ((((ws.set 19 (ad 19, .inl (cI, 48, .inl ((mSt (F 18) (z 11) (z 12) nW (F 19) (F 20) i).1.1)))).set 20 (ad 20, .inl (cI, 20, .inl ((mSt (F 18) (z 11) (z 12) nW (F 19) (F 20) i).1.2)))).set 19 (ad 19, .inl (cI, 48, .inl ((mGo (mSt (F 18) (z 11) (z 12) nW (F 19) (F 20) i).1.1 (mSt (F 18) (z 11) (z 12) nW (F 19) (F 20) i).1.2 (nI i) r44).1)))).set 20 (ad 20, .inl (cI, 20, .inl ((mGo (mSt (F 18) (z 11) (z 12) nW (F 19) (F 20) i).1.1 (mSt (F 18) (z 11) (z 12) nW (F 19) (F 20) i).1.2 (nI i) r44).2)))) := hD
          refine lv_iinc (v := ((mSt (F 18) (z 11) (z 12) nW (F 19) (F 20) i).2) + 1) (lv' := [(1, .int (((mSt (F 18) (z 11) (z 12) nW (F 19) (F 20) i).2) + 1)), (3, .int r44), (0, .ref am), (2, .int (nI i))]) hx hb dX8_stepOnce_59 hl (k := 2) rfl (rfl) (by decide) rfl (fun ls hl => ?_)
          refine lv_iinc (v := nI (i + 1)) (lv' := [(2, .int (nI (i + 1))), (1, .int (((mSt (F 18) (z 11) (z 12) nW (F 19) (F 20) i).2) + 1)), (3, .int r44), (0, .ref am)]) hx hb dX8_stepOnce_62 hl (k := 3) rfl (nI_1 i) (by decide) rfl (fun ls hl => ?_)
          refine lv_goto (tgt := 4) hx hb dX8_stepOnce_65 (by decide) ?_
          have ea1 : ((mSt (F 18) (z 11) (z 12) nW (F 19) (F 20) i).2) + 1 = (mSt (F 18) (z 11) (z 12) nW (F 19) (F 20) (i + 1)).2 := by rw [mSt_goes c19 (by rw [← h24]; exact c27) (by rw [← h44]; exact c50)]
          rw [ea1] at hl
          have ew : (((ws.set 19 (ad 19, .inl (cI, 48, .inl ((mSt (F 18) (z 11) (z 12) nW (F 19) (F 20) i).1.1)))).set 20 (ad 20, .inl (cI, 20, .inl ((mSt (F 18) (z 11) (z 12) nW (F 19) (F 20) i).1.2)))).set 19 (ad 19, .inl (cI, 48, .inl ((mGo (mSt (F 18) (z 11) (z 12) nW (F 19) (F 20) i).1.1 (mSt (F 18) (z 11) (z 12) nW (F 19) (F 20) i).1.2 (nI i) r44).1)))).set 20 (ad 20, .inl (cI, 20, .inl ((mGo (mSt (F 18) (z 11) (z 12) nW (F 19) (F 20) i).1.1 (mSt (F 18) (z 11) (z 12) nW (F 19) (F 20) i).1.2 (nI i) r44).2))) = (ws.set 19 (ad 19, .inl (cI, 48, .inl ((mSt (F 18) (z 11) (z 12) nW (F 19) (F 20) (i + 1)).1.1)))).set 20 (ad 20, .inl (cI, 20, .inl ((mSt (F 18) (z 11) (z 12) nW (F 19) (F 20) (i + 1)).1.2))) := by rw [mSt_goes c19 (by rw [← h24]; exact c27) (by rw [← h44]; exact c50), ← h44]; exact set_abab (by decide)
          have hP : va_P G vwCl ((((ws.set 19 (ad 19, .inl (cI, 48, .inl ((mSt (F 18) (z 11) (z 12) nW (F 19) (F 20) i).1.1)))).set 20 (ad 20, .inl (cI, 20, .inl ((mSt (F 18) (z 11) (z 12) nW (F 19) (F 20) i).1.2)))).set 19 (ad 19, .inl (cI, 48, .inl ((mGo (mSt (F 18) (z 11) (z 12) nW (F 19) (F 20) i).1.1 (mSt (F 18) (z 11) (z 12) nW (F 19) (F 20) i).1.2 (nI i) r44).1)))).set 20 (ad 20, .inl (cI, 20, .inl ((mGo (mSt (F 18) (z 11) (z 12) nW (F 19) (F 20) i).1.1 (mSt (F 18) (z 11) (z 12) nW (F 19) (F 20) i).1.2 (nI i) r44).2)))) H := hP
          have hD : va_D A ((((ws.set 19 (ad 19, .inl (cI, 48, .inl ((mSt (F 18) (z 11) (z 12) nW (F 19) (F 20) i).1.1)))).set 20 (ad 20, .inl (cI, 20, .inl ((mSt (F 18) (z 11) (z 12) nW (F 19) (F 20) i).1.2)))).set 19 (ad 19, .inl (cI, 48, .inl ((mGo (mSt (F 18) (z 11) (z 12) nW (F 19) (F 20) i).1.1 (mSt (F 18) (z 11) (z 12) nW (F 19) (F 20) i).1.2 (nI i) r44).1)))).set 20 (ad 20, .inl (cI, 20, .inl ((mGo (mSt (F 18) (z 11) (z 12) nW (F 19) (F 20) i).1.1 (mSt (F 18) (z 11) (z 12) nW (F 19) (F 20) i).1.2 (nI i) r44).2)))) := hD
          rw [ew] at hP hD
          exact ihi H _ ls hlti (trivial) hP hD hS (lv_sub hl [3, 1, 0] rfl)
      · refine lv_aload_n hx hb dX8_stepOnce_30 rfl (lv_at hl 0 rfl) ?_
        refine lv_iload_n hx hb dX8_stepOnce_31 rfl (lv_at hl 2 rfl) ?_
        refine lv_iconst (v := -1) hx hb dX8_stepOnce_32 (by decide) ?_
        refine va_callv (va_runV (As := [.int (nI i), .int (-1 : Int32)]) (rest := []) ⟨hx, hb, hml, hown, hts⟩ (metX8_go l G tys htI _ (F := (updF (updF F 19 (mSt (F 18) (z 11) (z 12) nW (F 19) (F 20) i).1.1) 20 (mSt (F 18) (z 11) (z 12) nW (F 19) (F 20) i).1.2)) hm hA19 hA20 (nI i) (-1 : Int32) (uK_of (n := 20) (by omega) (by decide)) (by rw [nI_clamp (show i < 2 ^ 31 by omega)]; exact hok i c19) (fun q9 => absurd rfl q9)) (cwV 2 hts gX8_stepOnce_X8_go rfl rfl rfl (by decide +kernel) ⟨Nat.le_of_ble_eq_true rfl, Nat.le_of_ble_eq_true rfl⟩) ⟨pcM_b, va_recv hK hP (ci := 9) (q0 := 12) rfl hm, pcM_u hP hK hD hS hA⟩ rfl rfl hl.1 rfl (lv_room (Nat.le_of_ble_eq_true rfl)) dX8_stepOnce_33 ⟨Nat.le_of_ble_eq_true rfl, Nat.le_of_ble_eq_true rfl⟩) hS (fun q _ h => h) (fun q h => h) (fun u t H locs ht hvm hu hB hsz hk1 hS => ?_)
        rw [ht] at hB
        obtain ⟨hP, hD⟩ := hB
        have hP : va_P G vwCl ((((ws.set 19 (ad 19, .inl (cI, 48, .inl ((mSt (F 18) (z 11) (z 12) nW (F 19) (F 20) i).1.1)))).set 20 (ad 20, .inl (cI, 20, .inl ((mSt (F 18) (z 11) (z 12) nW (F 19) (F 20) i).1.2)))).set 19 (ad 19, .inl (cI, 48, .inl ((mGo (mSt (F 18) (z 11) (z 12) nW (F 19) (F 20) i).1.1 (mSt (F 18) (z 11) (z 12) nW (F 19) (F 20) i).1.2 (nI i) (-1 : Int32)).1)))).set 20 (ad 20, .inl (cI, 20, .inl ((mGo (mSt (F 18) (z 11) (z 12) nW (F 19) (F 20) i).1.1 (mSt (F 18) (z 11) (z 12) nW (F 19) (F 20) i).1.2 (nI i) (-1 : Int32)).2)))) H := hP
        have hD : va_D A ((((ws.set 19 (ad 19, .inl (cI, 48, .inl ((mSt (F 18) (z 11) (z 12) nW (F 19) (F 20) i).1.1)))).set 20 (ad 20, .inl (cI, 20, .inl ((mSt (F 18) (z 11) (z 12) nW (F 19) (F 20) i).1.2)))).set 19 (ad 19, .inl (cI, 48, .inl ((mGo (mSt (F 18) (z 11) (z 12) nW (F 19) (F 20) i).1.1 (mSt (F 18) (z 11) (z 12) nW (F 19) (F 20) i).1.2 (nI i) (-1 : Int32)).1)))).set 20 (ad 20, .inl (cI, 20, .inl ((mGo (mSt (F 18) (z 11) (z 12) nW (F 19) (F 20) i).1.1 (mSt (F 18) (z 11) (z 12) nW (F 19) (F 20) i).1.2 (nI i) (-1 : Int32)).2)))) := hD
        refine lv_iinc (v := ((mSt (F 18) (z 11) (z 12) nW (F 19) (F 20) i).2) + 1) (lv' := [(1, .int (((mSt (F 18) (z 11) (z 12) nW (F 19) (F 20) i).2) + 1)), (0, .ref am), (2, .int (nI i))]) hx hb dX8_stepOnce_36 hl (k := 1) rfl (rfl) (by decide) rfl (fun ls hl => ?_)
        refine lv_goto (tgt := 62) hx hb dX8_stepOnce_39 (by decide) ?_
        refine lv_iinc (v := nI (i + 1)) (lv' := [(2, .int (nI (i + 1))), (1, .int (((mSt (F 18) (z 11) (z 12) nW (F 19) (F 20) i).2) + 1)), (0, .ref am)]) hx hb dX8_stepOnce_62 hl (k := 2) rfl (nI_1 i) (by decide) rfl (fun ls hl => ?_)
        refine lv_goto (tgt := 4) hx hb dX8_stepOnce_65 (by decide) ?_
        have ea1 : ((mSt (F 18) (z 11) (z 12) nW (F 19) (F 20) i).2) + 1 = (mSt (F 18) (z 11) (z 12) nW (F 19) (F 20) (i + 1)).2 := by rw [mSt_leaves c19 (by rw [← h24]; exact c27)]
        rw [ea1] at hl
        have ew : (((ws.set 19 (ad 19, .inl (cI, 48, .inl ((mSt (F 18) (z 11) (z 12) nW (F 19) (F 20) i).1.1)))).set 20 (ad 20, .inl (cI, 20, .inl ((mSt (F 18) (z 11) (z 12) nW (F 19) (F 20) i).1.2)))).set 19 (ad 19, .inl (cI, 48, .inl ((mGo (mSt (F 18) (z 11) (z 12) nW (F 19) (F 20) i).1.1 (mSt (F 18) (z 11) (z 12) nW (F 19) (F 20) i).1.2 (nI i) (-1 : Int32)).1)))).set 20 (ad 20, .inl (cI, 20, .inl ((mGo (mSt (F 18) (z 11) (z 12) nW (F 19) (F 20) i).1.1 (mSt (F 18) (z 11) (z 12) nW (F 19) (F 20) i).1.2 (nI i) (-1 : Int32)).2))) = (ws.set 19 (ad 19, .inl (cI, 48, .inl ((mSt (F 18) (z 11) (z 12) nW (F 19) (F 20) (i + 1)).1.1)))).set 20 (ad 20, .inl (cI, 20, .inl ((mSt (F 18) (z 11) (z 12) nW (F 19) (F 20) (i + 1)).1.2))) := by rw [mSt_leaves c19 (by rw [← h24]; exact c27)]; exact set_abab (by decide)
        have hP : va_P G vwCl ((((ws.set 19 (ad 19, .inl (cI, 48, .inl ((mSt (F 18) (z 11) (z 12) nW (F 19) (F 20) i).1.1)))).set 20 (ad 20, .inl (cI, 20, .inl ((mSt (F 18) (z 11) (z 12) nW (F 19) (F 20) i).1.2)))).set 19 (ad 19, .inl (cI, 48, .inl ((mGo (mSt (F 18) (z 11) (z 12) nW (F 19) (F 20) i).1.1 (mSt (F 18) (z 11) (z 12) nW (F 19) (F 20) i).1.2 (nI i) (-1 : Int32)).1)))).set 20 (ad 20, .inl (cI, 20, .inl ((mGo (mSt (F 18) (z 11) (z 12) nW (F 19) (F 20) i).1.1 (mSt (F 18) (z 11) (z 12) nW (F 19) (F 20) i).1.2 (nI i) (-1 : Int32)).2)))) H := hP
        have hD : va_D A ((((ws.set 19 (ad 19, .inl (cI, 48, .inl ((mSt (F 18) (z 11) (z 12) nW (F 19) (F 20) i).1.1)))).set 20 (ad 20, .inl (cI, 20, .inl ((mSt (F 18) (z 11) (z 12) nW (F 19) (F 20) i).1.2)))).set 19 (ad 19, .inl (cI, 48, .inl ((mGo (mSt (F 18) (z 11) (z 12) nW (F 19) (F 20) i).1.1 (mSt (F 18) (z 11) (z 12) nW (F 19) (F 20) i).1.2 (nI i) (-1 : Int32)).1)))).set 20 (ad 20, .inl (cI, 20, .inl ((mGo (mSt (F 18) (z 11) (z 12) nW (F 19) (F 20) i).1.1 (mSt (F 18) (z 11) (z 12) nW (F 19) (F 20) i).1.2 (nI i) (-1 : Int32)).2)))) := hD
        rw [ew] at hP hD
        exact ihi H _ ls hlti (trivial) hP hD hS (lv_sub hl [2, 1, 0] rfl)
