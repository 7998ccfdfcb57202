theorem mGb_eq {cel dep win : Nat → Int32} {dr w : Int32} {n : Nat} {x : Int32} {i : Nat} (h : i = 4) : mGb cel dep win dr w n x i = mGb cel dep win dr w n x 4 := by rw [h]
set_option maxHeartbeats 1000000 in
set_option maxRecDepth 100000 in
theorem metX8_goal (l : Launch) (G : va_G) (tys : List (ClassId × FieldType)) {cI : ClassId} (htI : tI tys cI) (ws : va_W) {am : Nat} {ad : Nat → Nat} {z : Nat → Int32} {wi dm : Int64} {F : Nat → Nat → Int32} (hm : ws[12]? = some (am, .inr (9, mF ad z wi dm))) (hA18 : ws[18]? = some (ad 18, .inl (cI, 48, .inl (F 18)))) (hA19 : ws[19]? = some (ad 19, .inl (cI, 48, .inl (F 19)))) (hA20 : ws[20]? = some (ad 20, .inl (cI, 20, .inl (F 20)))) {nW : Nat} (hnW : z 9 = nI nW) (hW20 : nW ≤ 20) (w : Int32) (hw : ¬ uK w 20) (hX : ¬ uK (F 20 w.toNatClampNeg) 48) : Met l yX8_goal wsX8_goal ({ frames := 2, cells := 0, slots := 0, locals := 45 }) (pcR G tys ws [.ref am, .int w]) (vp_Si (fun r => r = mGoal (F 20) (F 18) (F 19) (z 11) (z 12) w nW (F 20 w.toNatClampNeg))) 0 0 (fun _ => False) := by
  refine ofR (cc := cX8_goal) (maxL := 8) (ret := some .int) (by decide) rfl (Nat.le_of_ble_eq_true rfl) ?_
  intro p e s m below meth c ls hx hb hr hlocks hml hown hts hl hP hK
  have hown : s.vm.findClass RX8 = some m.cls := hown
  have hiX8 : ∀ w ∈ u_ws RX8 TX8 39, w ∈ wsX8_goal := fun _ h => List.mem_cons_of_mem _ (List.mem_append_right _ h)
  have hl : lv_has ls 8 [(0, .ref am), (1, .int w)] := hl
  refine lv_aload_n hx hb dX8_goal_0 rfl (lv_at hl 0 rfl) ?_
  refine va_get (D := G) (ci := 9) (v := .ref (ad 20)) (C := RX8) (T := TX8) (N := 39) hx hb hts hiX8 hown hK hP 12 hm rfl 10 (by decide) (hts (.fieldLink RX8 31 "VortexpinModel" "cellOf" "[I") (List.mem_of_getElem? (i := 1) rfl)) (fun _ h9 => h9) rfl dX8_goal_1 ?_
  refine lv_iload_n hx hb dX8_goal_4 rfl (lv_at hl 1 rfl) ?_
  refine va_iald hx hb hK hP 20 0 hA20 htI (vp_uK hw) dX8_goal_5 ?_
  refine lv_istore_n (lv' := [(2, .int ((F 20) w.toNatClampNeg)), (0, .ref am), (1, .int w)]) hx hb dX8_goal_6 rfl hl (by decide) rfl (fun ls hl => ?_)
  refine lv_aload_n hx hb dX8_goal_7 rfl (lv_at hl 1 rfl) ?_
  refine lv_iload_n hx hb dX8_goal_8 rfl (lv_at hl 2 rfl) ?_
  refine lv_iload_n hx hb dX8_goal_9 rfl (lv_at hl 0 rfl) ?_
  refine vp_callSi (va_Run.run (va_runV (As := [.int w, .int ((F 20) w.toNatClampNeg)]) (rest := []) ⟨hx, hb, hml, hown, hts⟩ (metX8_energyAt l G tys htI _ hm hA18 hA20 hnW hW20 w ((F 20) w.toNatClampNeg) (hX)) (cwV 2 hts gX8_goal_X8_energyAt rfl rfl rfl (by decide +kernel) ⟨Nat.le_of_ble_eq_true rfl, Nat.le_of_ble_eq_true rfl⟩) ⟨pcR_b, va_recv hK hP (ci := 9) (q0 := 12) rfl hm, pcR_u hP hK⟩ rfl rfl hl.1 rfl (lv_room (Nat.le_of_ble_eq_true rfl)) dX8_goal_10 ⟨Nat.le_of_ble_eq_true rfl, Nat.le_of_ble_eq_true rfl⟩)) (fun r10 h10 => ?_)
  refine lv_istore_n (lv' := [(3, .int r10), (2, .int ((F 20) w.toNatClampNeg)), (0, .ref am), (1, .int w)]) hx hb dX8_goal_13 rfl hl (by decide) rfl (fun ls hl => ?_)
  refine lv_iconst (v := -1) hx hb dX8_goal_14 (by decide) ?_
  refine lv_istore (lv' := [(4, .int (-1 : Int32)), (3, .int r10), (2, .int ((F 20) w.toNatClampNeg)), (0, .ref am), (1, .int w)]) hx hb dX8_goal_15 hl (by decide) rfl (fun ls hl => ?_)
  refine lv_iconst (v := 0) hx hb dX8_goal_17 (by decide) ?_
  refine lv_istore (lv' := [(5, .int (0 : Int32)), (4, .int (-1 : Int32)), (3, .int r10), (2, .int ((F 20) w.toNatClampNeg)), (0, .ref am), (1, .int w)]) hx hb dX8_goal_18 hl (by decide) rfl (fun ls hl => ?_)
  have hl : lv_has ls 8 [(5, .int (0 : Int32)), (4, .int (mGb (F 20) (F 18) (F 19) (z 11) w nW (F 20 w.toNatClampNeg) 0)), (3, .int r10), (2, .int ((F 20) w.toNatClampNeg)), (0, .ref am), (1, .int w)] := hl
  refine loopR 4 20 8 (fun i => [(0, .ref am), (1, .int w), (2, .int (F 20 w.toNatClampNeg)), (3, .int r10), (4, .int (mGb (F 20) (F 18) (F 19) (z 11) w nW (F 20 w.toNatClampNeg) i)), (5, .int (nI i))]) (fun i => True) (fun i hNi hKi ihi ls hl => ?_) (i0 := 0) (by omega) (trivial) (lv_sub hl [4, 5, 3, 2, 1, 0] rfl)
  have hl : lv_has ls 8 [(0, .ref am), (1, .int w), (2, .int (F 20 w.toNatClampNeg)), (3, .int r10), (4, .int (mGb (F 20) (F 18) (F 19) (z 11) w nW (F 20 w.toNatClampNeg) i)), (5, .int (nI i))] := hl
  refine lv_iload hx hb dX8_goal_20 (lv_at hl 5 rfl) ?_
  refine lv_iconst (v := 4) hx hb dX8_goal_22 (by decide) ?_
  refine lv_icmp_ge (tgt := 101) hx hb dX8_goal_23 (by decide) (fun c23 => ?_) (fun c23 => ?_)
  · have heqi : i = 4 := Nat.le_antisymm hNi ((nI_leI (by omega) (by omega)).mp c23)
    refine lv_iload hx hb dX8_goal_101 (lv_at hl 4 rfl) ?_
    refine lv_iconst (v := -1) hx hb dX8_goal_103 (by decide) ?_
    refine lv_icmp_eq (tgt := 121) hx hb dX8_goal_104 (by decide) (fun c104 => ?_) (fun c104 => ?_)
    · refine lv_aload_n hx hb dX8_goal_121 rfl (lv_at hl 0 rfl) ?_
      refine va_get (D := G) (ci := 9) (v := .int (z 11)) (C := RX8) (T := TX8) (N := 39) hx hb hts hiX8 hown hK hP 12 hm rfl 11 (by decide) (hts (.fieldLink RX8 109 "VortexpinModel" "drive" "I") (List.mem_of_getElem? (i := 3) rfl)) (fun _ h9 => h9) rfl dX8_goal_122 ?_
      refine lv_if_le (tgt := 136) hx hb dX8_goal_125 (by decide) (fun c125 => ?_) (fun c125 => ?_)
      · refine lv_aload_n hx hb dX8_goal_136 rfl (lv_at hl 0 rfl) ?_
        refine va_get (D := G) (ci := 9) (v := .int (z 11)) (C := RX8) (T := TX8) (N := 39) hx hb hts hiX8 hown hK hP 12 hm rfl 11 (by decide) (hts (.fieldLink RX8 109 "VortexpinModel" "drive" "I") (List.mem_of_getElem? (i := 3) rfl)) (fun _ h9 => h9) rfl dX8_goal_137 ?_
        refine lv_if_ge (tgt := 151) hx hb dX8_goal_140 (by decide) (fun c140 => ?_) (fun c140 => ?_)
        · refine lv_iconst (v := -1) hx hb dX8_goal_151 (by decide) ?_
          refine lv_istore (lv' := [(5, .int (-1 : Int32)), (0, .ref am), (1, .int w), (2, .int (F 20 w.toNatClampNeg)), (3, .int r10), (4, .int (mGb (F 20) (F 18) (F 19) (z 11) w nW (F 20 w.toNatClampNeg) i))]) hx hb dX8_goal_152 hl (by decide) rfl (fun ls hl => ?_)
          refine lv_iload hx hb dX8_goal_154 (lv_at hl 0 rfl) ?_
          refine lv_iconst (v := -1) hx hb dX8_goal_156 (by decide) ?_
          refine lv_icmp_eq (tgt := 191) hx hb dX8_goal_157 (by decide) (fun c157 => ?_) (fun c157 => absurd (by decide) c157)
          refine lv_iconst (v := 0) hx hb dX8_goal_191 (by decide) ?_
          refine lv_istore (lv' := [(6, .int (0 : Int32)), (5, .int (-1 : Int32)), (0, .ref am), (1, .int w), (2, .int (F 20 w.toNatClampNeg)), (3, .int r10), (4, .int (mGb (F 20) (F 18) (F 19) (z 11) w nW (F 20 w.toNatClampNeg) i))]) hx hb dX8_goal_192 hl (by decide) rfl (fun ls hl => ?_)
          refine lv_iload hx hb dX8_goal_194 (lv_at hl 0 rfl) ?_
          refine lv_if_eq (tgt := 204) hx hb dX8_goal_196 (by decide) (fun c196 => ?_) (fun c196 => absurd (by decide) c196)
          refine lv_iconst (v := -1) hx hb dX8_goal_204 (by decide) ?_
          exact W.iret (v := (-1 : Int32)) hx hb hr (fun t ht hW => ⟨(-1 : Int32), rfl, (by subst heqi; subst h10; simp only [mGoal, mCr, mCt, eq_self, c23, (eq_true c104), c125, c140, (eq_true c157), (eq_true c196), ↓reduceIte, not_true_eq_false, not_false_eq_true]), ht⟩) (fun _ h => absurd h List.not_mem_nil) dX8_goal_205
        · refine lv_iload_n hx hb dX8_goal_143 rfl (lv_at hl 2 rfl) ?_
          refine lv_iconst (v := 3) hx hb dX8_goal_144 (by decide) ?_
          refine vp_callSi (va_Run.run (va_runS (As := [.int (F 20 w.toNatClampNeg), .int (3 : Int32)]) (rest := []) ⟨hx, hb, hml, hown, hts⟩ (metX8_beside l (F 20 w.toNatClampNeg) (3 : Int32)) (va_cwS 2 hts gX8_goal_X8_beside rfl rfl rfl (by decide +kernel) ⟨Nat.le_of_ble_eq_true rfl, Nat.le_of_ble_eq_true rfl⟩) ⟨pc0_b, pc0_u⟩ rfl rfl hl.1 rfl (lv_room (Nat.le_of_ble_eq_true rfl)) dX8_goal_145 ⟨Nat.le_of_ble_eq_true rfl, Nat.le_of_ble_eq_true rfl⟩)) (fun r145 h145 => ?_)
          refine lv_goto (tgt := 152) hx hb dX8_goal_148 (by decide) ?_
          refine lv_istore (lv' := [(5, .int r145), (0, .ref am), (1, .int w), (2, .int (F 20 w.toNatClampNeg)), (3, .int r10), (4, .int (mGb (F 20) (F 18) (F 19) (z 11) w nW (F 20 w.toNatClampNeg) i))]) hx hb dX8_goal_152 hl (by decide) rfl (fun ls hl => ?_)
          refine lv_iload hx hb dX8_goal_154 (lv_at hl 0 rfl) ?_
          refine lv_iconst (v := -1) hx hb dX8_goal_156 (by decide) ?_
          refine lv_icmp_eq (tgt := 191) hx hb dX8_goal_157 (by decide) (fun c157 => ?_) (fun c157 => ?_)
          · refine lv_iconst (v := 0) hx hb dX8_goal_191 (by decide) ?_
            refine lv_istore (lv' := [(6, .int (0 : Int32)), (5, .int r145), (0, .ref am), (1, .int w), (2, .int (F 20 w.toNatClampNeg)), (3, .int r10), (4, .int (mGb (F 20) (F 18) (F 19) (z 11) w nW (F 20 w.toNatClampNeg) i))]) hx hb dX8_goal_192 hl (by decide) rfl (fun ls hl => ?_)
            refine lv_iload hx hb dX8_goal_194 (lv_at hl 0 rfl) ?_
            refine lv_if_eq (tgt := 204) hx hb dX8_goal_196 (by decide) (fun c196 => ?_) (fun c196 => absurd (by decide) c196)
            refine lv_iconst (v := -1) hx hb dX8_goal_204 (by decide) ?_
            exact W.iret (v := (-1 : Int32)) hx hb hr (fun t ht hW => ⟨(-1 : Int32), rfl, (by subst heqi; subst h10; subst h145; simp only [mGoal, mCr, mCt, eq_self, c23, (eq_true c104), c125, c140, (eq_true c157), (eq_true c196), ↓reduceIte, not_true_eq_false, not_false_eq_true]), ht⟩) (fun _ h => absurd h List.not_mem_nil) dX8_goal_205
          · refine lv_aload_n hx hb dX8_goal_160 rfl (lv_at hl 1 rfl) ?_
            refine va_get (D := G) (ci := 9) (v := .ref (ad 19)) (C := RX8) (T := TX8) (N := 39) hx hb hts hiX8 hown hK hP 12 hm rfl 8 (by decide) (hts (.fieldLink RX8 28 "VortexpinModel" "whirlIn" "[I") (List.mem_of_getElem? (i := 2) rfl)) (fun _ h9 => h9) rfl dX8_goal_161 ?_
            refine lv_iload hx hb dX8_goal_164 (lv_at hl 0 rfl) ?_
            refine va_iald hx hb hK hP 19 0 hA19 htI (vp_uK (by rw [h145]; exact mBes_ok hX (by rw [← h145]; exact c157))) dX8_goal_166 ?_
            refine lv_iconst (v := -1) hx hb dX8_goal_167 (by decide) ?_
            refine lv_icmp_ne (tgt := 191) hx hb dX8_goal_168 (by decide) (fun c168 => ?_) (fun c168 => ?_)
            · refine lv_iconst (v := 0) hx hb dX8_goal_191 (by decide) ?_
              refine lv_istore (lv' := [(6, .int (0 : Int32)), (5, .int r145), (0, .ref am), (1, .int w), (2, .int (F 20 w.toNatClampNeg)), (3, .int r10), (4, .int (mGb (F 20) (F 18) (F 19) (z 11) w nW (F 20 w.toNatClampNeg) i))]) hx hb dX8_goal_192 hl (by decide) rfl (fun ls hl => ?_)
              refine lv_iload hx hb dX8_goal_194 (lv_at hl 0 rfl) ?_
              refine lv_if_eq (tgt := 204) hx hb dX8_goal_196 (by decide) (fun c196 => ?_) (fun c196 => absurd (by decide) c196)
              refine lv_iconst (v := -1) hx hb dX8_goal_204 (by decide) ?_
              exact W.iret (v := (-1 : Int32)) hx hb hr (fun t ht hW => ⟨(-1 : Int32), rfl, (by subst heqi; subst h10; subst h145; simp only [mGoal, mCr, mCt, eq_self, c23, (eq_true c104), c125, c140, c157, c168, (eq_true c196), ↓reduceIte, not_true_eq_false, not_false_eq_true]), ht⟩) (fun _ h => absurd h List.not_mem_nil) dX8_goal_205
            · refine lv_aload_n hx hb dX8_goal_171 rfl (lv_at hl 1 rfl) ?_
              refine lv_iload_n hx hb dX8_goal_172 rfl (lv_at hl 2 rfl) ?_
              refine lv_iload hx hb dX8_goal_173 (lv_at hl 0 rfl) ?_
              refine vp_callSi (va_Run.run (va_runV (As := [.int w, .int r145]) (rest := []) ⟨hx, hb, hml, hown, hts⟩ (metX8_energyAt l G tys htI _ hm hA18 hA20 hnW hW20 w r145 (by rw [h145]; exact mBes_ok hX (by rw [← h145]; exact c157))) (cwV 2 hts gX8_goal_X8_energyAt rfl rfl rfl (by decide +kernel) ⟨Nat.le_of_ble_eq_true rfl, Nat.le_of_ble_eq_true rfl⟩) ⟨pcR_b, va_recv hK hP (ci := 9) (q0 := 12) rfl hm, pcR_u hP hK⟩ rfl rfl hl.1 rfl (lv_room (Nat.le_of_ble_eq_true rfl)) dX8_goal_175 ⟨Nat.le_of_ble_eq_true rfl, Nat.le_of_ble_eq_true rfl⟩)) (fun r175 h175 => ?_)
              refine lv_iload_n hx hb dX8_goal_178 rfl (lv_at hl 4 rfl) ?_
              refine lv_isub hx hb dX8_goal_179 ?_
              refine lv_aload_n hx hb dX8_goal_180 rfl (lv_at hl 1 rfl) ?_
              refine va_get (D := G) (ci := 9) (v := .int (z 12)) (C := RX8) (T := TX8) (N := 39) hx hb hts hiX8 hown hK hP 12 hm rfl 12 (by decide) (hts (.fieldLink RX8 112 "VortexpinModel" "heat" "I") (List.mem_of_getElem? (i := 4) rfl)) (fun _ h9 => h9) rfl dX8_goal_181 ?_
              refine lv_icmp_gt (tgt := 191) hx hb dX8_goal_184 (by decide) (fun c184 => ?_) (fun c184 => ?_)
              · refine lv_iconst (v := 0) hx hb dX8_goal_191 (by decide) ?_
                refine lv_istore (lv' := [(6, .int (0 : Int32)), (5, .int r145), (0, .ref am), (1, .int w), (2, .int (F 20 w.toNatClampNeg)), (3, .int r10), (4, .int (mGb (F 20) (F 18) (F 19) (z 11) w nW (F 20 w.toNatClampNeg) i))]) hx hb dX8_goal_192 hl (by decide) rfl (fun ls hl => ?_)
                refine lv_iload hx hb dX8_goal_194 (lv_at hl 0 rfl) ?_
                refine lv_if_eq (tgt := 204) hx hb dX8_goal_196 (by decide) (fun c196 => ?_) (fun c196 => absurd (by decide) c196)
                refine lv_iconst (v := -1) hx hb dX8_goal_204 (by decide) ?_
                exact W.iret (v := (-1 : Int32)) hx hb hr (fun t ht hW => ⟨(-1 : Int32), rfl, (by subst heqi; subst h10; subst h145; subst h175; simp only [mGoal, mCr, mCt, eq_self, c23, (eq_true c104), c125, c140, c157, (eq_true c168), c184, (eq_true c196), ↓reduceIte, not_true_eq_false, not_false_eq_true]), ht⟩) (fun _ h => absurd h List.not_mem_nil) dX8_goal_205
              · refine lv_iconst (v := 1) hx hb dX8_goal_187 (by decide) ?_
                refine lv_goto (tgt := 192) hx hb dX8_goal_188 (by decide) ?_
                refine lv_istore (lv' := [(6, .int (1 : Int32)), (5, .int r145), (0, .ref am), (1, .int w), (2, .int (F 20 w.toNatClampNeg)), (3, .int r10), (4, .int (mGb (F 20) (F 18) (F 19) (z 11) w nW (F 20 w.toNatClampNeg) i))]) hx hb dX8_goal_192 hl (by decide) rfl (fun ls hl => ?_)
                refine lv_iload hx hb dX8_goal_194 (lv_at hl 0 rfl) ?_
                refine lv_if_eq (tgt := 204) hx hb dX8_goal_196 (by decide) (fun c196 => absurd c196 (by decide)) (fun c196 => ?_)
                refine lv_iload hx hb dX8_goal_199 (lv_at hl 1 rfl) ?_
                refine lv_goto (tgt := 205) hx hb dX8_goal_201 (by decide) ?_
                exact W.iret (v := r145) hx hb hr (fun t ht hW => ⟨r145, rfl, (by subst heqi; subst h10; subst h145; subst h175; simp only [mGoal, mCr, mCt, eq_self, c23, (eq_true c104), c125, c140, c157, (eq_true c168), c184, c196, ↓reduceIte, not_true_eq_false, not_false_eq_true]), ht⟩) (fun _ h => absurd h List.not_mem_nil) dX8_goal_205
      · refine lv_iload_n hx hb dX8_goal_128 rfl (lv_at hl 2 rfl) ?_
        refine lv_iconst (v := 1) hx hb dX8_goal_129 (by decide) ?_
        refine vp_callSi (va_Run.run (va_runS (As := [.int (F 20 w.toNatClampNeg), .int (1 : Int32)]) (rest := []) ⟨hx, hb, hml, hown, hts⟩ (metX8_beside l (F 20 w.toNatClampNeg) (1 : Int32)) (va_cwS 2 hts gX8_goal_X8_beside rfl rfl rfl (by decide +kernel) ⟨Nat.le_of_ble_eq_true rfl, Nat.le_of_ble_eq_true rfl⟩) ⟨pc0_b, pc0_u⟩ rfl rfl hl.1 rfl (lv_room (Nat.le_of_ble_eq_true rfl)) dX8_goal_130 ⟨Nat.le_of_ble_eq_true rfl, Nat.le_of_ble_eq_true rfl⟩)) (fun r130 h130 => ?_)
        refine lv_goto (tgt := 152) hx hb dX8_goal_133 (by decide) ?_
        refine lv_istore (lv' := [(5, .int r130), (0, .ref am), (1, .int w), (2, .int (F 20 w.toNatClampNeg)), (3, .int r10), (4, .int (mGb (F 20) (F 18) (F 19) (z 11) w nW (F 20 w.toNatClampNeg) i))]) hx hb dX8_goal_152 hl (by decide) rfl (fun ls hl => ?_)
        refine lv_iload hx hb dX8_goal_154 (lv_at hl 0 rfl) ?_
        refine lv_iconst (v := -1) hx hb dX8_goal_156 (by decide) ?_
        refine lv_icmp_eq (tgt := 191) hx hb dX8_goal_157 (by decide) (fun c157 => ?_) (fun c157 => ?_)
        · refine lv_iconst (v := 0) hx hb dX8_goal_191 (by decide) ?_
          refine lv_istore (lv' := [(6, .int (0 : Int32)), (5, .int r130), (0, .ref am), (1, .int w), (2, .int (F 20 w.toNatClampNeg)), (3, .int r10), (4, .int (mGb (F 20) (F 18) (F 19) (z 11) w nW (F 20 w.toNatClampNeg) i))]) hx hb dX8_goal_192 hl (by decide) rfl (fun ls hl => ?_)
          refine lv_iload hx hb dX8_goal_194 (lv_at hl 0 rfl) ?_
          refine lv_if_eq (tgt := 204) hx hb dX8_goal_196 (by decide) (fun c196 => ?_) (fun c196 => absurd (by decide) c196)
          refine lv_iconst (v := -1) hx hb dX8_goal_204 (by decide) ?_
          exact W.iret (v := (-1 : Int32)) hx hb hr (fun t ht hW => ⟨(-1 : Int32), rfl, (by subst heqi; subst h10; subst h130; simp only [mGoal, mCr, mCt, eq_self, c23, (eq_true c104), c125, (eq_true c157), (eq_true c196), ↓reduceIte, not_true_eq_false, not_false_eq_true]), ht⟩) (fun _ h => absurd h List.not_mem_nil) dX8_goal_205
        · refine lv_aload_n hx hb dX8_goal_160 rfl (lv_at hl 1 rfl) ?_
          refine va_get (D := G) (ci := 9) (v := .ref (ad 19)) (C := RX8) (T := TX8) (N := 39) hx hb hts hiX8 hown hK hP 12 hm rfl 8 (by decide) (hts (.fieldLink RX8 28 "VortexpinModel" "whirlIn" "[I") (List.mem_of_getElem? (i := 2) rfl)) (fun _ h9 => h9) rfl dX8_goal_161 ?_
          refine lv_iload hx hb dX8_goal_164 (lv_at hl 0 rfl) ?_
          refine va_iald hx hb hK hP 19 0 hA19 htI (vp_uK (by rw [h130]; exact mBes_ok hX (by rw [← h130]; exact c157))) dX8_goal_166 ?_
          refine lv_iconst (v := -1) hx hb dX8_goal_167 (by decide) ?_
          refine lv_icmp_ne (tgt := 191) hx hb dX8_goal_168 (by decide) (fun c168 => ?_) (fun c168 => ?_)
          · refine lv_iconst (v := 0) hx hb dX8_goal_191 (by decide) ?_
            refine lv_istore (lv' := [(6, .int (0 : Int32)), (5, .int r130), (0, .ref am), (1, .int w), (2, .int (F 20 w.toNatClampNeg)), (3, .int r10), (4, .int (mGb (F 20) (F 18) (F 19) (z 11) w nW (F 20 w.toNatClampNeg) i))]) hx hb dX8_goal_192 hl (by decide) rfl (fun ls hl => ?_)
            refine lv_iload hx hb dX8_goal_194 (lv_at hl 0 rfl) ?_
            refine lv_if_eq (tgt := 204) hx hb dX8_goal_196 (by decide) (fun c196 => ?_) (fun c196 => absurd (by decide) c196)
            refine lv_iconst (v := -1) hx hb dX8_goal_204 (by decide) ?_
            exact W.iret (v := (-1 : Int32)) hx hb hr (fun t ht hW => ⟨(-1 : Int32), rfl, (by subst heqi; subst h10; subst h130; simp only [mGoal, mCr, mCt, eq_self, c23, (eq_true c104), c125, c157, c168, (eq_true c196), ↓reduceIte, not_true_eq_false, not_false_eq_true]), ht⟩) (fun _ h => absurd h List.not_mem_nil) dX8_goal_205
          · refine lv_aload_n hx hb dX8_goal_171 rfl (lv_at hl 1 rfl) ?_
            refine lv_iload_n hx hb dX8_goal_172 rfl (lv_at hl 2 rfl) ?_
            refine lv_iload hx hb dX8_goal_173 (lv_at hl 0 rfl) ?_
            refine vp_callSi (va_Run.run (va_runV (As := [.int w, .int r130]) (rest := []) ⟨hx, hb, hml, hown, hts⟩ (metX8_energyAt l G tys htI _ hm hA18 hA20 hnW hW20 w r130 (by rw [h130]; exact mBes_ok hX (by rw [← h130]; exact c157))) (cwV 2 hts gX8_goal_X8_energyAt rfl rfl rfl (by decide +kernel) ⟨Nat.le_of_ble_eq_true rfl, Nat.le_of_ble_eq_true rfl⟩) ⟨pcR_b, va_recv hK hP (ci := 9) (q0 := 12) rfl hm, pcR_u hP hK⟩ rfl rfl hl.1 rfl (lv_room (Nat.le_of_ble_eq_true rfl)) dX8_goal_175 ⟨Nat.le_of_ble_eq_true rfl, Nat.le_of_ble_eq_true rfl⟩)) (fun r175 h175 => ?_)
            refine lv_iload_n hx hb dX8_goal_178 rfl (lv_at hl 4 rfl) ?_
            refine lv_isub hx hb dX8_goal_179 ?_
            refine lv_aload_n hx hb dX8_goal_180 rfl (lv_at hl 1 rfl) ?_
            refine va_get (D := G) (ci := 9) (v := .int (z 12)) (C := RX8) (T := TX8) (N := 39) hx hb hts hiX8 hown hK hP 12 hm rfl 12 (by decide) (hts (.fieldLink RX8 112 "VortexpinModel" "heat" "I") (List.mem_of_getElem? (i := 4) rfl)) (fun _ h9 => h9) rfl dX8_goal_181 ?_
            refine lv_icmp_gt (tgt := 191) hx hb dX8_goal_184 (by decide) (fun c184 => ?_) (fun c184 => ?_)
            · refine lv_iconst (v := 0) hx hb dX8_goal_191 (by decide) ?_
              refine lv_istore (lv' := [(6, .int (0 : Int32)), (5, .int r130), (0, .ref am), (1, .int w), (2, .int (F 20 w.toNatClampNeg)), (3, .int r10), (4, .int (mGb (F 20) (F 18) (F 19) (z 11) w nW (F 20 w.toNatClampNeg) i))]) hx hb dX8_goal_192 hl (by decide) rfl (fun ls hl => ?_)
              refine lv_iload hx hb dX8_goal_194 (lv_at hl 0 rfl) ?_
              refine lv_if_eq (tgt := 204) hx hb dX8_goal_196 (by decide) (fun c196 => ?_) (fun c196 => absurd (by decide) c196)
              refine lv_iconst (v := -1) hx hb dX8_goal_204 (by decide) ?_
              exact W.iret (v := (-1 : Int32)) hx hb hr (fun t ht hW => ⟨(-1 : Int32), rfl, (by subst heqi; subst h10; subst h130; subst h175; simp only [mGoal, mCr, mCt, eq_self, c23, (eq_true c104), c125, c157, (eq_true c168), c184, (eq_true c196), ↓reduceIte, not_true_eq_false, not_false_eq_true]), ht⟩) (fun _ h => absurd h List.not_mem_nil) dX8_goal_205
            · refine lv_iconst (v := 1) hx hb dX8_goal_187 (by decide) ?_
              refine lv_goto (tgt := 192) hx hb dX8_goal_188 (by decide) ?_
              refine lv_istore (lv' := [(6, .int (1 : Int32)), (5, .int r130), (0, .ref am), (1, .int w), (2, .int (F 20 w.toNatClampNeg)), (3, .int r10), (4, .int (mGb (F 20) (F 18) (F 19) (z 11) w nW (F 20 w.toNatClampNeg) i))]) hx hb dX8_goal_192 hl (by decide) rfl (fun ls hl => ?_)
              refine lv_iload hx hb dX8_goal_194 (lv_at hl 0 rfl) ?_
              refine lv_if_eq (tgt := 204) hx hb dX8_goal_196 (by decide) (fun c196 => absurd c196 (by decide)) (fun c196 => ?_)
              refine lv_iload hx hb dX8_goal_199 (lv_at hl 1 rfl) ?_
              refine lv_goto (tgt := 205) hx hb dX8_goal_201 (by decide) ?_
              exact W.iret (v := r130) hx hb hr (fun t ht hW => ⟨r130, rfl, (by subst heqi; subst h10; subst h130; subst h175; simp only [mGoal, mCr, mCt, eq_self, c23, (eq_true c104), c125, c157, (eq_true c168), c184, c196, ↓reduceIte, not_true_eq_false, not_false_eq_true]), ht⟩) (fun _ h => absurd h List.not_mem_nil) dX8_goal_205
    · refine lv_aload_n hx hb dX8_goal_107 rfl (lv_at hl 0 rfl) ?_
      refine lv_iload_n hx hb dX8_goal_108 rfl (lv_at hl 1 rfl) ?_
      refine lv_iload hx hb dX8_goal_109 (lv_at hl 4 rfl) ?_
      refine vp_callSi (va_Run.run (va_runV (As := [.int w, .int (mGb (F 20) (F 18) (F 19) (z 11) w nW (F 20 w.toNatClampNeg) i)]) (rest := []) ⟨hx, hb, hml, hown, hts⟩ (metX8_energyAt l G tys htI _ hm hA18 hA20 hnW hW20 w (mGb (F 20) (F 18) (F 19) (z 11) w nW (F 20 w.toNatClampNeg) i) (mGb_ok hX i c104)) (cwV 2 hts gX8_goal_X8_energyAt rfl rfl rfl (by decide +kernel) ⟨Nat.le_of_ble_eq_true rfl, Nat.le_of_ble_eq_true rfl⟩) ⟨pcR_b, va_recv hK hP (ci := 9) (q0 := 12) rfl hm, pcR_u hP hK⟩ rfl rfl hl.1 rfl (lv_room (Nat.le_of_ble_eq_true rfl)) dX8_goal_111 ⟨Nat.le_of_ble_eq_true rfl, Nat.le_of_ble_eq_true rfl⟩)) (fun r111 h111 => ?_)
      refine lv_iload_n hx hb dX8_goal_114 rfl (lv_at hl 3 rfl) ?_
      refine lv_icmp_ge (tgt := 121) hx hb dX8_goal_115 (by decide) (fun c115 => ?_) (fun c115 => ?_)
      · refine lv_aload_n hx hb dX8_goal_121 rfl (lv_at hl 0 rfl) ?_
        refine va_get (D := G) (ci := 9) (v := .int (z 11)) (C := RX8) (T := TX8) (N := 39) hx hb hts hiX8 hown hK hP 12 hm rfl 11 (by decide) (hts (.fieldLink RX8 109 "VortexpinModel" "drive" "I") (List.mem_of_getElem? (i := 3) rfl)) (fun _ h9 => h9) rfl dX8_goal_122 ?_
        refine lv_if_le (tgt := 136) hx hb dX8_goal_125 (by decide) (fun c125 => ?_) (fun c125 => ?_)
        · refine lv_aload_n hx hb dX8_goal_136 rfl (lv_at hl 0 rfl) ?_
          refine va_get (D := G) (ci := 9) (v := .int (z 11)) (C := RX8) (T := TX8) (N := 39) hx hb hts hiX8 hown hK hP 12 hm rfl 11 (by decide) (hts (.fieldLink RX8 109 "VortexpinModel" "drive" "I") (List.mem_of_getElem? (i := 3) rfl)) (fun _ h9 => h9) rfl dX8_goal_137 ?_
          refine lv_if_ge (tgt := 151) hx hb dX8_goal_140 (by decide) (fun c140 => ?_) (fun c140 => ?_)
          · refine lv_iconst (v := -1) hx hb dX8_goal_151 (by decide) ?_
            refine lv_istore (lv' := [(5, .int (-1 : Int32)), (0, .ref am), (1, .int w), (2, .int (F 20 w.toNatClampNeg)), (3, .int r10), (4, .int (mGb (F 20) (F 18) (F 19) (z 11) w nW (F 20 w.toNatClampNeg) i))]) hx hb dX8_goal_152 hl (by decide) rfl (fun ls hl => ?_)
            refine lv_iload hx hb dX8_goal_154 (lv_at hl 0 rfl) ?_
            refine lv_iconst (v := -1) hx hb dX8_goal_156 (by decide) ?_
            refine lv_icmp_eq (tgt := 191) hx hb dX8_goal_157 (by decide) (fun c157 => ?_) (fun c157 => absurd (by decide) c157)
            refine lv_iconst (v := 0) hx hb dX8_goal_191 (by decide) ?_
            refine lv_istore (lv' := [(6, .int (0 : Int32)), (5, .int (-1 : Int32)), (0, .ref am), (1, .int w), (2, .int (F 20 w.toNatClampNeg)), (3, .int r10), (4, .int (mGb (F 20) (F 18) (F 19) (z 11) w nW (F 20 w.toNatClampNeg) i))]) hx hb dX8_goal_192 hl (by decide) rfl (fun ls hl => ?_)
            refine lv_iload hx hb dX8_goal_194 (lv_at hl 0 rfl) ?_
            refine lv_if_eq (tgt := 204) hx hb dX8_goal_196 (by decide) (fun c196 => ?_) (fun c196 => absurd (by decide) c196)
            refine lv_iconst (v := -1) hx hb dX8_goal_204 (by decide) ?_
            exact W.iret (v := (-1 : Int32)) hx hb hr (fun t ht hW => ⟨(-1 : Int32), rfl, (by subst heqi; subst h10; subst h111; simp only [mGoal, mCr, mCt, eq_self, c23, c104, c115, c125, c140, (eq_true c157), (eq_true c196), ↓reduceIte, not_true_eq_false, not_false_eq_true]), ht⟩) (fun _ h => absurd h List.not_mem_nil) dX8_goal_205
          · refine lv_iload_n hx hb dX8_goal_143 rfl (lv_at hl 2 rfl) ?_
            refine lv_iconst (v := 3) hx hb dX8_goal_144 (by decide) ?_
            refine vp_callSi (va_Run.run (va_runS (As := [.int (F 20 w.toNatClampNeg), .int (3 : Int32)]) (rest := []) ⟨hx, hb, hml, hown, hts⟩ (metX8_beside l (F 20 w.toNatClampNeg) (3 : Int32)) (va_cwS 2 hts gX8_goal_X8_beside rfl rfl rfl (by decide +kernel) ⟨Nat.le_of_ble_eq_true rfl, Nat.le_of_ble_eq_true rfl⟩) ⟨pc0_b, pc0_u⟩ rfl rfl hl.1 rfl (lv_room (Nat.le_of_ble_eq_true rfl)) dX8_goal_145 ⟨Nat.le_of_ble_eq_true rfl, Nat.le_of_ble_eq_true rfl⟩)) (fun r145 h145 => ?_)
            refine lv_goto (tgt := 152) hx hb dX8_goal_148 (by decide) ?_
            refine lv_istore (lv' := [(5, .int r145), (0, .ref am), (1, .int w), (2, .int (F 20 w.toNatClampNeg)), (3, .int r10), (4, .int (mGb (F 20) (F 18) (F 19) (z 11) w nW (F 20 w.toNatClampNeg) i))]) hx hb dX8_goal_152 hl (by decide) rfl (fun ls hl => ?_)
            refine lv_iload hx hb dX8_goal_154 (lv_at hl 0 rfl) ?_
            refine lv_iconst (v := -1) hx hb dX8_goal_156 (by decide) ?_
            refine lv_icmp_eq (tgt := 191) hx hb dX8_goal_157 (by decide) (fun c157 => ?_) (fun c157 => ?_)
            · refine lv_iconst (v := 0) hx hb dX8_goal_191 (by decide) ?_
              refine lv_istore (lv' := [(6, .int (0 : Int32)), (5, .int r145), (0, .ref am), (1, .int w), (2, .int (F 20 w.toNatClampNeg)), (3, .int r10), (4, .int (mGb (F 20) (F 18) (F 19) (z 11) w nW (F 20 w.toNatClampNeg) i))]) hx hb dX8_goal_192 hl (by decide) rfl (fun ls hl => ?_)
              refine lv_iload hx hb dX8_goal_194 (lv_at hl 0 rfl) ?_
              refine lv_if_eq (tgt := 204) hx hb dX8_goal_196 (by decide) (fun c196 => ?_) (fun c196 => absurd (by decide) c196)
              refine lv_iconst (v := -1) hx hb dX8_goal_204 (by decide) ?_
              exact W.iret (v := (-1 : Int32)) hx hb hr (fun t ht hW => ⟨(-1 : Int32), rfl, (by subst heqi; subst h10; subst h111; subst h145; simp only [mGoal, mCr, mCt, eq_self, c23, c104, c115, c125, c140, (eq_true c157), (eq_true c196), ↓reduceIte, not_true_eq_false, not_false_eq_true]), ht⟩) (fun _ h => absurd h List.not_mem_nil) dX8_goal_205
            · refine lv_aload_n hx hb dX8_goal_160 rfl (lv_at hl 1 rfl) ?_
              refine va_get (D := G) (ci := 9) (v := .ref (ad 19)) (C := RX8) (T := TX8) (N := 39) hx hb hts hiX8 hown hK hP 12 hm rfl 8 (by decide) (hts (.fieldLink RX8 28 "VortexpinModel" "whirlIn" "[I") (List.mem_of_getElem? (i := 2) rfl)) (fun _ h9 => h9) rfl dX8_goal_161 ?_
              refine lv_iload hx hb dX8_goal_164 (lv_at hl 0 rfl) ?_
              refine va_iald hx hb hK hP 19 0 hA19 htI (vp_uK (by rw [h145]; exact mBes_ok hX (by rw [← h145]; exact c157))) dX8_goal_166 ?_
              refine lv_iconst (v := -1) hx hb dX8_goal_167 (by decide) ?_
              refine lv_icmp_ne (tgt := 191) hx hb dX8_goal_168 (by decide) (fun c168 => ?_) (fun c168 => ?_)
              · refine lv_iconst (v := 0) hx hb dX8_goal_191 (by decide) ?_
                refine lv_istore (lv' := [(6, .int (0 : Int32)), (5, .int r145), (0, .ref am), (1, .int w), (2, .int (F 20 w.toNatClampNeg)), (3, .int r10), (4, .int (mGb (F 20) (F 18) (F 19) (z 11) w nW (F 20 w.toNatClampNeg) i))]) hx hb dX8_goal_192 hl (by decide) rfl (fun ls hl => ?_)
                refine lv_iload hx hb dX8_goal_194 (lv_at hl 0 rfl) ?_
                refine lv_if_eq (tgt := 204) hx hb dX8_goal_196 (by decide) (fun c196 => ?_) (fun c196 => absurd (by decide) c196)
                refine lv_iconst (v := -1) hx hb dX8_goal_204 (by decide) ?_
                exact W.iret (v := (-1 : Int32)) hx hb hr (fun t ht hW => ⟨(-1 : Int32), rfl, (by subst heqi; subst h10; subst h111; subst h145; simp only [mGoal, mCr, mCt, eq_self, c23, c104, c115, c125, c140, c157, c168, (eq_true c196), ↓reduceIte, not_true_eq_false, not_false_eq_true]), ht⟩) (fun _ h => absurd h List.not_mem_nil) dX8_goal_205
              · refine lv_aload_n hx hb dX8_goal_171 rfl (lv_at hl 1 rfl) ?_
                refine lv_iload_n hx hb dX8_goal_172 rfl (lv_at hl 2 rfl) ?_
                refine lv_iload hx hb dX8_goal_173 (lv_at hl 0 rfl) ?_
                refine vp_callSi (va_Run.run (va_runV (As := [.int w, .int r145]) (rest := []) ⟨hx, hb, hml, hown, hts⟩ (metX8_energyAt l G tys htI _ hm hA18 hA20 hnW hW20 w r145 (by rw [h145]; exact mBes_ok hX (by rw [← h145]; exact c157))) (cwV 2 hts gX8_goal_X8_energyAt rfl rfl rfl (by decide +kernel) ⟨Nat.le_of_ble_eq_true rfl, Nat.le_of_ble_eq_true rfl⟩) ⟨pcR_b, va_recv hK hP (ci := 9) (q0 := 12) rfl hm, pcR_u hP hK⟩ rfl rfl hl.1 rfl (lv_room (Nat.le_of_ble_eq_true rfl)) dX8_goal_175 ⟨Nat.le_of_ble_eq_true rfl, Nat.le_of_ble_eq_true rfl⟩)) (fun r175 h175 => ?_)
                refine lv_iload_n hx hb dX8_goal_178 rfl (lv_at hl 4 rfl) ?_
                refine lv_isub hx hb dX8_goal_179 ?_
                refine lv_aload_n hx hb dX8_goal_180 rfl (lv_at hl 1 rfl) ?_
                refine va_get (D := G) (ci := 9) (v := .int (z 12)) (C := RX8) (T := TX8) (N := 39) hx hb hts hiX8 hown hK hP 12 hm rfl 12 (by decide) (hts (.fieldLink RX8 112 "VortexpinModel" "heat" "I") (List.mem_of_getElem? (i := 4) rfl)) (fun _ h9 => h9) rfl dX8_goal_181 ?_
                refine lv_icmp_gt (tgt := 191) hx hb dX8_goal_184 (by decide) (fun c184 => ?_) (fun c184 => ?_)
                · refine lv_iconst (v := 0) hx hb dX8_goal_191 (by decide) ?_
                  refine lv_istore (lv' := [(6, .int (0 : Int32)), (5, .int r145), (0, .ref am), (1, .int w), (2, .int (F 20 w.toNatClampNeg)), (3, .int r10), (4, .int (mGb (F 20) (F 18) (F 19) (z 11) w nW (F 20 w.toNatClampNeg) i))]) hx hb dX8_goal_192 hl (by decide) rfl (fun ls hl => ?_)
                  refine lv_iload hx hb dX8_goal_194 (lv_at hl 0 rfl) ?_
                  refine lv_if_eq (tgt := 204) hx hb dX8_goal_196 (by decide) (fun c196 => ?_) (fun c196 => absurd (by decide) c196)
                  refine lv_iconst (v := -1) hx hb dX8_goal_204 (by decide) ?_
                  exact W.iret (v := (-1 : Int32)) hx hb hr (fun t ht hW => ⟨(-1 : Int32), rfl, (by subst heqi; subst h10; subst h111; subst h145; subst h175; simp only [mGoal, mCr, mCt, eq_self, c23, c104, c115, c125, c140, c157, (eq_true c168), c184, (eq_true c196), ↓reduceIte, not_true_eq_false, not_false_eq_true]), ht⟩) (fun _ h => absurd h List.not_mem_nil) dX8_goal_205
                · refine lv_iconst (v := 1) hx hb dX8_goal_187 (by decide) ?_
                  refine lv_goto (tgt := 192) hx hb dX8_goal_188 (by decide) ?_
                  refine lv_istore (lv' := [(6, .int (1 : Int32)), (5, .int r145), (0, .ref am), (1, .int w), (2, .int (F 20 w.toNatClampNeg)), (3, .int r10), (4, .int (mGb (F 20) (F 18) (F 19) (z 11) w nW (F 20 w.toNatClampNeg) i))]) hx hb dX8_goal_192 hl (by decide) rfl (fun ls hl => ?_)
                  refine lv_iload hx hb dX8_goal_194 (lv_at hl 0 rfl) ?_
                  refine lv_if_eq (tgt := 204) hx hb dX8_goal_196 (by decide) (fun c196 => absurd c196 (by decide)) (fun c196 => ?_)
                  refine lv_iload hx hb dX8_goal_199 (lv_at hl 1 rfl) ?_
                  refine lv_goto (tgt := 205) hx hb dX8_goal_201 (by decide) ?_
                  exact W.iret (v := r145) hx hb hr (fun t ht hW => ⟨r145, rfl, (by subst heqi; subst h10; subst h111; subst h145; subst h175; simp only [mGoal, mCr, mCt, eq_self, c23, c104, c115, c125, c140, c157, (eq_true c168), c184, c196, ↓reduceIte, not_true_eq_false, not_false_eq_true]), ht⟩) (fun _ h => absurd h List.not_mem_nil) dX8_goal_205
        · refine lv_iload_n hx hb dX8_goal_128 rfl (lv_at hl 2 rfl) ?_
          refine lv_iconst (v := 1) hx hb dX8_goal_129 (by decide) ?_
          refine vp_callSi (va_Run.run (va_runS (As := [.int (F 20 w.toNatClampNeg), .int (1 : Int32)]) (rest := []) ⟨hx, hb, hml, hown, hts⟩ (metX8_beside l (F 20 w.toNatClampNeg) (1 : Int32)) (va_cwS 2 hts gX8_goal_X8_beside rfl rfl rfl (by decide +kernel) ⟨Nat.le_of_ble_eq_true rfl, Nat.le_of_ble_eq_true rfl⟩) ⟨pc0_b, pc0_u⟩ rfl rfl hl.1 rfl (lv_room (Nat.le_of_ble_eq_true rfl)) dX8_goal_130 ⟨Nat.le_of_ble_eq_true rfl, Nat.le_of_ble_eq_true rfl⟩)) (fun r130 h130 => ?_)
          refine lv_goto (tgt := 152) hx hb dX8_goal_133 (by decide) ?_
          refine lv_istore (lv' := [(5, .int r130), (0, .ref am), (1, .int w), (2, .int (F 20 w.toNatClampNeg)), (3, .int r10), (4, .int (mGb (F 20) (F 18) (F 19) (z 11) w nW (F 20 w.toNatClampNeg) i))]) hx hb dX8_goal_152 hl (by decide) rfl (fun ls hl => ?_)
          refine lv_iload hx hb dX8_goal_154 (lv_at hl 0 rfl) ?_
          refine lv_iconst (v := -1) hx hb dX8_goal_156 (by decide) ?_
          refine lv_icmp_eq (tgt := 191) hx hb dX8_goal_157 (by decide) (fun c157 => ?_) (fun c157 => ?_)
          · refine lv_iconst (v := 0) hx hb dX8_goal_191 (by decide) ?_
            refine lv_istore (lv' := [(6, .int (0 : Int32)), (5, .int r130), (0, .ref am), (1, .int w), (2, .int (F 20 w.toNatClampNeg)), (3, .int r10), (4, .int (mGb (F 20) (F 18) (F 19) (z 11) w nW (F 20 w.toNatClampNeg) i))]) hx hb dX8_goal_192 hl (by decide) rfl (fun ls hl => ?_)
            refine lv_iload hx hb dX8_goal_194 (lv_at hl 0 rfl) ?_
            refine lv_if_eq (tgt := 204) hx hb dX8_goal_196 (by decide) (fun c196 => ?_) (fun c196 => absurd (by decide) c196)
            refine lv_iconst (v := -1) hx hb dX8_goal_204 (by decide) ?_
            exact W.iret (v := (-1 : Int32)) hx hb hr (fun t ht hW => ⟨(-1 : Int32), rfl, (by subst heqi; subst h10; subst h111; subst h130; simp only [mGoal, mCr, mCt, eq_self, c23, c104, c115, c125, (eq_true c157), (eq_true c196), ↓reduceIte, not_true_eq_false, not_false_eq_true]), ht⟩) (fun _ h => absurd h List.not_mem_nil) dX8_goal_205
          · refine lv_aload_n hx hb dX8_goal_160 rfl (lv_at hl 1 rfl) ?_
            refine va_get (D := G) (ci := 9) (v := .ref (ad 19)) (C := RX8) (T := TX8) (N := 39) hx hb hts hiX8 hown hK hP 12 hm rfl 8 (by decide) (hts (.fieldLink RX8 28 "VortexpinModel" "whirlIn" "[I") (List.mem_of_getElem? (i := 2) rfl)) (fun _ h9 => h9) rfl dX8_goal_161 ?_
            refine lv_iload hx hb dX8_goal_164 (lv_at hl 0 rfl) ?_
            refine va_iald hx hb hK hP 19 0 hA19 htI (vp_uK (by rw [h130]; exact mBes_ok hX (by rw [← h130]; exact c157))) dX8_goal_166 ?_
            refine lv_iconst (v := -1) hx hb dX8_goal_167 (by decide) ?_
            refine lv_icmp_ne (tgt := 191) hx hb dX8_goal_168 (by decide) (fun c168 => ?_) (fun c168 => ?_)
            · refine lv_iconst (v := 0) hx hb dX8_goal_191 (by decide) ?_
              refine lv_istore (lv' := [(6, .int (0 : Int32)), (5, .int r130), (0, .ref am), (1, .int w), (2, .int (F 20 w.toNatClampNeg)), (3, .int r10), (4, .int (mGb (F 20) (F 18) (F 19) (z 11) w nW (F 20 w.toNatClampNeg) i))]) hx hb dX8_goal_192 hl (by decide) rfl (fun ls hl => ?_)
              refine lv_iload hx hb dX8_goal_194 (lv_at hl 0 rfl) ?_
              refine lv_if_eq (tgt := 204) hx hb dX8_goal_196 (by decide) (fun c196 => ?_) (fun c196 => absurd (by decide) c196)
              refine lv_iconst (v := -1) hx hb dX8_goal_204 (by decide) ?_
              exact W.iret (v := (-1 : Int32)) hx hb hr (fun t ht hW => ⟨(-1 : Int32), rfl, (by subst heqi; subst h10; subst h111; subst h130; simp only [mGoal, mCr, mCt, eq_self, c23, c104, c115, c125, c157, c168, (eq_true c196), ↓reduceIte, not_true_eq_false, not_false_eq_true]), ht⟩) (fun _ h => absurd h List.not_mem_nil) dX8_goal_205
            · refine lv_aload_n hx hb dX8_goal_171 rfl (lv_at hl 1 rfl) ?_
              refine lv_iload_n hx hb dX8_goal_172 rfl (lv_at hl 2 rfl) ?_
              refine lv_iload hx hb dX8_goal_173 (lv_at hl 0 rfl) ?_
              refine vp_callSi (va_Run.run (va_runV (As := [.int w, .int r130]) (rest := []) ⟨hx, hb, hml, hown, hts⟩ (metX8_energyAt l G tys htI _ hm hA18 hA20 hnW hW20 w r130 (by rw [h130]; exact mBes_ok hX (by rw [← h130]; exact c157))) (cwV 2 hts gX8_goal_X8_energyAt rfl rfl rfl (by decide +kernel) ⟨Nat.le_of_ble_eq_true rfl, Nat.le_of_ble_eq_true rfl⟩) ⟨pcR_b, va_recv hK hP (ci := 9) (q0 := 12) rfl hm, pcR_u hP hK⟩ rfl rfl hl.1 rfl (lv_room (Nat.le_of_ble_eq_true rfl)) dX8_goal_175 ⟨Nat.le_of_ble_eq_true rfl, Nat.le_of_ble_eq_true rfl⟩)) (fun r175 h175 => ?_)
              refine lv_iload_n hx hb dX8_goal_178 rfl (lv_at hl 4 rfl) ?_
              refine lv_isub hx hb dX8_goal_179 ?_
              refine lv_aload_n hx hb dX8_goal_180 rfl (lv_at hl 1 rfl) ?_
              refine va_get (D := G) (ci := 9) (v := .int (z 12)) (C := RX8) (T := TX8) (N := 39) hx hb hts hiX8 hown hK hP 12 hm rfl 12 (by decide) (hts (.fieldLink RX8 112 "VortexpinModel" "heat" "I") (List.mem_of_getElem? (i := 4) rfl)) (fun _ h9 => h9) rfl dX8_goal_181 ?_
              refine lv_icmp_gt (tgt := 191) hx hb dX8_goal_184 (by decide) (fun c184 => ?_) (fun c184 => ?_)
              · refine lv_iconst (v := 0) hx hb dX8_goal_191 (by decide) ?_
                refine lv_istore (lv' := [(6, .int (0 : Int32)), (5, .int r130), (0, .ref am), (1, .int w), (2, .int (F 20 w.toNatClampNeg)), (3, .int r10), (4, .int (mGb (F 20) (F 18) (F 19) (z 11) w nW (F 20 w.toNatClampNeg) i))]) hx hb dX8_goal_192 hl (by decide) rfl (fun ls hl => ?_)
                refine lv_iload hx hb dX8_goal_194 (lv_at hl 0 rfl) ?_
                refine lv_if_eq (tgt := 204) hx hb dX8_goal_196 (by decide) (fun c196 => ?_) (fun c196 => absurd (by decide) c196)
                refine lv_iconst (v := -1) hx hb dX8_goal_204 (by decide) ?_
                exact W.iret (v := (-1 : Int32)) hx hb hr (fun t ht hW => ⟨(-1 : Int32), rfl, (by subst heqi; subst h10; subst h111; subst h130; subst h175; simp only [mGoal, mCr, mCt, eq_self, c23, c104, c115, c125, c157, (eq_true c168), c184, (eq_true c196), ↓reduceIte, not_true_eq_false, not_false_eq_true]), ht⟩) (fun _ h => absurd h List.not_mem_nil) dX8_goal_205
              · refine lv_iconst (v := 1) hx hb dX8_goal_187 (by decide) ?_
                refine lv_goto (tgt := 192) hx hb dX8_goal_188 (by decide) ?_
                refine lv_istore (lv' := [(6, .int (1 : Int32)), (5, .int r130), (0, .ref am), (1, .int w), (2, .int (F 20 w.toNatClampNeg)), (3, .int r10), (4, .int (mGb (F 20) (F 18) (F 19) (z 11) w nW (F 20 w.toNatClampNeg) i))]) hx hb dX8_goal_192 hl (by decide) rfl (fun ls hl => ?_)
                refine lv_iload hx hb dX8_goal_194 (lv_at hl 0 rfl) ?_
                refine lv_if_eq (tgt := 204) hx hb dX8_goal_196 (by decide) (fun c196 => absurd c196 (by decide)) (fun c196 => ?_)
                refine lv_iload hx hb dX8_goal_199 (lv_at hl 1 rfl) ?_
                refine lv_goto (tgt := 205) hx hb dX8_goal_201 (by decide) ?_
                exact W.iret (v := r130) hx hb hr (fun t ht hW => ⟨r130, rfl, (by subst heqi; subst h10; subst h111; subst h130; subst h175; simp only [mGoal, mCr, mCt, eq_self, c23, c104, c115, c125, c157, (eq_true c168), c184, c196, ↓reduceIte, not_true_eq_false, not_false_eq_true]), ht⟩) (fun _ h => absurd h List.not_mem_nil) dX8_goal_205
      · refine lv_iload hx hb dX8_goal_118 (lv_at hl 4 rfl) ?_
        exact W.iret (v := mGb (F 20) (F 18) (F 19) (z 11) w nW (F 20 w.toNatClampNeg) i) hx hb hr (fun t ht hW => ⟨mGb (F 20) (F 18) (F 19) (z 11) w nW (F 20 w.toNatClampNeg) i, rfl, (by subst heqi; subst h10; subst h111; simp only [mGoal, mCr, mCt, eq_self, c23, c104, c115, ↓reduceIte, not_true_eq_false, not_false_eq_true]), ht⟩) (fun _ h => absurd h List.not_mem_nil) dX8_goal_120
  · have hlti : i < 4 := Nat.lt_of_not_le (mt (nI_leI (by omega) (by omega)).mpr c23)
    refine lv_iload_n hx hb dX8_goal_26 rfl (lv_at hl 2 rfl) ?_
    refine lv_iload hx hb dX8_goal_27 (lv_at hl 5 rfl) ?_
    refine vp_callSi (va_Run.run (va_runS (As := [.int (F 20 w.toNatClampNeg), .int (nI i)]) (rest := []) ⟨hx, hb, hml, hown, hts⟩ (metX8_beside l (F 20 w.toNatClampNeg) (nI i)) (va_cwS 2 hts gX8_goal_X8_beside rfl rfl rfl (by decide +kernel) ⟨Nat.le_of_ble_eq_true rfl, Nat.le_of_ble_eq_true rfl⟩) ⟨pc0_b, pc0_u⟩ rfl rfl hl.1 rfl (lv_room (Nat.le_of_ble_eq_true rfl)) dX8_goal_29 ⟨Nat.le_of_ble_eq_true rfl, Nat.le_of_ble_eq_true rfl⟩)) (fun r29 h29 => ?_)
    refine lv_istore (lv' := [(6, .int r29), (0, .ref am), (1, .int w), (2, .int (F 20 w.toNatClampNeg)), (3, .int r10), (4, .int (mGb (F 20) (F 18) (F 19) (z 11) w nW (F 20 w.toNatClampNeg) i)), (5, .int (nI i))]) hx hb dX8_goal_32 hl (by decide) rfl (fun ls hl => ?_)
    refine lv_iload hx hb dX8_goal_34 (lv_at hl 0 rfl) ?_
    refine lv_iconst (v := -1) hx hb dX8_goal_36 (by decide) ?_
    refine lv_icmp_eq (tgt := 55) hx hb dX8_goal_37 (by decide) (fun c37 => ?_) (fun c37 => ?_)
    · refine lv_iconst (v := 0) hx hb dX8_goal_55 (by decide) ?_
      refine lv_istore (lv' := [(7, .int (0 : Int32)), (6, .int r29), (0, .ref am), (1, .int w), (2, .int (F 20 w.toNatClampNeg)), (3, .int r10), (4, .int (mGb (F 20) (F 18) (F 19) (z 11) w nW (F 20 w.toNatClampNeg) i)), (5, .int (nI i))]) hx hb dX8_goal_56 hl (by decide) rfl (fun ls hl => ?_)
      refine lv_iload hx hb dX8_goal_58 (lv_at hl 0 rfl) ?_
      refine lv_if_eq (tgt := 91) hx hb dX8_goal_60 (by decide) (fun c60 => ?_) (fun c60 => absurd (by decide) c60)
      refine lv_iload hx hb dX8_goal_91 (lv_at hl 6 rfl) ?_
      refine lv_istore (lv' := [(4, .int (mGb (F 20) (F 18) (F 19) (z 11) w nW (F 20 w.toNatClampNeg) i)), (7, .int (0 : Int32)), (6, .int r29), (0, .ref am), (1, .int w), (2, .int (F 20 w.toNatClampNeg)), (3, .int r10), (5, .int (nI i))]) hx hb dX8_goal_93 hl (by decide) rfl (fun ls hl => ?_)
      refine lv_iinc (v := nI (i + 1)) (lv' := [(5, .int (nI (i + 1))), (4, .int (mGb (F 20) (F 18) (F 19) (z 11) w nW (F 20 w.toNatClampNeg) i)), (7, .int (0 : Int32)), (6, .int r29), (0, .ref am), (1, .int w), (2, .int (F 20 w.toNatClampNeg)), (3, .int r10)]) hx hb dX8_goal_95 hl (k := 7) rfl (nI_1 i) (by decide) rfl (fun ls hl => ?_)
      refine lv_goto (tgt := 20) hx hb dX8_goal_98 (by decide) ?_
      have ea4 : mGb (F 20) (F 18) (F 19) (z 11) w nW (F 20 w.toNatClampNeg) i = mGb (F 20) (F 18) (F 19) (z 11) w nW (F 20 w.toNatClampNeg) (i + 1) := by subst h10; subst h29; simp only [mGb, c23, (eq_true c37), (eq_true c60), ↓reduceIte, not_true_eq_false, not_false_eq_true]
      rw [ea4] at hl
      exact ihi ls hlti (trivial) (lv_sub hl [4, 5, 6, 7, 1, 0] rfl)
    · refine lv_aload_n hx hb dX8_goal_40 rfl (lv_at hl 1 rfl) ?_
      refine va_get (D := G) (ci := 9) (v := .ref (ad 19)) (C := RX8) (T := TX8) (N := 39) hx hb hts hiX8 hown hK hP 12 hm rfl 8 (by decide) (hts (.fieldLink RX8 28 "VortexpinModel" "whirlIn" "[I") (List.mem_of_getElem? (i := 2) rfl)) (fun _ h9 => h9) rfl dX8_goal_41 ?_
      refine lv_iload hx hb dX8_goal_44 (lv_at hl 0 rfl) ?_
      refine va_iald hx hb hK hP 19 0 hA19 htI (vp_uK (by rw [h29]; exact mBes_ok hX (by rw [← h29]; exact c37))) dX8_goal_46 ?_
      refine lv_iconst (v := -1) hx hb dX8_goal_47 (by decide) ?_
      refine lv_icmp_ne (tgt := 55) hx hb dX8_goal_48 (by decide) (fun c48 => ?_) (fun c48 => ?_)
      · refine lv_iconst (v := 0) hx hb dX8_goal_55 (by decide) ?_
        refine lv_istore (lv' := [(7, .int (0 : Int32)), (6, .int r29), (0, .ref am), (1, .int w), (2, .int (F 20 w.toNatClampNeg)), (3, .int r10), (4, .int (mGb (F 20) (F 18) (F 19) (z 11) w nW (F 20 w.toNatClampNeg) i)), (5, .int (nI i))]) hx hb dX8_goal_56 hl (by decide) rfl (fun ls hl => ?_)
        refine lv_iload hx hb dX8_goal_58 (lv_at hl 0 rfl) ?_
        refine lv_if_eq (tgt := 91) hx hb dX8_goal_60 (by decide) (fun c60 => ?_) (fun c60 => absurd (by decide) c60)
        refine lv_iload hx hb dX8_goal_91 (lv_at hl 6 rfl) ?_
        refine lv_istore (lv' := [(4, .int (mGb (F 20) (F 18) (F 19) (z 11) w nW (F 20 w.toNatClampNeg) i)), (7, .int (0 : Int32)), (6, .int r29), (0, .ref am), (1, .int w), (2, .int (F 20 w.toNatClampNeg)), (3, .int r10), (5, .int (nI i))]) hx hb dX8_goal_93 hl (by decide) rfl (fun ls hl => ?_)
        refine lv_iinc (v := nI (i + 1)) (lv' := [(5, .int (nI (i + 1))), (4, .int (mGb (F 20) (F 18) (F 19) (z 11) w nW (F 20 w.toNatClampNeg) i)), (7, .int (0 : Int32)), (6, .int r29), (0, .ref am), (1, .int w), (2, .int (F 20 w.toNatClampNeg)), (3, .int r10)]) hx hb dX8_goal_95 hl (k := 7) rfl (nI_1 i) (by decide) rfl (fun ls hl => ?_)
        refine lv_goto (tgt := 20) hx hb dX8_goal_98 (by decide) ?_
        have ea4 : mGb (F 20) (F 18) (F 19) (z 11) w nW (F 20 w.toNatClampNeg) i = mGb (F 20) (F 18) (F 19) (z 11) w nW (F 20 w.toNatClampNeg) (i + 1) := by subst h10; subst h29; simp only [mGb, c23, c37, c48, (eq_true c60), ↓reduceIte, not_true_eq_false, not_false_eq_true]
        rw [ea4] at hl
        exact ihi ls hlti (trivial) (lv_sub hl [4, 5, 6, 7, 1, 0] rfl)
      · refine lv_iconst (v := 1) hx hb dX8_goal_51 (by decide) ?_
        refine lv_goto (tgt := 56) hx hb dX8_goal_52 (by decide) ?_
        refine lv_istore (lv' := [(7, .int (1 : Int32)), (6, .int r29), (0, .ref am), (1, .int w), (2, .int (F 20 w.toNatClampNeg)), (3, .int r10), (4, .int (mGb (F 20) (F 18) (F 19) (z 11) w nW (F 20 w.toNatClampNeg) i)), (5, .int (nI i))]) hx hb dX8_goal_56 hl (by decide) rfl (fun ls hl => ?_)
        refine lv_iload hx hb dX8_goal_58 (lv_at hl 0 rfl) ?_
        refine lv_if_eq (tgt := 91) hx hb dX8_goal_60 (by decide) (fun c60 => absurd c60 (by decide)) (fun c60 => ?_)
        refine lv_iload hx hb dX8_goal_63 (lv_at hl 6 rfl) ?_
        refine lv_iconst (v := -1) hx hb dX8_goal_65 (by decide) ?_
        refine lv_icmp_eq (tgt := 86) hx hb dX8_goal_66 (by decide) (fun c66 => ?_) (fun c66 => ?_)
        · refine lv_iload hx hb dX8_goal_86 (lv_at hl 1 rfl) ?_
          refine lv_goto (tgt := 93) hx hb dX8_goal_88 (by decide) ?_
          refine lv_istore (lv' := [(4, .int r29), (7, .int (1 : Int32)), (6, .int r29), (0, .ref am), (1, .int w), (2, .int (F 20 w.toNatClampNeg)), (3, .int r10), (5, .int (nI i))]) hx hb dX8_goal_93 hl (by decide) rfl (fun ls hl => ?_)
          refine lv_iinc (v := nI (i + 1)) (lv' := [(5, .int (nI (i + 1))), (4, .int r29), (7, .int (1 : Int32)), (6, .int r29), (0, .ref am), (1, .int w), (2, .int (F 20 w.toNatClampNeg)), (3, .int r10)]) hx hb dX8_goal_95 hl (k := 7) rfl (nI_1 i) (by decide) rfl (fun ls hl => ?_)
          refine lv_goto (tgt := 20) hx hb dX8_goal_98 (by decide) ?_
          have ea4 : r29 = mGb (F 20) (F 18) (F 19) (z 11) w nW (F 20 w.toNatClampNeg) (i + 1) := by subst h10; subst h29; simp only [mGb, c23, c37, (eq_true c48), c60, (eq_true c66), ↓reduceIte, not_true_eq_false, not_false_eq_true]
          rw [ea4] at hl
          exact ihi ls hlti (trivial) (lv_sub hl [4, 5, 6, 7, 1, 0] rfl)
        · refine lv_aload_n hx hb dX8_goal_69 rfl (lv_at hl 2 rfl) ?_
          refine lv_iload_n hx hb dX8_goal_70 rfl (lv_at hl 3 rfl) ?_
          refine lv_iload hx hb dX8_goal_71 (lv_at hl 1 rfl) ?_
          refine vp_callSi (va_Run.run (va_runV (As := [.int w, .int r29]) (rest := []) ⟨hx, hb, hml, hown, hts⟩ (metX8_energyAt l G tys htI _ hm hA18 hA20 hnW hW20 w r29 (by rw [h29]; exact mBes_ok hX (by rw [← h29]; exact c37))) (cwV 2 hts gX8_goal_X8_energyAt rfl rfl rfl (by decide +kernel) ⟨Nat.le_of_ble_eq_true rfl, Nat.le_of_ble_eq_true rfl⟩) ⟨pcR_b, va_recv hK hP (ci := 9) (q0 := 12) rfl hm, pcR_u hP hK⟩ rfl rfl hl.1 rfl (lv_room (Nat.le_of_ble_eq_true rfl)) dX8_goal_73 ⟨Nat.le_of_ble_eq_true rfl, Nat.le_of_ble_eq_true rfl⟩)) (fun r73 h73 => ?_)
          refine lv_aload_n hx hb dX8_goal_76 rfl (lv_at hl 2 rfl) ?_
          refine lv_iload_n hx hb dX8_goal_77 rfl (lv_at hl 3 rfl) ?_
          refine lv_iload hx hb dX8_goal_78 (lv_at hl 6 rfl) ?_
          refine vp_callSi (va_Run.run (va_runV (As := [.int w, .int (mGb (F 20) (F 18) (F 19) (z 11) w nW (F 20 w.toNatClampNeg) i)]) (rest := [.int r73]) ⟨hx, hb, hml, hown, hts⟩ (metX8_energyAt l G tys htI _ hm hA18 hA20 hnW hW20 w (mGb (F 20) (F 18) (F 19) (z 11) w nW (F 20 w.toNatClampNeg) i) (mGb_ok hX i c66)) (cwV 2 hts gX8_goal_X8_energyAt rfl rfl rfl (by decide +kernel) ⟨Nat.le_of_ble_eq_true rfl, Nat.le_of_ble_eq_true rfl⟩) ⟨pcR_b, va_recv hK hP (ci := 9) (q0 := 12) rfl hm, pcR_u hP hK⟩ rfl rfl hl.1 rfl (lv_room (Nat.le_of_ble_eq_true rfl)) dX8_goal_80 ⟨Nat.le_of_ble_eq_true rfl, Nat.le_of_ble_eq_true rfl⟩)) (fun r80 h80 => ?_)
          refine lv_icmp_ge (tgt := 91) hx hb dX8_goal_83 (by decide) (fun c83 => ?_) (fun c83 => ?_)
          · refine lv_iload hx hb dX8_goal_91 (lv_at hl 6 rfl) ?_
            refine lv_istore (lv' := [(4, .int (mGb (F 20) (F 18) (F 19) (z 11) w nW (F 20 w.toNatClampNeg) i)), (7, .int (1 : Int32)), (6, .int r29), (0, .ref am), (1, .int w), (2, .int (F 20 w.toNatClampNeg)), (3, .int r10), (5, .int (nI i))]) hx hb dX8_goal_93 hl (by decide) rfl (fun ls hl => ?_)
            refine lv_iinc (v := nI (i + 1)) (lv' := [(5, .int (nI (i + 1))), (4, .int (mGb (F 20) (F 18) (F 19) (z 11) w nW (F 20 w.toNatClampNeg) i)), (7, .int (1 : Int32)), (6, .int r29), (0, .ref am), (1, .int w), (2, .int (F 20 w.toNatClampNeg)), (3, .int r10)]) hx hb dX8_goal_95 hl (k := 7) rfl (nI_1 i) (by decide) rfl (fun ls hl => ?_)
            refine lv_goto (tgt := 20) hx hb dX8_goal_98 (by decide) ?_
            have ea4 : mGb (F 20) (F 18) (F 19) (z 11) w nW (F 20 w.toNatClampNeg) i = mGb (F 20) (F 18) (F 19) (z 11) w nW (F 20 w.toNatClampNeg) (i + 1) := by subst h10; subst h29; subst h73; subst h80; simp only [mGb, c23, c37, (eq_true c48), c60, c66, c83, ↓reduceIte, not_true_eq_false, not_false_eq_true]
            rw [ea4] at hl
            exact ihi ls hlti (trivial) (lv_sub hl [4, 5, 6, 7, 1, 0] rfl)
          · refine lv_iload hx hb dX8_goal_86 (lv_at hl 1 rfl) ?_
            refine lv_goto (tgt := 93) hx hb dX8_goal_88 (by decide) ?_
            refine lv_istore (lv' := [(4, .int r29), (7, .int (1 : Int32)), (6, .int r29), (0, .ref am), (1, .int w), (2, .int (F 20 w.toNatClampNeg)), (3, .int r10), (5, .int (nI i))]) hx hb dX8_goal_93 hl (by decide) rfl (fun ls hl => ?_)
            refine lv_iinc (v := nI (i + 1)) (lv' := [(5, .int (nI (i + 1))), (4, .int r29), (7, .int (1 : Int32)), (6, .int r29), (0, .ref am), (1, .int w), (2, .int (F 20 w.toNatClampNeg)), (3, .int r10)]) hx hb dX8_goal_95 hl (k := 7) rfl (nI_1 i) (by decide) rfl (fun ls hl => ?_)
            refine lv_goto (tgt := 20) hx hb dX8_goal_98 (by decide) ?_
            have ea4 : r29 = mGb (F 20) (F 18) (F 19) (z 11) w nW (F 20 w.toNatClampNeg) (i + 1) := by subst h10; subst h29; subst h73; subst h80; simp only [mGb, c23, c37, (eq_true c48), c60, c66, c83, ↓reduceIte, not_true_eq_false, not_false_eq_true]
            rw [ea4] at hl
            exact ihi ls hlti (trivial) (lv_sub hl [4, 5, 6, 7, 1, 0] rfl)
def mPr (F : Nat → Nat → Int32) (x a b : Int32) : Int32 := (if F 28 a.toNatClampNeg = F 28 b.toNatClampNeg then (if F 29 a.toNatClampNeg ≤ 0 then 0 else if F 29 b.toNatClampNeg = -(F 29 a.toNatClampNeg) then (if F 31 x.toNatClampNeg ≤ F 28 a.toNatClampNeg then 0 else 1) else 0) else 0)
def kIn (F : Nat → Nat → Int32) (x no p : Int32) (a fr : Nat) : Nat → Int32 × Bool
  | 0 => (p, false)
  | k + 1 => if (kIn F x no p a fr k).2 = true then kIn F x no p a fr k else if mPr F x (nI a) (nI (fr + k)) = 0 then kIn F x no p a fr k else if jabs (F 30 a - F 30 (fr + k)) ≤ 2 * no then (1, false) else (1, true)
def kOut (F : Nat → Nat → Int32) (x no : Int32) (fr n : Nat) : Nat → Int32 × Bool
  | 0 => (0, false)
  | k + 1 => if (kOut F x no fr n k).2 = true then kOut F x no fr n k else kIn F x no (kOut F x no fr n k).1 (fr + k) fr n
def kOpen (F : Nat → Nat → Int32) (x no : Int32) (fr n : Nat) : Int32 := if (kOut F x no fr n n).2 = true then 1 else if (kOut F x no fr n n).1 = 0 then 1 else 0
section KStep
variable {F : Nat → Nat → Int32} {x no p : Int32} {a fr n k : Nat}
theorem kIn_stop (h : (kIn F x no p a fr k).2 = true) : ∀ j, k ≤ j → (kIn F x no p a fr j).2 = true := by
  intro j hj
  induction j with
  | zero => have : k = 0 := by omega
            subst this; exact h
  | succ j ih =>
    rcases Nat.lt_or_ge j k with q | q
    · have : k = j + 1 := by omega
      subst this; exact h
    · show (if (kIn F x no p a fr j).2 = true then _ else _ : Int32 × Bool).2 = true
      rw [if_pos (ih q)]
      exact ih q
theorem kOut_stop (h : (kOut F x no fr n k).2 = true) : ∀ j, k ≤ j → (kOut F x no fr n j).2 = true := by
  intro j hj
  induction j with
  | zero => have : k = 0 := by omega
            subst this; exact h
  | succ j ih =>
    rcases Nat.lt_or_ge j k with q | q
    · have : k = j + 1 := by omega
      subst this; exact h
    · show (if (kOut F x no fr n j).2 = true then _ else _ : Int32 × Bool).2 = true
      rw [if_pos (ih q)]
      exact ih q
theorem kIn_no (h : (kIn F x no p a fr k).2 = false) (h1 : mPr F x (nI a) (nI (fr + k)) = 0) : kIn F x no p a fr (k + 1) = kIn F x no p a fr k := by
  show (if (kIn F x no p a fr k).2 = true then _ else _) = _
  rw [if_neg (by rw [h]; exact Bool.false_ne_true), if_pos h1]
theorem kIn_near (h : (kIn F x no p a fr k).2 = false) (h1 : ¬ mPr F x (nI a) (nI (fr + k)) = 0) (h2 : jabs (F 30 a - F 30 (fr + k)) ≤ 2 * no) : kIn F x no p a fr (k + 1) = (1, false) := by
  show (if (kIn F x no p a fr k).2 = true then _ else _) = _
  rw [if_neg (by rw [h]; exact Bool.false_ne_true), if_neg h1, if_pos h2]
theorem kIn_far (h : (kIn F x no p a fr k).2 = false) (h1 : ¬ mPr F x (nI a) (nI (fr + k)) = 0) (h2 : ¬ jabs (F 30 a - F 30 (fr + k)) ≤ 2 * no) : kIn F x no p a fr (k + 1) = (1, true) := by
  show (if (kIn F x no p a fr k).2 = true then _ else _) = _
  rw [if_neg (by rw [h]; exact Bool.false_ne_true), if_neg h1, if_neg h2]
theorem kOut_in (h : (kOut F x no fr n k).2 = false) : kOut F x no fr n (k + 1) = kIn F x no (kOut F x no fr n k).1 (fr + k) fr n := by
  show (if (kOut F x no fr n k).2 = true then _ else _) = _
  rw [if_neg (by rw [h]; exact Bool.false_ne_true)]
end KStep
set_option maxHeartbeats 1000000 in
set_option maxRecDepth 100000 in
theorem metX8_isOpen (l : Launch) (G : va_G) (tys : List (ClassId × FieldType)) {cI : ClassId} (htI : tI tys cI) (ws : va_W) {am : Nat} {ad : Nat → Nat} {z : Nat → Int32} {wi dm : Int64} {F : Nat → Nat → Int32} (hm : ws[12]? = some (am, .inr (9, mF ad z wi dm))) (hA28 : ws[28]? = some (ad 28, .inl (cI, 60, .inl (F 28)))) (hA29 : ws[29]? = some (ad 29, .inl (cI, 60, .inl (F 29)))) (hA30 : ws[30]? = some (ad 30, .inl (cI, 60, .inl (F 30)))) (hA31 : ws[31]? = some (ad 31, .inl (cI, 8, .inl (F 31)))) (hA32 : ws[32]? = some (ad 32, .inl (cI, 8, .inl (F 32)))) (hA33 : ws[33]? = some (ad 33, .inl (cI, 8, .inl (F 33)))) (x no : Int32) (hX : ¬ uK x (nI 8)) {cf ct : Nat} (hcf : F 32 x.toNatClampNeg = nI cf) (hct : F 33 x.toNatClampNeg = nI ct) (hcn : cf ≤ ct ∧ ct < 60) : Met l yX8_isOpen wsX8_isOpen ({ frames := 1, cells := 0, slots := 0, locals := 24 }) (pcR G tys ws [.ref am, .int x, .int no]) (vp_Si (fun r => r = kOpen F x no cf (ct + 1 - cf))) 0 0 (fun _ => False) := by
  refine ofR (cc := cX8_isOpen) (maxL := 6) (ret := some .boolean) (by decide) rfl (Nat.le_of_ble_eq_true rfl) ?_
  intro p e s m below meth c ls hx hb hr hlocks hml hown hts hl hP hK
  have hown : s.vm.findClass RX8 = some m.cls := hown
  have hiX8 : ∀ w ∈ u_ws RX8 TX8 39, w ∈ wsX8_isOpen := fun _ h => List.mem_cons_of_mem _ (List.mem_append_right _ h)
  have hl : lv_has ls 6 [(0, .ref am), (1, .int x), (2, .int no)] := hl
  refine lv_iconst (v := 0) hx hb dX8_isOpen_0 (by decide) ?_
  refine lv_istore_n (lv' := [(3, .int (0 : Int32)), (0, .ref am), (1, .int x), (2, .int no)]) hx hb dX8_isOpen_1 rfl hl (by decide) rfl (fun ls hl => ?_)
  refine lv_aload_n hx hb dX8_isOpen_2 rfl (lv_at hl 1 rfl) ?_
  refine va_get (D := G) (ci := 9) (v := .ref (ad 32)) (C := RX8) (T := TX8) (N := 39) hx hb hts hiX8 hown hK hP 12 hm rfl 35 (by decide) (hts (.fieldLink RX8 74 "VortexpinModel" "claimFrom" "[I") (List.mem_of_getElem? (i := 1) rfl)) (fun _ h9 => h9) rfl dX8_isOpen_3 ?_
  refine lv_iload_n hx hb dX8_isOpen_6 rfl (lv_at hl 2 rfl) ?_
  refine va_iald hx hb hK hP 32 0 hA32 htI (vp_uK hX) dX8_isOpen_7 ?_
  refine lv_istore (lv' := [(4, .int ((F 32) x.toNatClampNeg)), (3, .int (0 : Int32)), (0, .ref am), (1, .int x), (2, .int no)]) hx hb dX8_isOpen_8 hl (by decide) rfl (fun ls hl => ?_)
  rw [hcf] at hl
  have hl : lv_has ls 6 [(4, .int (nI (cf + 0))), (3, .int ((kOut F x no cf (ct + 1 - cf) 0).1)), (0, .ref am), (1, .int x), (2, .int no)] := hl
  refine loopR (ct + 1 - cf) 10 6 (fun i => [(0, .ref am), (1, .int x), (2, .int no), (3, .int ((kOut F x no cf (ct + 1 - cf) i).1)), (4, .int (nI (cf + i)))]) (fun i => (kOut F x no cf (ct + 1 - cf) i).2 = false) (fun i hNi hKi ihi ls hl => ?_) (i0 := 0) (by omega) (rfl) (lv_sub hl [2, 3, 4, 1, 0] rfl)
  have hl : lv_has ls 6 [(0, .ref am), (1, .int x), (2, .int no), (3, .int ((kOut F x no cf (ct + 1 - cf) i).1)), (4, .int (nI (cf + i)))] := hl
  refine lv_iload hx hb dX8_isOpen_10 (lv_at hl 4 rfl) ?_
  refine lv_aload_n hx hb dX8_isOpen_12 rfl (lv_at hl 0 rfl) ?_
  refine va_get (D := G) (ci := 9) (v := .ref (ad 33)) (C := RX8) (T := TX8) (N := 39) hx hb hts hiX8 hown hK hP 12 hm rfl 36 (by decide) (hts (.fieldLink RX8 77 "VortexpinModel" "claimTo" "[I") (List.mem_of_getElem? (i := 2) rfl)) (fun _ h9 => h9) rfl dX8_isOpen_13 ?_
  refine lv_iload_n hx hb dX8_isOpen_16 rfl (lv_at hl 1 rfl) ?_
  refine va_iald hx hb hK hP 33 0 hA33 htI (vp_uK hX) dX8_isOpen_17 ?_
  refine lv_icmp_gt (tgt := 92) hx hb dX8_isOpen_18 (by decide) (fun c18 => ?_) (fun c18 => ?_)
  · have heqi : i = (ct + 1 - cf) := by have h9 : ct < cf + i := Nat.lt_of_not_le (fun q => nI_nlt q (by omega) (by rw [← hct]; exact c18)); omega
    refine lv_iload_n hx hb dX8_isOpen_92 rfl (lv_at hl 3 rfl) ?_
    refine lv_if_ne (tgt := 100) hx hb dX8_isOpen_93 (by decide) (fun c93 => ?_) (fun c93 => ?_)
    · refine lv_iconst (v := 0) hx hb dX8_isOpen_100 (by decide) ?_
      exact W.zret (v := (0 : Int32)) hx hb hr (rfl) (fun t ht hW => ⟨(0 : Int32), rfl, (by unfold kOpen; rw [heqi] at hKi; rw [if_neg (by rw [hKi]; exact Bool.false_ne_true)]; rw [heqi] at c93; simp only [c93, ↓reduceIte]), ht⟩) (fun _ h => absurd h List.not_mem_nil) dX8_isOpen_101
    · refine lv_iconst (v := 1) hx hb dX8_isOpen_96 (by decide) ?_
      refine lv_goto (tgt := 101) hx hb dX8_isOpen_97 (by decide) ?_
      exact W.zret (v := (1 : Int32)) hx hb hr (rfl) (fun t ht hW => ⟨(1 : Int32), rfl, (by unfold kOpen; rw [heqi] at hKi; rw [if_neg (by rw [hKi]; exact Bool.false_ne_true)]; rw [heqi] at c93; simp only [c93, ↓reduceIte]), ht⟩) (fun _ h => absurd h List.not_mem_nil) dX8_isOpen_101
  · have hlti : i < (ct + 1 - cf) := by have := mt (nI_lt (a := ct) (b := cf + i)) (fun q => c18 (by rw [hct]; exact q (by omega))); omega
    refine lv_aload_n hx hb dX8_isOpen_21 rfl (lv_at hl 0 rfl) ?_
    refine va_get (D := G) (ci := 9) (v := .ref (ad 32)) (C := RX8) (T := TX8) (N := 39) hx hb hts hiX8 hown hK hP 12 hm rfl 35 (by decide) (hts (.fieldLink RX8 74 "VortexpinModel" "claimFrom" "[I") (List.mem_of_getElem? (i := 1) rfl)) (fun _ h9 => h9) rfl dX8_isOpen_22 ?_
    refine lv_iload_n hx hb dX8_isOpen_25 rfl (lv_at hl 1 rfl) ?_
    refine va_iald hx hb hK hP 32 0 hA32 htI (vp_uK hX) dX8_isOpen_26 ?_
    refine lv_istore (lv' := [(5, .int ((F 32) x.toNatClampNeg)), (0, .ref am), (1, .int x), (2, .int no), (3, .int ((kOut F x no cf (ct + 1 - cf) i).1)), (4, .int (nI (cf + i)))]) hx hb dX8_isOpen_27 hl (by decide) rfl (fun ls hl => ?_)
    rw [hcf] at hl
    have hl : lv_has ls 6 [(5, .int (nI (cf + 0))), (0, .ref am), (1, .int x), (2, .int no), (3, .int ((kIn F x no (kOut F x no cf (ct + 1 - cf) i).1 (cf + i) cf 0).1)), (4, .int (nI (cf + i)))] := hl
    refine loopR (ct + 1 - cf) 29 6 (fun j => [(0, .ref am), (1, .int x), (2, .int no), (3, .int ((kIn F x no (kOut F x no cf (ct + 1 - cf) i).1 (cf + i) cf j).1)), (4, .int (nI (cf + i))), (5, .int (nI (cf + j)))]) (fun j => (kIn F x no (kOut F x no cf (ct + 1 - cf) i).1 (cf + i) cf j).2 = false) (fun j hNj hKj ihj ls hl => ?_) (i0 := 0) (by omega) (rfl) (lv_sub hl [1, 2, 3, 4, 5, 0] rfl)
    have hl : lv_has ls 6 [(0, .ref am), (1, .int x), (2, .int no), (3, .int ((kIn F x no (kOut F x no cf (ct + 1 - cf) i).1 (cf + i) cf j).1)), (4, .int (nI (cf + i))), (5, .int (nI (cf + j)))] := hl
    refine lv_iload hx hb dX8_isOpen_29 (lv_at hl 5 rfl) ?_
    refine lv_aload_n hx hb dX8_isOpen_31 rfl (lv_at hl 0 rfl) ?_
    refine va_get (D := G) (ci := 9) (v := .ref (ad 33)) (C := RX8) (T := TX8) (N := 39) hx hb hts hiX8 hown hK hP 12 hm rfl 36 (by decide) (hts (.fieldLink RX8 77 "VortexpinModel" "claimTo" "[I") (List.mem_of_getElem? (i := 2) rfl)) (fun _ h9 => h9) rfl dX8_isOpen_32 ?_
    refine lv_iload_n hx hb dX8_isOpen_35 rfl (lv_at hl 1 rfl) ?_
    refine va_iald hx hb hK hP 33 0 hA33 htI (vp_uK hX) dX8_isOpen_36 ?_
    refine lv_icmp_gt (tgt := 86) hx hb dX8_isOpen_37 (by decide) (fun c37 => ?_) (fun c37 => ?_)
    · have heqj : j = (ct + 1 - cf) := by have h9 : ct < cf + j := Nat.lt_of_not_le (fun q => nI_nlt q (by omega) (by rw [← hct]; exact c37)); omega
      refine lv_iinc (v := nI (cf + i + 1)) (lv' := [(4, .int (nI (cf + i + 1))), (0, .ref am), (1, .int x), (2, .int no), (3, .int ((kIn F x no (kOut F x no cf (ct + 1 - cf) i).1 (cf + i) cf j).1)), (5, .int (nI (cf + j)))]) hx hb dX8_isOpen_86 hl (k := 4) rfl (nI_1 (cf + i)) (by decide) rfl (fun ls hl => ?_)
      refine lv_goto (tgt := 10) hx hb dX8_isOpen_89 (by decide) ?_
      have ea3 : (kIn F x no (kOut F x no cf (ct + 1 - cf) i).1 (cf + i) cf j).1 = (kOut F x no cf (ct + 1 - cf) (i + 1)).1 := by rw [kOut_in hKi, heqj]
      rw [ea3] at hl
      have ea4 : nI (cf + i + 1) = nI (cf + (i + 1)) := by rw [Nat.add_assoc]
      rw [ea4] at hl
      exact ihi ls hlti (by rw [kOut_in hKi]; rw [heqj] at hKj; exact hKj) (lv_sub hl [1, 2, 3, 4, 0] rfl)
    · have hltj : j < (ct + 1 - cf) := by have := mt (nI_lt (a := ct) (b := cf + j)) (fun q => c37 (by rw [hct]; exact q (by omega))); omega
      refine lv_aload_n hx hb dX8_isOpen_40 rfl (lv_at hl 0 rfl) ?_
      refine lv_iload_n hx hb dX8_isOpen_41 rfl (lv_at hl 1 rfl) ?_
      refine lv_iload hx hb dX8_isOpen_42 (lv_at hl 4 rfl) ?_
      refine lv_iload hx hb dX8_isOpen_44 (lv_at hl 5 rfl) ?_
      refine vp_callSi (va_Run.run (va_runV (As := [.int x, .int (nI (cf + i)), .int (nI (cf + j))]) (rest := []) ⟨hx, hb, hml, hown, hts⟩ (metX8_arePair l G tys htI _ hm hA28 hA29 hA31 x (nI (cf + i)) (nI (cf + j)) hX (uK_of (by omega) (by decide)) (uK_of (by omega) (by decide))) (cwV 3 hts gX8_isOpen_X8_arePair rfl rfl rfl (by decide +kernel) ⟨Nat.le_of_ble_eq_true rfl, Nat.le_of_ble_eq_true rfl⟩) ⟨pcR_b, va_recv hK hP (ci := 9) (q0 := 12) rfl hm, pcR_u hP hK⟩ rfl rfl hl.1 rfl (lv_room (Nat.le_of_ble_eq_true rfl)) dX8_isOpen_46 ⟨Nat.le_of_ble_eq_true rfl, Nat.le_of_ble_eq_true rfl⟩)) (fun r46 h46 => ?_)
      have h46 : r46 = mPr F x (nI (cf + i)) (nI (cf + j)) := h46
      refine lv_if_eq (tgt := 80) hx hb dX8_isOpen_49 (by decide) (fun c49 => ?_) (fun c49 => ?_)
      · refine lv_iinc (v := nI (cf + j + 1)) (lv' := [(5, .int (nI (cf + j + 1))), (0, .ref am), (1, .int x), (2, .int no), (3, .int ((kIn F x no (kOut F x no cf (ct + 1 - cf) i).1 (cf + i) cf j).1)), (4, .int (nI (cf + i)))]) hx hb dX8_isOpen_80 hl (k := 5) rfl (nI_1 (cf + j)) (by decide) rfl (fun ls hl => ?_)
        refine lv_goto (tgt := 29) hx hb dX8_isOpen_83 (by decide) ?_
        have ea3 : (kIn F x no (kOut F x no cf (ct + 1 - cf) i).1 (cf + i) cf j).1 = (kIn F x no (kOut F x no cf (ct + 1 - cf) i).1 (cf + i) cf (j + 1)).1 := by rw [kIn_no hKj (by rw [← h46]; exact c49)]
        rw [ea3] at hl
        have ea5 : nI (cf + j + 1) = nI (cf + (j + 1)) := by rw [Nat.add_assoc]
        rw [ea5] at hl
        exact ihj ls hltj (by rw [kIn_no hKj (by rw [← h46]; exact c49)]; exact hKj) (lv_sub hl [1, 2, 3, 4, 5, 0] rfl)
      · refine lv_iconst (v := 1) hx hb dX8_isOpen_52 (by decide) ?_
        refine lv_istore_n (lv' := [(3, .int (1 : Int32)), (0, .ref am), (1, .int x), (2, .int no), (4, .int (nI (cf + i))), (5, .int (nI (cf + j)))]) hx hb dX8_isOpen_53 rfl hl (by decide) rfl (fun ls hl => ?_)
        refine lv_aload_n hx hb dX8_isOpen_54 rfl (lv_at hl 1 rfl) ?_
        refine va_get (D := G) (ci := 9) (v := .ref (ad 30)) (C := RX8) (T := TX8) (N := 39) hx hb hts hiX8 hown hK hP 12 hm rfl 32 (by decide) (hts (.fieldLink RX8 68 "VortexpinModel" "voltage" "[I") (List.mem_of_getElem? (i := 3) rfl)) (fun _ h9 => h9) rfl dX8_isOpen_55 ?_
        refine lv_iload hx hb dX8_isOpen_58 (lv_at hl 4 rfl) ?_
        refine va_iald hx hb hK hP 30 0 hA30 htI (vp_in_nI (show cf + i < 60 by omega) (by omega)) dX8_isOpen_60 ?_
        refine rd_i (j := cf + i) (nI_clamp (by omega)) ?_
        refine lv_aload_n hx hb dX8_isOpen_61 rfl (lv_at hl 1 rfl) ?_
        refine va_get (D := G) (ci := 9) (v := .ref (ad 30)) (C := RX8) (T := TX8) (N := 39) hx hb hts hiX8 hown hK hP 12 hm rfl 32 (by decide) (hts (.fieldLink RX8 68 "VortexpinModel" "voltage" "[I") (List.mem_of_getElem? (i := 3) rfl)) (fun _ h9 => h9) rfl dX8_isOpen_62 ?_
        refine lv_iload hx hb dX8_isOpen_65 (lv_at hl 5 rfl) ?_
        refine va_iald hx hb hK hP 30 0 hA30 htI (vp_in_nI (show cf + j < 60 by omega) (by omega)) dX8_isOpen_67 ?_
        refine rd_i (j := cf + j) (nI_clamp (by omega)) ?_
        refine lv_isub hx hb dX8_isOpen_68 ?_
        refine vp_callSi (va_Run.run (va_runS (As := [.int (((F 30) (cf + i)) - ((F 30) (cf + j)))]) (rest := []) ⟨hx, hb, hml, hown, hts⟩ (metX8_size l (((F 30) (cf + i)) - ((F 30) (cf + j)))) (va_cwS 1 hts gX8_isOpen_X8_size rfl rfl rfl (by decide +kernel) ⟨Nat.le_of_ble_eq_true rfl, Nat.le_of_ble_eq_true rfl⟩) ⟨pc0_b, pc0_u⟩ rfl rfl hl.1 rfl (lv_room (Nat.le_of_ble_eq_true rfl)) dX8_isOpen_69 ⟨Nat.le_of_ble_eq_true rfl, Nat.le_of_ble_eq_true rfl⟩)) (fun r69 h69 => ?_)
        refine lv_iconst (v := 2) hx hb dX8_isOpen_72 (by decide) ?_
        refine lv_iload_n hx hb dX8_isOpen_73 rfl (lv_at hl 3 rfl) ?_
        refine lv_imul hx hb dX8_isOpen_74 ?_
        refine lv_icmp_le (tgt := 80) hx hb dX8_isOpen_75 (by decide) (fun c75 => ?_) (fun c75 => ?_)
        · refine lv_iinc (v := nI (cf + j + 1)) (lv' := [(5, .int (nI (cf + j + 1))), (3, .int (1 : Int32)), (0, .ref am), (1, .int x), (2, .int no), (4, .int (nI (cf + i)))]) hx hb dX8_isOpen_80 hl (k := 5) rfl (nI_1 (cf + j)) (by decide) rfl (fun ls hl => ?_)
          refine lv_goto (tgt := 29) hx hb dX8_isOpen_83 (by decide) ?_
          have ea3 : (1 : Int32) = (kIn F x no (kOut F x no cf (ct + 1 - cf) i).1 (cf + i) cf (j + 1)).1 := by subst h69; rw [kIn_near hKj (by rw [← h46]; exact c49) c75]
          rw [ea3] at hl
          have ea5 : nI (cf + j + 1) = nI (cf + (j + 1)) := by rw [Nat.add_assoc]
          rw [ea5] at hl
          exact ihj ls hltj (by subst h69; rw [kIn_near hKj (by rw [← h46]; exact c49) c75]) (lv_sub hl [2, 3, 4, 1, 5, 0] rfl)
        · refine lv_iconst (v := 1) hx hb dX8_isOpen_78 (by decide) ?_
          exact W.zret (v := (1 : Int32)) hx hb hr (rfl) (fun t ht hW => ⟨(1 : Int32), rfl, (by subst h69; have hz := kIn_far hKj (by rw [← h46]; exact c49) c75; have h1 : (kOut F x no cf (ct + 1 - cf) (i + 1)).2 = true := (by rw [kOut_in hKi]; exact kIn_stop (by rw [hz]) _ hltj); have h2 := kOut_stop h1 _ hlti; unfold kOpen; rw [if_pos h2]), ht⟩) (fun _ h => absurd h List.not_mem_nil) dX8_isOpen_79
set_option maxHeartbeats 1000000 in
set_option maxRecDepth 100000 in
theorem metX8_stop (l : Launch) (G : va_G) (tys : List (ClassId × FieldType)) {A : Nat → Prop} (ws : va_W) {am : Nat} {ad : Nat → Nat} {z : Nat → Int32} {wi dm : Int64} (hm : ws[12]? = some (am, .inr (9, mF ad z wi dm))) (k : Int32) : Met l yX8_stop wsX8_stop ({ frames := 0, cells := 0, slots := 0, locals := 0 }) (pcM G tys ws A [.ref am, .int k]) (va_Qi (fun (r : Int32) (_ : Unit) => r = 0) (fun _ t => va_P G vwCl (ws.set 12 (am, .inr (9, mF ad (upd z 0 k) wi dm))) t.heap ∧ va_D A (ws.set 12 (am, .inr (9, mF ad (upd z 0 k) wi dm)))) A) 0 0 A := by
  refine ofM (cc := cX8_stop) (maxL := 2) (ret := some .int) (by decide) rfl (Nat.le_of_ble_eq_true rfl) ?_
  intro p e s m below meth c ls hx hb hr hlocks hml hown hts hin hl hP hK hD hA hS
  have hown : s.vm.findClass RX8 = some m.cls := hown
  have hiX8 : ∀ w ∈ u_ws RX8 TX8 39, w ∈ wsX8_stop := fun _ h => List.mem_cons_of_mem _ (List.mem_append_right _ h)
  have hl : lv_has ls 2 [(0, .ref am), (1, .int k)] := hl
  refine lv_aload_n hx hb dX8_stop_0 rfl (lv_at hl 0 rfl) ?_
  refine lv_iload_n hx hb dX8_stop_1 rfl (lv_at hl 1 rfl) ?_
  refine va_put (D := G) (ci := 9) (v := .int k) (ty := .int) (C := RX8) (T := TX8) (N := 39) hx hb hts hiX8 tyX8 tyX8_ok nmX8 hown hK hP hD hS 12 hm rfl 0 (by decide) (hts (.fieldLink RX8 86 "VortexpinModel" "thrown" "I") (List.mem_of_getElem? (i := 1) rfl)) (fun _ h9 => h9) rfl (by decide +kernel) (rfl) (rfl) (Nat.le_of_ble_eq_true rfl) dX8_stop_2 (fun H locs hP hD hS => ?_)
  have hP : va_P G vwCl ((ws).set 12 (am, .inr (9, mF ad (upd z 0 k) wi dm))) H := hP
  have hD : va_D A ((ws).set 12 (am, .inr (9, mF ad (upd z 0 k) wi dm))) := hD
  have hm := va_ge (e := (am, .inr (9, mF ad (upd z 0 k) wi dm))) hm
  refine lv_iconst (v := 0) hx hb dX8_stop_5 (by decide) ?_
  have ew : (ws).set 12 (am, .inr (9, mF ad (upd z 0 k) wi dm)) = ws.set 12 (am, .inr (9, mF ad (upd z 0 k) wi dm)) := by simp only [List.set_set, ↓reduceIte]
  have hP : va_P G vwCl ((ws).set 12 (am, .inr (9, mF ad (upd z 0 k) wi dm))) H := hP
  have hD : va_D A ((ws).set 12 (am, .inr (9, mF ad (upd z 0 k) wi dm))) := hD
  rw [ew] at hP hD
  exact W.iret (v := (0 : Int32)) hx hb hr (fun t ht hW => ⟨⟨(0 : Int32), (), rfl, (rfl), by show va_P G vwCl _ t.heap ∧ va_D A _; rw [ht]; exact ⟨hP, hD⟩⟩, hS.F ht⟩) hS.2.2 dX8_stop_6
def mGo (win cel : Nat → Int32) (w to : Int32) : (Nat → Int32) × (Nat → Int32) := (if to = -1 then upd win (cel w.toNatClampNeg).toNatClampNeg (-1) else upd (upd win (cel w.toNatClampNeg).toNatClampNeg (-1)) to.toNatClampNeg w, upd cel w.toNatClampNeg to)
theorem set_aba {w : va_W} {p q : Nat} {x y x2 : Nat × va_E} (h : q ≠ p) : ((w.set p x).set q y).set p x2 = (w.set p x2).set q y := by
  rw [List.set_comm y x2 h, List.set_set]
set_option maxHeartbeats 1000000 in
set_option maxRecDepth 100000 in
theorem metX8_go (l : Launch) (G : va_G) (tys : List (ClassId × FieldType)) {cI : ClassId} (htI : tI tys cI) {A : Nat → Prop} (ws : va_W) {am : Nat} {ad : Nat → Nat} {z : Nat → Int32} {wi dm : Int64} {F : Nat → Nat → Int32} (hm : ws[12]? = some (am, .inr (9, mF ad z wi dm))) (hA19 : ws[19]? = some (ad 19, .inl (cI, 48, .inl (F 19)))) (hA20 : ws[20]? = some (ad 20, .inl (cI, 20, .inl (F 20)))) (w to : Int32) (hw : ¬ uK w 20) (hX : ¬ uK (F 20 w.toNatClampNeg) 48) (hto : ¬ to = -1 → ¬ uK to 48) : Met l yX8_go wsX8_go ({ frames := 0, cells := 0, slots := 0, locals := 0 }) (pcM G tys ws A [.ref am, .int w, .int to]) (va_Qv (fun (_ : Unit) => True) (fun _ t => va_P G vwCl ((ws.set 19 (ad 19, .inl (cI, 48, .inl ((mGo (F 19) (F 20) w to).1)))).set 20 (ad 20, .inl (cI, 20, .inl ((mGo (F 19) (F 20) w to).2)))) t.heap ∧ va_D A ((ws.set 19 (ad 19, .inl (cI, 48, .inl ((mGo (F 19) (F 20) w to).1)))).set 20 (ad 20, .inl (cI, 20, .inl ((mGo (F 19) (F 20) w to).2))))) A) 0 0 A := by
  refine ofM (cc := cX8_go) (maxL := 3) (ret := none) (by decide) rfl (Nat.le_of_ble_eq_true rfl) ?_
  intro p e s m below meth c ls hx hb hr hlocks hml hown hts hin hl hP hK hD hA hS
  have hown : s.vm.findClass RX8 = some m.cls := hown
  have hiX8 : ∀ w ∈ u_ws RX8 TX8 39, w ∈ wsX8_go := fun _ h => List.mem_cons_of_mem _ (List.mem_append_right _ h)
  have hl : lv_has ls 3 [(0, .ref am), (1, .int w), (2, .int to)] := hl
  refine lv_aload_n hx hb dX8_go_0 rfl (lv_at hl 0 rfl) ?_
  refine va_get (D := G) (ci := 9) (v := .ref (ad 19)) (C := RX8) (T := TX8) (N := 39) hx hb hts hiX8 hown hK hP 12 hm rfl 8 (by decide) (hts (.fieldLink RX8 28 "VortexpinModel" "whirlIn" "[I") (List.mem_of_getElem? (i := 1) rfl)) (fun _ h9 => h9) rfl dX8_go_1 ?_
  refine lv_aload_n hx hb dX8_go_4 rfl (lv_at hl 0 rfl) ?_
  refine va_get (D := G) (ci := 9) (v := .ref (ad 20)) (C := RX8) (T := TX8) (N := 39) hx hb hts hiX8 hown hK hP 12 hm rfl 10 (by decide) (hts (.fieldLink RX8 31 "VortexpinModel" "cellOf" "[I") (List.mem_of_getElem? (i := 2) rfl)) (fun _ h9 => h9) rfl dX8_go_5 ?_
  refine lv_iload_n hx hb dX8_go_8 rfl (lv_at hl 1 rfl) ?_
  refine va_iald hx hb hK hP 20 0 hA20 htI (vp_uK hw) dX8_go_9 ?_
  refine lv_iconst (v := -1) hx hb dX8_go_10 (by decide) ?_
  refine va_iast hx hb hK hP hD hS 19 0 hA19 htI (vp_uK hX) dX8_go_11 (fun H locs hP hD hS => ?_)
  have hm := va_gs (k := 19) (e := (ad 19, .inl (cI, 48, .inl (upd (F 19) ((F 20) w.toNatClampNeg).toNatClampNeg (-1 : Int32))))) (by decide) hm
  have hA20 := va_gs (k := 19) (e := (ad 19, .inl (cI, 48, .inl (upd (F 19) ((F 20) w.toNatClampNeg).toNatClampNeg (-1 : Int32))))) (by decide) hA20
  have hA19 := va_ge (e := (ad 19, .inl (cI, 48, .inl (upd (F 19) ((F 20) w.toNatClampNeg).toNatClampNeg (-1 : Int32))))) hA19
  refine lv_aload_n hx hb dX8_go_12 rfl (lv_at hl 0 rfl) ?_
  refine va_get (D := G) (ci := 9) (v := .ref (ad 20)) (C := RX8) (T := TX8) (N := 39) hx hb hts hiX8 hown hK hP 12 hm rfl 10 (by decide) (hts (.fieldLink RX8 31 "VortexpinModel" "cellOf" "[I") (List.mem_of_getElem? (i := 2) rfl)) (fun _ h9 => h9) rfl dX8_go_13 ?_
  refine lv_iload_n hx hb dX8_go_16 rfl (lv_at hl 1 rfl) ?_
  refine lv_iload_n hx hb dX8_go_17 rfl (lv_at hl 2 rfl) ?_
  refine va_iast hx hb hK hP hD hS 20 0 hA20 htI (vp_uK hw) dX8_go_18 (fun H locs hP hD hS => ?_)
  have hm := va_gs (k := 20) (e := (ad 20, .inl (cI, 20, .inl (upd (F 20) w.toNatClampNeg to)))) (by decide) hm
  have hA19 := va_gs (k := 20) (e := (ad 20, .inl (cI, 20, .inl (upd (F 20) w.toNatClampNeg to)))) (by decide) hA19
  have hA20 := va_ge (e := (ad 20, .inl (cI, 20, .inl (upd (F 20) w.toNatClampNeg to)))) hA20
  refine lv_iload_n hx hb dX8_go_19 rfl (lv_at hl 2 rfl) ?_
  refine lv_iconst (v := -1) hx hb dX8_go_20 (by decide) ?_
  refine lv_icmp_eq (tgt := 31) hx hb dX8_go_21 (by decide) (fun c21 => ?_) (fun c21 => ?_)
  · have ew : ((ws).set 19 (ad 19, .inl (cI, 48, .inl (upd (F 19) ((F 20) w.toNatClampNeg).toNatClampNeg (-1 : Int32))))).set 20 (ad 20, .inl (cI, 20, .inl (upd (F 20) w.toNatClampNeg to))) = (ws.set 19 (ad 19, .inl (cI, 48, .inl ((mGo (F 19) (F 20) w to).1)))).set 20 (ad 20, .inl (cI, 20, .inl ((mGo (F 19) (F 20) w to).2))) := by simp only [mGo, c21, ↓reduceIte]
    have hP : va_P G vwCl (((ws).set 19 (ad 19, .inl (cI, 48, .inl (upd (F 19) ((F 20) w.toNatClampNeg).toNatClampNeg (-1 : Int32))))).set 20 (ad 20, .inl (cI, 20, .inl (upd (F 20) w.toNatClampNeg to)))) H := hP
    have hD : va_D A (((ws).set 19 (ad 19, .inl (cI, 48, .inl (upd (F 19) ((F 20) w.toNatClampNeg).toNatClampNeg (-1 : Int32))))).set 20 (ad 20, .inl (cI, 20, .inl (upd (F 20) w.toNatClampNeg to)))) := hD
    rw [ew] at hP hD
    exact W.vret hx hb hr (fun t ht hW => ⟨⟨(), rfl, trivial, by show va_P G vwCl _ t.heap ∧ va_D A _; rw [ht]; exact ⟨hP, hD⟩⟩, hS.F ht⟩) hS.2.2 dX8_go_31
  · refine lv_aload_n hx hb dX8_go_24 rfl (lv_at hl 0 rfl) ?_
    refine va_get (D := G) (ci := 9) (v := .ref (ad 19)) (C := RX8) (T := TX8) (N := 39) hx hb hts hiX8 hown hK hP 12 hm rfl 8 (by decide) (hts (.fieldLink RX8 28 "VortexpinModel" "whirlIn" "[I") (List.mem_of_getElem? (i := 1) rfl)) (fun _ h9 => h9) rfl dX8_go_25 ?_
    refine lv_iload_n hx hb dX8_go_28 rfl (lv_at hl 2 rfl) ?_
    refine lv_iload_n hx hb dX8_go_29 rfl (lv_at hl 1 rfl) ?_
    refine va_iast hx hb hK hP hD hS 19 0 hA19 htI (vp_uK (hto c21)) dX8_go_30 (fun H locs hP hD hS => ?_)
    have hm := va_gs (k := 19) (e := (ad 19, .inl (cI, 48, .inl (upd (upd (F 19) ((F 20) w.toNatClampNeg).toNatClampNeg (-1 : Int32)) to.toNatClampNeg w)))) (by decide) hm
    have hA20 := va_gs (k := 19) (e := (ad 19, .inl (cI, 48, .inl (upd (upd (F 19) ((F 20) w.toNatClampNeg).toNatClampNeg (-1 : Int32)) to.toNatClampNeg w)))) (by decide) hA20
    have hA19 := va_ge (e := (ad 19, .inl (cI, 48, .inl (upd (upd (F 19) ((F 20) w.toNatClampNeg).toNatClampNeg (-1 : Int32)) to.toNatClampNeg w)))) hA19
    have ew : (((ws).set 19 (ad 19, .inl (cI, 48, .inl (upd (F 19) ((F 20) w.toNatClampNeg).toNatClampNeg (-1 : Int32))))).set 20 (ad 20, .inl (cI, 20, .inl (upd (F 20) w.toNatClampNeg to)))).set 19 (ad 19, .inl (cI, 48, .inl (upd (upd (F 19) ((F 20) w.toNatClampNeg).toNatClampNeg (-1 : Int32)) to.toNatClampNeg w))) = (ws.set 19 (ad 19, .inl (cI, 48, .inl ((mGo (F 19) (F 20) w to).1)))).set 20 (ad 20, .inl (cI, 20, .inl ((mGo (F 19) (F 20) w to).2))) := by rw [set_aba (by decide)]; simp only [mGo, c21, ↓reduceIte]
    have hP : va_P G vwCl ((((ws).set 19 (ad 19, .inl (cI, 48, .inl (upd (F 19) ((F 20) w.toNatClampNeg).toNatClampNeg (-1 : Int32))))).set 20 (ad 20, .inl (cI, 20, .inl (upd (F 20) w.toNatClampNeg to)))).set 19 (ad 19, .inl (cI, 48, .inl (upd (upd (F 19) ((F 20) w.toNatClampNeg).toNatClampNeg (-1 : Int32)) to.toNatClampNeg w)))) H := hP
    have hD : va_D A ((((ws).set 19 (ad 19, .inl (cI, 48, .inl (upd (F 19) ((F 20) w.toNatClampNeg).toNatClampNeg (-1 : Int32))))).set 20 (ad 20, .inl (cI, 20, .inl (upd (F 20) w.toNatClampNeg to)))).set 19 (ad 19, .inl (cI, 48, .inl (upd (upd (F 19) ((F 20) w.toNatClampNeg).toNatClampNeg (-1 : Int32)) to.toNatClampNeg w)))) := hD
    rw [ew] at hP hD
    exact W.vret hx hb hr (fun t ht hW => ⟨⟨(), rfl, trivial, by show va_P G vwCl _ t.heap ∧ va_D A _; rw [ht]; exact ⟨hP, hD⟩⟩, hS.F ht⟩) hS.2.2 dX8_go_31
