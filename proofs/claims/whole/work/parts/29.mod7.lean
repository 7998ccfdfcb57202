theorem upd_3 {f : Nat → Int32} {a b c a2 b2 c2 : Int32} : upd (upd (upd (upd (upd (upd f 21 a) 23 b) 22 c) 21 a2) 23 b2) 22 c2 = upd (upd (upd f 21 a2) 23 b2) 22 c2 := by
  funext j
  unfold upd
  by_cases h1 : j = 22
  · simp only [h1, ↓reduceIte]
  · by_cases h2 : j = 23
    · simp only [h2, ↓reduceIte]
    · by_cases h3 : j = 21
      · simp only [h3, ↓reduceIte]
      · simp only [h1, h2, h3, ↓reduceIte]
/-- the reference's pulse: its rows, current, dumped, in a row, wire, dump -/
def mPul (σ : cS) : cS :=
  (cCp (cSpr (if σ.2.2.2.1 = 0 then σ.2.2.1 else cCur σ.2.2.1) σ.1 σ.2.1 12) σ.1 12, cSpr (if σ.2.2.2.1 = 0 then σ.2.2.1 else cCur σ.2.2.1) σ.1 σ.2.1 12, (if σ.2.2.2.1 = 0 then σ.2.2.1 else cCur σ.2.2.1),
    (if σ.2.2.2.1 = 0 then (if cIr (if σ.2.2.2.1 = 0 then σ.2.2.1 else cCur σ.2.2.1) σ.2.2.2.2.1 (cCp (cSpr (if σ.2.2.2.1 = 0 then σ.2.2.1 else cCur σ.2.2.1) σ.1 σ.2.1 12) σ.1 12) < 3 then 0 else 1) else 1),
    cIr (if σ.2.2.2.1 = 0 then σ.2.2.1 else cCur σ.2.2.1) σ.2.2.2.2.1 (cCp (cSpr (if σ.2.2.2.1 = 0 then σ.2.2.1 else cCur σ.2.2.1) σ.1 σ.2.1 12) σ.1 12),
    (if σ.2.2.2.1 = 0 then σ.2.2.2.2.2.1 else σ.2.2.2.2.2.1 + cWir σ.2.2.1 σ.1), (if σ.2.2.2.1 = 0 then σ.2.2.2.2.2.2 else σ.2.2.2.2.2.2 + (cLost σ.2.2.1 - cWir σ.2.2.1 σ.1)))
def mIt (σ : cS) : Nat → cS
  | 0 => σ
  | k + 1 => mPul (mIt σ k)
def mZ (z : Nat → Int32) (σ : cS) : Nat → Int32 := upd (upd (upd z 21 σ.2.2.1) 23 σ.2.2.2.2.1) 22 σ.2.2.2.1
def mW (ws : va_W) (cI : ClassId) (am : Nat) (ad : Nat → Nat) (z : Nat → Int32) (σ : cS) : va_W :=
  ((ws.set 27 (ad 27, .inl (cI, 12, .inl σ.2.1))).set 26 (ad 26, .inl (cI, 12, .inl σ.1))).set 12 (am, .inr (9, mF ad (mZ z σ) σ.2.2.2.2.2.1 σ.2.2.2.2.2.2))
theorem mW_m {ws : va_W} {cI : ClassId} {am : Nat} {ad : Nat → Nat} {z : Nat → Int32} {σ : cS} {x : Nat × va_E} (h : ws[12]? = some x) : (mW ws cI am ad z σ)[12]? = some (am, .inr (9, mF ad (mZ z σ) σ.2.2.2.2.2.1 σ.2.2.2.2.2.2)) := va_ge (va_gs (by decide) (va_gs (by decide) h))
theorem mW_26 {ws : va_W} {cI : ClassId} {am : Nat} {ad : Nat → Nat} {z : Nat → Int32} {σ : cS} {x : Nat × va_E} (h : ws[26]? = some x) : (mW ws cI am ad z σ)[26]? = some (ad 26, .inl (cI, 12, .inl σ.1)) := va_gs (by decide) (va_ge (va_gs (by decide) h))
theorem mW_27 {ws : va_W} {cI : ClassId} {am : Nat} {ad : Nat → Nat} {z : Nat → Int32} {σ : cS} {x : Nat × va_E} (h : ws[27]? = some x) : (mW ws cI am ad z σ)[27]? = some (ad 27, .inl (cI, 12, .inl σ.2.1)) := va_gs (by decide) (va_gs (by decide) (va_ge h))
theorem mW_D {A : Nat → Prop} {ws : va_W} {cI : ClassId} {am : Nat} {ad : Nat → Nat} {z z2 : Nat → Int32} {σ σ2 : cS} {x y u : Nat × va_E} (h1 : ws[12]? = some x) (h2 : ws[26]? = some y) (h3 : ws[27]? = some u) (hD : va_D A (mW ws cI am ad z σ)) : va_D A (mW ws cI am ad z2 σ2) := by
  have d1 := hD.set (e := .inl (cI, 12, .inl σ2.2.1)) (mW_27 h3)
  have d2 := d1.set (e := .inl (cI, 12, .inl σ2.1)) (va_gs (by decide) (mW_26 h2))
  have d3 := d2.set (e := .inr (9, mF ad (mZ z2 σ2) σ2.2.2.2.2.2.1 σ2.2.2.2.2.2.2)) (va_gs (by decide) (va_gs (by decide) (mW_m h1)))
  have e : (((mW ws cI am ad z σ).set 27 (ad 27, .inl (cI, 12, .inl σ2.2.1))).set 26 (ad 26, .inl (cI, 12, .inl σ2.1))).set 12 (am, .inr (9, mF ad (mZ z2 σ2) σ2.2.2.2.2.2.1 σ2.2.2.2.2.2.2)) = mW ws cI am ad z2 σ2 := set_pul3 (by decide) (by decide) (by decide)
  rw [← e]
  exact d3
theorem metPulseM (l : Launch) (G : va_G) (tys : List (ClassId × FieldType)) {cI : ClassId} (htI : tI tys cI) {A : Nat → Prop} {am : Nat} {ad : Nat → Nat} (ws : va_W) {x y u : Nat × va_E} (h1 : ws[12]? = some x) (h2 : ws[26]? = some y) (h3 : ws[27]? = some u) (z : Nat → Int32) (σ : cS) : Met l yX8_pulseOfTime wsX8_pulseOfTime ({ frames := 3, cells := 0, slots := 0, locals := 72 }) (pcM G tys (mW ws cI am ad z σ) A [.ref am]) (va_Qv (fun (_ : Unit) => True) (fun _ t => va_P G vwCl (mW ws cI am ad z (mPul σ)) t.heap) A) 0 0 A := by
  obtain ⟨pt, th, cur, du, ir, wi, dm⟩ := σ
  have hm := mW_m (cI := cI) (am := am) (ad := ad) (z := z) (σ := (pt, th, cur, du, ir, wi, dm)) h1
  have g26 := mW_26 (cI := cI) (am := am) (ad := ad) (z := z) (σ := (pt, th, cur, du, ir, wi, dm)) h2
  have g27 := mW_27 (cI := cI) (am := am) (ad := ad) (z := z) (σ := (pt, th, cur, du, ir, wi, dm)) h3
  obtain ⟨F, hF26, hF27⟩ : ∃ F : Nat → Nat → Int32, F 26 = pt ∧ F 27 = th := ⟨updF (updF (fun _ _ => 0) 26 pt) 27 th, rfl, rfl⟩
  obtain ⟨z1, hz, z21, z22, z23⟩ : ∃ z1 : Nat → Int32, z1 = mZ z (pt, th, cur, du, ir, wi, dm) ∧ z1 21 = cur ∧ z1 22 = du ∧ z1 23 = ir := ⟨mZ z (pt, th, cur, du, ir, wi, dm), rfl, rfl, rfl, rfl⟩
  have e : ∀ (a b : Nat → Int32) (cu du2 ir2 : Int32) (wi2 dm2 : Int64), (((mW ws cI am ad z (pt, th, cur, du, ir, wi, dm)).set 27 (ad 27, .inl (cI, 12, .inl a))).set 26 (ad 26, .inl (cI, 12, .inl b))).set 12 (am, .inr (9, mF ad (upd (upd (upd z1 21 cu) 23 ir2) 22 du2) wi2 dm2)) = mW ws cI am ad z (b, a, cu, du2, ir2, wi2, dm2) := by
    intro a b cu du2 ir2 wi2 dm2
    rw [hz]
    unfold mZ
    rw [upd_3]
    exact set_pul3 (by decide) (by decide) (by decide)
  have k := metX8_pulseOfTime l G tys htI (A := A) (mW ws cI am ad z (pt, th, cur, du, ir, wi, dm)) (z := z1) (wi := wi) (dm := dm) (F := F) (by rw [hz]; exact hm) (by rw [hF26]; exact g26) (by rw [hF27]; exact g27)
  simp only [hF26, hF27, z21, z22, z23] at k
  rw [e] at k
  simp only [mPul]
  exact met_mono k (fun _ _ q => q) (fun a s o t _ q => by
    obtain ⟨⟨u9, q1, q2, q3, -⟩, q4⟩ := q
    exact ⟨⟨u9, q1, q2, q3⟩, q4⟩)
set_option maxHeartbeats 1000000 in
set_option maxRecDepth 100000 in
theorem metX8_pass (l : Launch) (G : va_G) (tys : List (ClassId × FieldType)) {cI : ClassId} (htI : tI tys cI) {A : Nat → Prop} (ws : va_W) {am : Nat} {ad : Nat → Nat} {z : Nat → Int32} {wi dm : Int64} {F : Nat → Nat → Int32} (hm : ws[12]? = some (am, .inr (9, mF ad z wi dm))) (hA26 : ws[26]? = some (ad 26, .inl (cI, 12, .inl (F 26)))) (hA27 : ws[27]? = some (ad 27, .inl (cI, 12, .inl (F 27)))) (n : Int32) : Met l yX8_pass wsX8_pass ({ frames := 4, cells := 0, slots := 0, locals := 94 }) (pcM G tys ws A [.ref am, .int n]) (va_Qi (fun (r : Int32) (_ : Unit) => cdPass n = 0 → r = (mIt (F 26, F 27, z 21, z 22, z 23, wi, dm) n.toNatClampNeg).2.2.1) (fun _ t => va_P G vwCl (if cdPass n = 0 then mW ws cI am ad (upd z 0 0) (mIt (F 26, F 27, z 21, z 22, z 23, wi, dm) n.toNatClampNeg) else ws.set 12 (am, .inr (9, mF ad (upd z 0 (cdPass n)) wi dm))) t.heap ∧ va_D A (if cdPass n = 0 then mW ws cI am ad (upd z 0 0) (mIt (F 26, F 27, z 21, z 22, z 23, wi, dm) n.toNatClampNeg) else ws.set 12 (am, .inr (9, mF ad (upd z 0 (cdPass n)) wi dm)))) A) 0 0 A := by
  refine ofM (cc := cX8_pass) (maxL := 3) (ret := some .int) (by decide) rfl (Nat.le_of_ble_eq_true rfl) ?_
  intro p e s m below meth c ls hx hb hr hlocks hml hown hts hin hl hP hK hD hA hS
  have hown : s.vm.findClass RX8 = some m.cls := hown
  have hiX8 : ∀ w ∈ u_ws RX8 TX8 39, w ∈ wsX8_pass := fun _ h => List.mem_cons_of_mem _ (List.mem_append_right _ h)
  have hl : lv_has ls 3 [(0, .ref am), (1, .int n)] := hl
  have hm0 := hm
  have hA260 := hA26
  have hA270 := hA27
  refine lv_aload_n hx hb dX8_pass_0 rfl (lv_at hl 0 rfl) ?_
  refine lv_iconst (v := 0) hx hb dX8_pass_1 (by decide) ?_
  refine va_put (D := G) (ci := 9) (v := .int (0 : Int32)) (ty := .int) (C := RX8) (T := TX8) (N := 39) hx hb hts hiX8 tyX8 tyX8_ok nmX8 hown hK hP hD hS 12 hm rfl 0 (by decide) (hts (.fieldLink RX8 86 "VortexpinModel" "thrown" "I") (List.mem_of_getElem? (i := 1) rfl)) (fun _ h9 => h9) rfl (by decide +kernel) (rfl) (rfl) (Nat.le_of_ble_eq_true rfl) dX8_pass_2 (fun H locs hP hD hS => ?_)
  have hP : va_P G vwCl ((ws).set 12 (am, .inr (9, mF ad (upd z 0 (0 : Int32)) wi dm))) H := hP
  have hD : va_D A ((ws).set 12 (am, .inr (9, mF ad (upd z 0 (0 : Int32)) wi dm))) := hD
  have hA26 := va_gs (k := 12) (e := (am, .inr (9, mF ad (upd z 0 (0 : Int32)) wi dm))) (by decide) hA26
  have hA27 := va_gs (k := 12) (e := (am, .inr (9, mF ad (upd z 0 (0 : Int32)) wi dm))) (by decide) hA27
  have hm := va_ge (e := (am, .inr (9, mF ad (upd z 0 (0 : Int32)) wi dm))) hm
  refine lv_iload_n hx hb dX8_pass_5 rfl (lv_at hl 1 rfl) ?_
  refine lv_iconst (v := 1) hx hb dX8_pass_6 (by decide) ?_
  refine lv_bipush (v := 50) hx hb dX8_pass_7 (by decide) ?_
  refine vp_callSi (va_Run.run (va_runS (As := [.int n, .int (1 : Int32), .int (50 : Int32)]) (rest := []) ⟨hx, hb, hml, hown, hts⟩ (metX8_in l n (1 : Int32) (50 : Int32)) (va_cwS 3 hts gX8_pass_X8_in rfl rfl rfl (by decide +kernel) ⟨Nat.le_of_ble_eq_true rfl, Nat.le_of_ble_eq_true rfl⟩) ⟨pc0_b, pc0_u⟩ rfl rfl hl.1 rfl (lv_room (Nat.le_of_ble_eq_true rfl)) dX8_pass_9 ⟨Nat.le_of_ble_eq_true rfl, Nat.le_of_ble_eq_true rfl⟩)) (fun r9 h9 => ?_)
  refine lv_if_ne (tgt := 21) hx hb dX8_pass_12 (by decide) (fun c12 => ?_) (fun c12 => ?_)
  · have k0 : ¬ (oR n 1 50) := fun q9 => c12 (h9.trans (mIn_0.mpr q9))
    refine lv_iconst (v := 0) hx hb dX8_pass_21 (by decide) ?_
    refine lv_istore_n (lv' := [(2, .int (0 : Int32)), (0, .ref am), (1, .int n)]) hx hb dX8_pass_22 rfl hl (by decide) rfl (fun ls hl => ?_)
    obtain ⟨hn1, hn50⟩ := oR_ix (k := 50) k0 (by decide)
    have hz9 : mZ (upd z 0 0) (F 26, F 27, z 21, z 22, z 23, wi, dm) = upd z 0 0 := by show upd (upd (upd (upd z 0 0) 21 (upd z 0 0 21)) 23 (upd z 0 0 23)) 22 (upd z 0 0 22) = upd z 0 0; rw [upd_self, upd_self, upd_self]
    have hself : mW ws cI am ad (upd z 0 0) (mIt (F 26, F 27, z 21, z 22, z 23, wi, dm) 0) = ws.set 12 (am, .inr (9, mF ad (upd z 0 0) wi dm)) := by show ((ws.set 27 (ad 27, .inl (cI, 12, .inl (F 27)))).set 26 (ad 26, .inl (cI, 12, .inl (F 26)))).set 12 (am, .inr (9, mF ad (mZ (upd z 0 0) (F 26, F 27, z 21, z 22, z 23, wi, dm)) wi dm)) = _; rw [va_self hA270, va_self hA260, hz9]
    refine loopM n.toNatClampNeg 23 3 (fun i => [(0, .ref am), (1, .int n), (2, .int (nI i))]) (fun i => mW ws cI am ad (upd z 0 0) (mIt (F 26, F 27, z 21, z 22, z 23, wi, dm) i)) (fun i => True) (fun i hNi hKi ihi H locs ls hP hD hS hl => ?_) (i0 := 0) (by omega) (trivial) (by rw [hself]; exact hP) (by rw [hself]; exact hD) hS (lv_sub hl [1, 2, 0] rfl)
    have hl : lv_has ls 3 [(0, .ref am), (1, .int n), (2, .int (nI i))] := hl
    have hP : va_P G vwCl (mW ws cI am ad (upd z 0 0) (mIt (F 26, F 27, z 21, z 22, z 23, wi, dm) i)) H := hP
    have hD : va_D A (mW ws cI am ad (upd z 0 0) (mIt (F 26, F 27, z 21, z 22, z 23, wi, dm) i)) := hD
    have hm : (mW ws cI am ad (upd z 0 0) (mIt (F 26, F 27, z 21, z 22, z 23, wi, dm) i))[12]? = _ := mW_m hm0
    refine lv_iload_n hx hb dX8_pass_23 rfl (lv_at hl 2 rfl) ?_
    refine lv_iload_n hx hb dX8_pass_24 rfl (lv_at hl 1 rfl) ?_
    refine lv_icmp_ge (tgt := 38) hx hb dX8_pass_25 (by decide) (fun c25 => ?_) (fun c25 => ?_)
    · have heqi : i = n.toNatClampNeg := by rw [hn1] at c25; exact Nat.le_antisymm hNi ((nI_leI (by omega) (by omega)).mp c25)
      rw [heqi] at hP hD hm
      refine lv_aload_n hx hb dX8_pass_38 rfl (lv_at hl 0 rfl) ?_
      refine va_get (D := G) (ci := 9) (v := .int ((mIt (F 26, F 27, z 21, z 22, z 23, wi, dm) n.toNatClampNeg).2.2.1)) (C := RX8) (T := TX8) (N := 39) hx hb hts hiX8 hown hK hP 12 hm rfl 21 (by decide) (hts (.fieldLink RX8 147 "VortexpinModel" "current" "I") (List.mem_of_getElem? (i := 2) rfl)) (fun _ h9 => h9) rfl dX8_pass_39 ?_
      have hcd : cdPass n = 0 := by unfold cdPass; rw [if_neg k0]
      have ew : mW ws cI am ad (upd z 0 0) (mIt (F 26, F 27, z 21, z 22, z 23, wi, dm) n.toNatClampNeg) = (if cdPass n = 0 then mW ws cI am ad (upd z 0 0) (mIt (F 26, F 27, z 21, z 22, z 23, wi, dm) n.toNatClampNeg) else ws.set 12 (am, .inr (9, mF ad (upd z 0 (cdPass n)) wi dm))) := by rw [hcd, if_pos rfl]
      have hP : va_P G vwCl (mW ws cI am ad (upd z 0 0) (mIt (F 26, F 27, z 21, z 22, z 23, wi, dm) n.toNatClampNeg)) H := hP
      have hD : va_D A (mW ws cI am ad (upd z 0 0) (mIt (F 26, F 27, z 21, z 22, z 23, wi, dm) n.toNatClampNeg)) := hD
      rw [ew] at hP hD
      exact W.iret (v := (mIt (F 26, F 27, z 21, z 22, z 23, wi, dm) n.toNatClampNeg).2.2.1) hx hb hr (fun t ht hW => ⟨⟨(mIt (F 26, F 27, z 21, z 22, z 23, wi, dm) n.toNatClampNeg).2.2.1, (), rfl, (fun _ => rfl), by show va_P G vwCl _ t.heap ∧ va_D A _; rw [ht]; exact ⟨hP, hD⟩⟩, hS.F ht⟩) hS.2.2 dX8_pass_42
    · have hlti : i < n.toNatClampNeg := by rw [hn1] at c25; exact Nat.lt_of_not_le (mt (nI_leI (by omega) (by omega)).mpr c25)
      refine lv_aload_n hx hb dX8_pass_28 rfl (lv_at hl 0 rfl) ?_
      refine va_callv (va_runV (As := []) (rest := []) ⟨hx, hb, hml, hown, hts⟩ (metPulseM l G tys htI (A := A) ws hm0 hA260 hA270 (upd z 0 0) (mIt (F 26, F 27, z 21, z 22, z 23, wi, dm) i)) (cwV 0 hts gX8_pass_X8_pulseOfTime rfl rfl rfl (by decide +kernel) ⟨Nat.le_of_ble_eq_true rfl, Nat.le_of_ble_eq_true rfl⟩) ⟨pcM_b, va_recv hK hP (ci := 9) (q0 := 12) rfl hm, pcM_u hP hK hD hS hA⟩ rfl rfl hl.1 rfl (lv_room (Nat.le_of_ble_eq_true rfl)) dX8_pass_29 ⟨Nat.le_of_ble_eq_true rfl, Nat.le_of_ble_eq_true rfl⟩) hS (fun q _ h => h) (fun q h => h) (fun u t H locs ht hvm hu hB hsz hk1 hS => ?_)
      rw [ht] at hB
      have hP : va_P G vwCl (mW ws cI am ad (upd z 0 0) (mIt (F 26, F 27, z 21, z 22, z 23, wi, dm) (i + 1))) H := hB
      have hD : va_D A (mW ws cI am ad (upd z 0 0) (mIt (F 26, F 27, z 21, z 22, z 23, wi, dm) (i + 1))) := mW_D hm0 hA260 hA270 hD
      refine lv_iinc (v := nI (i + 1)) (lv' := [(2, .int (nI (i + 1))), (0, .ref am), (1, .int n)]) hx hb dX8_pass_32 hl (k := 2) rfl (nI_1 i) (by decide) rfl (fun ls hl => ?_)
      refine lv_goto (tgt := 23) hx hb dX8_pass_35 (by decide) ?_
      have ew : mW ws cI am ad (upd z 0 0) (mIt (F 26, F 27, z 21, z 22, z 23, wi, dm) (i + 1)) = mW ws cI am ad (upd z 0 0) (mIt (F 26, F 27, z 21, z 22, z 23, wi, dm) (i + 1)) := rfl
      have hP : va_P G vwCl (mW ws cI am ad (upd z 0 0) (mIt (F 26, F 27, z 21, z 22, z 23, wi, dm) (i + 1))) H := hP
      have hD : va_D A (mW ws cI am ad (upd z 0 0) (mIt (F 26, F 27, z 21, z 22, z 23, wi, dm) (i + 1))) := hD
      rw [ew] at hP hD
      exact ihi H _ ls hlti (trivial) hP hD hS (lv_sub hl [1, 2, 0] rfl)
  · have hbd : oR n 1 50 := mIn_0.mp (h9.symm.trans c12)
    skip
    refine lv_aload_n hx hb dX8_pass_15 rfl (lv_at hl 0 rfl) ?_
    refine lv_iconst (v := 1) hx hb dX8_pass_16 (by decide) ?_
    refine va_calli (va_runV (As := [.int (1 : Int32)]) (rest := []) ⟨hx, hb, hml, hown, hts⟩ (metX8_stop l G tys _ hm (1 : Int32)) (cwV 1 hts gX8_pass_X8_stop rfl rfl rfl (by decide +kernel) ⟨Nat.le_of_ble_eq_true rfl, Nat.le_of_ble_eq_true rfl⟩) ⟨pcM_b, va_recv hK hP (ci := 9) (q0 := 12) rfl hm, pcM_u hP hK hD hS hA⟩ rfl rfl hl.1 rfl (lv_room (Nat.le_of_ble_eq_true rfl)) dX8_pass_17 ⟨Nat.le_of_ble_eq_true rfl, Nat.le_of_ble_eq_true rfl⟩) hS (fun q _ h => h) (fun q h => h) (fun r17 u t H locs ht hvm h17 hB hsz hk1 hS => ?_)
    rw [ht] at hB
    have hB := hB.1
    have hD := hD.set (e := .inr (9, mF ad (upd (upd z 0 (0 : Int32)) 0 (1 : Int32)) wi dm)) hm
    have hA26 := va_gs (k := 12) (e := (am, .inr (9, mF ad (upd (upd z 0 (0 : Int32)) 0 (1 : Int32)) wi dm))) (by decide) hA26
    have hA27 := va_gs (k := 12) (e := (am, .inr (9, mF ad (upd (upd z 0 (0 : Int32)) 0 (1 : Int32)) wi dm))) (by decide) hA27
    have hm := va_ge (e := (am, .inr (9, mF ad (upd (upd z 0 (0 : Int32)) 0 (1 : Int32)) wi dm))) hm
    have hP : va_P G vwCl (((ws).set 12 (am, .inr (9, mF ad (upd z 0 (0 : Int32)) wi dm))).set 12 (am, .inr (9, mF ad (upd (upd z 0 (0 : Int32)) 0 (1 : Int32)) wi dm))) H := hB
    have hD : va_D A (((ws).set 12 (am, .inr (9, mF ad (upd z 0 (0 : Int32)) wi dm))).set 12 (am, .inr (9, mF ad (upd (upd z 0 (0 : Int32)) 0 (1 : Int32)) wi dm))) := hD
    have hcd : cdPass n = 1 := by unfold cdPass; rw [if_pos hbd]
    have ew : ((ws).set 12 (am, .inr (9, mF ad (upd z 0 (0 : Int32)) wi dm))).set 12 (am, .inr (9, mF ad (upd (upd z 0 (0 : Int32)) 0 (1 : Int32)) wi dm)) = (if cdPass n = 0 then mW ws cI am ad (upd z 0 0) (mIt (F 26, F 27, z 21, z 22, z 23, wi, dm) n.toNatClampNeg) else ws.set 12 (am, .inr (9, mF ad (upd z 0 (cdPass n)) wi dm))) := by rw [hcd, if_neg (by decide), List.set_set, upd_upd]
    have hP : va_P G vwCl (((ws).set 12 (am, .inr (9, mF ad (upd z 0 (0 : Int32)) wi dm))).set 12 (am, .inr (9, mF ad (upd (upd z 0 (0 : Int32)) 0 (1 : Int32)) wi dm))) H := hP
    have hD : va_D A (((ws).set 12 (am, .inr (9, mF ad (upd z 0 (0 : Int32)) wi dm))).set 12 (am, .inr (9, mF ad (upd (upd z 0 (0 : Int32)) 0 (1 : Int32)) wi dm))) := hD
    rw [ew] at hP hD
    exact W.iret (v := r17) hx hb hr (fun t ht hW => ⟨⟨r17, (), rfl, (fun h0 => absurd (hcd.symm.trans h0) (by decide)), by show va_P G vwCl _ t.heap ∧ va_D A _; rw [ht]; exact ⟨hP, hD⟩⟩, hS.F ht⟩) hS.2.2 dX8_pass_20
