theorem upd_upd {f : Nat → Int32} {k : Nat} {a b : Int32} : upd (upd f k a) k b = upd f k b := by
  funext j
  unfold upd
  by_cases h : j = k
  · rw [if_pos h, if_pos h]
  · rw [if_neg h, if_neg h, if_neg h]
def updF (F : Nat → Nat → Int32) (k : Nat) (g : Nat → Int32) : Nat → Nat → Int32 := fun j => if j = k then g else F j
theorem oR_uK {x a : Int32} {k : Nat} (ha : a = nI k - 1) (hk : k < 2 ^ 31) : oR x 0 a ↔ uK x (nI k) := by
  subst ha
  have e : (nI k - 1).toInt = (k : Int) - 1 := by
    rcases k with _ | k
    · decide
    · rw [nI_m1, nI_toInt (by omega)]; omega
  have e2 : (nI k).toInt = (k : Int) := nI_toInt hk
  unfold oR uK
  rw [Int32.lt_iff_toInt_lt (x := nI k - 1), Int32.le_iff_toInt_le, e, e2]
  constructor
  · rintro (h | h)
    · exact Or.inl h
    · exact Or.inr (by omega)
  · rintro (h | h)
    · exact Or.inl h
    · exact Or.inr (by omega)
theorem full_n {n k : Nat} (hn : n ≤ k) (hk : k < 2 ^ 31) : nI n = nI k ↔ nI k ≤ nI n := by
  rw [nI_leI hk (by omega)]
  constructor
  · intro h
    have := congrArg Int32.toNatClampNeg h
    rw [nI_clamp (by omega), nI_clamp hk] at this
    omega
  · intro h
    rw [show n = k by omega]
theorem uK_le {x : Int32} {n : Nat} (h : ¬ uK x (nI n)) (hn : n < 2 ^ 31) : ¬ nI n - 1 < x := fun q => h ((oR_uK rfl hn).mp (Or.inr q))
theorem n_in {n k : Nat} (hn : n ≤ k) (hk : k < 2 ^ 31) (h : ¬ nI k ≤ nI n) : vp_in (nI n) k := vp_in_nI (by
  rw [nI_leI hk (by omega)] at h
  omega) (by omega)
theorem jmin_a {k v : Int32} (h : v ≤ k) : jmin k v = v := by
  unfold jmin
  by_cases q : v < k
  · rw [if_pos q]
  · rw [if_neg q]; exact Int32.le_antisymm (Int32.not_lt.mp q) h
theorem jmin_b {k v : Int32} (h : ¬ v ≤ k) : jmin k v = k := by
  unfold jmin
  rw [if_neg (fun q => h (Int32.le_of_lt q))]
def mTake (lo up co be bi : Int32) : Int32 := jrem (co + (if be < 5 then 0 else if lo ≤ bi then (if bi ≤ up then 1 else 2) else 0)) 65536
def mWarm (fl : Int32) : Int32 := if (fl + 500) / 1000 * 1000 ≤ fl + 500 then (fl + 500) / 1000 else (fl + 500) / 1000 - 1
theorem uK_up {x : Int32} {n k : Nat} (h : uK x (nI k)) (hn : n ≤ k) (hk : k < 2 ^ 31) : uK x (nI n) := h.elim Or.inl (fun q => Or.inr (Int32.le_trans ((nI_leI (by omega) hk).mpr hn) q))
set_option maxHeartbeats 1000000 in
set_option maxRecDepth 100000 in
theorem metX8_sample (l : Launch) (G : va_G) (tys : List (ClassId × FieldType)) {cI : ClassId} (htI : tI tys cI) {A : Nat → Prop} (ws : va_W) {am : Nat} {ad : Nat → Nat} {z : Nat → Int32} {wi dm : Int64} {F : Nat → Nat → Int32} (hm : ws[12]? = some (am, .inr (9, mF ad z wi dm))) (hA13 : ws[13]? = some (ad 13, .inl (cI, 8, .inl (F 13)))) (hA14 : ws[14]? = some (ad 14, .inl (cI, 8, .inl (F 14)))) (hA15 : ws[15]? = some (ad 15, .inl (cI, 8, .inl (F 15)))) {nS : Nat} (hz1 : z 1 = nI nS) (h60nS : nS ≤ 8) (x y w : Int32) : Met l yX8_sample wsX8_sample ({ frames := 1, cells := 0, slots := 0, locals := 22 }) (pcM G tys ws A [.ref am, .int x, .int y, .int w]) (va_Qi (fun (r : Int32) (_ : Unit) => cdSample x y w (nI nS) = 0 → r = z 1) (fun _ t => va_P G vwCl (if cdSample x y w (nI nS) = 0 then (((((ws).set 12 (am, .inr (9, mF ad (upd z 0 (0 : Int32)) wi dm))).set 13 (ad 13, .inl (cI, 8, .inl (upd (F 13) (z 1).toNatClampNeg x)))).set 14 (ad 14, .inl (cI, 8, .inl (upd (F 14) (z 1).toNatClampNeg y)))).set 15 (ad 15, .inl (cI, 8, .inl (upd (F 15) (z 1).toNatClampNeg w)))).set 12 (am, .inr (9, mF ad (upd (upd z 0 (0 : Int32)) 1 ((z 1) + (1 : Int32))) wi dm)) else ws.set 12 (am, .inr (9, mF ad (upd z 0 (cdSample x y w (nI nS))) wi dm))) t.heap ∧ va_D A (if cdSample x y w (nI nS) = 0 then (((((ws).set 12 (am, .inr (9, mF ad (upd z 0 (0 : Int32)) wi dm))).set 13 (ad 13, .inl (cI, 8, .inl (upd (F 13) (z 1).toNatClampNeg x)))).set 14 (ad 14, .inl (cI, 8, .inl (upd (F 14) (z 1).toNatClampNeg y)))).set 15 (ad 15, .inl (cI, 8, .inl (upd (F 15) (z 1).toNatClampNeg w)))).set 12 (am, .inr (9, mF ad (upd (upd z 0 (0 : Int32)) 1 ((z 1) + (1 : Int32))) wi dm)) else ws.set 12 (am, .inr (9, mF ad (upd z 0 (cdSample x y w (nI nS))) wi dm)))) A) 0 0 A := by
  refine ofM (cc := cX8_sample) (maxL := 4) (ret := some .int) (by decide) rfl (Nat.le_of_ble_eq_true rfl) ?_
  intro p e s m below meth c ls hx hb hr hlocks hml hown hts hin hl hP hK hD hA hS
  have hown : s.vm.findClass RX8 = some m.cls := hown
  have hiX8 : ∀ w ∈ u_ws RX8 TX8 39, w ∈ wsX8_sample := fun _ h => List.mem_cons_of_mem _ (List.mem_append_right _ h)
  have hl : lv_has ls 4 [(0, .ref am), (1, .int x), (2, .int y), (3, .int w)] := hl
  refine lv_aload_n hx hb dX8_sample_0 rfl (lv_at hl 0 rfl) ?_
  refine lv_iconst (v := 0) hx hb dX8_sample_1 (by decide) ?_
  refine va_put (D := G) (ci := 9) (v := .int (0 : Int32)) (ty := .int) (C := RX8) (T := TX8) (N := 39) hx hb hts hiX8 tyX8 tyX8_ok nmX8 hown hK hP hD hS 12 hm rfl 0 (by decide) (hts (.fieldLink RX8 86 "VortexpinModel" "thrown" "I") (List.mem_of_getElem? (i := 1) rfl)) (fun _ h9 => h9) rfl (by decide +kernel) (rfl) (rfl) (Nat.le_of_ble_eq_true rfl) dX8_sample_2 (fun H locs hP hD hS => ?_)
  have hP : va_P G vwCl ((ws).set 12 (am, .inr (9, mF ad (upd z 0 (0 : Int32)) wi dm))) H := hP
  have hD : va_D A ((ws).set 12 (am, .inr (9, mF ad (upd z 0 (0 : Int32)) wi dm))) := hD
  have hA13 := va_gs (k := 12) (e := (am, .inr (9, mF ad (upd z 0 (0 : Int32)) wi dm))) (by decide) hA13
  have hA14 := va_gs (k := 12) (e := (am, .inr (9, mF ad (upd z 0 (0 : Int32)) wi dm))) (by decide) hA14
  have hA15 := va_gs (k := 12) (e := (am, .inr (9, mF ad (upd z 0 (0 : Int32)) wi dm))) (by decide) hA15
  have hm := va_ge (e := (am, .inr (9, mF ad (upd z 0 (0 : Int32)) wi dm))) hm
  refine lv_iload_n hx hb dX8_sample_5 rfl (lv_at hl 1 rfl) ?_
  refine lv_iconst (v := 1) hx hb dX8_sample_6 (by decide) ?_
  refine lv_sipush (v := 200) hx hb dX8_sample_7 (by decide) ?_
  refine vp_callSi (va_Run.run (va_runS (As := [.int x, .int (1 : Int32), .int (200 : Int32)]) (rest := []) ⟨hx, hb, hml, hown, hts⟩ (metX8_in l x (1 : Int32) (200 : Int32)) (va_cwS 3 hts gX8_sample_X8_in rfl rfl rfl (by decide +kernel) ⟨Nat.le_of_ble_eq_true rfl, Nat.le_of_ble_eq_true rfl⟩) ⟨pc0_b, pc0_u⟩ rfl rfl hl.1 rfl (lv_room (Nat.le_of_ble_eq_true rfl)) dX8_sample_10 ⟨Nat.le_of_ble_eq_true rfl, Nat.le_of_ble_eq_true rfl⟩)) (fun r10 h10 => ?_)
  refine lv_if_eq (tgt := 38) hx hb dX8_sample_13 (by decide) (fun c13 => ?_) (fun c13 => ?_)
  · have hbd : oR x 1 200 := mIn_0.mp (h10.symm.trans c13)
    skip
    refine lv_aload_n hx hb dX8_sample_38 rfl (lv_at hl 0 rfl) ?_
    refine lv_iconst (v := 1) hx hb dX8_sample_39 (by decide) ?_
    refine va_calli (va_runV (As := [.int (1 : Int32)]) (rest := []) ⟨hx, hb, hml, hown, hts⟩ (metX8_stop l G tys _ hm (1 : Int32)) (cwV 1 hts gX8_sample_X8_stop rfl rfl rfl (by decide +kernel) ⟨Nat.le_of_ble_eq_true rfl, Nat.le_of_ble_eq_true rfl⟩) ⟨pcM_b, va_recv hK hP (ci := 9) (q0 := 12) rfl hm, pcM_u hP hK hD hS hA⟩ rfl rfl hl.1 rfl (lv_room (Nat.le_of_ble_eq_true rfl)) dX8_sample_40 ⟨Nat.le_of_ble_eq_true rfl, Nat.le_of_ble_eq_true rfl⟩) hS (fun q _ h => h) (fun q h => h) (fun r40 u t H locs ht hvm h40 hB hsz hk1 hS => ?_)
    rw [ht] at hB
    have hB := hB.1
    have hD := hD.set (e := .inr (9, mF ad (upd (upd z 0 (0 : Int32)) 0 (1 : Int32)) wi dm)) hm
    have hA13 := va_gs (k := 12) (e := (am, .inr (9, mF ad (upd (upd z 0 (0 : Int32)) 0 (1 : Int32)) wi dm))) (by decide) hA13
    have hA14 := va_gs (k := 12) (e := (am, .inr (9, mF ad (upd (upd z 0 (0 : Int32)) 0 (1 : Int32)) wi dm))) (by decide) hA14
    have hA15 := va_gs (k := 12) (e := (am, .inr (9, mF ad (upd (upd z 0 (0 : Int32)) 0 (1 : Int32)) wi dm))) (by decide) hA15
    have hm := va_ge (e := (am, .inr (9, mF ad (upd (upd z 0 (0 : Int32)) 0 (1 : Int32)) wi dm))) hm
    have hP : va_P G vwCl (((ws).set 12 (am, .inr (9, mF ad (upd z 0 (0 : Int32)) wi dm))).set 12 (am, .inr (9, mF ad (upd (upd z 0 (0 : Int32)) 0 (1 : Int32)) wi dm))) H := hB
    have hD : va_D A (((ws).set 12 (am, .inr (9, mF ad (upd z 0 (0 : Int32)) wi dm))).set 12 (am, .inr (9, mF ad (upd (upd z 0 (0 : Int32)) 0 (1 : Int32)) wi dm))) := hD
    have hcd : cdSample x y w (nI nS) = 1 := by unfold cdSample; rw [if_pos hbd]
    have ew : ((ws).set 12 (am, .inr (9, mF ad (upd z 0 (0 : Int32)) wi dm))).set 12 (am, .inr (9, mF ad (upd (upd z 0 (0 : Int32)) 0 (1 : Int32)) wi dm)) = (if cdSample x y w (nI nS) = 0 then (((((ws).set 12 (am, .inr (9, mF ad (upd z 0 (0 : Int32)) wi dm))).set 13 (ad 13, .inl (cI, 8, .inl (upd (F 13) (z 1).toNatClampNeg x)))).set 14 (ad 14, .inl (cI, 8, .inl (upd (F 14) (z 1).toNatClampNeg y)))).set 15 (ad 15, .inl (cI, 8, .inl (upd (F 15) (z 1).toNatClampNeg w)))).set 12 (am, .inr (9, mF ad (upd (upd z 0 (0 : Int32)) 1 ((z 1) + (1 : Int32))) wi dm)) else ws.set 12 (am, .inr (9, mF ad (upd z 0 (cdSample x y w (nI nS))) wi dm))) := by rw [hcd, if_neg (by decide), List.set_set, upd_upd]
    have hP : va_P G vwCl (((ws).set 12 (am, .inr (9, mF ad (upd z 0 (0 : Int32)) wi dm))).set 12 (am, .inr (9, mF ad (upd (upd z 0 (0 : Int32)) 0 (1 : Int32)) wi dm))) H := hP
    have hD : va_D A (((ws).set 12 (am, .inr (9, mF ad (upd z 0 (0 : Int32)) wi dm))).set 12 (am, .inr (9, mF ad (upd (upd z 0 (0 : Int32)) 0 (1 : Int32)) wi dm))) := hD
    rw [ew] at hP hD
    exact W.iret (v := r40) hx hb hr (fun t ht hW => ⟨⟨r40, (), rfl, (fun h0 => absurd (hcd.symm.trans h0) (by decide)), by show va_P G vwCl _ t.heap ∧ va_D A _; rw [ht]; exact ⟨hP, hD⟩⟩, hS.F ht⟩) hS.2.2 dX8_sample_43
  · have k0 : ¬ (oR x 1 200) := fun q9 => c13 (h10.trans (mIn_0.mpr q9))
    refine lv_iload_n hx hb dX8_sample_16 rfl (lv_at hl 2 rfl) ?_
    refine lv_iconst (v := 1) hx hb dX8_sample_17 (by decide) ?_
    refine lv_sipush (v := 1000) hx hb dX8_sample_18 (by decide) ?_
    refine vp_callSi (va_Run.run (va_runS (As := [.int y, .int (1 : Int32), .int (1000 : Int32)]) (rest := []) ⟨hx, hb, hml, hown, hts⟩ (metX8_in l y (1 : Int32) (1000 : Int32)) (va_cwS 3 hts gX8_sample_X8_in rfl rfl rfl (by decide +kernel) ⟨Nat.le_of_ble_eq_true rfl, Nat.le_of_ble_eq_true rfl⟩) ⟨pc0_b, pc0_u⟩ rfl rfl hl.1 rfl (lv_room (Nat.le_of_ble_eq_true rfl)) dX8_sample_21 ⟨Nat.le_of_ble_eq_true rfl, Nat.le_of_ble_eq_true rfl⟩)) (fun r21 h21 => ?_)
    refine lv_if_eq (tgt := 38) hx hb dX8_sample_24 (by decide) (fun c24 => ?_) (fun c24 => ?_)
    · have hbd : oR y 1 1000 := mIn_0.mp (h21.symm.trans c24)
      skip
      refine lv_aload_n hx hb dX8_sample_38 rfl (lv_at hl 0 rfl) ?_
      refine lv_iconst (v := 1) hx hb dX8_sample_39 (by decide) ?_
      refine va_calli (va_runV (As := [.int (1 : Int32)]) (rest := []) ⟨hx, hb, hml, hown, hts⟩ (metX8_stop l G tys _ hm (1 : Int32)) (cwV 1 hts gX8_sample_X8_stop rfl rfl rfl (by decide +kernel) ⟨Nat.le_of_ble_eq_true rfl, Nat.le_of_ble_eq_true rfl⟩) ⟨pcM_b, va_recv hK hP (ci := 9) (q0 := 12) rfl hm, pcM_u hP hK hD hS hA⟩ rfl rfl hl.1 rfl (lv_room (Nat.le_of_ble_eq_true rfl)) dX8_sample_40 ⟨Nat.le_of_ble_eq_true rfl, Nat.le_of_ble_eq_true rfl⟩) hS (fun q _ h => h) (fun q h => h) (fun r40 u t H locs ht hvm h40 hB hsz hk1 hS => ?_)
      rw [ht] at hB
      have hB := hB.1
      have hD := hD.set (e := .inr (9, mF ad (upd (upd z 0 (0 : Int32)) 0 (1 : Int32)) wi dm)) hm
      have hA13 := va_gs (k := 12) (e := (am, .inr (9, mF ad (upd (upd z 0 (0 : Int32)) 0 (1 : Int32)) wi dm))) (by decide) hA13
      have hA14 := va_gs (k := 12) (e := (am, .inr (9, mF ad (upd (upd z 0 (0 : Int32)) 0 (1 : Int32)) wi dm))) (by decide) hA14
      have hA15 := va_gs (k := 12) (e := (am, .inr (9, mF ad (upd (upd z 0 (0 : Int32)) 0 (1 : Int32)) wi dm))) (by decide) hA15
      have hm := va_ge (e := (am, .inr (9, mF ad (upd (upd z 0 (0 : Int32)) 0 (1 : Int32)) wi dm))) hm
      have hP : va_P G vwCl (((ws).set 12 (am, .inr (9, mF ad (upd z 0 (0 : Int32)) wi dm))).set 12 (am, .inr (9, mF ad (upd (upd z 0 (0 : Int32)) 0 (1 : Int32)) wi dm))) H := hB
      have hD : va_D A (((ws).set 12 (am, .inr (9, mF ad (upd z 0 (0 : Int32)) wi dm))).set 12 (am, .inr (9, mF ad (upd (upd z 0 (0 : Int32)) 0 (1 : Int32)) wi dm))) := hD
      have hcd : cdSample x y w (nI nS) = 1 := by unfold cdSample; rw [if_neg k0, if_pos hbd]
      have ew : ((ws).set 12 (am, .inr (9, mF ad (upd z 0 (0 : Int32)) wi dm))).set 12 (am, .inr (9, mF ad (upd (upd z 0 (0 : Int32)) 0 (1 : Int32)) wi dm)) = (if cdSample x y w (nI nS) = 0 then (((((ws).set 12 (am, .inr (9, mF ad (upd z 0 (0 : Int32)) wi dm))).set 13 (ad 13, .inl (cI, 8, .inl (upd (F 13) (z 1).toNatClampNeg x)))).set 14 (ad 14, .inl (cI, 8, .inl (upd (F 14) (z 1).toNatClampNeg y)))).set 15 (ad 15, .inl (cI, 8, .inl (upd (F 15) (z 1).toNatClampNeg w)))).set 12 (am, .inr (9, mF ad (upd (upd z 0 (0 : Int32)) 1 ((z 1) + (1 : Int32))) wi dm)) else ws.set 12 (am, .inr (9, mF ad (upd z 0 (cdSample x y w (nI nS))) wi dm))) := by rw [hcd, if_neg (by decide), List.set_set, upd_upd]
      have hP : va_P G vwCl (((ws).set 12 (am, .inr (9, mF ad (upd z 0 (0 : Int32)) wi dm))).set 12 (am, .inr (9, mF ad (upd (upd z 0 (0 : Int32)) 0 (1 : Int32)) wi dm))) H := hP
      have hD : va_D A (((ws).set 12 (am, .inr (9, mF ad (upd z 0 (0 : Int32)) wi dm))).set 12 (am, .inr (9, mF ad (upd (upd z 0 (0 : Int32)) 0 (1 : Int32)) wi dm))) := hD
      rw [ew] at hP hD
      exact W.iret (v := r40) hx hb hr (fun t ht hW => ⟨⟨r40, (), rfl, (fun h0 => absurd (hcd.symm.trans h0) (by decide)), by show va_P G vwCl _ t.heap ∧ va_D A _; rw [ht]; exact ⟨hP, hD⟩⟩, hS.F ht⟩) hS.2.2 dX8_sample_43
    · have k1 : ¬ (oR y 1 1000) := fun q9 => c24 (h21.trans (mIn_0.mpr q9))
      refine lv_iload_n hx hb dX8_sample_27 rfl (lv_at hl 3 rfl) ?_
      refine lv_iconst (v := 1) hx hb dX8_sample_28 (by decide) ?_
      refine lv_sipush (v := 1000) hx hb dX8_sample_29 (by decide) ?_
      refine vp_callSi (va_Run.run (va_runS (As := [.int w, .int (1 : Int32), .int (1000 : Int32)]) (rest := []) ⟨hx, hb, hml, hown, hts⟩ (metX8_in l w (1 : Int32) (1000 : Int32)) (va_cwS 3 hts gX8_sample_X8_in rfl rfl rfl (by decide +kernel) ⟨Nat.le_of_ble_eq_true rfl, Nat.le_of_ble_eq_true rfl⟩) ⟨pc0_b, pc0_u⟩ rfl rfl hl.1 rfl (lv_room (Nat.le_of_ble_eq_true rfl)) dX8_sample_32 ⟨Nat.le_of_ble_eq_true rfl, Nat.le_of_ble_eq_true rfl⟩)) (fun r32 h32 => ?_)
      refine lv_if_ne (tgt := 44) hx hb dX8_sample_35 (by decide) (fun c35 => ?_) (fun c35 => ?_)
      · have k2 : ¬ (oR w 1 1000) := fun q9 => c35 (h32.trans (mIn_0.mpr q9))
        refine lv_aload_n hx hb dX8_sample_44 rfl (lv_at hl 0 rfl) ?_
        refine va_get (D := G) (ci := 9) (v := .int (z 1)) (C := RX8) (T := TX8) (N := 39) hx hb hts hiX8 hown hK hP 12 hm rfl 1 (by decide) (hts (.fieldLink RX8 97 "VortexpinModel" "samples" "I") (List.mem_of_getElem? (i := 2) rfl)) (fun _ h9 => h9) rfl dX8_sample_45 ?_
        refine lv_bipush (v := 8) hx hb dX8_sample_48 (by decide) ?_
        refine lv_icmp_ne (tgt := 59) hx hb dX8_sample_50 (by decide) (fun c50 => ?_) (fun c50 => ?_)
        · have k3 : ¬ (8 : Int32) ≤ nI nS := fun q9 => c50 (by rw [hz1]; exact (full_n h60nS (by decide)).mpr q9)
          refine lv_aload_n hx hb dX8_sample_59 rfl (lv_at hl 0 rfl) ?_
          refine va_get (D := G) (ci := 9) (v := .ref (ad 13)) (C := RX8) (T := TX8) (N := 39) hx hb hts hiX8 hown hK hP 12 hm rfl 2 (by decide) (hts (.fieldLink RX8 7 "VortexpinModel" "critical" "[I") (List.mem_of_getElem? (i := 3) rfl)) (fun _ h9 => h9) rfl dX8_sample_60 ?_
          refine lv_aload_n hx hb dX8_sample_63 rfl (lv_at hl 0 rfl) ?_
          refine va_get (D := G) (ci := 9) (v := .int (z 1)) (C := RX8) (T := TX8) (N := 39) hx hb hts hiX8 hown hK hP 12 hm rfl 1 (by decide) (hts (.fieldLink RX8 97 "VortexpinModel" "samples" "I") (List.mem_of_getElem? (i := 2) rfl)) (fun _ h9 => h9) rfl dX8_sample_64 ?_
          refine lv_iload_n hx hb dX8_sample_67 rfl (lv_at hl 1 rfl) ?_
          refine va_iast hx hb hK hP hD hS 13 0 hA13 htI (by rw [hz1]; exact n_in h60nS (by decide) k3) dX8_sample_68 (fun H locs hP hD hS => ?_)
          have hm := va_gs (k := 13) (e := (ad 13, .inl (cI, 8, .inl (upd (F 13) (z 1).toNatClampNeg x)))) (by decide) hm
          have hA14 := va_gs (k := 13) (e := (ad 13, .inl (cI, 8, .inl (upd (F 13) (z 1).toNatClampNeg x)))) (by decide) hA14
          have hA15 := va_gs (k := 13) (e := (ad 13, .inl (cI, 8, .inl (upd (F 13) (z 1).toNatClampNeg x)))) (by decide) hA15
          have hA13 := va_ge (e := (ad 13, .inl (cI, 8, .inl (upd (F 13) (z 1).toNatClampNeg x)))) hA13
          refine lv_aload_n hx hb dX8_sample_69 rfl (lv_at hl 0 rfl) ?_
          refine va_get (D := G) (ci := 9) (v := .ref (ad 14)) (C := RX8) (T := TX8) (N := 39) hx hb hts hiX8 hown hK hP 12 hm rfl 3 (by decide) (hts (.fieldLink RX8 13 "VortexpinModel" "lower" "[I") (List.mem_of_getElem? (i := 4) rfl)) (fun _ h9 => h9) rfl dX8_sample_70 ?_
          refine lv_aload_n hx hb dX8_sample_73 rfl (lv_at hl 0 rfl) ?_
          refine va_get (D := G) (ci := 9) (v := .int (z 1)) (C := RX8) (T := TX8) (N := 39) hx hb hts hiX8 hown hK hP 12 hm rfl 1 (by decide) (hts (.fieldLink RX8 97 "VortexpinModel" "samples" "I") (List.mem_of_getElem? (i := 2) rfl)) (fun _ h9 => h9) rfl dX8_sample_74 ?_
          refine lv_iload_n hx hb dX8_sample_77 rfl (lv_at hl 2 rfl) ?_
          refine va_iast hx hb hK hP hD hS 14 0 hA14 htI (by rw [hz1]; exact n_in h60nS (by decide) k3) dX8_sample_78 (fun H locs hP hD hS => ?_)
          have hm := va_gs (k := 14) (e := (ad 14, .inl (cI, 8, .inl (upd (F 14) (z 1).toNatClampNeg y)))) (by decide) hm
          have hA13 := va_gs (k := 14) (e := (ad 14, .inl (cI, 8, .inl (upd (F 14) (z 1).toNatClampNeg y)))) (by decide) hA13
          have hA15 := va_gs (k := 14) (e := (ad 14, .inl (cI, 8, .inl (upd (F 14) (z 1).toNatClampNeg y)))) (by decide) hA15
          have hA14 := va_ge (e := (ad 14, .inl (cI, 8, .inl (upd (F 14) (z 1).toNatClampNeg y)))) hA14
          refine lv_aload_n hx hb dX8_sample_79 rfl (lv_at hl 0 rfl) ?_
          refine va_get (D := G) (ci := 9) (v := .ref (ad 15)) (C := RX8) (T := TX8) (N := 39) hx hb hts hiX8 hown hK hP 12 hm rfl 4 (by decide) (hts (.fieldLink RX8 16 "VortexpinModel" "upper" "[I") (List.mem_of_getElem? (i := 5) rfl)) (fun _ h9 => h9) rfl dX8_sample_80 ?_
          refine lv_aload_n hx hb dX8_sample_83 rfl (lv_at hl 0 rfl) ?_
          refine va_get (D := G) (ci := 9) (v := .int (z 1)) (C := RX8) (T := TX8) (N := 39) hx hb hts hiX8 hown hK hP 12 hm rfl 1 (by decide) (hts (.fieldLink RX8 97 "VortexpinModel" "samples" "I") (List.mem_of_getElem? (i := 2) rfl)) (fun _ h9 => h9) rfl dX8_sample_84 ?_
          refine lv_iload_n hx hb dX8_sample_87 rfl (lv_at hl 3 rfl) ?_
          refine va_iast hx hb hK hP hD hS 15 0 hA15 htI (by rw [hz1]; exact n_in h60nS (by decide) k3) dX8_sample_88 (fun H locs hP hD hS => ?_)
          have hm := va_gs (k := 15) (e := (ad 15, .inl (cI, 8, .inl (upd (F 15) (z 1).toNatClampNeg w)))) (by decide) hm
          have hA13 := va_gs (k := 15) (e := (ad 15, .inl (cI, 8, .inl (upd (F 15) (z 1).toNatClampNeg w)))) (by decide) hA13
          have hA14 := va_gs (k := 15) (e := (ad 15, .inl (cI, 8, .inl (upd (F 15) (z 1).toNatClampNeg w)))) (by decide) hA14
          have hA15 := va_ge (e := (ad 15, .inl (cI, 8, .inl (upd (F 15) (z 1).toNatClampNeg w)))) hA15
          refine lv_aload_n hx hb dX8_sample_89 rfl (lv_at hl 0 rfl) ?_
          refine lv_dup hx hb dX8_sample_90 rfl ?_
          refine va_get (D := G) (ci := 9) (v := .int (z 1)) (C := RX8) (T := TX8) (N := 39) hx hb hts hiX8 hown hK hP 12 hm rfl 1 (by decide) (hts (.fieldLink RX8 97 "VortexpinModel" "samples" "I") (List.mem_of_getElem? (i := 2) rfl)) (fun _ h9 => h9) rfl dX8_sample_91 ?_
          refine lv_iconst (v := 1) hx hb dX8_sample_94 (by decide) ?_
          refine lv_iadd hx hb dX8_sample_95 ?_
          refine va_put (D := G) (ci := 9) (v := .int ((z 1) + (1 : Int32))) (ty := .int) (C := RX8) (T := TX8) (N := 39) hx hb hts hiX8 tyX8 tyX8_ok nmX8 hown hK hP hD hS 12 hm rfl 1 (by decide) (hts (.fieldLink RX8 97 "VortexpinModel" "samples" "I") (List.mem_of_getElem? (i := 2) rfl)) (fun _ h9 => h9) rfl (by decide +kernel) (rfl) (rfl) (Nat.le_of_ble_eq_true rfl) dX8_sample_96 (fun H locs hP hD hS => ?_)
          have hP : va_P G vwCl ((((((ws).set 12 (am, .inr (9, mF ad (upd z 0 (0 : Int32)) wi dm))).set 13 (ad 13, .inl (cI, 8, .inl (upd (F 13) (z 1).toNatClampNeg x)))).set 14 (ad 14, .inl (cI, 8, .inl (upd (F 14) (z 1).toNatClampNeg y)))).set 15 (ad 15, .inl (cI, 8, .inl (upd (F 15) (z 1).toNatClampNeg w)))).set 12 (am, .inr (9, mF ad (upd (upd z 0 (0 : Int32)) 1 ((z 1) + (1 : Int32))) wi dm))) H := hP
          have hD : va_D A ((((((ws).set 12 (am, .inr (9, mF ad (upd z 0 (0 : Int32)) wi dm))).set 13 (ad 13, .inl (cI, 8, .inl (upd (F 13) (z 1).toNatClampNeg x)))).set 14 (ad 14, .inl (cI, 8, .inl (upd (F 14) (z 1).toNatClampNeg y)))).set 15 (ad 15, .inl (cI, 8, .inl (upd (F 15) (z 1).toNatClampNeg w)))).set 12 (am, .inr (9, mF ad (upd (upd z 0 (0 : Int32)) 1 ((z 1) + (1 : Int32))) wi dm))) := hD
          have hA13 := va_gs (k := 12) (e := (am, .inr (9, mF ad (upd (upd z 0 (0 : Int32)) 1 ((z 1) + (1 : Int32))) wi dm))) (by decide) hA13
          have hA14 := va_gs (k := 12) (e := (am, .inr (9, mF ad (upd (upd z 0 (0 : Int32)) 1 ((z 1) + (1 : Int32))) wi dm))) (by decide) hA14
          have hA15 := va_gs (k := 12) (e := (am, .inr (9, mF ad (upd (upd z 0 (0 : Int32)) 1 ((z 1) + (1 : Int32))) wi dm))) (by decide) hA15
          have hm := va_ge (e := (am, .inr (9, mF ad (upd (upd z 0 (0 : Int32)) 1 ((z 1) + (1 : Int32))) wi dm))) hm
          refine lv_aload_n hx hb dX8_sample_99 rfl (lv_at hl 0 rfl) ?_
          refine va_get (D := G) (ci := 9) (v := .int ((z 1) + (1 : Int32))) (C := RX8) (T := TX8) (N := 39) hx hb hts hiX8 hown hK hP 12 hm rfl 1 (by decide) (hts (.fieldLink RX8 97 "VortexpinModel" "samples" "I") (List.mem_of_getElem? (i := 2) rfl)) (fun _ h9 => h9) rfl dX8_sample_100 ?_
          refine lv_iconst (v := 1) hx hb dX8_sample_103 (by decide) ?_
          refine lv_isub hx hb dX8_sample_104 ?_
          have hcd : cdSample x y w (nI nS) = 0 := by unfold cdSample; rw [if_neg k0, if_neg k1, if_neg k2, if_neg k3]
          have ew : (((((ws).set 12 (am, .inr (9, mF ad (upd z 0 (0 : Int32)) wi dm))).set 13 (ad 13, .inl (cI, 8, .inl (upd (F 13) (z 1).toNatClampNeg x)))).set 14 (ad 14, .inl (cI, 8, .inl (upd (F 14) (z 1).toNatClampNeg y)))).set 15 (ad 15, .inl (cI, 8, .inl (upd (F 15) (z 1).toNatClampNeg w)))).set 12 (am, .inr (9, mF ad (upd (upd z 0 (0 : Int32)) 1 ((z 1) + (1 : Int32))) wi dm)) = (if cdSample x y w (nI nS) = 0 then (((((ws).set 12 (am, .inr (9, mF ad (upd z 0 (0 : Int32)) wi dm))).set 13 (ad 13, .inl (cI, 8, .inl (upd (F 13) (z 1).toNatClampNeg x)))).set 14 (ad 14, .inl (cI, 8, .inl (upd (F 14) (z 1).toNatClampNeg y)))).set 15 (ad 15, .inl (cI, 8, .inl (upd (F 15) (z 1).toNatClampNeg w)))).set 12 (am, .inr (9, mF ad (upd (upd z 0 (0 : Int32)) 1 ((z 1) + (1 : Int32))) wi dm)) else ws.set 12 (am, .inr (9, mF ad (upd z 0 (cdSample x y w (nI nS))) wi dm))) := by rw [hcd, if_pos rfl]
          have hP : va_P G vwCl ((((((ws).set 12 (am, .inr (9, mF ad (upd z 0 (0 : Int32)) wi dm))).set 13 (ad 13, .inl (cI, 8, .inl (upd (F 13) (z 1).toNatClampNeg x)))).set 14 (ad 14, .inl (cI, 8, .inl (upd (F 14) (z 1).toNatClampNeg y)))).set 15 (ad 15, .inl (cI, 8, .inl (upd (F 15) (z 1).toNatClampNeg w)))).set 12 (am, .inr (9, mF ad (upd (upd z 0 (0 : Int32)) 1 ((z 1) + (1 : Int32))) wi dm))) H := hP
          have hD : va_D A ((((((ws).set 12 (am, .inr (9, mF ad (upd z 0 (0 : Int32)) wi dm))).set 13 (ad 13, .inl (cI, 8, .inl (upd (F 13) (z 1).toNatClampNeg x)))).set 14 (ad 14, .inl (cI, 8, .inl (upd (F 14) (z 1).toNatClampNeg y)))).set 15 (ad 15, .inl (cI, 8, .inl (upd (F 15) (z 1).toNatClampNeg w)))).set 12 (am, .inr (9, mF ad (upd (upd z 0 (0 : Int32)) 1 ((z 1) + (1 : Int32))) wi dm))) := hD
          rw [ew] at hP hD
          exact W.iret (v := ((z 1) + (1 : Int32)) - (1 : Int32)) hx hb hr (fun t ht hW => ⟨⟨((z 1) + (1 : Int32)) - (1 : Int32), (), rfl, (fun _ => Int32.add_sub_cancel _ _), by show va_P G vwCl _ t.heap ∧ va_D A _; rw [ht]; exact ⟨hP, hD⟩⟩, hS.F ht⟩) hS.2.2 dX8_sample_105
        · have hbd : (8 : Int32) ≤ nI nS := (full_n h60nS (by decide)).mp (by rw [← hz1]; exact c50)
          skip
          refine lv_aload_n hx hb dX8_sample_53 rfl (lv_at hl 0 rfl) ?_
          refine lv_iconst (v := 2) hx hb dX8_sample_54 (by decide) ?_
          refine va_calli (va_runV (As := [.int (2 : Int32)]) (rest := []) ⟨hx, hb, hml, hown, hts⟩ (metX8_stop l G tys _ hm (2 : Int32)) (cwV 1 hts gX8_sample_X8_stop rfl rfl rfl (by decide +kernel) ⟨Nat.le_of_ble_eq_true rfl, Nat.le_of_ble_eq_true rfl⟩) ⟨pcM_b, va_recv hK hP (ci := 9) (q0 := 12) rfl hm, pcM_u hP hK hD hS hA⟩ rfl rfl hl.1 rfl (lv_room (Nat.le_of_ble_eq_true rfl)) dX8_sample_55 ⟨Nat.le_of_ble_eq_true rfl, Nat.le_of_ble_eq_true rfl⟩) hS (fun q _ h => h) (fun q h => h) (fun r55 u t H locs ht hvm h55 hB hsz hk1 hS => ?_)
          rw [ht] at hB
          have hB := hB.1
          have hD := hD.set (e := .inr (9, mF ad (upd (upd z 0 (0 : Int32)) 0 (2 : Int32)) wi dm)) hm
          have hA13 := va_gs (k := 12) (e := (am, .inr (9, mF ad (upd (upd z 0 (0 : Int32)) 0 (2 : Int32)) wi dm))) (by decide) hA13
          have hA14 := va_gs (k := 12) (e := (am, .inr (9, mF ad (upd (upd z 0 (0 : Int32)) 0 (2 : Int32)) wi dm))) (by decide) hA14
          have hA15 := va_gs (k := 12) (e := (am, .inr (9, mF ad (upd (upd z 0 (0 : Int32)) 0 (2 : Int32)) wi dm))) (by decide) hA15
          have hm := va_ge (e := (am, .inr (9, mF ad (upd (upd z 0 (0 : Int32)) 0 (2 : Int32)) wi dm))) hm
          have hP : va_P G vwCl (((ws).set 12 (am, .inr (9, mF ad (upd z 0 (0 : Int32)) wi dm))).set 12 (am, .inr (9, mF ad (upd (upd z 0 (0 : Int32)) 0 (2 : Int32)) wi dm))) H := hB
          have hD : va_D A (((ws).set 12 (am, .inr (9, mF ad (upd z 0 (0 : Int32)) wi dm))).set 12 (am, .inr (9, mF ad (upd (upd z 0 (0 : Int32)) 0 (2 : Int32)) wi dm))) := hD
          have hcd : cdSample x y w (nI nS) = 2 := by unfold cdSample; rw [if_neg k0, if_neg k1, if_neg k2, if_pos hbd]
          have ew : ((ws).set 12 (am, .inr (9, mF ad (upd z 0 (0 : Int32)) wi dm))).set 12 (am, .inr (9, mF ad (upd (upd z 0 (0 : Int32)) 0 (2 : Int32)) wi dm)) = (if cdSample x y w (nI nS) = 0 then (((((ws).set 12 (am, .inr (9, mF ad (upd z 0 (0 : Int32)) wi dm))).set 13 (ad 13, .inl (cI, 8, .inl (upd (F 13) (z 1).toNatClampNeg x)))).set 14 (ad 14, .inl (cI, 8, .inl (upd (F 14) (z 1).toNatClampNeg y)))).set 15 (ad 15, .inl (cI, 8, .inl (upd (F 15) (z 1).toNatClampNeg w)))).set 12 (am, .inr (9, mF ad (upd (upd z 0 (0 : Int32)) 1 ((z 1) + (1 : Int32))) wi dm)) else ws.set 12 (am, .inr (9, mF ad (upd z 0 (cdSample x y w (nI nS))) wi dm))) := by rw [hcd, if_neg (by decide), List.set_set, upd_upd]
          have hP : va_P G vwCl (((ws).set 12 (am, .inr (9, mF ad (upd z 0 (0 : Int32)) wi dm))).set 12 (am, .inr (9, mF ad (upd (upd z 0 (0 : Int32)) 0 (2 : Int32)) wi dm))) H := hP
          have hD : va_D A (((ws).set 12 (am, .inr (9, mF ad (upd z 0 (0 : Int32)) wi dm))).set 12 (am, .inr (9, mF ad (upd (upd z 0 (0 : Int32)) 0 (2 : Int32)) wi dm))) := hD
          rw [ew] at hP hD
          exact W.iret (v := r55) hx hb hr (fun t ht hW => ⟨⟨r55, (), rfl, (fun h0 => absurd (hcd.symm.trans h0) (by decide)), by show va_P G vwCl _ t.heap ∧ va_D A _; rw [ht]; exact ⟨hP, hD⟩⟩, hS.F ht⟩) hS.2.2 dX8_sample_58
      · have hbd : oR w 1 1000 := mIn_0.mp (h32.symm.trans c35)
        skip
        refine lv_aload_n hx hb dX8_sample_38 rfl (lv_at hl 0 rfl) ?_
        refine lv_iconst (v := 1) hx hb dX8_sample_39 (by decide) ?_
        refine va_calli (va_runV (As := [.int (1 : Int32)]) (rest := []) ⟨hx, hb, hml, hown, hts⟩ (metX8_stop l G tys _ hm (1 : Int32)) (cwV 1 hts gX8_sample_X8_stop rfl rfl rfl (by decide +kernel) ⟨Nat.le_of_ble_eq_true rfl, Nat.le_of_ble_eq_true rfl⟩) ⟨pcM_b, va_recv hK hP (ci := 9) (q0 := 12) rfl hm, pcM_u hP hK hD hS hA⟩ rfl rfl hl.1 rfl (lv_room (Nat.le_of_ble_eq_true rfl)) dX8_sample_40 ⟨Nat.le_of_ble_eq_true rfl, Nat.le_of_ble_eq_true rfl⟩) hS (fun q _ h => h) (fun q h => h) (fun r40 u t H locs ht hvm h40 hB hsz hk1 hS => ?_)
        rw [ht] at hB
        have hB := hB.1
        have hD := hD.set (e := .inr (9, mF ad (upd (upd z 0 (0 : Int32)) 0 (1 : Int32)) wi dm)) hm
        have hA13 := va_gs (k := 12) (e := (am, .inr (9, mF ad (upd (upd z 0 (0 : Int32)) 0 (1 : Int32)) wi dm))) (by decide) hA13
        have hA14 := va_gs (k := 12) (e := (am, .inr (9, mF ad (upd (upd z 0 (0 : Int32)) 0 (1 : Int32)) wi dm))) (by decide) hA14
        have hA15 := va_gs (k := 12) (e := (am, .inr (9, mF ad (upd (upd z 0 (0 : Int32)) 0 (1 : Int32)) wi dm))) (by decide) hA15
        have hm := va_ge (e := (am, .inr (9, mF ad (upd (upd z 0 (0 : Int32)) 0 (1 : Int32)) wi dm))) hm
        have hP : va_P G vwCl (((ws).set 12 (am, .inr (9, mF ad (upd z 0 (0 : Int32)) wi dm))).set 12 (am, .inr (9, mF ad (upd (upd z 0 (0 : Int32)) 0 (1 : Int32)) wi dm))) H := hB
        have hD : va_D A (((ws).set 12 (am, .inr (9, mF ad (upd z 0 (0 : Int32)) wi dm))).set 12 (am, .inr (9, mF ad (upd (upd z 0 (0 : Int32)) 0 (1 : Int32)) wi dm))) := hD
        have hcd : cdSample x y w (nI nS) = 1 := by unfold cdSample; rw [if_neg k0, if_neg k1, if_pos hbd]
        have ew : ((ws).set 12 (am, .inr (9, mF ad (upd z 0 (0 : Int32)) wi dm))).set 12 (am, .inr (9, mF ad (upd (upd z 0 (0 : Int32)) 0 (1 : Int32)) wi dm)) = (if cdSample x y w (nI nS) = 0 then (((((ws).set 12 (am, .inr (9, mF ad (upd z 0 (0 : Int32)) wi dm))).set 13 (ad 13, .inl (cI, 8, .inl (upd (F 13) (z 1).toNatClampNeg x)))).set 14 (ad 14, .inl (cI, 8, .inl (upd (F 14) (z 1).toNatClampNeg y)))).set 15 (ad 15, .inl (cI, 8, .inl (upd (F 15) (z 1).toNatClampNeg w)))).set 12 (am, .inr (9, mF ad (upd (upd z 0 (0 : Int32)) 1 ((z 1) + (1 : Int32))) wi dm)) else ws.set 12 (am, .inr (9, mF ad (upd z 0 (cdSample x y w (nI nS))) wi dm))) := by rw [hcd, if_neg (by decide), List.set_set, upd_upd]
        have hP : va_P G vwCl (((ws).set 12 (am, .inr (9, mF ad (upd z 0 (0 : Int32)) wi dm))).set 12 (am, .inr (9, mF ad (upd (upd z 0 (0 : Int32)) 0 (1 : Int32)) wi dm))) H := hP
        have hD : va_D A (((ws).set 12 (am, .inr (9, mF ad (upd z 0 (0 : Int32)) wi dm))).set 12 (am, .inr (9, mF ad (upd (upd z 0 (0 : Int32)) 0 (1 : Int32)) wi dm))) := hD
        rw [ew] at hP hD
        exact W.iret (v := r40) hx hb hr (fun t ht hW => ⟨⟨r40, (), rfl, (fun h0 => absurd (hcd.symm.trans h0) (by decide)), by show va_P G vwCl _ t.heap ∧ va_D A _; rw [ht]; exact ⟨hP, hD⟩⟩, hS.F ht⟩) hS.2.2 dX8_sample_43
set_option maxHeartbeats 1000000 in
set_option maxRecDepth 100000 in
theorem metX8_set (l : Launch) (G : va_G) (tys : List (ClassId × FieldType)) {cI : ClassId} (htI : tI tys cI) {A : Nat → Prop} (ws : va_W) {am : Nat} {ad : Nat → Nat} {z : Nat → Int32} {wi dm : Int64} {F : Nat → Nat → Int32} (hm : ws[12]? = some (am, .inr (9, mF ad z wi dm))) (hA13 : ws[13]? = some (ad 13, .inl (cI, 8, .inl (F 13)))) (hA14 : ws[14]? = some (ad 14, .inl (cI, 8, .inl (F 14)))) (hA15 : ws[15]? = some (ad 15, .inl (cI, 8, .inl (F 15)))) (hA16 : ws[16]? = some (ad 16, .inl (cI, 8, .inl (F 16)))) (hA17 : ws[17]? = some (ad 17, .inl (cI, 8, .inl (F 17)))) {nS : Nat} (hz1 : z 1 = nI nS) (h60nS : nS ≤ 8) (hcc : ∀ i, i < nS → ¬ F 13 i * F 13 i = 0) (x tm f : Int32) : Met l yX8_set wsX8_set ({ frames := 1, cells := 0, slots := 0, locals := 23 }) (pcM G tys ws A [.ref am, .int x, .int tm, .int f]) (va_Qi (fun (r : Int32) (_ : Unit) => cdSet x tm f (nI nS) = 0 → r = sPh (F 13 x.toNatClampNeg) (F 14 x.toNatClampNeg) (F 15 x.toNatClampNeg) tm f) (fun _ t => va_P G vwCl (if cdSet x tm f (nI nS) = 0 then (((ws).set 12 (am, .inr (9, mF ad (upd z 0 (0 : Int32)) wi dm))).set 16 (ad 16, .inl (cI, 8, .inl (upd (F 16) x.toNatClampNeg tm)))).set 17 (ad 17, .inl (cI, 8, .inl (upd (F 17) x.toNatClampNeg f))) else ws.set 12 (am, .inr (9, mF ad (upd z 0 (cdSet x tm f (nI nS))) wi dm))) t.heap ∧ va_D A (if cdSet x tm f (nI nS) = 0 then (((ws).set 12 (am, .inr (9, mF ad (upd z 0 (0 : Int32)) wi dm))).set 16 (ad 16, .inl (cI, 8, .inl (upd (F 16) x.toNatClampNeg tm)))).set 17 (ad 17, .inl (cI, 8, .inl (upd (F 17) x.toNatClampNeg f))) else ws.set 12 (am, .inr (9, mF ad (upd z 0 (cdSet x tm f (nI nS))) wi dm)))) A) 0 0 A := by
  refine ofM (cc := cX8_set) (maxL := 5) (ret := some .int) (by decide) rfl (Nat.le_of_ble_eq_true rfl) ?_
  intro p e s m below meth c ls hx hb hr hlocks hml hown hts hin hl hP hK hD hA hS
  have hown : s.vm.findClass RX8 = some m.cls := hown
  have hiX8 : ∀ w ∈ u_ws RX8 TX8 39, w ∈ wsX8_set := fun _ h => List.mem_cons_of_mem _ (List.mem_append_right _ h)
  have hl : lv_has ls 5 [(0, .ref am), (1, .int x), (2, .int tm), (3, .int f)] := hl
  refine lv_aload_n hx hb dX8_set_0 rfl (lv_at hl 0 rfl) ?_
  refine lv_iconst (v := 0) hx hb dX8_set_1 (by decide) ?_
  refine va_put (D := G) (ci := 9) (v := .int (0 : Int32)) (ty := .int) (C := RX8) (T := TX8) (N := 39) hx hb hts hiX8 tyX8 tyX8_ok nmX8 hown hK hP hD hS 12 hm rfl 0 (by decide) (hts (.fieldLink RX8 86 "VortexpinModel" "thrown" "I") (List.mem_of_getElem? (i := 1) rfl)) (fun _ h9 => h9) rfl (by decide +kernel) (rfl) (rfl) (Nat.le_of_ble_eq_true rfl) dX8_set_2 (fun H locs hP hD hS => ?_)
  have hP : va_P G vwCl ((ws).set 12 (am, .inr (9, mF ad (upd z 0 (0 : Int32)) wi dm))) H := hP
  have hD : va_D A ((ws).set 12 (am, .inr (9, mF ad (upd z 0 (0 : Int32)) wi dm))) := hD
  have hA13 := va_gs (k := 12) (e := (am, .inr (9, mF ad (upd z 0 (0 : Int32)) wi dm))) (by decide) hA13
  have hA14 := va_gs (k := 12) (e := (am, .inr (9, mF ad (upd z 0 (0 : Int32)) wi dm))) (by decide) hA14
  have hA15 := va_gs (k := 12) (e := (am, .inr (9, mF ad (upd z 0 (0 : Int32)) wi dm))) (by decide) hA15
  have hA16 := va_gs (k := 12) (e := (am, .inr (9, mF ad (upd z 0 (0 : Int32)) wi dm))) (by decide) hA16
  have hA17 := va_gs (k := 12) (e := (am, .inr (9, mF ad (upd z 0 (0 : Int32)) wi dm))) (by decide) hA17
  have hm := va_ge (e := (am, .inr (9, mF ad (upd z 0 (0 : Int32)) wi dm))) hm
  refine lv_iload_n hx hb dX8_set_5 rfl (lv_at hl 1 rfl) ?_
  refine lv_iconst (v := 0) hx hb dX8_set_6 (by decide) ?_
  refine lv_aload_n hx hb dX8_set_7 rfl (lv_at hl 0 rfl) ?_
  refine va_get (D := G) (ci := 9) (v := .int (z 1)) (C := RX8) (T := TX8) (N := 39) hx hb hts hiX8 hown hK hP 12 hm rfl 1 (by decide) (hts (.fieldLink RX8 97 "VortexpinModel" "samples" "I") (List.mem_of_getElem? (i := 2) rfl)) (fun _ h9 => h9) rfl dX8_set_8 ?_
  refine lv_iconst (v := 1) hx hb dX8_set_11 (by decide) ?_
  refine lv_isub hx hb dX8_set_12 ?_
  refine vp_callSi (va_Run.run (va_runS (As := [.int x, .int (0 : Int32), .int ((z 1) - (1 : Int32))]) (rest := []) ⟨hx, hb, hml, hown, hts⟩ (metX8_in l x (0 : Int32) ((z 1) - (1 : Int32))) (va_cwS 3 hts gX8_set_X8_in rfl rfl rfl (by decide +kernel) ⟨Nat.le_of_ble_eq_true rfl, Nat.le_of_ble_eq_true rfl⟩) ⟨pc0_b, pc0_u⟩ rfl rfl hl.1 rfl (lv_room (Nat.le_of_ble_eq_true rfl)) dX8_set_13 ⟨Nat.le_of_ble_eq_true rfl, Nat.le_of_ble_eq_true rfl⟩)) (fun r13 h13 => ?_)
  refine lv_if_ne (tgt := 25) hx hb dX8_set_16 (by decide) (fun c16 => ?_) (fun c16 => ?_)
  · have k0 : ¬ (uK x (nI nS)) := fun q9 => c16 (h13.trans (mIn_0.mpr ((oR_uK (by rw [hz1]) (show nS < 2 ^ 31 by omega)).mpr q9)))
    refine lv_iload_n hx hb dX8_set_25 rfl (lv_at hl 2 rfl) ?_
    refine lv_iconst (v := 0) hx hb dX8_set_26 (by decide) ?_
    refine lv_sipush (v := 300) hx hb dX8_set_27 (by decide) ?_
    refine vp_callSi (va_Run.run (va_runS (As := [.int tm, .int (0 : Int32), .int (300 : Int32)]) (rest := []) ⟨hx, hb, hml, hown, hts⟩ (metX8_in l tm (0 : Int32) (300 : Int32)) (va_cwS 3 hts gX8_set_X8_in rfl rfl rfl (by decide +kernel) ⟨Nat.le_of_ble_eq_true rfl, Nat.le_of_ble_eq_true rfl⟩) ⟨pc0_b, pc0_u⟩ rfl rfl hl.1 rfl (lv_room (Nat.le_of_ble_eq_true rfl)) dX8_set_30 ⟨Nat.le_of_ble_eq_true rfl, Nat.le_of_ble_eq_true rfl⟩)) (fun r30 h30 => ?_)
    refine lv_if_eq (tgt := 49) hx hb dX8_set_33 (by decide) (fun c33 => ?_) (fun c33 => ?_)
    · have hbd : oR tm 0 300 := mIn_0.mp (h30.symm.trans c33)
      skip
      refine lv_aload_n hx hb dX8_set_49 rfl (lv_at hl 0 rfl) ?_
      refine lv_iconst (v := 2) hx hb dX8_set_50 (by decide) ?_
      refine va_calli (va_runV (As := [.int (2 : Int32)]) (rest := []) ⟨hx, hb, hml, hown, hts⟩ (metX8_stop l G tys _ hm (2 : Int32)) (cwV 1 hts gX8_set_X8_stop rfl rfl rfl (by decide +kernel) ⟨Nat.le_of_ble_eq_true rfl, Nat.le_of_ble_eq_true rfl⟩) ⟨pcM_b, va_recv hK hP (ci := 9) (q0 := 12) rfl hm, pcM_u hP hK hD hS hA⟩ rfl rfl hl.1 rfl (lv_room (Nat.le_of_ble_eq_true rfl)) dX8_set_51 ⟨Nat.le_of_ble_eq_true rfl, Nat.le_of_ble_eq_true rfl⟩) hS (fun q _ h => h) (fun q h => h) (fun r51 u t H locs ht hvm h51 hB hsz hk1 hS => ?_)
      rw [ht] at hB
      have hB := hB.1
      have hD := hD.set (e := .inr (9, mF ad (upd (upd z 0 (0 : Int32)) 0 (2 : Int32)) wi dm)) hm
      have hA13 := va_gs (k := 12) (e := (am, .inr (9, mF ad (upd (upd z 0 (0 : Int32)) 0 (2 : Int32)) wi dm))) (by decide) hA13
      have hA14 := va_gs (k := 12) (e := (am, .inr (9, mF ad (upd (upd z 0 (0 : Int32)) 0 (2 : Int32)) wi dm))) (by decide) hA14
      have hA15 := va_gs (k := 12) (e := (am, .inr (9, mF ad (upd (upd z 0 (0 : Int32)) 0 (2 : Int32)) wi dm))) (by decide) hA15
      have hA16 := va_gs (k := 12) (e := (am, .inr (9, mF ad (upd (upd z 0 (0 : Int32)) 0 (2 : Int32)) wi dm))) (by decide) hA16
      have hA17 := va_gs (k := 12) (e := (am, .inr (9, mF ad (upd (upd z 0 (0 : Int32)) 0 (2 : Int32)) wi dm))) (by decide) hA17
      have hm := va_ge (e := (am, .inr (9, mF ad (upd (upd z 0 (0 : Int32)) 0 (2 : Int32)) wi dm))) hm
      have hP : va_P G vwCl (((ws).set 12 (am, .inr (9, mF ad (upd z 0 (0 : Int32)) wi dm))).set 12 (am, .inr (9, mF ad (upd (upd z 0 (0 : Int32)) 0 (2 : Int32)) wi dm))) H := hB
      have hD : va_D A (((ws).set 12 (am, .inr (9, mF ad (upd z 0 (0 : Int32)) wi dm))).set 12 (am, .inr (9, mF ad (upd (upd z 0 (0 : Int32)) 0 (2 : Int32)) wi dm))) := hD
      have hcd : cdSet x tm f (nI nS) = 2 := by unfold cdSet; rw [if_neg k0, if_pos hbd]
      have ew : ((ws).set 12 (am, .inr (9, mF ad (upd z 0 (0 : Int32)) wi dm))).set 12 (am, .inr (9, mF ad (upd (upd z 0 (0 : Int32)) 0 (2 : Int32)) wi dm)) = (if cdSet x tm f (nI nS) = 0 then (((ws).set 12 (am, .inr (9, mF ad (upd z 0 (0 : Int32)) wi dm))).set 16 (ad 16, .inl (cI, 8, .inl (upd (F 16) x.toNatClampNeg tm)))).set 17 (ad 17, .inl (cI, 8, .inl (upd (F 17) x.toNatClampNeg f))) else ws.set 12 (am, .inr (9, mF ad (upd z 0 (cdSet x tm f (nI nS))) wi dm))) := by rw [hcd, if_neg (by decide), List.set_set, upd_upd]
      have hP : va_P G vwCl (((ws).set 12 (am, .inr (9, mF ad (upd z 0 (0 : Int32)) wi dm))).set 12 (am, .inr (9, mF ad (upd (upd z 0 (0 : Int32)) 0 (2 : Int32)) wi dm))) H := hP
      have hD : va_D A (((ws).set 12 (am, .inr (9, mF ad (upd z 0 (0 : Int32)) wi dm))).set 12 (am, .inr (9, mF ad (upd (upd z 0 (0 : Int32)) 0 (2 : Int32)) wi dm))) := hD
      rw [ew] at hP hD
      exact W.iret (v := r51) hx hb hr (fun t ht hW => ⟨⟨r51, (), rfl, (fun h0 => absurd (hcd.symm.trans h0) (by decide)), by show va_P G vwCl _ t.heap ∧ va_D A _; rw [ht]; exact ⟨hP, hD⟩⟩, hS.F ht⟩) hS.2.2 dX8_set_54
    · have k1 : ¬ (oR tm 0 300) := fun q9 => c33 (h30.trans (mIn_0.mpr q9))
      refine lv_iload_n hx hb dX8_set_36 rfl (lv_at hl 3 rfl) ?_
      refine lv_sipush (v := -1000) hx hb dX8_set_37 (by decide) ?_
      refine lv_sipush (v := 1000) hx hb dX8_set_40 (by decide) ?_
      refine vp_callSi (va_Run.run (va_runS (As := [.int f, .int (-1000 : Int32), .int (1000 : Int32)]) (rest := []) ⟨hx, hb, hml, hown, hts⟩ (metX8_in l f (-1000 : Int32) (1000 : Int32)) (va_cwS 3 hts gX8_set_X8_in rfl rfl rfl (by decide +kernel) ⟨Nat.le_of_ble_eq_true rfl, Nat.le_of_ble_eq_true rfl⟩) ⟨pc0_b, pc0_u⟩ rfl rfl hl.1 rfl (lv_room (Nat.le_of_ble_eq_true rfl)) dX8_set_43 ⟨Nat.le_of_ble_eq_true rfl, Nat.le_of_ble_eq_true rfl⟩)) (fun r43 h43 => ?_)
      refine lv_if_ne (tgt := 55) hx hb dX8_set_46 (by decide) (fun c46 => ?_) (fun c46 => ?_)
      · have k2 : ¬ (oR f (-1000) 1000) := fun q9 => c46 (h43.trans (mIn_0.mpr q9))
        refine lv_aload_n hx hb dX8_set_55 rfl (lv_at hl 0 rfl) ?_
        refine va_get (D := G) (ci := 9) (v := .ref (ad 16)) (C := RX8) (T := TX8) (N := 39) hx hb hts hiX8 hown hK hP 12 hm rfl 5 (by decide) (hts (.fieldLink RX8 19 "VortexpinModel" "warmthOf" "[I") (List.mem_of_getElem? (i := 3) rfl)) (fun _ h9 => h9) rfl dX8_set_56 ?_
        refine lv_iload_n hx hb dX8_set_59 rfl (lv_at hl 1 rfl) ?_
        refine lv_iload_n hx hb dX8_set_60 rfl (lv_at hl 2 rfl) ?_
        refine va_iast hx hb hK hP hD hS 16 0 hA16 htI (vp_uK (n := 8) (fun q9 => k0 (uK_up q9 h60nS (by decide)))) dX8_set_61 (fun H locs hP hD hS => ?_)
        have hm := va_gs (k := 16) (e := (ad 16, .inl (cI, 8, .inl (upd (F 16) x.toNatClampNeg tm)))) (by decide) hm
        have hA13 := va_gs (k := 16) (e := (ad 16, .inl (cI, 8, .inl (upd (F 16) x.toNatClampNeg tm)))) (by decide) hA13
        have hA14 := va_gs (k := 16) (e := (ad 16, .inl (cI, 8, .inl (upd (F 16) x.toNatClampNeg tm)))) (by decide) hA14
        have hA15 := va_gs (k := 16) (e := (ad 16, .inl (cI, 8, .inl (upd (F 16) x.toNatClampNeg tm)))) (by decide) hA15
        have hA17 := va_gs (k := 16) (e := (ad 16, .inl (cI, 8, .inl (upd (F 16) x.toNatClampNeg tm)))) (by decide) hA17
        have hA16 := va_ge (e := (ad 16, .inl (cI, 8, .inl (upd (F 16) x.toNatClampNeg tm)))) hA16
        refine lv_aload_n hx hb dX8_set_62 rfl (lv_at hl 0 rfl) ?_
        refine va_get (D := G) (ci := 9) (v := .ref (ad 17)) (C := RX8) (T := TX8) (N := 39) hx hb hts hiX8 hown hK hP 12 hm rfl 6 (by decide) (hts (.fieldLink RX8 22 "VortexpinModel" "field" "[I") (List.mem_of_getElem? (i := 4) rfl)) (fun _ h9 => h9) rfl dX8_set_63 ?_
        refine lv_iload_n hx hb dX8_set_66 rfl (lv_at hl 1 rfl) ?_
        refine lv_iload_n hx hb dX8_set_67 rfl (lv_at hl 3 rfl) ?_
        refine va_iast hx hb hK hP hD hS 17 0 hA17 htI (vp_uK (n := 8) (fun q9 => k0 (uK_up q9 h60nS (by decide)))) dX8_set_68 (fun H locs hP hD hS => ?_)
        have hm := va_gs (k := 17) (e := (ad 17, .inl (cI, 8, .inl (upd (F 17) x.toNatClampNeg f)))) (by decide) hm
        have hA13 := va_gs (k := 17) (e := (ad 17, .inl (cI, 8, .inl (upd (F 17) x.toNatClampNeg f)))) (by decide) hA13
        have hA14 := va_gs (k := 17) (e := (ad 17, .inl (cI, 8, .inl (upd (F 17) x.toNatClampNeg f)))) (by decide) hA14
        have hA15 := va_gs (k := 17) (e := (ad 17, .inl (cI, 8, .inl (upd (F 17) x.toNatClampNeg f)))) (by decide) hA15
        have hA16 := va_gs (k := 17) (e := (ad 17, .inl (cI, 8, .inl (upd (F 17) x.toNatClampNeg f)))) (by decide) hA16
        have hA17 := va_ge (e := (ad 17, .inl (cI, 8, .inl (upd (F 17) x.toNatClampNeg f)))) hA17
        refine lv_iload_n hx hb dX8_set_69 rfl (lv_at hl 2 rfl) ?_
        refine lv_aload_n hx hb dX8_set_70 rfl (lv_at hl 0 rfl) ?_
        refine va_get (D := G) (ci := 9) (v := .ref (ad 13)) (C := RX8) (T := TX8) (N := 39) hx hb hts hiX8 hown hK hP 12 hm rfl 2 (by decide) (hts (.fieldLink RX8 7 "VortexpinModel" "critical" "[I") (List.mem_of_getElem? (i := 5) rfl)) (fun _ h9 => h9) rfl dX8_set_71 ?_
        refine lv_iload_n hx hb dX8_set_74 rfl (lv_at hl 1 rfl) ?_
        refine va_iald hx hb hK hP 13 0 hA13 htI (vp_uK (n := 8) (fun q9 => k0 (uK_up q9 h60nS (by decide)))) dX8_set_75 ?_
        refine lv_icmp_lt (tgt := 81) hx hb dX8_set_76 (by decide) (fun c76 => ?_) (fun c76 => ?_)
        · refine lv_iload_n hx hb dX8_set_81 rfl (lv_at hl 3 rfl) ?_
          refine vp_callSi (va_Run.run (va_runS (As := [.int f]) (rest := []) ⟨hx, hb, hml, hown, hts⟩ (metX8_size l f) (va_cwS 1 hts gX8_set_X8_size rfl rfl rfl (by decide +kernel) ⟨Nat.le_of_ble_eq_true rfl, Nat.le_of_ble_eq_true rfl⟩) ⟨pc0_b, pc0_u⟩ rfl rfl hl.1 rfl (lv_room (Nat.le_of_ble_eq_true rfl)) dX8_set_82 ⟨Nat.le_of_ble_eq_true rfl, Nat.le_of_ble_eq_true rfl⟩)) (fun r82 h82 => ?_)
          refine lv_aload_n hx hb dX8_set_85 rfl (lv_at hl 0 rfl) ?_
          refine lv_iload_n hx hb dX8_set_86 rfl (lv_at hl 1 rfl) ?_
          refine lv_aload_n hx hb dX8_set_87 rfl (lv_at hl 0 rfl) ?_
          refine va_get (D := G) (ci := 9) (v := .ref (ad 14)) (C := RX8) (T := TX8) (N := 39) hx hb hts hiX8 hown hK hP 12 hm rfl 3 (by decide) (hts (.fieldLink RX8 13 "VortexpinModel" "lower" "[I") (List.mem_of_getElem? (i := 6) rfl)) (fun _ h9 => h9) rfl dX8_set_88 ?_
          refine lv_iload_n hx hb dX8_set_91 rfl (lv_at hl 1 rfl) ?_
          refine va_iald hx hb hK hP 14 0 hA14 htI (vp_uK (n := 8) (fun q9 => k0 (uK_up q9 h60nS (by decide)))) dX8_set_92 ?_
          refine vp_callSi (va_Run.run (va_runV (As := [.int x, .int ((F 14) x.toNatClampNeg)]) (rest := [.int r82]) ⟨hx, hb, hml, hown, hts⟩ (metX8_bound l G tys htI _ (F := (updF (updF F 16 (upd (F 16) x.toNatClampNeg tm)) 17 (upd (F 17) x.toNatClampNeg f))) hm hA13 hA16 x ((F 14) x.toNatClampNeg) (fun q9 => k0 (uK_up q9 h60nS (by decide))) (hcc _ (uK_ix k0).2)) (cwV 2 hts gX8_set_X8_bound rfl rfl rfl (by decide +kernel) ⟨Nat.le_of_ble_eq_true rfl, Nat.le_of_ble_eq_true rfl⟩) ⟨pcR_b, va_recv hK hP (ci := 9) (q0 := 12) rfl hm, pcR_u hP hK⟩ rfl rfl hl.1 rfl (lv_room (Nat.le_of_ble_eq_true rfl)) dX8_set_93 ⟨Nat.le_of_ble_eq_true rfl, Nat.le_of_ble_eq_true rfl⟩)) (fun r93 h93 => ?_)
          have h93 : r93 = sBd (F 13 x.toNatClampNeg) tm ((F 14) x.toNatClampNeg) := by rw [h93]; exact congrArg (fun q9 => sBd (F 13 x.toNatClampNeg) q9 ((F 14) x.toNatClampNeg)) (by unfold updF upd; simp)
          refine lv_icmp_lt (tgt := 103) hx hb dX8_set_96 (by decide) (fun c96 => ?_) (fun c96 => ?_)
          · refine lv_iconst (v := 0) hx hb dX8_set_103 (by decide) ?_
            refine lv_istore (lv' := [(4, .int (0 : Int32)), (0, .ref am), (1, .int x), (2, .int tm), (3, .int f)]) hx hb dX8_set_104 hl (by decide) rfl (fun ls hl => ?_)
            refine lv_aload_n hx hb dX8_set_106 rfl (lv_at hl 1 rfl) ?_
            refine va_get (D := G) (ci := 9) (v := .ref (ad 14)) (C := RX8) (T := TX8) (N := 39) hx hb hts hiX8 hown hK hP 12 hm rfl 3 (by decide) (hts (.fieldLink RX8 13 "VortexpinModel" "lower" "[I") (List.mem_of_getElem? (i := 6) rfl)) (fun _ h9 => h9) rfl dX8_set_107 ?_
            refine lv_iload_n hx hb dX8_set_110 rfl (lv_at hl 2 rfl) ?_
            refine va_iald hx hb hK hP 14 0 hA14 htI (vp_uK (n := 8) (fun q9 => k0 (uK_up q9 h60nS (by decide)))) dX8_set_111 ?_
            refine lv_aload_n hx hb dX8_set_112 rfl (lv_at hl 1 rfl) ?_
            refine va_get (D := G) (ci := 9) (v := .ref (ad 15)) (C := RX8) (T := TX8) (N := 39) hx hb hts hiX8 hown hK hP 12 hm rfl 4 (by decide) (hts (.fieldLink RX8 16 "VortexpinModel" "upper" "[I") (List.mem_of_getElem? (i := 7) rfl)) (fun _ h9 => h9) rfl dX8_set_113 ?_
            refine lv_iload_n hx hb dX8_set_116 rfl (lv_at hl 2 rfl) ?_
            refine va_iald hx hb hK hP 15 0 hA15 htI (vp_uK (n := 8) (fun q9 => k0 (uK_up q9 h60nS (by decide)))) dX8_set_117 ?_
            refine lv_icmp_lt (tgt := 132) hx hb dX8_set_118 (by decide) (fun c118 => ?_) (fun c118 => ?_)
            · refine lv_iload_n hx hb dX8_set_132 rfl (lv_at hl 4 rfl) ?_
              refine vp_callSi (va_Run.run (va_runS (As := [.int f]) (rest := []) ⟨hx, hb, hml, hown, hts⟩ (metX8_size l f) (va_cwS 1 hts gX8_set_X8_size rfl rfl rfl (by decide +kernel) ⟨Nat.le_of_ble_eq_true rfl, Nat.le_of_ble_eq_true rfl⟩) ⟨pc0_b, pc0_u⟩ rfl rfl hl.1 rfl (lv_room (Nat.le_of_ble_eq_true rfl)) dX8_set_133 ⟨Nat.le_of_ble_eq_true rfl, Nat.le_of_ble_eq_true rfl⟩)) (fun r133 h133 => ?_)
              refine lv_aload_n hx hb dX8_set_136 rfl (lv_at hl 1 rfl) ?_
              refine lv_iload_n hx hb dX8_set_137 rfl (lv_at hl 2 rfl) ?_
              refine lv_aload_n hx hb dX8_set_138 rfl (lv_at hl 1 rfl) ?_
              refine va_get (D := G) (ci := 9) (v := .ref (ad 15)) (C := RX8) (T := TX8) (N := 39) hx hb hts hiX8 hown hK hP 12 hm rfl 4 (by decide) (hts (.fieldLink RX8 16 "VortexpinModel" "upper" "[I") (List.mem_of_getElem? (i := 7) rfl)) (fun _ h9 => h9) rfl dX8_set_139 ?_
              refine lv_iload_n hx hb dX8_set_142 rfl (lv_at hl 2 rfl) ?_
              refine va_iald hx hb hK hP 15 0 hA15 htI (vp_uK (n := 8) (fun q9 => k0 (uK_up q9 h60nS (by decide)))) dX8_set_143 ?_
              refine vp_callSi (va_Run.run (va_runV (As := [.int x, .int ((F 15) x.toNatClampNeg)]) (rest := [.int r133]) ⟨hx, hb, hml, hown, hts⟩ (metX8_bound l G tys htI _ (F := (updF (updF F 16 (upd (F 16) x.toNatClampNeg tm)) 17 (upd (F 17) x.toNatClampNeg f))) hm hA13 hA16 x ((F 15) x.toNatClampNeg) (fun q9 => k0 (uK_up q9 h60nS (by decide))) (hcc _ (uK_ix k0).2)) (cwV 2 hts gX8_set_X8_bound rfl rfl rfl (by decide +kernel) ⟨Nat.le_of_ble_eq_true rfl, Nat.le_of_ble_eq_true rfl⟩) ⟨pcR_b, va_recv hK hP (ci := 9) (q0 := 12) rfl hm, pcR_u hP hK⟩ rfl rfl hl.1 rfl (lv_room (Nat.le_of_ble_eq_true rfl)) dX8_set_144 ⟨Nat.le_of_ble_eq_true rfl, Nat.le_of_ble_eq_true rfl⟩)) (fun r144 h144 => ?_)
              have h144 : r144 = sBd (F 13 x.toNatClampNeg) tm ((F 15) x.toNatClampNeg) := by rw [h144]; exact congrArg (fun q9 => sBd (F 13 x.toNatClampNeg) q9 ((F 15) x.toNatClampNeg)) (by unfold updF upd; simp)
              refine lv_icmp_lt (tgt := 154) hx hb dX8_set_147 (by decide) (fun c147 => ?_) (fun c147 => ?_)
              · refine lv_iload hx hb dX8_set_154 (lv_at hl 0 rfl) ?_
                refine lv_if_eq (tgt := 163) hx hb dX8_set_156 (by decide) (fun c156 => ?_) (fun c156 => absurd (by decide) c156)
                refine lv_iconst (v := 2) hx hb dX8_set_163 (by decide) ?_
                have hcd : cdSet x tm f (nI nS) = 0 := by unfold cdSet; rw [if_neg k0, if_neg k1, if_neg k2]
                have ew : (((ws).set 12 (am, .inr (9, mF ad (upd z 0 (0 : Int32)) wi dm))).set 16 (ad 16, .inl (cI, 8, .inl (upd (F 16) x.toNatClampNeg tm)))).set 17 (ad 17, .inl (cI, 8, .inl (upd (F 17) x.toNatClampNeg f))) = (if cdSet x tm f (nI nS) = 0 then (((ws).set 12 (am, .inr (9, mF ad (upd z 0 (0 : Int32)) wi dm))).set 16 (ad 16, .inl (cI, 8, .inl (upd (F 16) x.toNatClampNeg tm)))).set 17 (ad 17, .inl (cI, 8, .inl (upd (F 17) x.toNatClampNeg f))) else ws.set 12 (am, .inr (9, mF ad (upd z 0 (cdSet x tm f (nI nS))) wi dm))) := by rw [hcd, if_pos rfl]
                have hP : va_P G vwCl ((((ws).set 12 (am, .inr (9, mF ad (upd z 0 (0 : Int32)) wi dm))).set 16 (ad 16, .inl (cI, 8, .inl (upd (F 16) x.toNatClampNeg tm)))).set 17 (ad 17, .inl (cI, 8, .inl (upd (F 17) x.toNatClampNeg f)))) H := hP
                have hD : va_D A ((((ws).set 12 (am, .inr (9, mF ad (upd z 0 (0 : Int32)) wi dm))).set 16 (ad 16, .inl (cI, 8, .inl (upd (F 16) x.toNatClampNeg tm)))).set 17 (ad 17, .inl (cI, 8, .inl (upd (F 17) x.toNatClampNeg f)))) := hD
                rw [ew] at hP hD
                exact W.iret (v := (2 : Int32)) hx hb hr (fun t ht hW => ⟨⟨(2 : Int32), (), rfl, (fun _ => by have c76b := Int32.not_le.mpr c76; subst h13; subst h30; subst h43; subst h82; subst h93; subst h133; subst h144; simp only [sPh, c76b, c16, c33, c46, c76, c96, c118, c147, (eq_true c156), ↓reduceIte, not_true_eq_false, not_false_eq_true]), by show va_P G vwCl _ t.heap ∧ va_D A _; rw [ht]; exact ⟨hP, hD⟩⟩, hS.F ht⟩) hS.2.2 dX8_set_164
              · refine lv_iconst (v := 0) hx hb dX8_set_150 (by decide) ?_
                refine lv_goto (tgt := 164) hx hb dX8_set_151 (by decide) ?_
                have hcd : cdSet x tm f (nI nS) = 0 := by unfold cdSet; rw [if_neg k0, if_neg k1, if_neg k2]
                have ew : (((ws).set 12 (am, .inr (9, mF ad (upd z 0 (0 : Int32)) wi dm))).set 16 (ad 16, .inl (cI, 8, .inl (upd (F 16) x.toNatClampNeg tm)))).set 17 (ad 17, .inl (cI, 8, .inl (upd (F 17) x.toNatClampNeg f))) = (if cdSet x tm f (nI nS) = 0 then (((ws).set 12 (am, .inr (9, mF ad (upd z 0 (0 : Int32)) wi dm))).set 16 (ad 16, .inl (cI, 8, .inl (upd (F 16) x.toNatClampNeg tm)))).set 17 (ad 17, .inl (cI, 8, .inl (upd (F 17) x.toNatClampNeg f))) else ws.set 12 (am, .inr (9, mF ad (upd z 0 (cdSet x tm f (nI nS))) wi dm))) := by rw [hcd, if_pos rfl]
                have hP : va_P G vwCl ((((ws).set 12 (am, .inr (9, mF ad (upd z 0 (0 : Int32)) wi dm))).set 16 (ad 16, .inl (cI, 8, .inl (upd (F 16) x.toNatClampNeg tm)))).set 17 (ad 17, .inl (cI, 8, .inl (upd (F 17) x.toNatClampNeg f)))) H := hP
                have hD : va_D A ((((ws).set 12 (am, .inr (9, mF ad (upd z 0 (0 : Int32)) wi dm))).set 16 (ad 16, .inl (cI, 8, .inl (upd (F 16) x.toNatClampNeg tm)))).set 17 (ad 17, .inl (cI, 8, .inl (upd (F 17) x.toNatClampNeg f)))) := hD
                rw [ew] at hP hD
                exact W.iret (v := (0 : Int32)) hx hb hr (fun t ht hW => ⟨⟨(0 : Int32), (), rfl, (fun _ => by have c76b := Int32.not_le.mpr c76; subst h13; subst h30; subst h43; subst h82; subst h93; subst h133; subst h144; simp only [sPh, c76b, c16, c33, c46, c76, c96, c118, c147, ↓reduceIte, not_true_eq_false, not_false_eq_true]), by show va_P G vwCl _ t.heap ∧ va_D A _; rw [ht]; exact ⟨hP, hD⟩⟩, hS.F ht⟩) hS.2.2 dX8_set_164
            · refine lv_iload hx hb dX8_set_121 (lv_at hl 0 rfl) ?_
              refine lv_if_eq (tgt := 130) hx hb dX8_set_123 (by decide) (fun c123 => ?_) (fun c123 => absurd (by decide) c123)
              refine lv_iconst (v := 2) hx hb dX8_set_130 (by decide) ?_
              have hcd : cdSet x tm f (nI nS) = 0 := by unfold cdSet; rw [if_neg k0, if_neg k1, if_neg k2]
              have ew : (((ws).set 12 (am, .inr (9, mF ad (upd z 0 (0 : Int32)) wi dm))).set 16 (ad 16, .inl (cI, 8, .inl (upd (F 16) x.toNatClampNeg tm)))).set 17 (ad 17, .inl (cI, 8, .inl (upd (F 17) x.toNatClampNeg f))) = (if cdSet x tm f (nI nS) = 0 then (((ws).set 12 (am, .inr (9, mF ad (upd z 0 (0 : Int32)) wi dm))).set 16 (ad 16, .inl (cI, 8, .inl (upd (F 16) x.toNatClampNeg tm)))).set 17 (ad 17, .inl (cI, 8, .inl (upd (F 17) x.toNatClampNeg f))) else ws.set 12 (am, .inr (9, mF ad (upd z 0 (cdSet x tm f (nI nS))) wi dm))) := by rw [hcd, if_pos rfl]
              have hP : va_P G vwCl ((((ws).set 12 (am, .inr (9, mF ad (upd z 0 (0 : Int32)) wi dm))).set 16 (ad 16, .inl (cI, 8, .inl (upd (F 16) x.toNatClampNeg tm)))).set 17 (ad 17, .inl (cI, 8, .inl (upd (F 17) x.toNatClampNeg f)))) H := hP
              have hD : va_D A ((((ws).set 12 (am, .inr (9, mF ad (upd z 0 (0 : Int32)) wi dm))).set 16 (ad 16, .inl (cI, 8, .inl (upd (F 16) x.toNatClampNeg tm)))).set 17 (ad 17, .inl (cI, 8, .inl (upd (F 17) x.toNatClampNeg f)))) := hD
              rw [ew] at hP hD
              exact W.iret (v := (2 : Int32)) hx hb hr (fun t ht hW => ⟨⟨(2 : Int32), (), rfl, (fun _ => by have c76b := Int32.not_le.mpr c76; subst h13; subst h30; subst h43; subst h82; subst h93; simp only [sPh, c76b, c16, c33, c46, c76, c96, c118, (eq_true c123), ↓reduceIte, not_true_eq_false, not_false_eq_true]), by show va_P G vwCl _ t.heap ∧ va_D A _; rw [ht]; exact ⟨hP, hD⟩⟩, hS.F ht⟩) hS.2.2 dX8_set_131
          · refine lv_iconst (v := 1) hx hb dX8_set_99 (by decide) ?_
            refine lv_goto (tgt := 104) hx hb dX8_set_100 (by decide) ?_
            refine lv_istore (lv' := [(4, .int (1 : Int32)), (0, .ref am), (1, .int x), (2, .int tm), (3, .int f)]) hx hb dX8_set_104 hl (by decide) rfl (fun ls hl => ?_)
            refine lv_aload_n hx hb dX8_set_106 rfl (lv_at hl 1 rfl) ?_
            refine va_get (D := G) (ci := 9) (v := .ref (ad 14)) (C := RX8) (T := TX8) (N := 39) hx hb hts hiX8 hown hK hP 12 hm rfl 3 (by decide) (hts (.fieldLink RX8 13 "VortexpinModel" "lower" "[I") (List.mem_of_getElem? (i := 6) rfl)) (fun _ h9 => h9) rfl dX8_set_107 ?_
            refine lv_iload_n hx hb dX8_set_110 rfl (lv_at hl 2 rfl) ?_
            refine va_iald hx hb hK hP 14 0 hA14 htI (vp_uK (n := 8) (fun q9 => k0 (uK_up q9 h60nS (by decide)))) dX8_set_111 ?_
            refine lv_aload_n hx hb dX8_set_112 rfl (lv_at hl 1 rfl) ?_
            refine va_get (D := G) (ci := 9) (v := .ref (ad 15)) (C := RX8) (T := TX8) (N := 39) hx hb hts hiX8 hown hK hP 12 hm rfl 4 (by decide) (hts (.fieldLink RX8 16 "VortexpinModel" "upper" "[I") (List.mem_of_getElem? (i := 7) rfl)) (fun _ h9 => h9) rfl dX8_set_113 ?_
            refine lv_iload_n hx hb dX8_set_116 rfl (lv_at hl 2 rfl) ?_
            refine va_iald hx hb hK hP 15 0 hA15 htI (vp_uK (n := 8) (fun q9 => k0 (uK_up q9 h60nS (by decide)))) dX8_set_117 ?_
            refine lv_icmp_lt (tgt := 132) hx hb dX8_set_118 (by decide) (fun c118 => ?_) (fun c118 => ?_)
            · refine lv_iload_n hx hb dX8_set_132 rfl (lv_at hl 4 rfl) ?_
              refine vp_callSi (va_Run.run (va_runS (As := [.int f]) (rest := []) ⟨hx, hb, hml, hown, hts⟩ (metX8_size l f) (va_cwS 1 hts gX8_set_X8_size rfl rfl rfl (by decide +kernel) ⟨Nat.le_of_ble_eq_true rfl, Nat.le_of_ble_eq_true rfl⟩) ⟨pc0_b, pc0_u⟩ rfl rfl hl.1 rfl (lv_room (Nat.le_of_ble_eq_true rfl)) dX8_set_133 ⟨Nat.le_of_ble_eq_true rfl, Nat.le_of_ble_eq_true rfl⟩)) (fun r133 h133 => ?_)
              refine lv_aload_n hx hb dX8_set_136 rfl (lv_at hl 1 rfl) ?_
              refine lv_iload_n hx hb dX8_set_137 rfl (lv_at hl 2 rfl) ?_
              refine lv_aload_n hx hb dX8_set_138 rfl (lv_at hl 1 rfl) ?_
              refine va_get (D := G) (ci := 9) (v := .ref (ad 15)) (C := RX8) (T := TX8) (N := 39) hx hb hts hiX8 hown hK hP 12 hm rfl 4 (by decide) (hts (.fieldLink RX8 16 "VortexpinModel" "upper" "[I") (List.mem_of_getElem? (i := 7) rfl)) (fun _ h9 => h9) rfl dX8_set_139 ?_
              refine lv_iload_n hx hb dX8_set_142 rfl (lv_at hl 2 rfl) ?_
              refine va_iald hx hb hK hP 15 0 hA15 htI (vp_uK (n := 8) (fun q9 => k0 (uK_up q9 h60nS (by decide)))) dX8_set_143 ?_
              refine vp_callSi (va_Run.run (va_runV (As := [.int x, .int ((F 15) x.toNatClampNeg)]) (rest := [.int r133]) ⟨hx, hb, hml, hown, hts⟩ (metX8_bound l G tys htI _ (F := (updF (updF F 16 (upd (F 16) x.toNatClampNeg tm)) 17 (upd (F 17) x.toNatClampNeg f))) hm hA13 hA16 x ((F 15) x.toNatClampNeg) (fun q9 => k0 (uK_up q9 h60nS (by decide))) (hcc _ (uK_ix k0).2)) (cwV 2 hts gX8_set_X8_bound rfl rfl rfl (by decide +kernel) ⟨Nat.le_of_ble_eq_true rfl, Nat.le_of_ble_eq_true rfl⟩) ⟨pcR_b, va_recv hK hP (ci := 9) (q0 := 12) rfl hm, pcR_u hP hK⟩ rfl rfl hl.1 rfl (lv_room (Nat.le_of_ble_eq_true rfl)) dX8_set_144 ⟨Nat.le_of_ble_eq_true rfl, Nat.le_of_ble_eq_true rfl⟩)) (fun r144 h144 => ?_)
              have h144 : r144 = sBd (F 13 x.toNatClampNeg) tm ((F 15) x.toNatClampNeg) := by rw [h144]; exact congrArg (fun q9 => sBd (F 13 x.toNatClampNeg) q9 ((F 15) x.toNatClampNeg)) (by unfold updF upd; simp)
              refine lv_icmp_lt (tgt := 154) hx hb dX8_set_147 (by decide) (fun c147 => ?_) (fun c147 => ?_)
              · refine lv_iload hx hb dX8_set_154 (lv_at hl 0 rfl) ?_
                refine lv_if_eq (tgt := 163) hx hb dX8_set_156 (by decide) (fun c156 => absurd c156 (by decide)) (fun c156 => ?_)
                refine lv_iconst (v := 1) hx hb dX8_set_159 (by decide) ?_
                refine lv_goto (tgt := 164) hx hb dX8_set_160 (by decide) ?_
                have hcd : cdSet x tm f (nI nS) = 0 := by unfold cdSet; rw [if_neg k0, if_neg k1, if_neg k2]
                have ew : (((ws).set 12 (am, .inr (9, mF ad (upd z 0 (0 : Int32)) wi dm))).set 16 (ad 16, .inl (cI, 8, .inl (upd (F 16) x.toNatClampNeg tm)))).set 17 (ad 17, .inl (cI, 8, .inl (upd (F 17) x.toNatClampNeg f))) = (if cdSet x tm f (nI nS) = 0 then (((ws).set 12 (am, .inr (9, mF ad (upd z 0 (0 : Int32)) wi dm))).set 16 (ad 16, .inl (cI, 8, .inl (upd (F 16) x.toNatClampNeg tm)))).set 17 (ad 17, .inl (cI, 8, .inl (upd (F 17) x.toNatClampNeg f))) else ws.set 12 (am, .inr (9, mF ad (upd z 0 (cdSet x tm f (nI nS))) wi dm))) := by rw [hcd, if_pos rfl]
                have hP : va_P G vwCl ((((ws).set 12 (am, .inr (9, mF ad (upd z 0 (0 : Int32)) wi dm))).set 16 (ad 16, .inl (cI, 8, .inl (upd (F 16) x.toNatClampNeg tm)))).set 17 (ad 17, .inl (cI, 8, .inl (upd (F 17) x.toNatClampNeg f)))) H := hP
                have hD : va_D A ((((ws).set 12 (am, .inr (9, mF ad (upd z 0 (0 : Int32)) wi dm))).set 16 (ad 16, .inl (cI, 8, .inl (upd (F 16) x.toNatClampNeg tm)))).set 17 (ad 17, .inl (cI, 8, .inl (upd (F 17) x.toNatClampNeg f)))) := hD
                rw [ew] at hP hD
                exact W.iret (v := (1 : Int32)) hx hb hr (fun t ht hW => ⟨⟨(1 : Int32), (), rfl, (fun _ => by have c76b := Int32.not_le.mpr c76; subst h13; subst h30; subst h43; subst h82; subst h93; subst h133; subst h144; simp only [sPh, c76b, c16, c33, c46, c76, c96, c118, c147, c156, ↓reduceIte, not_true_eq_false, not_false_eq_true]), by show va_P G vwCl _ t.heap ∧ va_D A _; rw [ht]; exact ⟨hP, hD⟩⟩, hS.F ht⟩) hS.2.2 dX8_set_164
              · refine lv_iconst (v := 0) hx hb dX8_set_150 (by decide) ?_
                refine lv_goto (tgt := 164) hx hb dX8_set_151 (by decide) ?_
                have hcd : cdSet x tm f (nI nS) = 0 := by unfold cdSet; rw [if_neg k0, if_neg k1, if_neg k2]
                have ew : (((ws).set 12 (am, .inr (9, mF ad (upd z 0 (0 : Int32)) wi dm))).set 16 (ad 16, .inl (cI, 8, .inl (upd (F 16) x.toNatClampNeg tm)))).set 17 (ad 17, .inl (cI, 8, .inl (upd (F 17) x.toNatClampNeg f))) = (if cdSet x tm f (nI nS) = 0 then (((ws).set 12 (am, .inr (9, mF ad (upd z 0 (0 : Int32)) wi dm))).set 16 (ad 16, .inl (cI, 8, .inl (upd (F 16) x.toNatClampNeg tm)))).set 17 (ad 17, .inl (cI, 8, .inl (upd (F 17) x.toNatClampNeg f))) else ws.set 12 (am, .inr (9, mF ad (upd z 0 (cdSet x tm f (nI nS))) wi dm))) := by rw [hcd, if_pos rfl]
                have hP : va_P G vwCl ((((ws).set 12 (am, .inr (9, mF ad (upd z 0 (0 : Int32)) wi dm))).set 16 (ad 16, .inl (cI, 8, .inl (upd (F 16) x.toNatClampNeg tm)))).set 17 (ad 17, .inl (cI, 8, .inl (upd (F 17) x.toNatClampNeg f)))) H := hP
                have hD : va_D A ((((ws).set 12 (am, .inr (9, mF ad (upd z 0 (0 : Int32)) wi dm))).set 16 (ad 16, .inl (cI, 8, .inl (upd (F 16) x.toNatClampNeg tm)))).set 17 (ad 17, .inl (cI, 8, .inl (upd (F 17) x.toNatClampNeg f)))) := hD
                rw [ew] at hP hD
                exact W.iret (v := (0 : Int32)) hx hb hr (fun t ht hW => ⟨⟨(0 : Int32), (), rfl, (fun _ => by have c76b := Int32.not_le.mpr c76; subst h13; subst h30; subst h43; subst h82; subst h93; subst h133; subst h144; simp only [sPh, c76b, c16, c33, c46, c76, c96, c118, c147, ↓reduceIte, not_true_eq_false, not_false_eq_true]), by show va_P G vwCl _ t.heap ∧ va_D A _; rw [ht]; exact ⟨hP, hD⟩⟩, hS.F ht⟩) hS.2.2 dX8_set_164
            · refine lv_iload hx hb dX8_set_121 (lv_at hl 0 rfl) ?_
              refine lv_if_eq (tgt := 130) hx hb dX8_set_123 (by decide) (fun c123 => absurd c123 (by decide)) (fun c123 => ?_)
              refine lv_iconst (v := 0) hx hb dX8_set_126 (by decide) ?_
              refine lv_goto (tgt := 131) hx hb dX8_set_127 (by decide) ?_
              have hcd : cdSet x tm f (nI nS) = 0 := by unfold cdSet; rw [if_neg k0, if_neg k1, if_neg k2]
              have ew : (((ws).set 12 (am, .inr (9, mF ad (upd z 0 (0 : Int32)) wi dm))).set 16 (ad 16, .inl (cI, 8, .inl (upd (F 16) x.toNatClampNeg tm)))).set 17 (ad 17, .inl (cI, 8, .inl (upd (F 17) x.toNatClampNeg f))) = (if cdSet x tm f (nI nS) = 0 then (((ws).set 12 (am, .inr (9, mF ad (upd z 0 (0 : Int32)) wi dm))).set 16 (ad 16, .inl (cI, 8, .inl (upd (F 16) x.toNatClampNeg tm)))).set 17 (ad 17, .inl (cI, 8, .inl (upd (F 17) x.toNatClampNeg f))) else ws.set 12 (am, .inr (9, mF ad (upd z 0 (cdSet x tm f (nI nS))) wi dm))) := by rw [hcd, if_pos rfl]
              have hP : va_P G vwCl ((((ws).set 12 (am, .inr (9, mF ad (upd z 0 (0 : Int32)) wi dm))).set 16 (ad 16, .inl (cI, 8, .inl (upd (F 16) x.toNatClampNeg tm)))).set 17 (ad 17, .inl (cI, 8, .inl (upd (F 17) x.toNatClampNeg f)))) H := hP
              have hD : va_D A ((((ws).set 12 (am, .inr (9, mF ad (upd z 0 (0 : Int32)) wi dm))).set 16 (ad 16, .inl (cI, 8, .inl (upd (F 16) x.toNatClampNeg tm)))).set 17 (ad 17, .inl (cI, 8, .inl (upd (F 17) x.toNatClampNeg f)))) := hD
              rw [ew] at hP hD
              exact W.iret (v := (0 : Int32)) hx hb hr (fun t ht hW => ⟨⟨(0 : Int32), (), rfl, (fun _ => by have c76b := Int32.not_le.mpr c76; subst h13; subst h30; subst h43; subst h82; subst h93; simp only [sPh, c76b, c16, c33, c46, c76, c96, c118, c123, ↓reduceIte, not_true_eq_false, not_false_eq_true]), by show va_P G vwCl _ t.heap ∧ va_D A _; rw [ht]; exact ⟨hP, hD⟩⟩, hS.F ht⟩) hS.2.2 dX8_set_131
        · refine lv_iconst (v := 0) hx hb dX8_set_79 (by decide) ?_
          have hcd : cdSet x tm f (nI nS) = 0 := by unfold cdSet; rw [if_neg k0, if_neg k1, if_neg k2]
          have ew : (((ws).set 12 (am, .inr (9, mF ad (upd z 0 (0 : Int32)) wi dm))).set 16 (ad 16, .inl (cI, 8, .inl (upd (F 16) x.toNatClampNeg tm)))).set 17 (ad 17, .inl (cI, 8, .inl (upd (F 17) x.toNatClampNeg f))) = (if cdSet x tm f (nI nS) = 0 then (((ws).set 12 (am, .inr (9, mF ad (upd z 0 (0 : Int32)) wi dm))).set 16 (ad 16, .inl (cI, 8, .inl (upd (F 16) x.toNatClampNeg tm)))).set 17 (ad 17, .inl (cI, 8, .inl (upd (F 17) x.toNatClampNeg f))) else ws.set 12 (am, .inr (9, mF ad (upd z 0 (cdSet x tm f (nI nS))) wi dm))) := by rw [hcd, if_pos rfl]
          have hP : va_P G vwCl ((((ws).set 12 (am, .inr (9, mF ad (upd z 0 (0 : Int32)) wi dm))).set 16 (ad 16, .inl (cI, 8, .inl (upd (F 16) x.toNatClampNeg tm)))).set 17 (ad 17, .inl (cI, 8, .inl (upd (F 17) x.toNatClampNeg f)))) H := hP
          have hD : va_D A ((((ws).set 12 (am, .inr (9, mF ad (upd z 0 (0 : Int32)) wi dm))).set 16 (ad 16, .inl (cI, 8, .inl (upd (F 16) x.toNatClampNeg tm)))).set 17 (ad 17, .inl (cI, 8, .inl (upd (F 17) x.toNatClampNeg f)))) := hD
          rw [ew] at hP hD
          exact W.iret (v := (0 : Int32)) hx hb hr (fun t ht hW => ⟨⟨(0 : Int32), (), rfl, (fun _ => by have c76b := Int32.not_lt.mp c76; subst h13; subst h30; subst h43; simp only [sPh, c76b, c16, c33, c46, c76, ↓reduceIte, not_true_eq_false, not_false_eq_true]), by show va_P G vwCl _ t.heap ∧ va_D A _; rw [ht]; exact ⟨hP, hD⟩⟩, hS.F ht⟩) hS.2.2 dX8_set_80
      · have hbd : oR f (-1000) 1000 := mIn_0.mp (h43.symm.trans c46)
        skip
        refine lv_aload_n hx hb dX8_set_49 rfl (lv_at hl 0 rfl) ?_
        refine lv_iconst (v := 2) hx hb dX8_set_50 (by decide) ?_
        refine va_calli (va_runV (As := [.int (2 : Int32)]) (rest := []) ⟨hx, hb, hml, hown, hts⟩ (metX8_stop l G tys _ hm (2 : Int32)) (cwV 1 hts gX8_set_X8_stop rfl rfl rfl (by decide +kernel) ⟨Nat.le_of_ble_eq_true rfl, Nat.le_of_ble_eq_true rfl⟩) ⟨pcM_b, va_recv hK hP (ci := 9) (q0 := 12) rfl hm, pcM_u hP hK hD hS hA⟩ rfl rfl hl.1 rfl (lv_room (Nat.le_of_ble_eq_true rfl)) dX8_set_51 ⟨Nat.le_of_ble_eq_true rfl, Nat.le_of_ble_eq_true rfl⟩) hS (fun q _ h => h) (fun q h => h) (fun r51 u t H locs ht hvm h51 hB hsz hk1 hS => ?_)
        rw [ht] at hB
        have hB := hB.1
        have hD := hD.set (e := .inr (9, mF ad (upd (upd z 0 (0 : Int32)) 0 (2 : Int32)) wi dm)) hm
        have hA13 := va_gs (k := 12) (e := (am, .inr (9, mF ad (upd (upd z 0 (0 : Int32)) 0 (2 : Int32)) wi dm))) (by decide) hA13
        have hA14 := va_gs (k := 12) (e := (am, .inr (9, mF ad (upd (upd z 0 (0 : Int32)) 0 (2 : Int32)) wi dm))) (by decide) hA14
        have hA15 := va_gs (k := 12) (e := (am, .inr (9, mF ad (upd (upd z 0 (0 : Int32)) 0 (2 : Int32)) wi dm))) (by decide) hA15
        have hA16 := va_gs (k := 12) (e := (am, .inr (9, mF ad (upd (upd z 0 (0 : Int32)) 0 (2 : Int32)) wi dm))) (by decide) hA16
        have hA17 := va_gs (k := 12) (e := (am, .inr (9, mF ad (upd (upd z 0 (0 : Int32)) 0 (2 : Int32)) wi dm))) (by decide) hA17
        have hm := va_ge (e := (am, .inr (9, mF ad (upd (upd z 0 (0 : Int32)) 0 (2 : Int32)) wi dm))) hm
        have hP : va_P G vwCl (((ws).set 12 (am, .inr (9, mF ad (upd z 0 (0 : Int32)) wi dm))).set 12 (am, .inr (9, mF ad (upd (upd z 0 (0 : Int32)) 0 (2 : Int32)) wi dm))) H := hB
        have hD : va_D A (((ws).set 12 (am, .inr (9, mF ad (upd z 0 (0 : Int32)) wi dm))).set 12 (am, .inr (9, mF ad (upd (upd z 0 (0 : Int32)) 0 (2 : Int32)) wi dm))) := hD
        have hcd : cdSet x tm f (nI nS) = 2 := by unfold cdSet; rw [if_neg k0, if_neg k1, if_pos hbd]
        have ew : ((ws).set 12 (am, .inr (9, mF ad (upd z 0 (0 : Int32)) wi dm))).set 12 (am, .inr (9, mF ad (upd (upd z 0 (0 : Int32)) 0 (2 : Int32)) wi dm)) = (if cdSet x tm f (nI nS) = 0 then (((ws).set 12 (am, .inr (9, mF ad (upd z 0 (0 : Int32)) wi dm))).set 16 (ad 16, .inl (cI, 8, .inl (upd (F 16) x.toNatClampNeg tm)))).set 17 (ad 17, .inl (cI, 8, .inl (upd (F 17) x.toNatClampNeg f))) else ws.set 12 (am, .inr (9, mF ad (upd z 0 (cdSet x tm f (nI nS))) wi dm))) := by rw [hcd, if_neg (by decide), List.set_set, upd_upd]
        have hP : va_P G vwCl (((ws).set 12 (am, .inr (9, mF ad (upd z 0 (0 : Int32)) wi dm))).set 12 (am, .inr (9, mF ad (upd (upd z 0 (0 : Int32)) 0 (2 : Int32)) wi dm))) H := hP
        have hD : va_D A (((ws).set 12 (am, .inr (9, mF ad (upd z 0 (0 : Int32)) wi dm))).set 12 (am, .inr (9, mF ad (upd (upd z 0 (0 : Int32)) 0 (2 : Int32)) wi dm))) := hD
        rw [ew] at hP hD
        exact W.iret (v := r51) hx hb hr (fun t ht hW => ⟨⟨r51, (), rfl, (fun h0 => absurd (hcd.symm.trans h0) (by decide)), by show va_P G vwCl _ t.heap ∧ va_D A _; rw [ht]; exact ⟨hP, hD⟩⟩, hS.F ht⟩) hS.2.2 dX8_set_54
  · have hbd : uK x (nI nS) := (oR_uK (by rw [hz1]) (show nS < 2 ^ 31 by omega)).mp (mIn_0.mp (h13.symm.trans c16))
    skip
    refine lv_aload_n hx hb dX8_set_19 rfl (lv_at hl 0 rfl) ?_
    refine lv_iconst (v := 1) hx hb dX8_set_20 (by decide) ?_
    refine va_calli (va_runV (As := [.int (1 : Int32)]) (rest := []) ⟨hx, hb, hml, hown, hts⟩ (metX8_stop l G tys _ hm (1 : Int32)) (cwV 1 hts gX8_set_X8_stop rfl rfl rfl (by decide +kernel) ⟨Nat.le_of_ble_eq_true rfl, Nat.le_of_ble_eq_true rfl⟩) ⟨pcM_b, va_recv hK hP (ci := 9) (q0 := 12) rfl hm, pcM_u hP hK hD hS hA⟩ rfl rfl hl.1 rfl (lv_room (Nat.le_of_ble_eq_true rfl)) dX8_set_21 ⟨Nat.le_of_ble_eq_true rfl, Nat.le_of_ble_eq_true rfl⟩) hS (fun q _ h => h) (fun q h => h) (fun r21 u t H locs ht hvm h21 hB hsz hk1 hS => ?_)
    rw [ht] at hB
    have hB := hB.1
    have hD := hD.set (e := .inr (9, mF ad (upd (upd z 0 (0 : Int32)) 0 (1 : Int32)) wi dm)) hm
    have hA13 := va_gs (k := 12) (e := (am, .inr (9, mF ad (upd (upd z 0 (0 : Int32)) 0 (1 : Int32)) wi dm))) (by decide) hA13
    have hA14 := va_gs (k := 12) (e := (am, .inr (9, mF ad (upd (upd z 0 (0 : Int32)) 0 (1 : Int32)) wi dm))) (by decide) hA14
    have hA15 := va_gs (k := 12) (e := (am, .inr (9, mF ad (upd (upd z 0 (0 : Int32)) 0 (1 : Int32)) wi dm))) (by decide) hA15
    have hA16 := va_gs (k := 12) (e := (am, .inr (9, mF ad (upd (upd z 0 (0 : Int32)) 0 (1 : Int32)) wi dm))) (by decide) hA16
    have hA17 := va_gs (k := 12) (e := (am, .inr (9, mF ad (upd (upd z 0 (0 : Int32)) 0 (1 : Int32)) wi dm))) (by decide) hA17
    have hm := va_ge (e := (am, .inr (9, mF ad (upd (upd z 0 (0 : Int32)) 0 (1 : Int32)) wi dm))) hm
    have hP : va_P G vwCl (((ws).set 12 (am, .inr (9, mF ad (upd z 0 (0 : Int32)) wi dm))).set 12 (am, .inr (9, mF ad (upd (upd z 0 (0 : Int32)) 0 (1 : Int32)) wi dm))) H := hB
    have hD : va_D A (((ws).set 12 (am, .inr (9, mF ad (upd z 0 (0 : Int32)) wi dm))).set 12 (am, .inr (9, mF ad (upd (upd z 0 (0 : Int32)) 0 (1 : Int32)) wi dm))) := hD
    have hcd : cdSet x tm f (nI nS) = 1 := by unfold cdSet; rw [if_pos hbd]
    have ew : ((ws).set 12 (am, .inr (9, mF ad (upd z 0 (0 : Int32)) wi dm))).set 12 (am, .inr (9, mF ad (upd (upd z 0 (0 : Int32)) 0 (1 : Int32)) wi dm)) = (if cdSet x tm f (nI nS) = 0 then (((ws).set 12 (am, .inr (9, mF ad (upd z 0 (0 : Int32)) wi dm))).set 16 (ad 16, .inl (cI, 8, .inl (upd (F 16) x.toNatClampNeg tm)))).set 17 (ad 17, .inl (cI, 8, .inl (upd (F 17) x.toNatClampNeg f))) else ws.set 12 (am, .inr (9, mF ad (upd z 0 (cdSet x tm f (nI nS))) wi dm))) := by rw [hcd, if_neg (by decide), List.set_set, upd_upd]
    have hP : va_P G vwCl (((ws).set 12 (am, .inr (9, mF ad (upd z 0 (0 : Int32)) wi dm))).set 12 (am, .inr (9, mF ad (upd (upd z 0 (0 : Int32)) 0 (1 : Int32)) wi dm))) H := hP
    have hD : va_D A (((ws).set 12 (am, .inr (9, mF ad (upd z 0 (0 : Int32)) wi dm))).set 12 (am, .inr (9, mF ad (upd (upd z 0 (0 : Int32)) 0 (1 : Int32)) wi dm))) := hD
    rw [ew] at hP hD
    exact W.iret (v := r21) hx hb hr (fun t ht hW => ⟨⟨r21, (), rfl, (fun h0 => absurd (hcd.symm.trans h0) (by decide)), by show va_P G vwCl _ t.heap ∧ va_D A _; rw [ht]; exact ⟨hP, hD⟩⟩, hS.F ht⟩) hS.2.2 dX8_set_24
set_option maxHeartbeats 1000000 in
set_option maxRecDepth 100000 in
theorem metX8_deep (l : Launch) (G : va_G) (tys : List (ClassId × FieldType)) {cI : ClassId} (htI : tI tys cI) {A : Nat → Prop} (ws : va_W) {am : Nat} {ad : Nat → Nat} {z : Nat → Int32} {wi dm : Int64} {F : Nat → Nat → Int32} (hm : ws[12]? = some (am, .inr (9, mF ad z wi dm))) (hA13 : ws[13]? = some (ad 13, .inl (cI, 8, .inl (F 13)))) (hA16 : ws[16]? = some (ad 16, .inl (cI, 8, .inl (F 16)))) {nS : Nat} (hz1 : z 1 = nI nS) (h60nS : nS ≤ 8) (hc0 : ∀ i, i < nS → ¬ F 13 i = 0) (x : Int32) : Met l yX8_deep wsX8_deep ({ frames := 1, cells := 0, slots := 0, locals := 22 }) (pcM G tys ws A [.ref am, .int x]) (va_Qd (fun (r : UInt64) (_ : Unit) => cdOne x (nI nS) = 0 → r = sDeep (F 13 x.toNatClampNeg) (F 16 x.toNatClampNeg)) (fun _ t => va_P G vwCl (if cdOne x (nI nS) = 0 then (ws).set 12 (am, .inr (9, mF ad (upd z 0 (0 : Int32)) wi dm)) else ws.set 12 (am, .inr (9, mF ad (upd z 0 (cdOne x (nI nS))) wi dm))) t.heap ∧ va_D A (if cdOne x (nI nS) = 0 then (ws).set 12 (am, .inr (9, mF ad (upd z 0 (0 : Int32)) wi dm)) else ws.set 12 (am, .inr (9, mF ad (upd z 0 (cdOne x (nI nS))) wi dm)))) A) 0 0 A := by
  refine ofM (cc := cX8_deep) (maxL := 6) (ret := some .double) (by decide) rfl (Nat.le_of_ble_eq_true rfl) ?_
  intro p e s m below meth c ls hx hb hr hlocks hml hown hts hin hl hP hK hD hA hS
  have hown : s.vm.findClass RX8 = some m.cls := hown
  have hiX8 : ∀ w ∈ u_ws RX8 TX8 39, w ∈ wsX8_deep := fun _ h => List.mem_cons_of_mem _ (List.mem_append_right _ h)
  have hl : lv_has ls 6 [(0, .ref am), (1, .int x)] := hl
  refine lv_aload_n hx hb dX8_deep_0 rfl (lv_at hl 0 rfl) ?_
  refine lv_iconst (v := 0) hx hb dX8_deep_1 (by decide) ?_
  refine va_put (D := G) (ci := 9) (v := .int (0 : Int32)) (ty := .int) (C := RX8) (T := TX8) (N := 39) hx hb hts hiX8 tyX8 tyX8_ok nmX8 hown hK hP hD hS 12 hm rfl 0 (by decide) (hts (.fieldLink RX8 86 "VortexpinModel" "thrown" "I") (List.mem_of_getElem? (i := 1) rfl)) (fun _ h9 => h9) rfl (by decide +kernel) (rfl) (rfl) (Nat.le_of_ble_eq_true rfl) dX8_deep_2 (fun H locs hP hD hS => ?_)
  have hP : va_P G vwCl ((ws).set 12 (am, .inr (9, mF ad (upd z 0 (0 : Int32)) wi dm))) H := hP
  have hD : va_D A ((ws).set 12 (am, .inr (9, mF ad (upd z 0 (0 : Int32)) wi dm))) := hD
  have hA13 := va_gs (k := 12) (e := (am, .inr (9, mF ad (upd z 0 (0 : Int32)) wi dm))) (by decide) hA13
  have hA16 := va_gs (k := 12) (e := (am, .inr (9, mF ad (upd z 0 (0 : Int32)) wi dm))) (by decide) hA16
  have hm := va_ge (e := (am, .inr (9, mF ad (upd z 0 (0 : Int32)) wi dm))) hm
  refine lv_iload_n hx hb dX8_deep_5 rfl (lv_at hl 1 rfl) ?_
  refine lv_iconst (v := 0) hx hb dX8_deep_6 (by decide) ?_
  refine lv_aload_n hx hb dX8_deep_7 rfl (lv_at hl 0 rfl) ?_
  refine va_get (D := G) (ci := 9) (v := .int (z 1)) (C := RX8) (T := TX8) (N := 39) hx hb hts hiX8 hown hK hP 12 hm rfl 1 (by decide) (hts (.fieldLink RX8 97 "VortexpinModel" "samples" "I") (List.mem_of_getElem? (i := 2) rfl)) (fun _ h9 => h9) rfl dX8_deep_8 ?_
  refine lv_iconst (v := 1) hx hb dX8_deep_11 (by decide) ?_
  refine lv_isub hx hb dX8_deep_12 ?_
  refine vp_callSi (va_Run.run (va_runS (As := [.int x, .int (0 : Int32), .int ((z 1) - (1 : Int32))]) (rest := []) ⟨hx, hb, hml, hown, hts⟩ (metX8_in l x (0 : Int32) ((z 1) - (1 : Int32))) (va_cwS 3 hts gX8_deep_X8_in rfl rfl rfl (by decide +kernel) ⟨Nat.le_of_ble_eq_true rfl, Nat.le_of_ble_eq_true rfl⟩) ⟨pc0_b, pc0_u⟩ rfl rfl hl.1 rfl (lv_room (Nat.le_of_ble_eq_true rfl)) dX8_deep_13 ⟨Nat.le_of_ble_eq_true rfl, Nat.le_of_ble_eq_true rfl⟩)) (fun r13 h13 => ?_)
  refine lv_if_ne (tgt := 26) hx hb dX8_deep_16 (by decide) (fun c16 => ?_) (fun c16 => ?_)
  · have k0 : ¬ (uK x (nI nS)) := fun q9 => c16 (h13.trans (mIn_0.mpr ((oR_uK (by rw [hz1]) (show nS < 2 ^ 31 by omega)).mpr q9)))
    refine lv_aload_n hx hb dX8_deep_26 rfl (lv_at hl 0 rfl) ?_
    refine va_get (D := G) (ci := 9) (v := .ref (ad 16)) (C := RX8) (T := TX8) (N := 39) hx hb hts hiX8 hown hK hP 12 hm rfl 5 (by decide) (hts (.fieldLink RX8 19 "VortexpinModel" "warmthOf" "[I") (List.mem_of_getElem? (i := 3) rfl)) (fun _ h9 => h9) rfl dX8_deep_27 ?_
    refine lv_iload_n hx hb dX8_deep_30 rfl (lv_at hl 1 rfl) ?_
    refine va_iald hx hb hK hP 16 0 hA16 htI (vp_uK (n := 8) (fun q9 => k0 (uK_up q9 h60nS (by decide)))) dX8_deep_31 ?_
    refine lv_aload_n hx hb dX8_deep_32 rfl (lv_at hl 0 rfl) ?_
    refine va_get (D := G) (ci := 9) (v := .ref (ad 13)) (C := RX8) (T := TX8) (N := 39) hx hb hts hiX8 hown hK hP 12 hm rfl 2 (by decide) (hts (.fieldLink RX8 7 "VortexpinModel" "critical" "[I") (List.mem_of_getElem? (i := 4) rfl)) (fun _ h9 => h9) rfl dX8_deep_33 ?_
    refine lv_iload_n hx hb dX8_deep_36 rfl (lv_at hl 1 rfl) ?_
    refine va_iald hx hb hK hP 13 0 hA13 htI (vp_uK (n := 8) (fun q9 => k0 (uK_up q9 h60nS (by decide)))) dX8_deep_37 ?_
    refine lv_icmp_lt (tgt := 43) hx hb dX8_deep_38 (by decide) (fun c38 => ?_) (fun c38 => ?_)
    · refine lv_aload_n hx hb dX8_deep_43 rfl (lv_at hl 0 rfl) ?_
      refine va_get (D := G) (ci := 9) (v := .ref (ad 16)) (C := RX8) (T := TX8) (N := 39) hx hb hts hiX8 hown hK hP 12 hm rfl 5 (by decide) (hts (.fieldLink RX8 19 "VortexpinModel" "warmthOf" "[I") (List.mem_of_getElem? (i := 3) rfl)) (fun _ h9 => h9) rfl dX8_deep_44 ?_
      refine lv_iload_n hx hb dX8_deep_47 rfl (lv_at hl 1 rfl) ?_
      refine va_iald hx hb hK hP 16 0 hA16 htI (vp_uK (n := 8) (fun q9 => k0 (uK_up q9 h60nS (by decide)))) dX8_deep_48 ?_
      refine lv_i2d hx hb dX8_deep_49 ?_
      refine lv_aload_n hx hb dX8_deep_50 rfl (lv_at hl 0 rfl) ?_
      refine va_get (D := G) (ci := 9) (v := .ref (ad 13)) (C := RX8) (T := TX8) (N := 39) hx hb hts hiX8 hown hK hP 12 hm rfl 2 (by decide) (hts (.fieldLink RX8 7 "VortexpinModel" "critical" "[I") (List.mem_of_getElem? (i := 4) rfl)) (fun _ h9 => h9) rfl dX8_deep_51 ?_
      refine lv_iload_n hx hb dX8_deep_54 rfl (lv_at hl 1 rfl) ?_
      refine va_iald hx hb hK hP 13 0 hA13 htI (vp_uK (n := 8) (fun q9 => k0 (uK_up q9 h60nS (by decide)))) dX8_deep_55 ?_
      refine lv_i2d hx hb dX8_deep_56 ?_
      refine lv_ddiv hx hb dX8_deep_57 ((sOK_all (hc0 _ (uK_ix k0).2) (F 16 x.toNatClampNeg)).1) ?_
      refine lv_dstore_n (lv' := [(2, .double (FP.ddiv (FP.i2d ((F 16) x.toNatClampNeg)) (FP.i2d ((F 13) x.toNatClampNeg)))), (0, .ref am), (1, .int x)]) hx hb dX8_deep_58 rfl hl (by decide) rfl (fun ls hl => ?_)
      refine lv_dload_n hx hb dX8_deep_59 rfl (lv_at hl 0 rfl) ?_
      refine lv_dload_n hx hb dX8_deep_60 rfl (lv_at hl 0 rfl) ?_
      refine lv_dmul hx hb dX8_deep_61 ((sOK_all (hc0 _ (uK_ix k0).2) (F 16 x.toNatClampNeg)).2.1) ?_
      refine lv_dstore (lv' := [(4, .double (FP.dmul (FP.ddiv (FP.i2d ((F 16) x.toNatClampNeg)) (FP.i2d ((F 13) x.toNatClampNeg))) (FP.ddiv (FP.i2d ((F 16) x.toNatClampNeg)) (FP.i2d ((F 13) x.toNatClampNeg))))), (2, .double (FP.ddiv (FP.i2d ((F 16) x.toNatClampNeg)) (FP.i2d ((F 13) x.toNatClampNeg)))), (0, .ref am), (1, .int x)]) hx hb dX8_deep_62 hl (by decide) rfl (fun ls hl => ?_)
      refine lv_ldc2d (v := 4636737291354636288) hx hb hown (hts (.constantDouble RX8 107 (4636737291354636288)) (List.mem_of_getElem? (i := 5) rfl)) dX8_deep_64 ?_
      refine lv_dconst1 hx hb dX8_deep_67 ?_
      refine lv_dload hx hb dX8_deep_68 (lv_at hl 0 rfl) ?_
      refine lv_dload hx hb dX8_deep_70 (lv_at hl 0 rfl) ?_
      refine lv_dmul hx hb dX8_deep_72 ((sOK_all (hc0 _ (uK_ix k0).2) (F 16 x.toNatClampNeg)).2.2.1) ?_
      refine lv_dsub hx hb dX8_deep_73 ((sOK_all (hc0 _ (uK_ix k0).2) (F 16 x.toNatClampNeg)).2.2.2.1) ?_
      refine lv_ddiv hx hb dX8_deep_74 ((sOK_all (hc0 _ (uK_ix k0).2) (F 16 x.toNatClampNeg)).2.2.2.2) ?_
      have hcd : cdOne x (nI nS) = 0 := by unfold cdOne; rw [if_neg k0]
      have ew : (ws).set 12 (am, .inr (9, mF ad (upd z 0 (0 : Int32)) wi dm)) = (if cdOne x (nI nS) = 0 then (ws).set 12 (am, .inr (9, mF ad (upd z 0 (0 : Int32)) wi dm)) else ws.set 12 (am, .inr (9, mF ad (upd z 0 (cdOne x (nI nS))) wi dm))) := by rw [hcd, if_pos rfl]
      have hP : va_P G vwCl ((ws).set 12 (am, .inr (9, mF ad (upd z 0 (0 : Int32)) wi dm))) H := hP
      have hD : va_D A ((ws).set 12 (am, .inr (9, mF ad (upd z 0 (0 : Int32)) wi dm))) := hD
      rw [ew] at hP hD
      exact W.dret (v := FP.ddiv 4636737291354636288 (FP.dsub FP.dconst1 (FP.dmul (FP.dmul (FP.ddiv (FP.i2d ((F 16) x.toNatClampNeg)) (FP.i2d ((F 13) x.toNatClampNeg))) (FP.ddiv (FP.i2d ((F 16) x.toNatClampNeg)) (FP.i2d ((F 13) x.toNatClampNeg)))) (FP.dmul (FP.ddiv (FP.i2d ((F 16) x.toNatClampNeg)) (FP.i2d ((F 13) x.toNatClampNeg))) (FP.ddiv (FP.i2d ((F 16) x.toNatClampNeg)) (FP.i2d ((F 13) x.toNatClampNeg))))))) hx hb hr (fun t ht hW => ⟨⟨FP.ddiv 4636737291354636288 (FP.dsub FP.dconst1 (FP.dmul (FP.dmul (FP.ddiv (FP.i2d ((F 16) x.toNatClampNeg)) (FP.i2d ((F 13) x.toNatClampNeg))) (FP.ddiv (FP.i2d ((F 16) x.toNatClampNeg)) (FP.i2d ((F 13) x.toNatClampNeg)))) (FP.dmul (FP.ddiv (FP.i2d ((F 16) x.toNatClampNeg)) (FP.i2d ((F 13) x.toNatClampNeg))) (FP.ddiv (FP.i2d ((F 16) x.toNatClampNeg)) (FP.i2d ((F 13) x.toNatClampNeg)))))), (), rfl, (fun _ => by unfold sDeep; rw [if_neg (Int32.not_le.mpr c38)]; rfl), by show va_P G vwCl _ t.heap ∧ va_D A _; rw [ht]; exact ⟨hP, hD⟩⟩, hS.F ht⟩) hS.2.2 dX8_deep_75
    · refine lv_dconst0 hx hb dX8_deep_41 ?_
      have hcd : cdOne x (nI nS) = 0 := by unfold cdOne; rw [if_neg k0]
      have ew : (ws).set 12 (am, .inr (9, mF ad (upd z 0 (0 : Int32)) wi dm)) = (if cdOne x (nI nS) = 0 then (ws).set 12 (am, .inr (9, mF ad (upd z 0 (0 : Int32)) wi dm)) else ws.set 12 (am, .inr (9, mF ad (upd z 0 (cdOne x (nI nS))) wi dm))) := by rw [hcd, if_pos rfl]
      have hP : va_P G vwCl ((ws).set 12 (am, .inr (9, mF ad (upd z 0 (0 : Int32)) wi dm))) H := hP
      have hD : va_D A ((ws).set 12 (am, .inr (9, mF ad (upd z 0 (0 : Int32)) wi dm))) := hD
      rw [ew] at hP hD
      exact W.dret (v := FP.dconst0) hx hb hr (fun t ht hW => ⟨⟨FP.dconst0, (), rfl, (fun _ => by unfold sDeep; rw [if_pos (Int32.not_lt.mp c38)]), by show va_P G vwCl _ t.heap ∧ va_D A _; rw [ht]; exact ⟨hP, hD⟩⟩, hS.F ht⟩) hS.2.2 dX8_deep_42
  · have hbd : uK x (nI nS) := (oR_uK (by rw [hz1]) (show nS < 2 ^ 31 by omega)).mp (mIn_0.mp (h13.symm.trans c16))
    skip
    refine lv_aload_n hx hb dX8_deep_19 rfl (lv_at hl 0 rfl) ?_
    refine lv_iconst (v := 1) hx hb dX8_deep_20 (by decide) ?_
    refine va_calli (va_runV (As := [.int (1 : Int32)]) (rest := []) ⟨hx, hb, hml, hown, hts⟩ (metX8_stop l G tys _ hm (1 : Int32)) (cwV 1 hts gX8_deep_X8_stop rfl rfl rfl (by decide +kernel) ⟨Nat.le_of_ble_eq_true rfl, Nat.le_of_ble_eq_true rfl⟩) ⟨pcM_b, va_recv hK hP (ci := 9) (q0 := 12) rfl hm, pcM_u hP hK hD hS hA⟩ rfl rfl hl.1 rfl (lv_room (Nat.le_of_ble_eq_true rfl)) dX8_deep_21 ⟨Nat.le_of_ble_eq_true rfl, Nat.le_of_ble_eq_true rfl⟩) hS (fun q _ h => h) (fun q h => h) (fun r21 u t H locs ht hvm h21 hB hsz hk1 hS => ?_)
    rw [ht] at hB
    have hB := hB.1
    have hD := hD.set (e := .inr (9, mF ad (upd (upd z 0 (0 : Int32)) 0 (1 : Int32)) wi dm)) hm
    have hA13 := va_gs (k := 12) (e := (am, .inr (9, mF ad (upd (upd z 0 (0 : Int32)) 0 (1 : Int32)) wi dm))) (by decide) hA13
    have hA16 := va_gs (k := 12) (e := (am, .inr (9, mF ad (upd (upd z 0 (0 : Int32)) 0 (1 : Int32)) wi dm))) (by decide) hA16
    have hm := va_ge (e := (am, .inr (9, mF ad (upd (upd z 0 (0 : Int32)) 0 (1 : Int32)) wi dm))) hm
    have hP : va_P G vwCl (((ws).set 12 (am, .inr (9, mF ad (upd z 0 (0 : Int32)) wi dm))).set 12 (am, .inr (9, mF ad (upd (upd z 0 (0 : Int32)) 0 (1 : Int32)) wi dm))) H := hB
    have hD : va_D A (((ws).set 12 (am, .inr (9, mF ad (upd z 0 (0 : Int32)) wi dm))).set 12 (am, .inr (9, mF ad (upd (upd z 0 (0 : Int32)) 0 (1 : Int32)) wi dm))) := hD
    refine lv_i2d hx hb dX8_deep_24 ?_
    have hcd : cdOne x (nI nS) = 1 := by unfold cdOne; rw [if_pos hbd]
    have ew : ((ws).set 12 (am, .inr (9, mF ad (upd z 0 (0 : Int32)) wi dm))).set 12 (am, .inr (9, mF ad (upd (upd z 0 (0 : Int32)) 0 (1 : Int32)) wi dm)) = (if cdOne x (nI nS) = 0 then (ws).set 12 (am, .inr (9, mF ad (upd z 0 (0 : Int32)) wi dm)) else ws.set 12 (am, .inr (9, mF ad (upd z 0 (cdOne x (nI nS))) wi dm))) := by rw [hcd, if_neg (by decide), List.set_set, upd_upd]
    have hP : va_P G vwCl (((ws).set 12 (am, .inr (9, mF ad (upd z 0 (0 : Int32)) wi dm))).set 12 (am, .inr (9, mF ad (upd (upd z 0 (0 : Int32)) 0 (1 : Int32)) wi dm))) H := hP
    have hD : va_D A (((ws).set 12 (am, .inr (9, mF ad (upd z 0 (0 : Int32)) wi dm))).set 12 (am, .inr (9, mF ad (upd (upd z 0 (0 : Int32)) 0 (1 : Int32)) wi dm))) := hD
    rw [ew] at hP hD
    exact W.dret (v := FP.i2d r21) hx hb hr (fun t ht hW => ⟨⟨FP.i2d r21, (), rfl, (fun h0 => absurd (hcd.symm.trans h0) (by decide)), by show va_P G vwCl _ t.heap ∧ va_D A _; rw [ht]; exact ⟨hP, hD⟩⟩, hS.F ht⟩) hS.2.2 dX8_deep_25
set_option maxHeartbeats 1000000 in
set_option maxRecDepth 100000 in
theorem metX8_pin (l : Launch) (G : va_G) (tys : List (ClassId × FieldType)) {cI : ClassId} (htI : tI tys cI) {A : Nat → Prop} (ws : va_W) {am : Nat} {ad : Nat → Nat} {z : Nat → Int32} {wi dm : Int64} {F : Nat → Nat → Int32} (hm : ws[12]? = some (am, .inr (9, mF ad z wi dm))) (hA18 : ws[18]? = some (ad 18, .inl (cI, 48, .inl (F 18)))) (x y : Int32) : Met l yX8_pin wsX8_pin ({ frames := 1, cells := 0, slots := 0, locals := 22 }) (pcM G tys ws A [.ref am, .int x, .int y]) (va_Qi (fun (r : Int32) (_ : Unit) => cdPin x y = 0 → r = F 18 x.toNatClampNeg) (fun _ t => va_P G vwCl (if cdPin x y = 0 then ((ws).set 12 (am, .inr (9, mF ad (upd z 0 (0 : Int32)) wi dm))).set 18 (ad 18, .inl (cI, 48, .inl (upd (F 18) x.toNatClampNeg y))) else ws.set 12 (am, .inr (9, mF ad (upd z 0 (cdPin x y)) wi dm))) t.heap ∧ va_D A (if cdPin x y = 0 then ((ws).set 12 (am, .inr (9, mF ad (upd z 0 (0 : Int32)) wi dm))).set 18 (ad 18, .inl (cI, 48, .inl (upd (F 18) x.toNatClampNeg y))) else ws.set 12 (am, .inr (9, mF ad (upd z 0 (cdPin x y)) wi dm)))) A) 0 0 A := by
  refine ofM (cc := cX8_pin) (maxL := 4) (ret := some .int) (by decide) rfl (Nat.le_of_ble_eq_true rfl) ?_
  intro p e s m below meth c ls hx hb hr hlocks hml hown hts hin hl hP hK hD hA hS
  have hown : s.vm.findClass RX8 = some m.cls := hown
  have hiX8 : ∀ w ∈ u_ws RX8 TX8 39, w ∈ wsX8_pin := fun _ h => List.mem_cons_of_mem _ (List.mem_append_right _ h)
  have hl : lv_has ls 4 [(0, .ref am), (1, .int x), (2, .int y)] := hl
  refine lv_aload_n hx hb dX8_pin_0 rfl (lv_at hl 0 rfl) ?_
  refine lv_iconst (v := 0) hx hb dX8_pin_1 (by decide) ?_
  refine va_put (D := G) (ci := 9) (v := .int (0 : Int32)) (ty := .int) (C := RX8) (T := TX8) (N := 39) hx hb hts hiX8 tyX8 tyX8_ok nmX8 hown hK hP hD hS 12 hm rfl 0 (by decide) (hts (.fieldLink RX8 86 "VortexpinModel" "thrown" "I") (List.mem_of_getElem? (i := 1) rfl)) (fun _ h9 => h9) rfl (by decide +kernel) (rfl) (rfl) (Nat.le_of_ble_eq_true rfl) dX8_pin_2 (fun H locs hP hD hS => ?_)
  have hP : va_P G vwCl ((ws).set 12 (am, .inr (9, mF ad (upd z 0 (0 : Int32)) wi dm))) H := hP
  have hD : va_D A ((ws).set 12 (am, .inr (9, mF ad (upd z 0 (0 : Int32)) wi dm))) := hD
  have hA18 := va_gs (k := 12) (e := (am, .inr (9, mF ad (upd z 0 (0 : Int32)) wi dm))) (by decide) hA18
  have hm := va_ge (e := (am, .inr (9, mF ad (upd z 0 (0 : Int32)) wi dm))) hm
  refine lv_iload_n hx hb dX8_pin_5 rfl (lv_at hl 1 rfl) ?_
  refine lv_iconst (v := 0) hx hb dX8_pin_6 (by decide) ?_
  refine lv_bipush (v := 47) hx hb dX8_pin_7 (by decide) ?_
  refine vp_callSi (va_Run.run (va_runS (As := [.int x, .int (0 : Int32), .int (47 : Int32)]) (rest := []) ⟨hx, hb, hml, hown, hts⟩ (metX8_in l x (0 : Int32) (47 : Int32)) (va_cwS 3 hts gX8_pin_X8_in rfl rfl rfl (by decide +kernel) ⟨Nat.le_of_ble_eq_true rfl, Nat.le_of_ble_eq_true rfl⟩) ⟨pc0_b, pc0_u⟩ rfl rfl hl.1 rfl (lv_room (Nat.le_of_ble_eq_true rfl)) dX8_pin_9 ⟨Nat.le_of_ble_eq_true rfl, Nat.le_of_ble_eq_true rfl⟩)) (fun r9 h9 => ?_)
  refine lv_if_ne (tgt := 21) hx hb dX8_pin_12 (by decide) (fun c12 => ?_) (fun c12 => ?_)
  · have k0 : ¬ (uK x 48) := fun q9 => c12 (h9.trans (mIn_0.mpr ((oR_uK (k := 48) (by decide : (47 : Int32) = nI 48 - 1) (by decide)).mpr q9)))
    refine lv_iload_n hx hb dX8_pin_21 rfl (lv_at hl 2 rfl) ?_
    refine lv_iconst (v := 0) hx hb dX8_pin_22 (by decide) ?_
    refine lv_bipush (v := 50) hx hb dX8_pin_23 (by decide) ?_
    refine vp_callSi (va_Run.run (va_runS (As := [.int y, .int (0 : Int32), .int (50 : Int32)]) (rest := []) ⟨hx, hb, hml, hown, hts⟩ (metX8_in l y (0 : Int32) (50 : Int32)) (va_cwS 3 hts gX8_pin_X8_in rfl rfl rfl (by decide +kernel) ⟨Nat.le_of_ble_eq_true rfl, Nat.le_of_ble_eq_true rfl⟩) ⟨pc0_b, pc0_u⟩ rfl rfl hl.1 rfl (lv_room (Nat.le_of_ble_eq_true rfl)) dX8_pin_25 ⟨Nat.le_of_ble_eq_true rfl, Nat.le_of_ble_eq_true rfl⟩)) (fun r25 h25 => ?_)
    refine lv_if_ne (tgt := 37) hx hb dX8_pin_28 (by decide) (fun c28 => ?_) (fun c28 => ?_)
    · have k1 : ¬ (oR y 0 50) := fun q9 => c28 (h25.trans (mIn_0.mpr q9))
      refine lv_aload_n hx hb dX8_pin_37 rfl (lv_at hl 0 rfl) ?_
      refine va_get (D := G) (ci := 9) (v := .ref (ad 18)) (C := RX8) (T := TX8) (N := 39) hx hb hts hiX8 hown hK hP 12 hm rfl 7 (by decide) (hts (.fieldLink RX8 25 "VortexpinModel" "depth" "[I") (List.mem_of_getElem? (i := 2) rfl)) (fun _ h9 => h9) rfl dX8_pin_38 ?_
      refine lv_iload_n hx hb dX8_pin_41 rfl (lv_at hl 1 rfl) ?_
      refine va_iald hx hb hK hP 18 0 hA18 htI (vp_uK k0) dX8_pin_42 ?_
      refine lv_istore_n (lv' := [(3, .int ((F 18) x.toNatClampNeg)), (0, .ref am), (1, .int x), (2, .int y)]) hx hb dX8_pin_43 rfl hl (by decide) rfl (fun ls hl => ?_)
      refine lv_aload_n hx hb dX8_pin_44 rfl (lv_at hl 1 rfl) ?_
      refine va_get (D := G) (ci := 9) (v := .ref (ad 18)) (C := RX8) (T := TX8) (N := 39) hx hb hts hiX8 hown hK hP 12 hm rfl 7 (by decide) (hts (.fieldLink RX8 25 "VortexpinModel" "depth" "[I") (List.mem_of_getElem? (i := 2) rfl)) (fun _ h9 => h9) rfl dX8_pin_45 ?_
      refine lv_iload_n hx hb dX8_pin_48 rfl (lv_at hl 2 rfl) ?_
      refine lv_iload_n hx hb dX8_pin_49 rfl (lv_at hl 3 rfl) ?_
      refine va_iast hx hb hK hP hD hS 18 0 hA18 htI (vp_uK k0) dX8_pin_50 (fun H locs hP hD hS => ?_)
      have hm := va_gs (k := 18) (e := (ad 18, .inl (cI, 48, .inl (upd (F 18) x.toNatClampNeg y)))) (by decide) hm
      have hA18 := va_ge (e := (ad 18, .inl (cI, 48, .inl (upd (F 18) x.toNatClampNeg y)))) hA18
      refine lv_iload_n hx hb dX8_pin_51 rfl (lv_at hl 0 rfl) ?_
      have hcd : cdPin x y = 0 := by unfold cdPin; rw [if_neg k0, if_neg k1]
      have ew : ((ws).set 12 (am, .inr (9, mF ad (upd z 0 (0 : Int32)) wi dm))).set 18 (ad 18, .inl (cI, 48, .inl (upd (F 18) x.toNatClampNeg y))) = (if cdPin x y = 0 then ((ws).set 12 (am, .inr (9, mF ad (upd z 0 (0 : Int32)) wi dm))).set 18 (ad 18, .inl (cI, 48, .inl (upd (F 18) x.toNatClampNeg y))) else ws.set 12 (am, .inr (9, mF ad (upd z 0 (cdPin x y)) wi dm))) := by rw [hcd, if_pos rfl]
      have hP : va_P G vwCl (((ws).set 12 (am, .inr (9, mF ad (upd z 0 (0 : Int32)) wi dm))).set 18 (ad 18, .inl (cI, 48, .inl (upd (F 18) x.toNatClampNeg y)))) H := hP
      have hD : va_D A (((ws).set 12 (am, .inr (9, mF ad (upd z 0 (0 : Int32)) wi dm))).set 18 (ad 18, .inl (cI, 48, .inl (upd (F 18) x.toNatClampNeg y)))) := hD
      rw [ew] at hP hD
      exact W.iret (v := (F 18) x.toNatClampNeg) hx hb hr (fun t ht hW => ⟨⟨(F 18) x.toNatClampNeg, (), rfl, (fun _ => rfl), by show va_P G vwCl _ t.heap ∧ va_D A _; rw [ht]; exact ⟨hP, hD⟩⟩, hS.F ht⟩) hS.2.2 dX8_pin_52
    · have hbd : oR y 0 50 := mIn_0.mp (h25.symm.trans c28)
      skip
      refine lv_aload_n hx hb dX8_pin_31 rfl (lv_at hl 0 rfl) ?_
      refine lv_iconst (v := 2) hx hb dX8_pin_32 (by decide) ?_
      refine va_calli (va_runV (As := [.int (2 : Int32)]) (rest := []) ⟨hx, hb, hml, hown, hts⟩ (metX8_stop l G tys _ hm (2 : Int32)) (cwV 1 hts gX8_pin_X8_stop rfl rfl rfl (by decide +kernel) ⟨Nat.le_of_ble_eq_true rfl, Nat.le_of_ble_eq_true rfl⟩) ⟨pcM_b, va_recv hK hP (ci := 9) (q0 := 12) rfl hm, pcM_u hP hK hD hS hA⟩ rfl rfl hl.1 rfl (lv_room (Nat.le_of_ble_eq_true rfl)) dX8_pin_33 ⟨Nat.le_of_ble_eq_true rfl, Nat.le_of_ble_eq_true rfl⟩) hS (fun q _ h => h) (fun q h => h) (fun r33 u t H locs ht hvm h33 hB hsz hk1 hS => ?_)
      rw [ht] at hB
      have hB := hB.1
      have hD := hD.set (e := .inr (9, mF ad (upd (upd z 0 (0 : Int32)) 0 (2 : Int32)) wi dm)) hm
      have hA18 := va_gs (k := 12) (e := (am, .inr (9, mF ad (upd (upd z 0 (0 : Int32)) 0 (2 : Int32)) wi dm))) (by decide) hA18
      have hm := va_ge (e := (am, .inr (9, mF ad (upd (upd z 0 (0 : Int32)) 0 (2 : Int32)) wi dm))) hm
      have hP : va_P G vwCl (((ws).set 12 (am, .inr (9, mF ad (upd z 0 (0 : Int32)) wi dm))).set 12 (am, .inr (9, mF ad (upd (upd z 0 (0 : Int32)) 0 (2 : Int32)) wi dm))) H := hB
      have hD : va_D A (((ws).set 12 (am, .inr (9, mF ad (upd z 0 (0 : Int32)) wi dm))).set 12 (am, .inr (9, mF ad (upd (upd z 0 (0 : Int32)) 0 (2 : Int32)) wi dm))) := hD
      have hcd : cdPin x y = 2 := by unfold cdPin; rw [if_neg k0, if_pos hbd]
      have ew : ((ws).set 12 (am, .inr (9, mF ad (upd z 0 (0 : Int32)) wi dm))).set 12 (am, .inr (9, mF ad (upd (upd z 0 (0 : Int32)) 0 (2 : Int32)) wi dm)) = (if cdPin x y = 0 then ((ws).set 12 (am, .inr (9, mF ad (upd z 0 (0 : Int32)) wi dm))).set 18 (ad 18, .inl (cI, 48, .inl (upd (F 18) x.toNatClampNeg y))) else ws.set 12 (am, .inr (9, mF ad (upd z 0 (cdPin x y)) wi dm))) := by rw [hcd, if_neg (by decide), List.set_set, upd_upd]
      have hP : va_P G vwCl (((ws).set 12 (am, .inr (9, mF ad (upd z 0 (0 : Int32)) wi dm))).set 12 (am, .inr (9, mF ad (upd (upd z 0 (0 : Int32)) 0 (2 : Int32)) wi dm))) H := hP
      have hD : va_D A (((ws).set 12 (am, .inr (9, mF ad (upd z 0 (0 : Int32)) wi dm))).set 12 (am, .inr (9, mF ad (upd (upd z 0 (0 : Int32)) 0 (2 : Int32)) wi dm))) := hD
      rw [ew] at hP hD
      exact W.iret (v := r33) hx hb hr (fun t ht hW => ⟨⟨r33, (), rfl, (fun h0 => absurd (hcd.symm.trans h0) (by decide)), by show va_P G vwCl _ t.heap ∧ va_D A _; rw [ht]; exact ⟨hP, hD⟩⟩, hS.F ht⟩) hS.2.2 dX8_pin_36
  · have hbd : uK x 48 := (oR_uK (k := 48) (by decide : (47 : Int32) = nI 48 - 1) (by decide)).mp (mIn_0.mp (h9.symm.trans c12))
    skip
    refine lv_aload_n hx hb dX8_pin_15 rfl (lv_at hl 0 rfl) ?_
    refine lv_iconst (v := 1) hx hb dX8_pin_16 (by decide) ?_
    refine va_calli (va_runV (As := [.int (1 : Int32)]) (rest := []) ⟨hx, hb, hml, hown, hts⟩ (metX8_stop l G tys _ hm (1 : Int32)) (cwV 1 hts gX8_pin_X8_stop rfl rfl rfl (by decide +kernel) ⟨Nat.le_of_ble_eq_true rfl, Nat.le_of_ble_eq_true rfl⟩) ⟨pcM_b, va_recv hK hP (ci := 9) (q0 := 12) rfl hm, pcM_u hP hK hD hS hA⟩ rfl rfl hl.1 rfl (lv_room (Nat.le_of_ble_eq_true rfl)) dX8_pin_17 ⟨Nat.le_of_ble_eq_true rfl, Nat.le_of_ble_eq_true rfl⟩) hS (fun q _ h => h) (fun q h => h) (fun r17 u t H locs ht hvm h17 hB hsz hk1 hS => ?_)
    rw [ht] at hB
    have hB := hB.1
    have hD := hD.set (e := .inr (9, mF ad (upd (upd z 0 (0 : Int32)) 0 (1 : Int32)) wi dm)) hm
    have hA18 := va_gs (k := 12) (e := (am, .inr (9, mF ad (upd (upd z 0 (0 : Int32)) 0 (1 : Int32)) wi dm))) (by decide) hA18
    have hm := va_ge (e := (am, .inr (9, mF ad (upd (upd z 0 (0 : Int32)) 0 (1 : Int32)) wi dm))) hm
    have hP : va_P G vwCl (((ws).set 12 (am, .inr (9, mF ad (upd z 0 (0 : Int32)) wi dm))).set 12 (am, .inr (9, mF ad (upd (upd z 0 (0 : Int32)) 0 (1 : Int32)) wi dm))) H := hB
    have hD : va_D A (((ws).set 12 (am, .inr (9, mF ad (upd z 0 (0 : Int32)) wi dm))).set 12 (am, .inr (9, mF ad (upd (upd z 0 (0 : Int32)) 0 (1 : Int32)) wi dm))) := hD
    have hcd : cdPin x y = 1 := by unfold cdPin; rw [if_pos hbd]
    have ew : ((ws).set 12 (am, .inr (9, mF ad (upd z 0 (0 : Int32)) wi dm))).set 12 (am, .inr (9, mF ad (upd (upd z 0 (0 : Int32)) 0 (1 : Int32)) wi dm)) = (if cdPin x y = 0 then ((ws).set 12 (am, .inr (9, mF ad (upd z 0 (0 : Int32)) wi dm))).set 18 (ad 18, .inl (cI, 48, .inl (upd (F 18) x.toNatClampNeg y))) else ws.set 12 (am, .inr (9, mF ad (upd z 0 (cdPin x y)) wi dm))) := by rw [hcd, if_neg (by decide), List.set_set, upd_upd]
    have hP : va_P G vwCl (((ws).set 12 (am, .inr (9, mF ad (upd z 0 (0 : Int32)) wi dm))).set 12 (am, .inr (9, mF ad (upd (upd z 0 (0 : Int32)) 0 (1 : Int32)) wi dm))) H := hP
    have hD : va_D A (((ws).set 12 (am, .inr (9, mF ad (upd z 0 (0 : Int32)) wi dm))).set 12 (am, .inr (9, mF ad (upd (upd z 0 (0 : Int32)) 0 (1 : Int32)) wi dm))) := hD
    rw [ew] at hP hD
    exact W.iret (v := r17) hx hb hr (fun t ht hW => ⟨⟨r17, (), rfl, (fun h0 => absurd (hcd.symm.trans h0) (by decide)), by show va_P G vwCl _ t.heap ∧ va_D A _; rw [ht]; exact ⟨hP, hD⟩⟩, hS.F ht⟩) hS.2.2 dX8_pin_20
set_option maxHeartbeats 1000000 in
set_option maxRecDepth 100000 in
theorem metX8_drive (l : Launch) (G : va_G) (tys : List (ClassId × FieldType)) {cI : ClassId} (htI : tI tys cI) {A : Nat → Prop} (ws : va_W) {am : Nat} {ad : Nat → Nat} {z : Nat → Int32} {wi dm : Int64} {F : Nat → Nat → Int32} (hm : ws[12]? = some (am, .inr (9, mF ad z wi dm))) (d h : Int32) : Met l yX8_drive wsX8_drive ({ frames := 1, cells := 0, slots := 0, locals := 22 }) (pcM G tys ws A [.ref am, .int d, .int h]) (va_Qv (fun (_ : Unit) => True) (fun _ t => va_P G vwCl (if cdDrive d h = 0 then (((ws).set 12 (am, .inr (9, mF ad (upd z 0 (0 : Int32)) wi dm))).set 12 (am, .inr (9, mF ad (upd (upd z 0 (0 : Int32)) 11 d) wi dm))).set 12 (am, .inr (9, mF ad (upd (upd (upd z 0 (0 : Int32)) 11 d) 12 h) wi dm)) else ws.set 12 (am, .inr (9, mF ad (upd z 0 (cdDrive d h)) wi dm))) t.heap ∧ va_D A (if cdDrive d h = 0 then (((ws).set 12 (am, .inr (9, mF ad (upd z 0 (0 : Int32)) wi dm))).set 12 (am, .inr (9, mF ad (upd (upd z 0 (0 : Int32)) 11 d) wi dm))).set 12 (am, .inr (9, mF ad (upd (upd (upd z 0 (0 : Int32)) 11 d) 12 h) wi dm)) else ws.set 12 (am, .inr (9, mF ad (upd z 0 (cdDrive d h)) wi dm)))) A) 0 0 A := by
  refine ofM (cc := cX8_drive) (maxL := 3) (ret := none) (by decide) rfl (Nat.le_of_ble_eq_true rfl) ?_
  intro p e s m below meth c ls hx hb hr hlocks hml hown hts hin hl hP hK hD hA hS
  have hown : s.vm.findClass RX8 = some m.cls := hown
  have hiX8 : ∀ w ∈ u_ws RX8 TX8 39, w ∈ wsX8_drive := fun _ h => List.mem_cons_of_mem _ (List.mem_append_right _ h)
  have hl : lv_has ls 3 [(0, .ref am), (1, .int d), (2, .int h)] := hl
  refine lv_aload_n hx hb dX8_drive_0 rfl (lv_at hl 0 rfl) ?_
  refine lv_iconst (v := 0) hx hb dX8_drive_1 (by decide) ?_
  refine va_put (D := G) (ci := 9) (v := .int (0 : Int32)) (ty := .int) (C := RX8) (T := TX8) (N := 39) hx hb hts hiX8 tyX8 tyX8_ok nmX8 hown hK hP hD hS 12 hm rfl 0 (by decide) (hts (.fieldLink RX8 86 "VortexpinModel" "thrown" "I") (List.mem_of_getElem? (i := 1) rfl)) (fun _ h9 => h9) rfl (by decide +kernel) (rfl) (rfl) (Nat.le_of_ble_eq_true rfl) dX8_drive_2 (fun H locs hP hD hS => ?_)
  have hP : va_P G vwCl ((ws).set 12 (am, .inr (9, mF ad (upd z 0 (0 : Int32)) wi dm))) H := hP
  have hD : va_D A ((ws).set 12 (am, .inr (9, mF ad (upd z 0 (0 : Int32)) wi dm))) := hD
  have hm := va_ge (e := (am, .inr (9, mF ad (upd z 0 (0 : Int32)) wi dm))) hm
  refine lv_iload_n hx hb dX8_drive_5 rfl (lv_at hl 1 rfl) ?_
  refine lv_bipush (v := -9) hx hb dX8_drive_6 (by decide) ?_
  refine lv_bipush (v := 9) hx hb dX8_drive_8 (by decide) ?_
  refine vp_callSi (va_Run.run (va_runS (As := [.int d, .int (-9 : Int32), .int (9 : Int32)]) (rest := []) ⟨hx, hb, hml, hown, hts⟩ (metX8_in l d (-9 : Int32) (9 : Int32)) (va_cwS 3 hts gX8_drive_X8_in rfl rfl rfl (by decide +kernel) ⟨Nat.le_of_ble_eq_true rfl, Nat.le_of_ble_eq_true rfl⟩) ⟨pc0_b, pc0_u⟩ rfl rfl hl.1 rfl (lv_room (Nat.le_of_ble_eq_true rfl)) dX8_drive_10 ⟨Nat.le_of_ble_eq_true rfl, Nat.le_of_ble_eq_true rfl⟩)) (fun r10 h10 => ?_)
  refine lv_if_eq (tgt := 26) hx hb dX8_drive_13 (by decide) (fun c13 => ?_) (fun c13 => ?_)
  · have hbd : oR d (-9) 9 := mIn_0.mp (h10.symm.trans c13)
    skip
    refine lv_aload_n hx hb dX8_drive_26 rfl (lv_at hl 0 rfl) ?_
    refine lv_iconst (v := 1) hx hb dX8_drive_27 (by decide) ?_
    refine va_calli (va_runV (As := [.int (1 : Int32)]) (rest := []) ⟨hx, hb, hml, hown, hts⟩ (metX8_stop l G tys _ hm (1 : Int32)) (cwV 1 hts gX8_drive_X8_stop rfl rfl rfl (by decide +kernel) ⟨Nat.le_of_ble_eq_true rfl, Nat.le_of_ble_eq_true rfl⟩) ⟨pcM_b, va_recv hK hP (ci := 9) (q0 := 12) rfl hm, pcM_u hP hK hD hS hA⟩ rfl rfl hl.1 rfl (lv_room (Nat.le_of_ble_eq_true rfl)) dX8_drive_28 ⟨Nat.le_of_ble_eq_true rfl, Nat.le_of_ble_eq_true rfl⟩) hS (fun q _ h => h) (fun q h => h) (fun r28 u t H locs ht hvm h28 hB hsz hk1 hS => ?_)
    rw [ht] at hB
    have hB := hB.1
    have hD := hD.set (e := .inr (9, mF ad (upd (upd z 0 (0 : Int32)) 0 (1 : Int32)) wi dm)) hm
    have hm := va_ge (e := (am, .inr (9, mF ad (upd (upd z 0 (0 : Int32)) 0 (1 : Int32)) wi dm))) hm
    have hP : va_P G vwCl (((ws).set 12 (am, .inr (9, mF ad (upd z 0 (0 : Int32)) wi dm))).set 12 (am, .inr (9, mF ad (upd (upd z 0 (0 : Int32)) 0 (1 : Int32)) wi dm))) H := hB
    have hD : va_D A (((ws).set 12 (am, .inr (9, mF ad (upd z 0 (0 : Int32)) wi dm))).set 12 (am, .inr (9, mF ad (upd (upd z 0 (0 : Int32)) 0 (1 : Int32)) wi dm))) := hD
    refine lv_pop hx hb dX8_drive_31 rfl ?_
    have hcd : cdDrive d h = 1 := by unfold cdDrive; rw [if_pos hbd]
    have ew : ((ws).set 12 (am, .inr (9, mF ad (upd z 0 (0 : Int32)) wi dm))).set 12 (am, .inr (9, mF ad (upd (upd z 0 (0 : Int32)) 0 (1 : Int32)) wi dm)) = (if cdDrive d h = 0 then (((ws).set 12 (am, .inr (9, mF ad (upd z 0 (0 : Int32)) wi dm))).set 12 (am, .inr (9, mF ad (upd (upd z 0 (0 : Int32)) 11 d) wi dm))).set 12 (am, .inr (9, mF ad (upd (upd (upd z 0 (0 : Int32)) 11 d) 12 h) wi dm)) else ws.set 12 (am, .inr (9, mF ad (upd z 0 (cdDrive d h)) wi dm))) := by rw [hcd, if_neg (by decide), List.set_set, upd_upd]
    have hP : va_P G vwCl (((ws).set 12 (am, .inr (9, mF ad (upd z 0 (0 : Int32)) wi dm))).set 12 (am, .inr (9, mF ad (upd (upd z 0 (0 : Int32)) 0 (1 : Int32)) wi dm))) H := hP
    have hD : va_D A (((ws).set 12 (am, .inr (9, mF ad (upd z 0 (0 : Int32)) wi dm))).set 12 (am, .inr (9, mF ad (upd (upd z 0 (0 : Int32)) 0 (1 : Int32)) wi dm))) := hD
    rw [ew] at hP hD
    exact W.vret hx hb hr (fun t ht hW => ⟨⟨(), rfl, trivial, by show va_P G vwCl _ t.heap ∧ va_D A _; rw [ht]; exact ⟨hP, hD⟩⟩, hS.F ht⟩) hS.2.2 dX8_drive_32
  · have k0 : ¬ (oR d (-9) 9) := fun q9 => c13 (h10.trans (mIn_0.mpr q9))
    refine lv_iload_n hx hb dX8_drive_16 rfl (lv_at hl 2 rfl) ?_
    refine lv_iconst (v := 0) hx hb dX8_drive_17 (by decide) ?_
    refine lv_bipush (v := 30) hx hb dX8_drive_18 (by decide) ?_
    refine vp_callSi (va_Run.run (va_runS (As := [.int h, .int (0 : Int32), .int (30 : Int32)]) (rest := []) ⟨hx, hb, hml, hown, hts⟩ (metX8_in l h (0 : Int32) (30 : Int32)) (va_cwS 3 hts gX8_drive_X8_in rfl rfl rfl (by decide +kernel) ⟨Nat.le_of_ble_eq_true rfl, Nat.le_of_ble_eq_true rfl⟩) ⟨pc0_b, pc0_u⟩ rfl rfl hl.1 rfl (lv_room (Nat.le_of_ble_eq_true rfl)) dX8_drive_20 ⟨Nat.le_of_ble_eq_true rfl, Nat.le_of_ble_eq_true rfl⟩)) (fun r20 h20 => ?_)
    refine lv_if_ne (tgt := 33) hx hb dX8_drive_23 (by decide) (fun c23 => ?_) (fun c23 => ?_)
    · have k1 : ¬ (oR h 0 30) := fun q9 => c23 (h20.trans (mIn_0.mpr q9))
      refine lv_aload_n hx hb dX8_drive_33 rfl (lv_at hl 0 rfl) ?_
      refine lv_iload_n hx hb dX8_drive_34 rfl (lv_at hl 1 rfl) ?_
      refine va_put (D := G) (ci := 9) (v := .int d) (ty := .int) (C := RX8) (T := TX8) (N := 39) hx hb hts hiX8 tyX8 tyX8_ok nmX8 hown hK hP hD hS 12 hm rfl 11 (by decide) (hts (.fieldLink RX8 109 "VortexpinModel" "drive" "I") (List.mem_of_getElem? (i := 2) rfl)) (fun _ h9 => h9) rfl (by decide +kernel) (rfl) (rfl) (Nat.le_of_ble_eq_true rfl) dX8_drive_35 (fun H locs hP hD hS => ?_)
      have hP : va_P G vwCl (((ws).set 12 (am, .inr (9, mF ad (upd z 0 (0 : Int32)) wi dm))).set 12 (am, .inr (9, mF ad (upd (upd z 0 (0 : Int32)) 11 d) wi dm))) H := hP
      have hD : va_D A (((ws).set 12 (am, .inr (9, mF ad (upd z 0 (0 : Int32)) wi dm))).set 12 (am, .inr (9, mF ad (upd (upd z 0 (0 : Int32)) 11 d) wi dm))) := hD
      have hm := va_ge (e := (am, .inr (9, mF ad (upd (upd z 0 (0 : Int32)) 11 d) wi dm))) hm
      refine lv_aload_n hx hb dX8_drive_38 rfl (lv_at hl 0 rfl) ?_
      refine lv_iload_n hx hb dX8_drive_39 rfl (lv_at hl 2 rfl) ?_
      refine va_put (D := G) (ci := 9) (v := .int h) (ty := .int) (C := RX8) (T := TX8) (N := 39) hx hb hts hiX8 tyX8 tyX8_ok nmX8 hown hK hP hD hS 12 hm rfl 12 (by decide) (hts (.fieldLink RX8 112 "VortexpinModel" "heat" "I") (List.mem_of_getElem? (i := 3) rfl)) (fun _ h9 => h9) rfl (by decide +kernel) (rfl) (rfl) (Nat.le_of_ble_eq_true rfl) dX8_drive_40 (fun H locs hP hD hS => ?_)
      have hP : va_P G vwCl ((((ws).set 12 (am, .inr (9, mF ad (upd z 0 (0 : Int32)) wi dm))).set 12 (am, .inr (9, mF ad (upd (upd z 0 (0 : Int32)) 11 d) wi dm))).set 12 (am, .inr (9, mF ad (upd (upd (upd z 0 (0 : Int32)) 11 d) 12 h) wi dm))) H := hP
      have hD : va_D A ((((ws).set 12 (am, .inr (9, mF ad (upd z 0 (0 : Int32)) wi dm))).set 12 (am, .inr (9, mF ad (upd (upd z 0 (0 : Int32)) 11 d) wi dm))).set 12 (am, .inr (9, mF ad (upd (upd (upd z 0 (0 : Int32)) 11 d) 12 h) wi dm))) := hD
      have hm := va_ge (e := (am, .inr (9, mF ad (upd (upd (upd z 0 (0 : Int32)) 11 d) 12 h) wi dm))) hm
      have hcd : cdDrive d h = 0 := by unfold cdDrive; rw [if_neg k0, if_neg k1]
      have ew : (((ws).set 12 (am, .inr (9, mF ad (upd z 0 (0 : Int32)) wi dm))).set 12 (am, .inr (9, mF ad (upd (upd z 0 (0 : Int32)) 11 d) wi dm))).set 12 (am, .inr (9, mF ad (upd (upd (upd z 0 (0 : Int32)) 11 d) 12 h) wi dm)) = (if cdDrive d h = 0 then (((ws).set 12 (am, .inr (9, mF ad (upd z 0 (0 : Int32)) wi dm))).set 12 (am, .inr (9, mF ad (upd (upd z 0 (0 : Int32)) 11 d) wi dm))).set 12 (am, .inr (9, mF ad (upd (upd (upd z 0 (0 : Int32)) 11 d) 12 h) wi dm)) else ws.set 12 (am, .inr (9, mF ad (upd z 0 (cdDrive d h)) wi dm))) := by rw [hcd, if_pos rfl]
      have hP : va_P G vwCl ((((ws).set 12 (am, .inr (9, mF ad (upd z 0 (0 : Int32)) wi dm))).set 12 (am, .inr (9, mF ad (upd (upd z 0 (0 : Int32)) 11 d) wi dm))).set 12 (am, .inr (9, mF ad (upd (upd (upd z 0 (0 : Int32)) 11 d) 12 h) wi dm))) H := hP
      have hD : va_D A ((((ws).set 12 (am, .inr (9, mF ad (upd z 0 (0 : Int32)) wi dm))).set 12 (am, .inr (9, mF ad (upd (upd z 0 (0 : Int32)) 11 d) wi dm))).set 12 (am, .inr (9, mF ad (upd (upd (upd z 0 (0 : Int32)) 11 d) 12 h) wi dm))) := hD
      rw [ew] at hP hD
      exact W.vret hx hb hr (fun t ht hW => ⟨⟨(), rfl, trivial, by show va_P G vwCl _ t.heap ∧ va_D A _; rw [ht]; exact ⟨hP, hD⟩⟩, hS.F ht⟩) hS.2.2 dX8_drive_43
    · have hbd : oR h 0 30 := mIn_0.mp (h20.symm.trans c23)
      skip
      refine lv_aload_n hx hb dX8_drive_26 rfl (lv_at hl 0 rfl) ?_
      refine lv_iconst (v := 1) hx hb dX8_drive_27 (by decide) ?_
      refine va_calli (va_runV (As := [.int (1 : Int32)]) (rest := []) ⟨hx, hb, hml, hown, hts⟩ (metX8_stop l G tys _ hm (1 : Int32)) (cwV 1 hts gX8_drive_X8_stop rfl rfl rfl (by decide +kernel) ⟨Nat.le_of_ble_eq_true rfl, Nat.le_of_ble_eq_true rfl⟩) ⟨pcM_b, va_recv hK hP (ci := 9) (q0 := 12) rfl hm, pcM_u hP hK hD hS hA⟩ rfl rfl hl.1 rfl (lv_room (Nat.le_of_ble_eq_true rfl)) dX8_drive_28 ⟨Nat.le_of_ble_eq_true rfl, Nat.le_of_ble_eq_true rfl⟩) hS (fun q _ h => h) (fun q h => h) (fun r28 u t H locs ht hvm h28 hB hsz hk1 hS => ?_)
      rw [ht] at hB
      have hB := hB.1
      have hD := hD.set (e := .inr (9, mF ad (upd (upd z 0 (0 : Int32)) 0 (1 : Int32)) wi dm)) hm
      have hm := va_ge (e := (am, .inr (9, mF ad (upd (upd z 0 (0 : Int32)) 0 (1 : Int32)) wi dm))) hm
      have hP : va_P G vwCl (((ws).set 12 (am, .inr (9, mF ad (upd z 0 (0 : Int32)) wi dm))).set 12 (am, .inr (9, mF ad (upd (upd z 0 (0 : Int32)) 0 (1 : Int32)) wi dm))) H := hB
      have hD : va_D A (((ws).set 12 (am, .inr (9, mF ad (upd z 0 (0 : Int32)) wi dm))).set 12 (am, .inr (9, mF ad (upd (upd z 0 (0 : Int32)) 0 (1 : Int32)) wi dm))) := hD
      refine lv_pop hx hb dX8_drive_31 rfl ?_
      have hcd : cdDrive d h = 1 := by unfold cdDrive; rw [if_neg k0, if_pos hbd]
      have ew : ((ws).set 12 (am, .inr (9, mF ad (upd z 0 (0 : Int32)) wi dm))).set 12 (am, .inr (9, mF ad (upd (upd z 0 (0 : Int32)) 0 (1 : Int32)) wi dm)) = (if cdDrive d h = 0 then (((ws).set 12 (am, .inr (9, mF ad (upd z 0 (0 : Int32)) wi dm))).set 12 (am, .inr (9, mF ad (upd (upd z 0 (0 : Int32)) 11 d) wi dm))).set 12 (am, .inr (9, mF ad (upd (upd (upd z 0 (0 : Int32)) 11 d) 12 h) wi dm)) else ws.set 12 (am, .inr (9, mF ad (upd z 0 (cdDrive d h)) wi dm))) := by rw [hcd, if_neg (by decide), List.set_set, upd_upd]
      have hP : va_P G vwCl (((ws).set 12 (am, .inr (9, mF ad (upd z 0 (0 : Int32)) wi dm))).set 12 (am, .inr (9, mF ad (upd (upd z 0 (0 : Int32)) 0 (1 : Int32)) wi dm))) H := hP
      have hD : va_D A (((ws).set 12 (am, .inr (9, mF ad (upd z 0 (0 : Int32)) wi dm))).set 12 (am, .inr (9, mF ad (upd (upd z 0 (0 : Int32)) 0 (1 : Int32)) wi dm))) := hD
      rw [ew] at hP hD
      exact W.vret hx hb hr (fun t ht hW => ⟨⟨(), rfl, trivial, by show va_P G vwCl _ t.heap ∧ va_D A _; rw [ht]; exact ⟨hP, hD⟩⟩, hS.F ht⟩) hS.2.2 dX8_drive_32
set_option maxHeartbeats 1000000 in
set_option maxRecDepth 100000 in
theorem metX8_margins (l : Launch) (G : va_G) (tys : List (ClassId × FieldType)) {cI : ClassId} (htI : tI tys cI) {A : Nat → Prop} (ws : va_W) {am : Nat} {ad : Nat → Nat} {z : Nat → Int32} {wi dm : Int64} {F : Nat → Nat → Int32} (hm : ws[12]? = some (am, .inr (9, mF ad z wi dm))) (lo up : Int32) : Met l yX8_margins wsX8_margins ({ frames := 1, cells := 0, slots := 0, locals := 22 }) (pcM G tys ws A [.ref am, .int lo, .int up]) (va_Qv (fun (_ : Unit) => True) (fun _ t => va_P G vwCl (if cdMargins lo up = 0 then (((ws).set 12 (am, .inr (9, mF ad (upd z 0 (0 : Int32)) wi dm))).set 12 (am, .inr (9, mF ad (upd (upd z 0 (0 : Int32)) 26 lo) wi dm))).set 12 (am, .inr (9, mF ad (upd (upd (upd z 0 (0 : Int32)) 26 lo) 27 up) wi dm)) else ws.set 12 (am, .inr (9, mF ad (upd z 0 (cdMargins lo up)) wi dm))) t.heap ∧ va_D A (if cdMargins lo up = 0 then (((ws).set 12 (am, .inr (9, mF ad (upd z 0 (0 : Int32)) wi dm))).set 12 (am, .inr (9, mF ad (upd (upd z 0 (0 : Int32)) 26 lo) wi dm))).set 12 (am, .inr (9, mF ad (upd (upd (upd z 0 (0 : Int32)) 26 lo) 27 up) wi dm)) else ws.set 12 (am, .inr (9, mF ad (upd z 0 (cdMargins lo up)) wi dm)))) A) 0 0 A := by
  refine ofM (cc := cX8_margins) (maxL := 3) (ret := none) (by decide) rfl (Nat.le_of_ble_eq_true rfl) ?_
  intro p e s m below meth c ls hx hb hr hlocks hml hown hts hin hl hP hK hD hA hS
  have hown : s.vm.findClass RX8 = some m.cls := hown
  have hiX8 : ∀ w ∈ u_ws RX8 TX8 39, w ∈ wsX8_margins := fun _ h => List.mem_cons_of_mem _ (List.mem_append_right _ h)
  have hl : lv_has ls 3 [(0, .ref am), (1, .int lo), (2, .int up)] := hl
  refine lv_aload_n hx hb dX8_margins_0 rfl (lv_at hl 0 rfl) ?_
  refine lv_iconst (v := 0) hx hb dX8_margins_1 (by decide) ?_
  refine va_put (D := G) (ci := 9) (v := .int (0 : Int32)) (ty := .int) (C := RX8) (T := TX8) (N := 39) hx hb hts hiX8 tyX8 tyX8_ok nmX8 hown hK hP hD hS 12 hm rfl 0 (by decide) (hts (.fieldLink RX8 86 "VortexpinModel" "thrown" "I") (List.mem_of_getElem? (i := 1) rfl)) (fun _ h9 => h9) rfl (by decide +kernel) (rfl) (rfl) (Nat.le_of_ble_eq_true rfl) dX8_margins_2 (fun H locs hP hD hS => ?_)
  have hP : va_P G vwCl ((ws).set 12 (am, .inr (9, mF ad (upd z 0 (0 : Int32)) wi dm))) H := hP
  have hD : va_D A ((ws).set 12 (am, .inr (9, mF ad (upd z 0 (0 : Int32)) wi dm))) := hD
  have hm := va_ge (e := (am, .inr (9, mF ad (upd z 0 (0 : Int32)) wi dm))) hm
  refine lv_iload_n hx hb dX8_margins_5 rfl (lv_at hl 1 rfl) ?_
  refine lv_iconst (v := 0) hx hb dX8_margins_6 (by decide) ?_
  refine lv_sipush (v := 1000) hx hb dX8_margins_7 (by decide) ?_
  refine vp_callSi (va_Run.run (va_runS (As := [.int lo, .int (0 : Int32), .int (1000 : Int32)]) (rest := []) ⟨hx, hb, hml, hown, hts⟩ (metX8_in l lo (0 : Int32) (1000 : Int32)) (va_cwS 3 hts gX8_margins_X8_in rfl rfl rfl (by decide +kernel) ⟨Nat.le_of_ble_eq_true rfl, Nat.le_of_ble_eq_true rfl⟩) ⟨pc0_b, pc0_u⟩ rfl rfl hl.1 rfl (lv_room (Nat.le_of_ble_eq_true rfl)) dX8_margins_10 ⟨Nat.le_of_ble_eq_true rfl, Nat.le_of_ble_eq_true rfl⟩)) (fun r10 h10 => ?_)
  refine lv_if_eq (tgt := 27) hx hb dX8_margins_13 (by decide) (fun c13 => ?_) (fun c13 => ?_)
  · have hbd : oR lo 0 1000 := mIn_0.mp (h10.symm.trans c13)
    skip
    refine lv_aload_n hx hb dX8_margins_27 rfl (lv_at hl 0 rfl) ?_
    refine lv_iconst (v := 1) hx hb dX8_margins_28 (by decide) ?_
    refine va_calli (va_runV (As := [.int (1 : Int32)]) (rest := []) ⟨hx, hb, hml, hown, hts⟩ (metX8_stop l G tys _ hm (1 : Int32)) (cwV 1 hts gX8_margins_X8_stop rfl rfl rfl (by decide +kernel) ⟨Nat.le_of_ble_eq_true rfl, Nat.le_of_ble_eq_true rfl⟩) ⟨pcM_b, va_recv hK hP (ci := 9) (q0 := 12) rfl hm, pcM_u hP hK hD hS hA⟩ rfl rfl hl.1 rfl (lv_room (Nat.le_of_ble_eq_true rfl)) dX8_margins_29 ⟨Nat.le_of_ble_eq_true rfl, Nat.le_of_ble_eq_true rfl⟩) hS (fun q _ h => h) (fun q h => h) (fun r29 u t H locs ht hvm h29 hB hsz hk1 hS => ?_)
    rw [ht] at hB
    have hB := hB.1
    have hD := hD.set (e := .inr (9, mF ad (upd (upd z 0 (0 : Int32)) 0 (1 : Int32)) wi dm)) hm
    have hm := va_ge (e := (am, .inr (9, mF ad (upd (upd z 0 (0 : Int32)) 0 (1 : Int32)) wi dm))) hm
    have hP : va_P G vwCl (((ws).set 12 (am, .inr (9, mF ad (upd z 0 (0 : Int32)) wi dm))).set 12 (am, .inr (9, mF ad (upd (upd z 0 (0 : Int32)) 0 (1 : Int32)) wi dm))) H := hB
    have hD : va_D A (((ws).set 12 (am, .inr (9, mF ad (upd z 0 (0 : Int32)) wi dm))).set 12 (am, .inr (9, mF ad (upd (upd z 0 (0 : Int32)) 0 (1 : Int32)) wi dm))) := hD
    refine lv_pop hx hb dX8_margins_32 rfl ?_
    have hcd : cdMargins lo up = 1 := by unfold cdMargins; rw [if_pos hbd]
    have ew : ((ws).set 12 (am, .inr (9, mF ad (upd z 0 (0 : Int32)) wi dm))).set 12 (am, .inr (9, mF ad (upd (upd z 0 (0 : Int32)) 0 (1 : Int32)) wi dm)) = (if cdMargins lo up = 0 then (((ws).set 12 (am, .inr (9, mF ad (upd z 0 (0 : Int32)) wi dm))).set 12 (am, .inr (9, mF ad (upd (upd z 0 (0 : Int32)) 26 lo) wi dm))).set 12 (am, .inr (9, mF ad (upd (upd (upd z 0 (0 : Int32)) 26 lo) 27 up) wi dm)) else ws.set 12 (am, .inr (9, mF ad (upd z 0 (cdMargins lo up)) wi dm))) := by rw [hcd, if_neg (by decide), List.set_set, upd_upd]
    have hP : va_P G vwCl (((ws).set 12 (am, .inr (9, mF ad (upd z 0 (0 : Int32)) wi dm))).set 12 (am, .inr (9, mF ad (upd (upd z 0 (0 : Int32)) 0 (1 : Int32)) wi dm))) H := hP
    have hD : va_D A (((ws).set 12 (am, .inr (9, mF ad (upd z 0 (0 : Int32)) wi dm))).set 12 (am, .inr (9, mF ad (upd (upd z 0 (0 : Int32)) 0 (1 : Int32)) wi dm))) := hD
    rw [ew] at hP hD
    exact W.vret hx hb hr (fun t ht hW => ⟨⟨(), rfl, trivial, by show va_P G vwCl _ t.heap ∧ va_D A _; rw [ht]; exact ⟨hP, hD⟩⟩, hS.F ht⟩) hS.2.2 dX8_margins_33
  · have k0 : ¬ (oR lo 0 1000) := fun q9 => c13 (h10.trans (mIn_0.mpr q9))
    refine lv_iload_n hx hb dX8_margins_16 rfl (lv_at hl 2 rfl) ?_
    refine lv_iload_n hx hb dX8_margins_17 rfl (lv_at hl 1 rfl) ?_
    refine lv_sipush (v := 1000) hx hb dX8_margins_18 (by decide) ?_
    refine vp_callSi (va_Run.run (va_runS (As := [.int up, .int lo, .int (1000 : Int32)]) (rest := []) ⟨hx, hb, hml, hown, hts⟩ (metX8_in l up lo (1000 : Int32)) (va_cwS 3 hts gX8_margins_X8_in rfl rfl rfl (by decide +kernel) ⟨Nat.le_of_ble_eq_true rfl, Nat.le_of_ble_eq_true rfl⟩) ⟨pc0_b, pc0_u⟩ rfl rfl hl.1 rfl (lv_room (Nat.le_of_ble_eq_true rfl)) dX8_margins_21 ⟨Nat.le_of_ble_eq_true rfl, Nat.le_of_ble_eq_true rfl⟩)) (fun r21 h21 => ?_)
    refine lv_if_ne (tgt := 34) hx hb dX8_margins_24 (by decide) (fun c24 => ?_) (fun c24 => ?_)
    · have k1 : ¬ (oR up lo 1000) := fun q9 => c24 (h21.trans (mIn_0.mpr q9))
      refine lv_aload_n hx hb dX8_margins_34 rfl (lv_at hl 0 rfl) ?_
      refine lv_iload_n hx hb dX8_margins_35 rfl (lv_at hl 1 rfl) ?_
      refine va_put (D := G) (ci := 9) (v := .int lo) (ty := .int) (C := RX8) (T := TX8) (N := 39) hx hb hts hiX8 tyX8 tyX8_ok nmX8 hown hK hP hD hS 12 hm rfl 26 (by decide) (hts (.fieldLink RX8 55 "VortexpinModel" "lowerMargin" "I") (List.mem_of_getElem? (i := 2) rfl)) (fun _ h9 => h9) rfl (by decide +kernel) (rfl) (rfl) (Nat.le_of_ble_eq_true rfl) dX8_margins_36 (fun H locs hP hD hS => ?_)
      have hP : va_P G vwCl (((ws).set 12 (am, .inr (9, mF ad (upd z 0 (0 : Int32)) wi dm))).set 12 (am, .inr (9, mF ad (upd (upd z 0 (0 : Int32)) 26 lo) wi dm))) H := hP
      have hD : va_D A (((ws).set 12 (am, .inr (9, mF ad (upd z 0 (0 : Int32)) wi dm))).set 12 (am, .inr (9, mF ad (upd (upd z 0 (0 : Int32)) 26 lo) wi dm))) := hD
      have hm := va_ge (e := (am, .inr (9, mF ad (upd (upd z 0 (0 : Int32)) 26 lo) wi dm))) hm
      refine lv_aload_n hx hb dX8_margins_39 rfl (lv_at hl 0 rfl) ?_
      refine lv_iload_n hx hb dX8_margins_40 rfl (lv_at hl 2 rfl) ?_
      refine va_put (D := G) (ci := 9) (v := .int up) (ty := .int) (C := RX8) (T := TX8) (N := 39) hx hb hts hiX8 tyX8 tyX8_ok nmX8 hown hK hP hD hS 12 hm rfl 27 (by decide) (hts (.fieldLink RX8 59 "VortexpinModel" "upperMargin" "I") (List.mem_of_getElem? (i := 3) rfl)) (fun _ h9 => h9) rfl (by decide +kernel) (rfl) (rfl) (Nat.le_of_ble_eq_true rfl) dX8_margins_41 (fun H locs hP hD hS => ?_)
      have hP : va_P G vwCl ((((ws).set 12 (am, .inr (9, mF ad (upd z 0 (0 : Int32)) wi dm))).set 12 (am, .inr (9, mF ad (upd (upd z 0 (0 : Int32)) 26 lo) wi dm))).set 12 (am, .inr (9, mF ad (upd (upd (upd z 0 (0 : Int32)) 26 lo) 27 up) wi dm))) H := hP
      have hD : va_D A ((((ws).set 12 (am, .inr (9, mF ad (upd z 0 (0 : Int32)) wi dm))).set 12 (am, .inr (9, mF ad (upd (upd z 0 (0 : Int32)) 26 lo) wi dm))).set 12 (am, .inr (9, mF ad (upd (upd (upd z 0 (0 : Int32)) 26 lo) 27 up) wi dm))) := hD
      have hm := va_ge (e := (am, .inr (9, mF ad (upd (upd (upd z 0 (0 : Int32)) 26 lo) 27 up) wi dm))) hm
      have hcd : cdMargins lo up = 0 := by unfold cdMargins; rw [if_neg k0, if_neg k1]
      have ew : (((ws).set 12 (am, .inr (9, mF ad (upd z 0 (0 : Int32)) wi dm))).set 12 (am, .inr (9, mF ad (upd (upd z 0 (0 : Int32)) 26 lo) wi dm))).set 12 (am, .inr (9, mF ad (upd (upd (upd z 0 (0 : Int32)) 26 lo) 27 up) wi dm)) = (if cdMargins lo up = 0 then (((ws).set 12 (am, .inr (9, mF ad (upd z 0 (0 : Int32)) wi dm))).set 12 (am, .inr (9, mF ad (upd (upd z 0 (0 : Int32)) 26 lo) wi dm))).set 12 (am, .inr (9, mF ad (upd (upd (upd z 0 (0 : Int32)) 26 lo) 27 up) wi dm)) else ws.set 12 (am, .inr (9, mF ad (upd z 0 (cdMargins lo up)) wi dm))) := by rw [hcd, if_pos rfl]
      have hP : va_P G vwCl ((((ws).set 12 (am, .inr (9, mF ad (upd z 0 (0 : Int32)) wi dm))).set 12 (am, .inr (9, mF ad (upd (upd z 0 (0 : Int32)) 26 lo) wi dm))).set 12 (am, .inr (9, mF ad (upd (upd (upd z 0 (0 : Int32)) 26 lo) 27 up) wi dm))) H := hP
      have hD : va_D A ((((ws).set 12 (am, .inr (9, mF ad (upd z 0 (0 : Int32)) wi dm))).set 12 (am, .inr (9, mF ad (upd (upd z 0 (0 : Int32)) 26 lo) wi dm))).set 12 (am, .inr (9, mF ad (upd (upd (upd z 0 (0 : Int32)) 26 lo) 27 up) wi dm))) := hD
      rw [ew] at hP hD
      exact W.vret hx hb hr (fun t ht hW => ⟨⟨(), rfl, trivial, by show va_P G vwCl _ t.heap ∧ va_D A _; rw [ht]; exact ⟨hP, hD⟩⟩, hS.F ht⟩) hS.2.2 dX8_margins_44
    · have hbd : oR up lo 1000 := mIn_0.mp (h21.symm.trans c24)
      skip
      refine lv_aload_n hx hb dX8_margins_27 rfl (lv_at hl 0 rfl) ?_
      refine lv_iconst (v := 1) hx hb dX8_margins_28 (by decide) ?_
      refine va_calli (va_runV (As := [.int (1 : Int32)]) (rest := []) ⟨hx, hb, hml, hown, hts⟩ (metX8_stop l G tys _ hm (1 : Int32)) (cwV 1 hts gX8_margins_X8_stop rfl rfl rfl (by decide +kernel) ⟨Nat.le_of_ble_eq_true rfl, Nat.le_of_ble_eq_true rfl⟩) ⟨pcM_b, va_recv hK hP (ci := 9) (q0 := 12) rfl hm, pcM_u hP hK hD hS hA⟩ rfl rfl hl.1 rfl (lv_room (Nat.le_of_ble_eq_true rfl)) dX8_margins_29 ⟨Nat.le_of_ble_eq_true rfl, Nat.le_of_ble_eq_true rfl⟩) hS (fun q _ h => h) (fun q h => h) (fun r29 u t H locs ht hvm h29 hB hsz hk1 hS => ?_)
      rw [ht] at hB
      have hB := hB.1
      have hD := hD.set (e := .inr (9, mF ad (upd (upd z 0 (0 : Int32)) 0 (1 : Int32)) wi dm)) hm
      have hm := va_ge (e := (am, .inr (9, mF ad (upd (upd z 0 (0 : Int32)) 0 (1 : Int32)) wi dm))) hm
      have hP : va_P G vwCl (((ws).set 12 (am, .inr (9, mF ad (upd z 0 (0 : Int32)) wi dm))).set 12 (am, .inr (9, mF ad (upd (upd z 0 (0 : Int32)) 0 (1 : Int32)) wi dm))) H := hB
      have hD : va_D A (((ws).set 12 (am, .inr (9, mF ad (upd z 0 (0 : Int32)) wi dm))).set 12 (am, .inr (9, mF ad (upd (upd z 0 (0 : Int32)) 0 (1 : Int32)) wi dm))) := hD
      refine lv_pop hx hb dX8_margins_32 rfl ?_
      have hcd : cdMargins lo up = 1 := by unfold cdMargins; rw [if_neg k0, if_pos hbd]
      have ew : ((ws).set 12 (am, .inr (9, mF ad (upd z 0 (0 : Int32)) wi dm))).set 12 (am, .inr (9, mF ad (upd (upd z 0 (0 : Int32)) 0 (1 : Int32)) wi dm)) = (if cdMargins lo up = 0 then (((ws).set 12 (am, .inr (9, mF ad (upd z 0 (0 : Int32)) wi dm))).set 12 (am, .inr (9, mF ad (upd (upd z 0 (0 : Int32)) 26 lo) wi dm))).set 12 (am, .inr (9, mF ad (upd (upd (upd z 0 (0 : Int32)) 26 lo) 27 up) wi dm)) else ws.set 12 (am, .inr (9, mF ad (upd z 0 (cdMargins lo up)) wi dm))) := by rw [hcd, if_neg (by decide), List.set_set, upd_upd]
      have hP : va_P G vwCl (((ws).set 12 (am, .inr (9, mF ad (upd z 0 (0 : Int32)) wi dm))).set 12 (am, .inr (9, mF ad (upd (upd z 0 (0 : Int32)) 0 (1 : Int32)) wi dm))) H := hP
      have hD : va_D A (((ws).set 12 (am, .inr (9, mF ad (upd z 0 (0 : Int32)) wi dm))).set 12 (am, .inr (9, mF ad (upd (upd z 0 (0 : Int32)) 0 (1 : Int32)) wi dm))) := hD
      rw [ew] at hP hD
      exact W.vret hx hb hr (fun t ht hW => ⟨⟨(), rfl, trivial, by show va_P G vwCl _ t.heap ∧ va_D A _; rw [ht]; exact ⟨hP, hD⟩⟩, hS.F ht⟩) hS.2.2 dX8_margins_33
set_option maxHeartbeats 1000000 in
set_option maxRecDepth 100000 in
theorem metX8_current (l : Launch) (G : va_G) (tys : List (ClassId × FieldType)) {cI : ClassId} (htI : tI tys cI) {A : Nat → Prop} (ws : va_W) {am : Nat} {ad : Nat → Nat} {z : Nat → Int32} {wi dm : Int64} {F : Nat → Nat → Int32} (hm : ws[12]? = some (am, .inr (9, mF ad z wi dm))) (cu : Int32) : Met l yX8_current wsX8_current ({ frames := 1, cells := 0, slots := 0, locals := 22 }) (pcM G tys ws A [.ref am, .int cu]) (va_Qi (fun (r : Int32) (_ : Unit) => cdCurrent cu = 0 → r = z 21) (fun _ t => va_P G vwCl (if cdCurrent cu = 0 then ((((ws).set 12 (am, .inr (9, mF ad (upd z 0 (0 : Int32)) wi dm))).set 12 (am, .inr (9, mF ad (upd (upd z 0 (0 : Int32)) 21 cu) wi dm))).set 12 (am, .inr (9, mF ad (upd (upd (upd z 0 (0 : Int32)) 21 cu) 22 (0 : Int32)) wi dm))).set 12 (am, .inr (9, mF ad (upd (upd (upd (upd z 0 (0 : Int32)) 21 cu) 22 (0 : Int32)) 23 (0 : Int32)) wi dm)) else ws.set 12 (am, .inr (9, mF ad (upd z 0 (cdCurrent cu)) wi dm))) t.heap ∧ va_D A (if cdCurrent cu = 0 then ((((ws).set 12 (am, .inr (9, mF ad (upd z 0 (0 : Int32)) wi dm))).set 12 (am, .inr (9, mF ad (upd (upd z 0 (0 : Int32)) 21 cu) wi dm))).set 12 (am, .inr (9, mF ad (upd (upd (upd z 0 (0 : Int32)) 21 cu) 22 (0 : Int32)) wi dm))).set 12 (am, .inr (9, mF ad (upd (upd (upd (upd z 0 (0 : Int32)) 21 cu) 22 (0 : Int32)) 23 (0 : Int32)) wi dm)) else ws.set 12 (am, .inr (9, mF ad (upd z 0 (cdCurrent cu)) wi dm)))) A) 0 0 A := by
  refine ofM (cc := cX8_current) (maxL := 3) (ret := some .int) (by decide) rfl (Nat.le_of_ble_eq_true rfl) ?_
  intro p e s m below meth c ls hx hb hr hlocks hml hown hts hin hl hP hK hD hA hS
  have hown : s.vm.findClass RX8 = some m.cls := hown
  have hiX8 : ∀ w ∈ u_ws RX8 TX8 39, w ∈ wsX8_current := fun _ h => List.mem_cons_of_mem _ (List.mem_append_right _ h)
  have hl : lv_has ls 3 [(0, .ref am), (1, .int cu)] := hl
  refine lv_aload_n hx hb dX8_current_0 rfl (lv_at hl 0 rfl) ?_
  refine lv_iconst (v := 0) hx hb dX8_current_1 (by decide) ?_
  refine va_put (D := G) (ci := 9) (v := .int (0 : Int32)) (ty := .int) (C := RX8) (T := TX8) (N := 39) hx hb hts hiX8 tyX8 tyX8_ok nmX8 hown hK hP hD hS 12 hm rfl 0 (by decide) (hts (.fieldLink RX8 86 "VortexpinModel" "thrown" "I") (List.mem_of_getElem? (i := 1) rfl)) (fun _ h9 => h9) rfl (by decide +kernel) (rfl) (rfl) (Nat.le_of_ble_eq_true rfl) dX8_current_2 (fun H locs hP hD hS => ?_)
  have hP : va_P G vwCl ((ws).set 12 (am, .inr (9, mF ad (upd z 0 (0 : Int32)) wi dm))) H := hP
  have hD : va_D A ((ws).set 12 (am, .inr (9, mF ad (upd z 0 (0 : Int32)) wi dm))) := hD
  have hm := va_ge (e := (am, .inr (9, mF ad (upd z 0 (0 : Int32)) wi dm))) hm
  refine lv_iload_n hx hb dX8_current_5 rfl (lv_at hl 1 rfl) ?_
  refine lv_iconst (v := 0) hx hb dX8_current_6 (by decide) ?_
  refine lv_sipush (v := 1000) hx hb dX8_current_7 (by decide) ?_
  refine vp_callSi (va_Run.run (va_runS (As := [.int cu, .int (0 : Int32), .int (1000 : Int32)]) (rest := []) ⟨hx, hb, hml, hown, hts⟩ (metX8_in l cu (0 : Int32) (1000 : Int32)) (va_cwS 3 hts gX8_current_X8_in rfl rfl rfl (by decide +kernel) ⟨Nat.le_of_ble_eq_true rfl, Nat.le_of_ble_eq_true rfl⟩) ⟨pc0_b, pc0_u⟩ rfl rfl hl.1 rfl (lv_room (Nat.le_of_ble_eq_true rfl)) dX8_current_10 ⟨Nat.le_of_ble_eq_true rfl, Nat.le_of_ble_eq_true rfl⟩)) (fun r10 h10 => ?_)
  refine lv_if_ne (tgt := 22) hx hb dX8_current_13 (by decide) (fun c13 => ?_) (fun c13 => ?_)
  · have k0 : ¬ (oR cu 0 1000) := fun q9 => c13 (h10.trans (mIn_0.mpr q9))
    refine lv_aload_n hx hb dX8_current_22 rfl (lv_at hl 0 rfl) ?_
    refine va_get (D := G) (ci := 9) (v := .int (z 21)) (C := RX8) (T := TX8) (N := 39) hx hb hts hiX8 hown hK hP 12 hm rfl 21 (by decide) (hts (.fieldLink RX8 147 "VortexpinModel" "current" "I") (List.mem_of_getElem? (i := 2) rfl)) (fun _ h9 => h9) rfl dX8_current_23 ?_
    refine lv_istore_n (lv' := [(2, .int (z 21)), (0, .ref am), (1, .int cu)]) hx hb dX8_current_26 rfl hl (by decide) rfl (fun ls hl => ?_)
    refine lv_aload_n hx hb dX8_current_27 rfl (lv_at hl 1 rfl) ?_
    refine lv_iload_n hx hb dX8_current_28 rfl (lv_at hl 2 rfl) ?_
    refine va_put (D := G) (ci := 9) (v := .int cu) (ty := .int) (C := RX8) (T := TX8) (N := 39) hx hb hts hiX8 tyX8 tyX8_ok nmX8 hown hK hP hD hS 12 hm rfl 21 (by decide) (hts (.fieldLink RX8 147 "VortexpinModel" "current" "I") (List.mem_of_getElem? (i := 2) rfl)) (fun _ h9 => h9) rfl (by decide +kernel) (rfl) (rfl) (Nat.le_of_ble_eq_true rfl) dX8_current_29 (fun H locs hP hD hS => ?_)
    have hP : va_P G vwCl (((ws).set 12 (am, .inr (9, mF ad (upd z 0 (0 : Int32)) wi dm))).set 12 (am, .inr (9, mF ad (upd (upd z 0 (0 : Int32)) 21 cu) wi dm))) H := hP
    have hD : va_D A (((ws).set 12 (am, .inr (9, mF ad (upd z 0 (0 : Int32)) wi dm))).set 12 (am, .inr (9, mF ad (upd (upd z 0 (0 : Int32)) 21 cu) wi dm))) := hD
    have hm := va_ge (e := (am, .inr (9, mF ad (upd (upd z 0 (0 : Int32)) 21 cu) wi dm))) hm
    refine lv_aload_n hx hb dX8_current_32 rfl (lv_at hl 1 rfl) ?_
    refine lv_iconst (v := 0) hx hb dX8_current_33 (by decide) ?_
    refine va_put (D := G) (ci := 9) (v := .int (0 : Int32)) (ty := .boolean) (C := RX8) (T := TX8) (N := 39) hx hb hts hiX8 tyX8 tyX8_ok nmX8 hown hK hP hD hS 12 hm rfl 22 (by decide) (hts (.fieldLink RX8 150 "VortexpinModel" "isDumped" "Z") (List.mem_of_getElem? (i := 3) rfl)) (fun _ h9 => h9) rfl (by decide +kernel) (rfl) (rfl) (Nat.le_of_ble_eq_true rfl) dX8_current_34 (fun H locs hP hD hS => ?_)
    have hP : va_P G vwCl ((((ws).set 12 (am, .inr (9, mF ad (upd z 0 (0 : Int32)) wi dm))).set 12 (am, .inr (9, mF ad (upd (upd z 0 (0 : Int32)) 21 cu) wi dm))).set 12 (am, .inr (9, mF ad (upd (upd (upd z 0 (0 : Int32)) 21 cu) 22 (0 : Int32)) wi dm))) H := hP
    have hD : va_D A ((((ws).set 12 (am, .inr (9, mF ad (upd z 0 (0 : Int32)) wi dm))).set 12 (am, .inr (9, mF ad (upd (upd z 0 (0 : Int32)) 21 cu) wi dm))).set 12 (am, .inr (9, mF ad (upd (upd (upd z 0 (0 : Int32)) 21 cu) 22 (0 : Int32)) wi dm))) := hD
    have hm := va_ge (e := (am, .inr (9, mF ad (upd (upd (upd z 0 (0 : Int32)) 21 cu) 22 (0 : Int32)) wi dm))) hm
    refine lv_aload_n hx hb dX8_current_37 rfl (lv_at hl 1 rfl) ?_
    refine lv_iconst (v := 0) hx hb dX8_current_38 (by decide) ?_
    refine va_put (D := G) (ci := 9) (v := .int (0 : Int32)) (ty := .int) (C := RX8) (T := TX8) (N := 39) hx hb hts hiX8 tyX8 tyX8_ok nmX8 hown hK hP hD hS 12 hm rfl 23 (by decide) (hts (.fieldLink RX8 154 "VortexpinModel" "inRow" "I") (List.mem_of_getElem? (i := 4) rfl)) (fun _ h9 => h9) rfl (by decide +kernel) (rfl) (rfl) (Nat.le_of_ble_eq_true rfl) dX8_current_39 (fun H locs hP hD hS => ?_)
    have hP : va_P G vwCl (((((ws).set 12 (am, .inr (9, mF ad (upd z 0 (0 : Int32)) wi dm))).set 12 (am, .inr (9, mF ad (upd (upd z 0 (0 : Int32)) 21 cu) wi dm))).set 12 (am, .inr (9, mF ad (upd (upd (upd z 0 (0 : Int32)) 21 cu) 22 (0 : Int32)) wi dm))).set 12 (am, .inr (9, mF ad (upd (upd (upd (upd z 0 (0 : Int32)) 21 cu) 22 (0 : Int32)) 23 (0 : Int32)) wi dm))) H := hP
    have hD : va_D A (((((ws).set 12 (am, .inr (9, mF ad (upd z 0 (0 : Int32)) wi dm))).set 12 (am, .inr (9, mF ad (upd (upd z 0 (0 : Int32)) 21 cu) wi dm))).set 12 (am, .inr (9, mF ad (upd (upd (upd z 0 (0 : Int32)) 21 cu) 22 (0 : Int32)) wi dm))).set 12 (am, .inr (9, mF ad (upd (upd (upd (upd z 0 (0 : Int32)) 21 cu) 22 (0 : Int32)) 23 (0 : Int32)) wi dm))) := hD
    have hm := va_ge (e := (am, .inr (9, mF ad (upd (upd (upd (upd z 0 (0 : Int32)) 21 cu) 22 (0 : Int32)) 23 (0 : Int32)) wi dm))) hm
    refine lv_iload_n hx hb dX8_current_42 rfl (lv_at hl 0 rfl) ?_
    have hcd : cdCurrent cu = 0 := by unfold cdCurrent; rw [if_neg k0]
    have ew : ((((ws).set 12 (am, .inr (9, mF ad (upd z 0 (0 : Int32)) wi dm))).set 12 (am, .inr (9, mF ad (upd (upd z 0 (0 : Int32)) 21 cu) wi dm))).set 12 (am, .inr (9, mF ad (upd (upd (upd z 0 (0 : Int32)) 21 cu) 22 (0 : Int32)) wi dm))).set 12 (am, .inr (9, mF ad (upd (upd (upd (upd z 0 (0 : Int32)) 21 cu) 22 (0 : Int32)) 23 (0 : Int32)) wi dm)) = (if cdCurrent cu = 0 then ((((ws).set 12 (am, .inr (9, mF ad (upd z 0 (0 : Int32)) wi dm))).set 12 (am, .inr (9, mF ad (upd (upd z 0 (0 : Int32)) 21 cu) wi dm))).set 12 (am, .inr (9, mF ad (upd (upd (upd z 0 (0 : Int32)) 21 cu) 22 (0 : Int32)) wi dm))).set 12 (am, .inr (9, mF ad (upd (upd (upd (upd z 0 (0 : Int32)) 21 cu) 22 (0 : Int32)) 23 (0 : Int32)) wi dm)) else ws.set 12 (am, .inr (9, mF ad (upd z 0 (cdCurrent cu)) wi dm))) := by rw [hcd, if_pos rfl]
    have hP : va_P G vwCl (((((ws).set 12 (am, .inr (9, mF ad (upd z 0 (0 : Int32)) wi dm))).set 12 (am, .inr (9, mF ad (upd (upd z 0 (0 : Int32)) 21 cu) wi dm))).set 12 (am, .inr (9, mF ad (upd (upd (upd z 0 (0 : Int32)) 21 cu) 22 (0 : Int32)) wi dm))).set 12 (am, .inr (9, mF ad (upd (upd (upd (upd z 0 (0 : Int32)) 21 cu) 22 (0 : Int32)) 23 (0 : Int32)) wi dm))) H := hP
    have hD : va_D A (((((ws).set 12 (am, .inr (9, mF ad (upd z 0 (0 : Int32)) wi dm))).set 12 (am, .inr (9, mF ad (upd (upd z 0 (0 : Int32)) 21 cu) wi dm))).set 12 (am, .inr (9, mF ad (upd (upd (upd z 0 (0 : Int32)) 21 cu) 22 (0 : Int32)) wi dm))).set 12 (am, .inr (9, mF ad (upd (upd (upd (upd z 0 (0 : Int32)) 21 cu) 22 (0 : Int32)) 23 (0 : Int32)) wi dm))) := hD
    rw [ew] at hP hD
    exact W.iret (v := z 21) hx hb hr (fun t ht hW => ⟨⟨z 21, (), rfl, (fun _ => rfl), by show va_P G vwCl _ t.heap ∧ va_D A _; rw [ht]; exact ⟨hP, hD⟩⟩, hS.F ht⟩) hS.2.2 dX8_current_43
  · have hbd : oR cu 0 1000 := mIn_0.mp (h10.symm.trans c13)
    skip
    refine lv_aload_n hx hb dX8_current_16 rfl (lv_at hl 0 rfl) ?_
    refine lv_iconst (v := 1) hx hb dX8_current_17 (by decide) ?_
    refine va_calli (va_runV (As := [.int (1 : Int32)]) (rest := []) ⟨hx, hb, hml, hown, hts⟩ (metX8_stop l G tys _ hm (1 : Int32)) (cwV 1 hts gX8_current_X8_stop rfl rfl rfl (by decide +kernel) ⟨Nat.le_of_ble_eq_true rfl, Nat.le_of_ble_eq_true rfl⟩) ⟨pcM_b, va_recv hK hP (ci := 9) (q0 := 12) rfl hm, pcM_u hP hK hD hS hA⟩ rfl rfl hl.1 rfl (lv_room (Nat.le_of_ble_eq_true rfl)) dX8_current_18 ⟨Nat.le_of_ble_eq_true rfl, Nat.le_of_ble_eq_true rfl⟩) hS (fun q _ h => h) (fun q h => h) (fun r18 u t H locs ht hvm h18 hB hsz hk1 hS => ?_)
    rw [ht] at hB
    have hB := hB.1
    have hD := hD.set (e := .inr (9, mF ad (upd (upd z 0 (0 : Int32)) 0 (1 : Int32)) wi dm)) hm
    have hm := va_ge (e := (am, .inr (9, mF ad (upd (upd z 0 (0 : Int32)) 0 (1 : Int32)) wi dm))) hm
    have hP : va_P G vwCl (((ws).set 12 (am, .inr (9, mF ad (upd z 0 (0 : Int32)) wi dm))).set 12 (am, .inr (9, mF ad (upd (upd z 0 (0 : Int32)) 0 (1 : Int32)) wi dm))) H := hB
    have hD : va_D A (((ws).set 12 (am, .inr (9, mF ad (upd z 0 (0 : Int32)) wi dm))).set 12 (am, .inr (9, mF ad (upd (upd z 0 (0 : Int32)) 0 (1 : Int32)) wi dm))) := hD
    have hcd : cdCurrent cu = 1 := by unfold cdCurrent; rw [if_pos hbd]
    have ew : ((ws).set 12 (am, .inr (9, mF ad (upd z 0 (0 : Int32)) wi dm))).set 12 (am, .inr (9, mF ad (upd (upd z 0 (0 : Int32)) 0 (1 : Int32)) wi dm)) = (if cdCurrent cu = 0 then ((((ws).set 12 (am, .inr (9, mF ad (upd z 0 (0 : Int32)) wi dm))).set 12 (am, .inr (9, mF ad (upd (upd z 0 (0 : Int32)) 21 cu) wi dm))).set 12 (am, .inr (9, mF ad (upd (upd (upd z 0 (0 : Int32)) 21 cu) 22 (0 : Int32)) wi dm))).set 12 (am, .inr (9, mF ad (upd (upd (upd (upd z 0 (0 : Int32)) 21 cu) 22 (0 : Int32)) 23 (0 : Int32)) wi dm)) else ws.set 12 (am, .inr (9, mF ad (upd z 0 (cdCurrent cu)) wi dm))) := by rw [hcd, if_neg (by decide), List.set_set, upd_upd]
    have hP : va_P G vwCl (((ws).set 12 (am, .inr (9, mF ad (upd z 0 (0 : Int32)) wi dm))).set 12 (am, .inr (9, mF ad (upd (upd z 0 (0 : Int32)) 0 (1 : Int32)) wi dm))) H := hP
    have hD : va_D A (((ws).set 12 (am, .inr (9, mF ad (upd z 0 (0 : Int32)) wi dm))).set 12 (am, .inr (9, mF ad (upd (upd z 0 (0 : Int32)) 0 (1 : Int32)) wi dm))) := hD
    rw [ew] at hP hD
    exact W.iret (v := r18) hx hb hr (fun t ht hW => ⟨⟨r18, (), rfl, (fun h0 => absurd (hcd.symm.trans h0) (by decide)), by show va_P G vwCl _ t.heap ∧ va_D A _; rw [ht]; exact ⟨hP, hD⟩⟩, hS.F ht⟩) hS.2.2 dX8_current_21
set_option maxHeartbeats 1000000 in
set_option maxRecDepth 100000 in
theorem metX8_heat (l : Launch) (G : va_G) (tys : List (ClassId × FieldType)) {cI : ClassId} (htI : tI tys cI) {A : Nat → Prop} (ws : va_W) {am : Nat} {ad : Nat → Nat} {z : Nat → Int32} {wi dm : Int64} {F : Nat → Nat → Int32} (hm : ws[12]? = some (am, .inr (9, mF ad z wi dm))) (hA26 : ws[26]? = some (ad 26, .inl (cI, 12, .inl (F 26)))) (x y : Int32) : Met l yX8_heat wsX8_heat ({ frames := 1, cells := 0, slots := 0, locals := 22 }) (pcM G tys ws A [.ref am, .int x, .int y]) (va_Qi (fun (r : Int32) (_ : Unit) => cdHeat x y = 0 → r = jmin 1000 (F 26 x.toNatClampNeg + y)) (fun _ t => va_P G vwCl (if cdHeat x y = 0 then (ws.set 12 (am, .inr (9, mF ad (upd z 0 0) wi dm))).set 26 (ad 26, .inl (cI, 12, .inl (upd (F 26) x.toNatClampNeg (jmin 1000 (F 26 x.toNatClampNeg + y))))) else ws.set 12 (am, .inr (9, mF ad (upd z 0 (cdHeat x y)) wi dm))) t.heap ∧ va_D A (if cdHeat x y = 0 then (ws.set 12 (am, .inr (9, mF ad (upd z 0 0) wi dm))).set 26 (ad 26, .inl (cI, 12, .inl (upd (F 26) x.toNatClampNeg (jmin 1000 (F 26 x.toNatClampNeg + y))))) else ws.set 12 (am, .inr (9, mF ad (upd z 0 (cdHeat x y)) wi dm)))) A) 0 0 A := by
  refine ofM (cc := cX8_heat) (maxL := 3) (ret := some .int) (by decide) rfl (Nat.le_of_ble_eq_true rfl) ?_
  intro p e s m below meth c ls hx hb hr hlocks hml hown hts hin hl hP hK hD hA hS
  have hown : s.vm.findClass RX8 = some m.cls := hown
  have hiX8 : ∀ w ∈ u_ws RX8 TX8 39, w ∈ wsX8_heat := fun _ h => List.mem_cons_of_mem _ (List.mem_append_right _ h)
  have hl : lv_has ls 3 [(0, .ref am), (1, .int x), (2, .int y)] := hl
  refine lv_aload_n hx hb dX8_heat_0 rfl (lv_at hl 0 rfl) ?_
  refine lv_iconst (v := 0) hx hb dX8_heat_1 (by decide) ?_
  refine va_put (D := G) (ci := 9) (v := .int (0 : Int32)) (ty := .int) (C := RX8) (T := TX8) (N := 39) hx hb hts hiX8 tyX8 tyX8_ok nmX8 hown hK hP hD hS 12 hm rfl 0 (by decide) (hts (.fieldLink RX8 86 "VortexpinModel" "thrown" "I") (List.mem_of_getElem? (i := 1) rfl)) (fun _ h9 => h9) rfl (by decide +kernel) (rfl) (rfl) (Nat.le_of_ble_eq_true rfl) dX8_heat_2 (fun H locs hP hD hS => ?_)
  have hP : va_P G vwCl ((ws).set 12 (am, .inr (9, mF ad (upd z 0 (0 : Int32)) wi dm))) H := hP
  have hD : va_D A ((ws).set 12 (am, .inr (9, mF ad (upd z 0 (0 : Int32)) wi dm))) := hD
  have hA26 := va_gs (k := 12) (e := (am, .inr (9, mF ad (upd z 0 (0 : Int32)) wi dm))) (by decide) hA26
  have hm := va_ge (e := (am, .inr (9, mF ad (upd z 0 (0 : Int32)) wi dm))) hm
  refine lv_iload_n hx hb dX8_heat_5 rfl (lv_at hl 1 rfl) ?_
  refine lv_iconst (v := 0) hx hb dX8_heat_6 (by decide) ?_
  refine lv_bipush (v := 11) hx hb dX8_heat_7 (by decide) ?_
  refine vp_callSi (va_Run.run (va_runS (As := [.int x, .int (0 : Int32), .int (11 : Int32)]) (rest := []) ⟨hx, hb, hml, hown, hts⟩ (metX8_in l x (0 : Int32) (11 : Int32)) (va_cwS 3 hts gX8_heat_X8_in rfl rfl rfl (by decide +kernel) ⟨Nat.le_of_ble_eq_true rfl, Nat.le_of_ble_eq_true rfl⟩) ⟨pc0_b, pc0_u⟩ rfl rfl hl.1 rfl (lv_room (Nat.le_of_ble_eq_true rfl)) dX8_heat_9 ⟨Nat.le_of_ble_eq_true rfl, Nat.le_of_ble_eq_true rfl⟩)) (fun r9 h9 => ?_)
  refine lv_if_ne (tgt := 21) hx hb dX8_heat_12 (by decide) (fun c12 => ?_) (fun c12 => ?_)
  · have k0 : ¬ (uK x 12) := fun q9 => c12 (h9.trans (mIn_0.mpr ((oR_uK (k := 12) (by decide : (11 : Int32) = nI 12 - 1) (by decide)).mpr q9)))
    refine lv_iload_n hx hb dX8_heat_21 rfl (lv_at hl 2 rfl) ?_
    refine lv_iconst (v := 1) hx hb dX8_heat_22 (by decide) ?_
    refine lv_sipush (v := 500) hx hb dX8_heat_23 (by decide) ?_
    refine vp_callSi (va_Run.run (va_runS (As := [.int y, .int (1 : Int32), .int (500 : Int32)]) (rest := []) ⟨hx, hb, hml, hown, hts⟩ (metX8_in l y (1 : Int32) (500 : Int32)) (va_cwS 3 hts gX8_heat_X8_in rfl rfl rfl (by decide +kernel) ⟨Nat.le_of_ble_eq_true rfl, Nat.le_of_ble_eq_true rfl⟩) ⟨pc0_b, pc0_u⟩ rfl rfl hl.1 rfl (lv_room (Nat.le_of_ble_eq_true rfl)) dX8_heat_26 ⟨Nat.le_of_ble_eq_true rfl, Nat.le_of_ble_eq_true rfl⟩)) (fun r26 h26 => ?_)
    refine lv_if_ne (tgt := 38) hx hb dX8_heat_29 (by decide) (fun c29 => ?_) (fun c29 => ?_)
    · have k1 : ¬ (oR y 1 500) := fun q9 => c29 (h26.trans (mIn_0.mpr q9))
      refine lv_aload_n hx hb dX8_heat_38 rfl (lv_at hl 0 rfl) ?_
      refine va_get (D := G) (ci := 9) (v := .ref (ad 26)) (C := RX8) (T := TX8) (N := 39) hx hb hts hiX8 hown hK hP 12 hm rfl 19 (by decide) (hts (.fieldLink RX8 49 "VortexpinModel" "part" "[I") (List.mem_of_getElem? (i := 2) rfl)) (fun _ h9 => h9) rfl dX8_heat_39 ?_
      refine lv_iload_n hx hb dX8_heat_42 rfl (lv_at hl 1 rfl) ?_
      refine lv_aload_n hx hb dX8_heat_43 rfl (lv_at hl 0 rfl) ?_
      refine va_get (D := G) (ci := 9) (v := .ref (ad 26)) (C := RX8) (T := TX8) (N := 39) hx hb hts hiX8 hown hK hP 12 hm rfl 19 (by decide) (hts (.fieldLink RX8 49 "VortexpinModel" "part" "[I") (List.mem_of_getElem? (i := 2) rfl)) (fun _ h9 => h9) rfl dX8_heat_44 ?_
      refine lv_iload_n hx hb dX8_heat_47 rfl (lv_at hl 1 rfl) ?_
      refine va_iald hx hb hK hP 26 0 hA26 htI (vp_uK k0) dX8_heat_48 ?_
      refine lv_iload_n hx hb dX8_heat_49 rfl (lv_at hl 2 rfl) ?_
      refine lv_iadd hx hb dX8_heat_50 ?_
      refine lv_sipush (v := 1000) hx hb dX8_heat_51 (by decide) ?_
      refine lv_icmp_le (tgt := 63) hx hb dX8_heat_54 (by decide) (fun c54 => ?_) (fun c54 => ?_)
      · refine lv_aload_n hx hb dX8_heat_63 rfl (lv_at hl 0 rfl) ?_
        refine va_get (D := G) (ci := 9) (v := .ref (ad 26)) (C := RX8) (T := TX8) (N := 39) hx hb hts hiX8 hown hK hP 12 hm rfl 19 (by decide) (hts (.fieldLink RX8 49 "VortexpinModel" "part" "[I") (List.mem_of_getElem? (i := 2) rfl)) (fun _ h9 => h9) rfl dX8_heat_64 ?_
        refine lv_iload_n hx hb dX8_heat_67 rfl (lv_at hl 1 rfl) ?_
        refine va_iald hx hb hK hP 26 0 hA26 htI (vp_uK k0) dX8_heat_68 ?_
        refine lv_iload_n hx hb dX8_heat_69 rfl (lv_at hl 2 rfl) ?_
        refine lv_iadd hx hb dX8_heat_70 ?_
        refine va_iast hx hb hK hP hD hS 26 0 hA26 htI (vp_uK k0) dX8_heat_71 (fun H locs hP hD hS => ?_)
        have hm := va_gs (k := 26) (e := (ad 26, .inl (cI, 12, .inl (upd (F 26) x.toNatClampNeg (((F 26) x.toNatClampNeg) + y))))) (by decide) hm
        have hA26 := va_ge (e := (ad 26, .inl (cI, 12, .inl (upd (F 26) x.toNatClampNeg (((F 26) x.toNatClampNeg) + y))))) hA26
        refine lv_aload_n hx hb dX8_heat_72 rfl (lv_at hl 0 rfl) ?_
        refine va_get (D := G) (ci := 9) (v := .ref (ad 26)) (C := RX8) (T := TX8) (N := 39) hx hb hts hiX8 hown hK hP 12 hm rfl 19 (by decide) (hts (.fieldLink RX8 49 "VortexpinModel" "part" "[I") (List.mem_of_getElem? (i := 2) rfl)) (fun _ h9 => h9) rfl dX8_heat_73 ?_
        refine lv_iload_n hx hb dX8_heat_76 rfl (lv_at hl 1 rfl) ?_
        refine va_iald hx hb hK hP 26 0 hA26 htI (vp_uK k0) dX8_heat_77 ?_
        have hcd : cdHeat x y = 0 := by unfold cdHeat; rw [if_neg k0, if_neg k1]
        have ew : ((ws).set 12 (am, .inr (9, mF ad (upd z 0 (0 : Int32)) wi dm))).set 26 (ad 26, .inl (cI, 12, .inl (upd (F 26) x.toNatClampNeg (((F 26) x.toNatClampNeg) + y)))) = (if cdHeat x y = 0 then (ws.set 12 (am, .inr (9, mF ad (upd z 0 0) wi dm))).set 26 (ad 26, .inl (cI, 12, .inl (upd (F 26) x.toNatClampNeg (jmin 1000 (F 26 x.toNatClampNeg + y))))) else ws.set 12 (am, .inr (9, mF ad (upd z 0 (cdHeat x y)) wi dm))) := by rw [hcd, if_pos rfl]; rw [jmin_a c54]
        have hP : va_P G vwCl (((ws).set 12 (am, .inr (9, mF ad (upd z 0 (0 : Int32)) wi dm))).set 26 (ad 26, .inl (cI, 12, .inl (upd (F 26) x.toNatClampNeg (((F 26) x.toNatClampNeg) + y))))) H := hP
        have hD : va_D A (((ws).set 12 (am, .inr (9, mF ad (upd z 0 (0 : Int32)) wi dm))).set 26 (ad 26, .inl (cI, 12, .inl (upd (F 26) x.toNatClampNeg (((F 26) x.toNatClampNeg) + y))))) := hD
        rw [ew] at hP hD
        exact W.iret (v := (upd (F 26) x.toNatClampNeg (((F 26) x.toNatClampNeg) + y)) x.toNatClampNeg) hx hb hr (fun t ht hW => ⟨⟨(upd (F 26) x.toNatClampNeg (((F 26) x.toNatClampNeg) + y)) x.toNatClampNeg, (), rfl, (fun _ => by unfold upd; rw [if_pos rfl, jmin_a c54]), by show va_P G vwCl _ t.heap ∧ va_D A _; rw [ht]; exact ⟨hP, hD⟩⟩, hS.F ht⟩) hS.2.2 dX8_heat_78
      · refine lv_sipush (v := 1000) hx hb dX8_heat_57 (by decide) ?_
        refine lv_goto (tgt := 71) hx hb dX8_heat_60 (by decide) ?_
        refine va_iast hx hb hK hP hD hS 26 0 hA26 htI (vp_uK k0) dX8_heat_71 (fun H locs hP hD hS => ?_)
        have hm := va_gs (k := 26) (e := (ad 26, .inl (cI, 12, .inl (upd (F 26) x.toNatClampNeg (1000 : Int32))))) (by decide) hm
        have hA26 := va_ge (e := (ad 26, .inl (cI, 12, .inl (upd (F 26) x.toNatClampNeg (1000 : Int32))))) hA26
        refine lv_aload_n hx hb dX8_heat_72 rfl (lv_at hl 0 rfl) ?_
        refine va_get (D := G) (ci := 9) (v := .ref (ad 26)) (C := RX8) (T := TX8) (N := 39) hx hb hts hiX8 hown hK hP 12 hm rfl 19 (by decide) (hts (.fieldLink RX8 49 "VortexpinModel" "part" "[I") (List.mem_of_getElem? (i := 2) rfl)) (fun _ h9 => h9) rfl dX8_heat_73 ?_
        refine lv_iload_n hx hb dX8_heat_76 rfl (lv_at hl 1 rfl) ?_
        refine va_iald hx hb hK hP 26 0 hA26 htI (vp_uK k0) dX8_heat_77 ?_
        have hcd : cdHeat x y = 0 := by unfold cdHeat; rw [if_neg k0, if_neg k1]
        have ew : ((ws).set 12 (am, .inr (9, mF ad (upd z 0 (0 : Int32)) wi dm))).set 26 (ad 26, .inl (cI, 12, .inl (upd (F 26) x.toNatClampNeg (1000 : Int32)))) = (if cdHeat x y = 0 then (ws.set 12 (am, .inr (9, mF ad (upd z 0 0) wi dm))).set 26 (ad 26, .inl (cI, 12, .inl (upd (F 26) x.toNatClampNeg (jmin 1000 (F 26 x.toNatClampNeg + y))))) else ws.set 12 (am, .inr (9, mF ad (upd z 0 (cdHeat x y)) wi dm))) := by rw [hcd, if_pos rfl]; rw [jmin_b c54]
        have hP : va_P G vwCl (((ws).set 12 (am, .inr (9, mF ad (upd z 0 (0 : Int32)) wi dm))).set 26 (ad 26, .inl (cI, 12, .inl (upd (F 26) x.toNatClampNeg (1000 : Int32))))) H := hP
        have hD : va_D A (((ws).set 12 (am, .inr (9, mF ad (upd z 0 (0 : Int32)) wi dm))).set 26 (ad 26, .inl (cI, 12, .inl (upd (F 26) x.toNatClampNeg (1000 : Int32))))) := hD
        rw [ew] at hP hD
        exact W.iret (v := (upd (F 26) x.toNatClampNeg (1000 : Int32)) x.toNatClampNeg) hx hb hr (fun t ht hW => ⟨⟨(upd (F 26) x.toNatClampNeg (1000 : Int32)) x.toNatClampNeg, (), rfl, (fun _ => by unfold upd; rw [if_pos rfl, jmin_b c54]), by show va_P G vwCl _ t.heap ∧ va_D A _; rw [ht]; exact ⟨hP, hD⟩⟩, hS.F ht⟩) hS.2.2 dX8_heat_78
    · have hbd : oR y 1 500 := mIn_0.mp (h26.symm.trans c29)
      skip
      refine lv_aload_n hx hb dX8_heat_32 rfl (lv_at hl 0 rfl) ?_
      refine lv_iconst (v := 2) hx hb dX8_heat_33 (by decide) ?_
      refine va_calli (va_runV (As := [.int (2 : Int32)]) (rest := []) ⟨hx, hb, hml, hown, hts⟩ (metX8_stop l G tys _ hm (2 : Int32)) (cwV 1 hts gX8_heat_X8_stop rfl rfl rfl (by decide +kernel) ⟨Nat.le_of_ble_eq_true rfl, Nat.le_of_ble_eq_true rfl⟩) ⟨pcM_b, va_recv hK hP (ci := 9) (q0 := 12) rfl hm, pcM_u hP hK hD hS hA⟩ rfl rfl hl.1 rfl (lv_room (Nat.le_of_ble_eq_true rfl)) dX8_heat_34 ⟨Nat.le_of_ble_eq_true rfl, Nat.le_of_ble_eq_true rfl⟩) hS (fun q _ h => h) (fun q h => h) (fun r34 u t H locs ht hvm h34 hB hsz hk1 hS => ?_)
      rw [ht] at hB
      have hB := hB.1
      have hD := hD.set (e := .inr (9, mF ad (upd (upd z 0 (0 : Int32)) 0 (2 : Int32)) wi dm)) hm
      have hA26 := va_gs (k := 12) (e := (am, .inr (9, mF ad (upd (upd z 0 (0 : Int32)) 0 (2 : Int32)) wi dm))) (by decide) hA26
      have hm := va_ge (e := (am, .inr (9, mF ad (upd (upd z 0 (0 : Int32)) 0 (2 : Int32)) wi dm))) hm
      have hP : va_P G vwCl (((ws).set 12 (am, .inr (9, mF ad (upd z 0 (0 : Int32)) wi dm))).set 12 (am, .inr (9, mF ad (upd (upd z 0 (0 : Int32)) 0 (2 : Int32)) wi dm))) H := hB
      have hD : va_D A (((ws).set 12 (am, .inr (9, mF ad (upd z 0 (0 : Int32)) wi dm))).set 12 (am, .inr (9, mF ad (upd (upd z 0 (0 : Int32)) 0 (2 : Int32)) wi dm))) := hD
      have hcd : cdHeat x y = 2 := by unfold cdHeat; rw [if_neg k0, if_pos hbd]
      have ew : ((ws).set 12 (am, .inr (9, mF ad (upd z 0 (0 : Int32)) wi dm))).set 12 (am, .inr (9, mF ad (upd (upd z 0 (0 : Int32)) 0 (2 : Int32)) wi dm)) = (if cdHeat x y = 0 then (ws.set 12 (am, .inr (9, mF ad (upd z 0 0) wi dm))).set 26 (ad 26, .inl (cI, 12, .inl (upd (F 26) x.toNatClampNeg (jmin 1000 (F 26 x.toNatClampNeg + y))))) else ws.set 12 (am, .inr (9, mF ad (upd z 0 (cdHeat x y)) wi dm))) := by rw [hcd, if_neg (by decide), List.set_set, upd_upd]
      have hP : va_P G vwCl (((ws).set 12 (am, .inr (9, mF ad (upd z 0 (0 : Int32)) wi dm))).set 12 (am, .inr (9, mF ad (upd (upd z 0 (0 : Int32)) 0 (2 : Int32)) wi dm))) H := hP
      have hD : va_D A (((ws).set 12 (am, .inr (9, mF ad (upd z 0 (0 : Int32)) wi dm))).set 12 (am, .inr (9, mF ad (upd (upd z 0 (0 : Int32)) 0 (2 : Int32)) wi dm))) := hD
      rw [ew] at hP hD
      exact W.iret (v := r34) hx hb hr (fun t ht hW => ⟨⟨r34, (), rfl, (fun h0 => absurd (hcd.symm.trans h0) (by decide)), by show va_P G vwCl _ t.heap ∧ va_D A _; rw [ht]; exact ⟨hP, hD⟩⟩, hS.F ht⟩) hS.2.2 dX8_heat_37
  · have hbd : uK x 12 := (oR_uK (k := 12) (by decide : (11 : Int32) = nI 12 - 1) (by decide)).mp (mIn_0.mp (h9.symm.trans c12))
    skip
    refine lv_aload_n hx hb dX8_heat_15 rfl (lv_at hl 0 rfl) ?_
    refine lv_iconst (v := 1) hx hb dX8_heat_16 (by decide) ?_
    refine va_calli (va_runV (As := [.int (1 : Int32)]) (rest := []) ⟨hx, hb, hml, hown, hts⟩ (metX8_stop l G tys _ hm (1 : Int32)) (cwV 1 hts gX8_heat_X8_stop rfl rfl rfl (by decide +kernel) ⟨Nat.le_of_ble_eq_true rfl, Nat.le_of_ble_eq_true rfl⟩) ⟨pcM_b, va_recv hK hP (ci := 9) (q0 := 12) rfl hm, pcM_u hP hK hD hS hA⟩ rfl rfl hl.1 rfl (lv_room (Nat.le_of_ble_eq_true rfl)) dX8_heat_17 ⟨Nat.le_of_ble_eq_true rfl, Nat.le_of_ble_eq_true rfl⟩) hS (fun q _ h => h) (fun q h => h) (fun r17 u t H locs ht hvm h17 hB hsz hk1 hS => ?_)
    rw [ht] at hB
    have hB := hB.1
    have hD := hD.set (e := .inr (9, mF ad (upd (upd z 0 (0 : Int32)) 0 (1 : Int32)) wi dm)) hm
    have hA26 := va_gs (k := 12) (e := (am, .inr (9, mF ad (upd (upd z 0 (0 : Int32)) 0 (1 : Int32)) wi dm))) (by decide) hA26
    have hm := va_ge (e := (am, .inr (9, mF ad (upd (upd z 0 (0 : Int32)) 0 (1 : Int32)) wi dm))) hm
    have hP : va_P G vwCl (((ws).set 12 (am, .inr (9, mF ad (upd z 0 (0 : Int32)) wi dm))).set 12 (am, .inr (9, mF ad (upd (upd z 0 (0 : Int32)) 0 (1 : Int32)) wi dm))) H := hB
    have hD : va_D A (((ws).set 12 (am, .inr (9, mF ad (upd z 0 (0 : Int32)) wi dm))).set 12 (am, .inr (9, mF ad (upd (upd z 0 (0 : Int32)) 0 (1 : Int32)) wi dm))) := hD
    have hcd : cdHeat x y = 1 := by unfold cdHeat; rw [if_pos hbd]
    have ew : ((ws).set 12 (am, .inr (9, mF ad (upd z 0 (0 : Int32)) wi dm))).set 12 (am, .inr (9, mF ad (upd (upd z 0 (0 : Int32)) 0 (1 : Int32)) wi dm)) = (if cdHeat x y = 0 then (ws.set 12 (am, .inr (9, mF ad (upd z 0 0) wi dm))).set 26 (ad 26, .inl (cI, 12, .inl (upd (F 26) x.toNatClampNeg (jmin 1000 (F 26 x.toNatClampNeg + y))))) else ws.set 12 (am, .inr (9, mF ad (upd z 0 (cdHeat x y)) wi dm))) := by rw [hcd, if_neg (by decide), List.set_set, upd_upd]
    have hP : va_P G vwCl (((ws).set 12 (am, .inr (9, mF ad (upd z 0 (0 : Int32)) wi dm))).set 12 (am, .inr (9, mF ad (upd (upd z 0 (0 : Int32)) 0 (1 : Int32)) wi dm))) H := hP
    have hD : va_D A (((ws).set 12 (am, .inr (9, mF ad (upd z 0 (0 : Int32)) wi dm))).set 12 (am, .inr (9, mF ad (upd (upd z 0 (0 : Int32)) 0 (1 : Int32)) wi dm))) := hD
    rw [ew] at hP hD
    exact W.iret (v := r17) hx hb hr (fun t ht hW => ⟨⟨r17, (), rfl, (fun h0 => absurd (hcd.symm.trans h0) (by decide)), by show va_P G vwCl _ t.heap ∧ va_D A _; rw [ht]; exact ⟨hP, hD⟩⟩, hS.F ht⟩) hS.2.2 dX8_heat_20
set_option maxHeartbeats 1000000 in
set_option maxRecDepth 100000 in
theorem metX8_warmth (l : Launch) (G : va_G) (tys : List (ClassId × FieldType)) {cI : ClassId} (htI : tI tys cI) {A : Nat → Prop} (ws : va_W) {am : Nat} {ad : Nat → Nat} {z : Nat → Int32} {wi dm : Int64} {F : Nat → Nat → Int32} (hm : ws[12]? = some (am, .inr (9, mF ad z wi dm))) (hA26 : ws[26]? = some (ad 26, .inl (cI, 12, .inl (F 26)))) (x : Int32) : Met l yX8_warmth wsX8_warmth ({ frames := 1, cells := 0, slots := 0, locals := 22 }) (pcM G tys ws A [.ref am, .int x]) (va_Qi (fun (r : Int32) (_ : Unit) => cdOne x 12 = 0 → r = F 26 x.toNatClampNeg) (fun _ t => va_P G vwCl (if cdOne x 12 = 0 then (ws).set 12 (am, .inr (9, mF ad (upd z 0 (0 : Int32)) wi dm)) else ws.set 12 (am, .inr (9, mF ad (upd z 0 (cdOne x 12)) wi dm))) t.heap ∧ va_D A (if cdOne x 12 = 0 then (ws).set 12 (am, .inr (9, mF ad (upd z 0 (0 : Int32)) wi dm)) else ws.set 12 (am, .inr (9, mF ad (upd z 0 (cdOne x 12)) wi dm)))) A) 0 0 A := by
  refine ofM (cc := cX8_warmth) (maxL := 2) (ret := some .int) (by decide) rfl (Nat.le_of_ble_eq_true rfl) ?_
  intro p e s m below meth c ls hx hb hr hlocks hml hown hts hin hl hP hK hD hA hS
  have hown : s.vm.findClass RX8 = some m.cls := hown
  have hiX8 : ∀ w ∈ u_ws RX8 TX8 39, w ∈ wsX8_warmth := fun _ h => List.mem_cons_of_mem _ (List.mem_append_right _ h)
  have hl : lv_has ls 2 [(0, .ref am), (1, .int x)] := hl
  refine lv_aload_n hx hb dX8_warmth_0 rfl (lv_at hl 0 rfl) ?_
  refine lv_iconst (v := 0) hx hb dX8_warmth_1 (by decide) ?_
  refine va_put (D := G) (ci := 9) (v := .int (0 : Int32)) (ty := .int) (C := RX8) (T := TX8) (N := 39) hx hb hts hiX8 tyX8 tyX8_ok nmX8 hown hK hP hD hS 12 hm rfl 0 (by decide) (hts (.fieldLink RX8 86 "VortexpinModel" "thrown" "I") (List.mem_of_getElem? (i := 1) rfl)) (fun _ h9 => h9) rfl (by decide +kernel) (rfl) (rfl) (Nat.le_of_ble_eq_true rfl) dX8_warmth_2 (fun H locs hP hD hS => ?_)
  have hP : va_P G vwCl ((ws).set 12 (am, .inr (9, mF ad (upd z 0 (0 : Int32)) wi dm))) H := hP
  have hD : va_D A ((ws).set 12 (am, .inr (9, mF ad (upd z 0 (0 : Int32)) wi dm))) := hD
  have hA26 := va_gs (k := 12) (e := (am, .inr (9, mF ad (upd z 0 (0 : Int32)) wi dm))) (by decide) hA26
  have hm := va_ge (e := (am, .inr (9, mF ad (upd z 0 (0 : Int32)) wi dm))) hm
  refine lv_iload_n hx hb dX8_warmth_5 rfl (lv_at hl 1 rfl) ?_
  refine lv_iconst (v := 0) hx hb dX8_warmth_6 (by decide) ?_
  refine lv_bipush (v := 11) hx hb dX8_warmth_7 (by decide) ?_
  refine vp_callSi (va_Run.run (va_runS (As := [.int x, .int (0 : Int32), .int (11 : Int32)]) (rest := []) ⟨hx, hb, hml, hown, hts⟩ (metX8_in l x (0 : Int32) (11 : Int32)) (va_cwS 3 hts gX8_warmth_X8_in rfl rfl rfl (by decide +kernel) ⟨Nat.le_of_ble_eq_true rfl, Nat.le_of_ble_eq_true rfl⟩) ⟨pc0_b, pc0_u⟩ rfl rfl hl.1 rfl (lv_room (Nat.le_of_ble_eq_true rfl)) dX8_warmth_9 ⟨Nat.le_of_ble_eq_true rfl, Nat.le_of_ble_eq_true rfl⟩)) (fun r9 h9 => ?_)
  refine lv_if_eq (tgt := 24) hx hb dX8_warmth_12 (by decide) (fun c12 => ?_) (fun c12 => ?_)
  · have hbd : uK x 12 := (oR_uK (k := 12) (by decide : (11 : Int32) = nI 12 - 1) (by decide)).mp (mIn_0.mp (h9.symm.trans c12))
    skip
    refine lv_aload_n hx hb dX8_warmth_24 rfl (lv_at hl 0 rfl) ?_
    refine lv_iconst (v := 1) hx hb dX8_warmth_25 (by decide) ?_
    refine va_calli (va_runV (As := [.int (1 : Int32)]) (rest := []) ⟨hx, hb, hml, hown, hts⟩ (metX8_stop l G tys _ hm (1 : Int32)) (cwV 1 hts gX8_warmth_X8_stop rfl rfl rfl (by decide +kernel) ⟨Nat.le_of_ble_eq_true rfl, Nat.le_of_ble_eq_true rfl⟩) ⟨pcM_b, va_recv hK hP (ci := 9) (q0 := 12) rfl hm, pcM_u hP hK hD hS hA⟩ rfl rfl hl.1 rfl (lv_room (Nat.le_of_ble_eq_true rfl)) dX8_warmth_26 ⟨Nat.le_of_ble_eq_true rfl, Nat.le_of_ble_eq_true rfl⟩) hS (fun q _ h => h) (fun q h => h) (fun r26 u t H locs ht hvm h26 hB hsz hk1 hS => ?_)
    rw [ht] at hB
    have hB := hB.1
    have hD := hD.set (e := .inr (9, mF ad (upd (upd z 0 (0 : Int32)) 0 (1 : Int32)) wi dm)) hm
    have hA26 := va_gs (k := 12) (e := (am, .inr (9, mF ad (upd (upd z 0 (0 : Int32)) 0 (1 : Int32)) wi dm))) (by decide) hA26
    have hm := va_ge (e := (am, .inr (9, mF ad (upd (upd z 0 (0 : Int32)) 0 (1 : Int32)) wi dm))) hm
    have hP : va_P G vwCl (((ws).set 12 (am, .inr (9, mF ad (upd z 0 (0 : Int32)) wi dm))).set 12 (am, .inr (9, mF ad (upd (upd z 0 (0 : Int32)) 0 (1 : Int32)) wi dm))) H := hB
    have hD : va_D A (((ws).set 12 (am, .inr (9, mF ad (upd z 0 (0 : Int32)) wi dm))).set 12 (am, .inr (9, mF ad (upd (upd z 0 (0 : Int32)) 0 (1 : Int32)) wi dm))) := hD
    have hcd : cdOne x 12 = 1 := by unfold cdOne; rw [if_pos hbd]
    have ew : ((ws).set 12 (am, .inr (9, mF ad (upd z 0 (0 : Int32)) wi dm))).set 12 (am, .inr (9, mF ad (upd (upd z 0 (0 : Int32)) 0 (1 : Int32)) wi dm)) = (if cdOne x 12 = 0 then (ws).set 12 (am, .inr (9, mF ad (upd z 0 (0 : Int32)) wi dm)) else ws.set 12 (am, .inr (9, mF ad (upd z 0 (cdOne x 12)) wi dm))) := by rw [hcd, if_neg (by decide), List.set_set, upd_upd]
    have hP : va_P G vwCl (((ws).set 12 (am, .inr (9, mF ad (upd z 0 (0 : Int32)) wi dm))).set 12 (am, .inr (9, mF ad (upd (upd z 0 (0 : Int32)) 0 (1 : Int32)) wi dm))) H := hP
    have hD : va_D A (((ws).set 12 (am, .inr (9, mF ad (upd z 0 (0 : Int32)) wi dm))).set 12 (am, .inr (9, mF ad (upd (upd z 0 (0 : Int32)) 0 (1 : Int32)) wi dm))) := hD
    rw [ew] at hP hD
    exact W.iret (v := r26) hx hb hr (fun t ht hW => ⟨⟨r26, (), rfl, (fun h0 => absurd (hcd.symm.trans h0) (by decide)), by show va_P G vwCl _ t.heap ∧ va_D A _; rw [ht]; exact ⟨hP, hD⟩⟩, hS.F ht⟩) hS.2.2 dX8_warmth_29
  · have k0 : ¬ (uK x 12) := fun q9 => c12 (h9.trans (mIn_0.mpr ((oR_uK (k := 12) (by decide : (11 : Int32) = nI 12 - 1) (by decide)).mpr q9)))
    refine lv_aload_n hx hb dX8_warmth_15 rfl (lv_at hl 0 rfl) ?_
    refine va_get (D := G) (ci := 9) (v := .ref (ad 26)) (C := RX8) (T := TX8) (N := 39) hx hb hts hiX8 hown hK hP 12 hm rfl 19 (by decide) (hts (.fieldLink RX8 49 "VortexpinModel" "part" "[I") (List.mem_of_getElem? (i := 2) rfl)) (fun _ h9 => h9) rfl dX8_warmth_16 ?_
    refine lv_iload_n hx hb dX8_warmth_19 rfl (lv_at hl 1 rfl) ?_
    refine va_iald hx hb hK hP 26 0 hA26 htI (vp_uK k0) dX8_warmth_20 ?_
    refine lv_goto (tgt := 29) hx hb dX8_warmth_21 (by decide) ?_
    have hcd : cdOne x 12 = 0 := by unfold cdOne; rw [if_neg k0]
    have ew : (ws).set 12 (am, .inr (9, mF ad (upd z 0 (0 : Int32)) wi dm)) = (if cdOne x 12 = 0 then (ws).set 12 (am, .inr (9, mF ad (upd z 0 (0 : Int32)) wi dm)) else ws.set 12 (am, .inr (9, mF ad (upd z 0 (cdOne x 12)) wi dm))) := by rw [hcd, if_pos rfl]
    have hP : va_P G vwCl ((ws).set 12 (am, .inr (9, mF ad (upd z 0 (0 : Int32)) wi dm))) H := hP
    have hD : va_D A ((ws).set 12 (am, .inr (9, mF ad (upd z 0 (0 : Int32)) wi dm))) := hD
    rw [ew] at hP hD
    exact W.iret (v := (F 26) x.toNatClampNeg) hx hb hr (fun t ht hW => ⟨⟨(F 26) x.toNatClampNeg, (), rfl, (fun _ => rfl), by show va_P G vwCl _ t.heap ∧ va_D A _; rw [ht]; exact ⟨hP, hD⟩⟩, hS.F ht⟩) hS.2.2 dX8_warmth_29
set_option maxHeartbeats 1000000 in
set_option maxRecDepth 100000 in
theorem metX8_ofCoil (l : Launch) (G : va_G) (tys : List (ClassId × FieldType)) {cI : ClassId} (htI : tI tys cI) {A : Nat → Prop} (ws : va_W) {am : Nat} {ad : Nat → Nat} {z : Nat → Int32} {wi dm : Int64} {F : Nat → Nat → Int32} (hm : ws[12]? = some (am, .inr (9, mF ad z wi dm))) (hA26 : ws[26]? = some (ad 26, .inl (cI, 12, .inl (F 26)))) (w : Int32) : Met l yX8_ofCoil wsX8_ofCoil ({ frames := 3, cells := 0, slots := 0, locals := 65 }) (pcM G tys ws A [.ref am, .int w]) (va_Ql (fun (r : Int64) (_ : Unit) => cdOfCoil w = 0 → r = (if w = 0 then (mCnt (z 21) (F 26) 0 12).toInt64 else if w = 1 then (mCnt (z 21) (F 26) 0 6 - mCnt (z 21) (F 26) 6 6).toInt64 else if w = 2 then (if z 22 = 0 then 0 else 1) else if w = 3 then wi else if w = 4 then dm else cSto (z 21))) (fun _ t => va_P G vwCl (if cdOfCoil w = 0 then (ws).set 12 (am, .inr (9, mF ad (upd z 0 (0 : Int32)) wi dm)) else ws.set 12 (am, .inr (9, mF ad (upd z 0 (cdOfCoil w)) wi dm))) t.heap ∧ va_D A (if cdOfCoil w = 0 then (ws).set 12 (am, .inr (9, mF ad (upd z 0 (0 : Int32)) wi dm)) else ws.set 12 (am, .inr (9, mF ad (upd z 0 (cdOfCoil w)) wi dm)))) A) 0 0 A := by
  refine ofM (cc := cX8_ofCoil) (maxL := 2) (ret := some .long) (by decide) rfl (Nat.le_of_ble_eq_true rfl) ?_
  intro p e s m below meth c ls hx hb hr hlocks hml hown hts hin hl hP hK hD hA hS
  have hown : s.vm.findClass RX8 = some m.cls := hown
  have hiX8 : ∀ w ∈ u_ws RX8 TX8 39, w ∈ wsX8_ofCoil := fun _ h => List.mem_cons_of_mem _ (List.mem_append_right _ h)
  have hl : lv_has ls 2 [(0, .ref am), (1, .int w)] := hl
  refine lv_aload_n hx hb dX8_ofCoil_0 rfl (lv_at hl 0 rfl) ?_
  refine lv_iconst (v := 0) hx hb dX8_ofCoil_1 (by decide) ?_
  refine va_put (D := G) (ci := 9) (v := .int (0 : Int32)) (ty := .int) (C := RX8) (T := TX8) (N := 39) hx hb hts hiX8 tyX8 tyX8_ok nmX8 hown hK hP hD hS 12 hm rfl 0 (by decide) (hts (.fieldLink RX8 86 "VortexpinModel" "thrown" "I") (List.mem_of_getElem? (i := 1) rfl)) (fun _ h9 => h9) rfl (by decide +kernel) (rfl) (rfl) (Nat.le_of_ble_eq_true rfl) dX8_ofCoil_2 (fun H locs hP hD hS => ?_)
  have hP : va_P G vwCl ((ws).set 12 (am, .inr (9, mF ad (upd z 0 (0 : Int32)) wi dm))) H := hP
  have hD : va_D A ((ws).set 12 (am, .inr (9, mF ad (upd z 0 (0 : Int32)) wi dm))) := hD
  have hA26 := va_gs (k := 12) (e := (am, .inr (9, mF ad (upd z 0 (0 : Int32)) wi dm))) (by decide) hA26
  have hm := va_ge (e := (am, .inr (9, mF ad (upd z 0 (0 : Int32)) wi dm))) hm
  refine lv_iload_n hx hb dX8_ofCoil_5 rfl (lv_at hl 1 rfl) ?_
  refine lv_iconst (v := 0) hx hb dX8_ofCoil_6 (by decide) ?_
  refine lv_iconst (v := 5) hx hb dX8_ofCoil_7 (by decide) ?_
  refine vp_callSi (va_Run.run (va_runS (As := [.int w, .int (0 : Int32), .int (5 : Int32)]) (rest := []) ⟨hx, hb, hml, hown, hts⟩ (metX8_in l w (0 : Int32) (5 : Int32)) (va_cwS 3 hts gX8_ofCoil_X8_in rfl rfl rfl (by decide +kernel) ⟨Nat.le_of_ble_eq_true rfl, Nat.le_of_ble_eq_true rfl⟩) ⟨pc0_b, pc0_u⟩ rfl rfl hl.1 rfl (lv_room (Nat.le_of_ble_eq_true rfl)) dX8_ofCoil_8 ⟨Nat.le_of_ble_eq_true rfl, Nat.le_of_ble_eq_true rfl⟩)) (fun r8 h8 => ?_)
  refine lv_if_ne (tgt := 21) hx hb dX8_ofCoil_11 (by decide) (fun c11 => ?_) (fun c11 => ?_)
  · have k0 : ¬ (oR w 0 5) := fun q9 => c11 (h8.trans (mIn_0.mpr q9))
    refine lv_iload_n hx hb dX8_ofCoil_21 rfl (lv_at hl 1 rfl) ?_
    by_cases c22_0 : w = (0 : Int32)
    · refine lv_tableIn (tgt := 56) hx hb dX8_ofCoil_22 (by rw [c22_0]; decide) (by rw [c22_0]; decide) (by rw [c22_0]; rfl) (by decide) ?_
      refine lv_aload_n hx hb dX8_ofCoil_56 rfl (lv_at hl 0 rfl) ?_
      refine lv_iconst (v := 0) hx hb dX8_ofCoil_57 (by decide) ?_
      refine lv_bipush (v := 11) hx hb dX8_ofCoil_58 (by decide) ?_
      refine vp_callSi (va_Run.run (va_runV (As := [.int (0 : Int32), .int (11 : Int32)]) (rest := []) ⟨hx, hb, hml, hown, hts⟩ (metX8_normals l G tys htI _ hm hA26 0 11 (by decide) (by decide)) (cwV 2 hts gX8_ofCoil_X8_normals rfl rfl rfl (by decide +kernel) ⟨Nat.le_of_ble_eq_true rfl, Nat.le_of_ble_eq_true rfl⟩) ⟨pcR_b, va_recv hK hP (ci := 9) (q0 := 12) rfl hm, pcR_u hP hK⟩ rfl rfl hl.1 rfl (lv_room (Nat.le_of_ble_eq_true rfl)) dX8_ofCoil_60 ⟨Nat.le_of_ble_eq_true rfl, Nat.le_of_ble_eq_true rfl⟩)) (fun r60 h60 => ?_)
      have h60 : r60 = mCnt (z 21) (F 26) 0 12 := h60
      refine lv_i2l hx hb dX8_ofCoil_63 rfl ?_
      have hcd : cdOfCoil w = 0 := by unfold cdOfCoil; rw [if_neg k0]
      have ew : (ws).set 12 (am, .inr (9, mF ad (upd z 0 (0 : Int32)) wi dm)) = (if cdOfCoil w = 0 then (ws).set 12 (am, .inr (9, mF ad (upd z 0 (0 : Int32)) wi dm)) else ws.set 12 (am, .inr (9, mF ad (upd z 0 (cdOfCoil w)) wi dm))) := by rw [hcd, if_pos rfl]
      have hP : va_P G vwCl ((ws).set 12 (am, .inr (9, mF ad (upd z 0 (0 : Int32)) wi dm))) H := hP
      have hD : va_D A ((ws).set 12 (am, .inr (9, mF ad (upd z 0 (0 : Int32)) wi dm))) := hD
      rw [ew] at hP hD
      exact W.lret (v := r60.toInt64) hx hb hr (fun t ht hW => ⟨⟨r60.toInt64, (), rfl, (fun _ => by subst h8; subst h60; simp only [c11, (eq_true c22_0), ↓reduceIte, not_true_eq_false, not_false_eq_true]), by show va_P G vwCl _ t.heap ∧ va_D A _; rw [ht]; exact ⟨hP, hD⟩⟩, hS.F ht⟩) hS.2.2 dX8_ofCoil_64
    by_cases c22_1 : w = (1 : Int32)
    · refine lv_tableIn (tgt := 65) hx hb dX8_ofCoil_22 (by rw [c22_1]; decide) (by rw [c22_1]; decide) (by rw [c22_1]; rfl) (by decide) ?_
      refine lv_aload_n hx hb dX8_ofCoil_65 rfl (lv_at hl 0 rfl) ?_
      refine vp_callSi (va_Run.run (va_runV (As := []) (rest := []) ⟨hx, hb, hml, hown, hts⟩ (metX8_doubt l G tys htI _ hm hA26) (cwV 0 hts gX8_ofCoil_X8_doubt rfl rfl rfl (by decide +kernel) ⟨Nat.le_of_ble_eq_true rfl, Nat.le_of_ble_eq_true rfl⟩) ⟨pcR_b, va_recv hK hP (ci := 9) (q0 := 12) rfl hm, pcR_u hP hK⟩ rfl rfl hl.1 rfl (lv_room (Nat.le_of_ble_eq_true rfl)) dX8_ofCoil_66 ⟨Nat.le_of_ble_eq_true rfl, Nat.le_of_ble_eq_true rfl⟩)) (fun r66 h66 => ?_)
      have h66 : r66 = mCnt (z 21) (F 26) 0 6 - mCnt (z 21) (F 26) 6 6 := h66
      refine lv_i2l hx hb dX8_ofCoil_69 rfl ?_
      have hcd : cdOfCoil w = 0 := by unfold cdOfCoil; rw [if_neg k0]
      have ew : (ws).set 12 (am, .inr (9, mF ad (upd z 0 (0 : Int32)) wi dm)) = (if cdOfCoil w = 0 then (ws).set 12 (am, .inr (9, mF ad (upd z 0 (0 : Int32)) wi dm)) else ws.set 12 (am, .inr (9, mF ad (upd z 0 (cdOfCoil w)) wi dm))) := by rw [hcd, if_pos rfl]
      have hP : va_P G vwCl ((ws).set 12 (am, .inr (9, mF ad (upd z 0 (0 : Int32)) wi dm))) H := hP
      have hD : va_D A ((ws).set 12 (am, .inr (9, mF ad (upd z 0 (0 : Int32)) wi dm))) := hD
      rw [ew] at hP hD
      exact W.lret (v := r66.toInt64) hx hb hr (fun t ht hW => ⟨⟨r66.toInt64, (), rfl, (fun _ => by subst h8; subst h66; simp only [c11, c22_0, (eq_true c22_1), ↓reduceIte, not_true_eq_false, not_false_eq_true]), by show va_P G vwCl _ t.heap ∧ va_D A _; rw [ht]; exact ⟨hP, hD⟩⟩, hS.F ht⟩) hS.2.2 dX8_ofCoil_70
    by_cases c22_2 : w = (2 : Int32)
    · refine lv_tableIn (tgt := 71) hx hb dX8_ofCoil_22 (by rw [c22_2]; decide) (by rw [c22_2]; decide) (by rw [c22_2]; rfl) (by decide) ?_
      refine lv_aload_n hx hb dX8_ofCoil_71 rfl (lv_at hl 0 rfl) ?_
      refine va_get (D := G) (ci := 9) (v := .int (z 22)) (C := RX8) (T := TX8) (N := 39) hx hb hts hiX8 hown hK hP 12 hm rfl 22 (by decide) (hts (.fieldLink RX8 150 "VortexpinModel" "isDumped" "Z") (List.mem_of_getElem? (i := 2) rfl)) (fun _ h9 => h9) rfl dX8_ofCoil_72 ?_
      refine lv_if_eq (tgt := 82) hx hb dX8_ofCoil_75 (by decide) (fun c75 => ?_) (fun c75 => ?_)
      · refine lv_lconst (v := 0) hx hb dX8_ofCoil_82 (by decide) ?_
        have hcd : cdOfCoil w = 0 := by unfold cdOfCoil; rw [if_neg k0]
        have ew : (ws).set 12 (am, .inr (9, mF ad (upd z 0 (0 : Int32)) wi dm)) = (if cdOfCoil w = 0 then (ws).set 12 (am, .inr (9, mF ad (upd z 0 (0 : Int32)) wi dm)) else ws.set 12 (am, .inr (9, mF ad (upd z 0 (cdOfCoil w)) wi dm))) := by rw [hcd, if_pos rfl]
        have hP : va_P G vwCl ((ws).set 12 (am, .inr (9, mF ad (upd z 0 (0 : Int32)) wi dm))) H := hP
        have hD : va_D A ((ws).set 12 (am, .inr (9, mF ad (upd z 0 (0 : Int32)) wi dm))) := hD
        rw [ew] at hP hD
        exact W.lret (v := 0) hx hb hr (fun t ht hW => ⟨⟨0, (), rfl, (fun _ => by subst h8; simp only [c11, c22_0, c22_1, (eq_true c22_2), (eq_true c75), ↓reduceIte, not_true_eq_false, not_false_eq_true]), by show va_P G vwCl _ t.heap ∧ va_D A _; rw [ht]; exact ⟨hP, hD⟩⟩, hS.F ht⟩) hS.2.2 dX8_ofCoil_83
      · refine lv_lconst (v := 1) hx hb dX8_ofCoil_78 (by decide) ?_
        refine lv_goto (tgt := 83) hx hb dX8_ofCoil_79 (by decide) ?_
        have hcd : cdOfCoil w = 0 := by unfold cdOfCoil; rw [if_neg k0]
        have ew : (ws).set 12 (am, .inr (9, mF ad (upd z 0 (0 : Int32)) wi dm)) = (if cdOfCoil w = 0 then (ws).set 12 (am, .inr (9, mF ad (upd z 0 (0 : Int32)) wi dm)) else ws.set 12 (am, .inr (9, mF ad (upd z 0 (cdOfCoil w)) wi dm))) := by rw [hcd, if_pos rfl]
        have hP : va_P G vwCl ((ws).set 12 (am, .inr (9, mF ad (upd z 0 (0 : Int32)) wi dm))) H := hP
        have hD : va_D A ((ws).set 12 (am, .inr (9, mF ad (upd z 0 (0 : Int32)) wi dm))) := hD
        rw [ew] at hP hD
        exact W.lret (v := 1) hx hb hr (fun t ht hW => ⟨⟨1, (), rfl, (fun _ => by subst h8; simp only [c11, c22_0, c22_1, (eq_true c22_2), c75, ↓reduceIte, not_true_eq_false, not_false_eq_true]), by show va_P G vwCl _ t.heap ∧ va_D A _; rw [ht]; exact ⟨hP, hD⟩⟩, hS.F ht⟩) hS.2.2 dX8_ofCoil_83
    by_cases c22_3 : w = (3 : Int32)
    · refine lv_tableIn (tgt := 84) hx hb dX8_ofCoil_22 (by rw [c22_3]; decide) (by rw [c22_3]; decide) (by rw [c22_3]; rfl) (by decide) ?_
      refine lv_aload_n hx hb dX8_ofCoil_84 rfl (lv_at hl 0 rfl) ?_
      refine va_get (D := G) (ci := 9) (v := .long wi) (C := RX8) (T := TX8) (N := 39) hx hb hts hiX8 hown hK hP 12 hm rfl 24 (by decide) (hts (.fieldLink RX8 169 "VortexpinModel" "wire" "J") (List.mem_of_getElem? (i := 3) rfl)) (fun _ h9 => h9) rfl dX8_ofCoil_85 ?_
      have hcd : cdOfCoil w = 0 := by unfold cdOfCoil; rw [if_neg k0]
      have ew : (ws).set 12 (am, .inr (9, mF ad (upd z 0 (0 : Int32)) wi dm)) = (if cdOfCoil w = 0 then (ws).set 12 (am, .inr (9, mF ad (upd z 0 (0 : Int32)) wi dm)) else ws.set 12 (am, .inr (9, mF ad (upd z 0 (cdOfCoil w)) wi dm))) := by rw [hcd, if_pos rfl]
      have hP : va_P G vwCl ((ws).set 12 (am, .inr (9, mF ad (upd z 0 (0 : Int32)) wi dm))) H := hP
      have hD : va_D A ((ws).set 12 (am, .inr (9, mF ad (upd z 0 (0 : Int32)) wi dm))) := hD
      rw [ew] at hP hD
      exact W.lret (v := wi) hx hb hr (fun t ht hW => ⟨⟨wi, (), rfl, (fun _ => by subst h8; simp only [c11, c22_0, c22_1, c22_2, (eq_true c22_3), ↓reduceIte, not_true_eq_false, not_false_eq_true]), by show va_P G vwCl _ t.heap ∧ va_D A _; rw [ht]; exact ⟨hP, hD⟩⟩, hS.F ht⟩) hS.2.2 dX8_ofCoil_88
    by_cases c22_4 : w = (4 : Int32)
    · refine lv_tableIn (tgt := 89) hx hb dX8_ofCoil_22 (by rw [c22_4]; decide) (by rw [c22_4]; decide) (by rw [c22_4]; rfl) (by decide) ?_
      refine lv_aload_n hx hb dX8_ofCoil_89 rfl (lv_at hl 0 rfl) ?_
      refine va_get (D := G) (ci := 9) (v := .long dm) (C := RX8) (T := TX8) (N := 39) hx hb hts hiX8 hown hK hP 12 hm rfl 25 (by decide) (hts (.fieldLink RX8 173 "VortexpinModel" "dump" "J") (List.mem_of_getElem? (i := 4) rfl)) (fun _ h9 => h9) rfl dX8_ofCoil_90 ?_
      have hcd : cdOfCoil w = 0 := by unfold cdOfCoil; rw [if_neg k0]
      have ew : (ws).set 12 (am, .inr (9, mF ad (upd z 0 (0 : Int32)) wi dm)) = (if cdOfCoil w = 0 then (ws).set 12 (am, .inr (9, mF ad (upd z 0 (0 : Int32)) wi dm)) else ws.set 12 (am, .inr (9, mF ad (upd z 0 (cdOfCoil w)) wi dm))) := by rw [hcd, if_pos rfl]
      have hP : va_P G vwCl ((ws).set 12 (am, .inr (9, mF ad (upd z 0 (0 : Int32)) wi dm))) H := hP
      have hD : va_D A ((ws).set 12 (am, .inr (9, mF ad (upd z 0 (0 : Int32)) wi dm))) := hD
      rw [ew] at hP hD
      exact W.lret (v := dm) hx hb hr (fun t ht hW => ⟨⟨dm, (), rfl, (fun _ => by subst h8; simp only [c11, c22_0, c22_1, c22_2, c22_3, (eq_true c22_4), ↓reduceIte, not_true_eq_false, not_false_eq_true]), by show va_P G vwCl _ t.heap ∧ va_D A _; rw [ht]; exact ⟨hP, hD⟩⟩, hS.F ht⟩) hS.2.2 dX8_ofCoil_93
    have tc22_0 : ¬ w.toInt = 0 := fun q => c22_0 (Int32.toInt_inj.mp (q.trans (by decide : (0 : Int) = (0 : Int32).toInt)))
    have tc22_1 : ¬ w.toInt = 1 := fun q => c22_1 (Int32.toInt_inj.mp (q.trans (by decide : (1 : Int) = (1 : Int32).toInt)))
    have tc22_2 : ¬ w.toInt = 2 := fun q => c22_2 (Int32.toInt_inj.mp (q.trans (by decide : (2 : Int) = (2 : Int32).toInt)))
    have tc22_3 : ¬ w.toInt = 3 := fun q => c22_3 (Int32.toInt_inj.mp (q.trans (by decide : (3 : Int) = (3 : Int32).toInt)))
    have tc22_4 : ¬ w.toInt = 4 := fun q => c22_4 (Int32.toInt_inj.mp (q.trans (by decide : (4 : Int) = (4 : Int32).toInt)))
    refine lv_tableOut (tgt := 94) hx hb dX8_ofCoil_22 (by omega) (by decide) ?_
    refine lv_aload_n hx hb dX8_ofCoil_94 rfl (lv_at hl 0 rfl) ?_
    refine vp_callSl (va_Run.run (va_runV (As := []) (rest := []) ⟨hx, hb, hml, hown, hts⟩ (metX8_energyOfCoil l G tys (F := F) _ hm) (cwV 0 hts gX8_ofCoil_X8_energyOfCoil rfl rfl rfl (by decide +kernel) ⟨Nat.le_of_ble_eq_true rfl, Nat.le_of_ble_eq_true rfl⟩) ⟨pcR_b, va_recv hK hP (ci := 9) (q0 := 12) rfl hm, pcR_u hP hK⟩ rfl rfl hl.1 rfl (lv_room (Nat.le_of_ble_eq_true rfl)) dX8_ofCoil_95 ⟨Nat.le_of_ble_eq_true rfl, Nat.le_of_ble_eq_true rfl⟩)) (fun r95 h95 => ?_)
    have h95 : r95 = cSto (z 21) := h95
    have hcd : cdOfCoil w = 0 := by unfold cdOfCoil; rw [if_neg k0]
    have ew : (ws).set 12 (am, .inr (9, mF ad (upd z 0 (0 : Int32)) wi dm)) = (if cdOfCoil w = 0 then (ws).set 12 (am, .inr (9, mF ad (upd z 0 (0 : Int32)) wi dm)) else ws.set 12 (am, .inr (9, mF ad (upd z 0 (cdOfCoil w)) wi dm))) := by rw [hcd, if_pos rfl]
    have hP : va_P G vwCl ((ws).set 12 (am, .inr (9, mF ad (upd z 0 (0 : Int32)) wi dm))) H := hP
    have hD : va_D A ((ws).set 12 (am, .inr (9, mF ad (upd z 0 (0 : Int32)) wi dm))) := hD
    rw [ew] at hP hD
    exact W.lret (v := r95) hx hb hr (fun t ht hW => ⟨⟨r95, (), rfl, (fun _ => by subst h8; subst h95; simp only [c11, c22_0, c22_1, c22_2, c22_3, c22_4, ↓reduceIte, not_true_eq_false, not_false_eq_true]), by show va_P G vwCl _ t.heap ∧ va_D A _; rw [ht]; exact ⟨hP, hD⟩⟩, hS.F ht⟩) hS.2.2 dX8_ofCoil_98
  · have hbd : oR w 0 5 := mIn_0.mp (h8.symm.trans c11)
    skip
    refine lv_aload_n hx hb dX8_ofCoil_14 rfl (lv_at hl 0 rfl) ?_
    refine lv_iconst (v := 1) hx hb dX8_ofCoil_15 (by decide) ?_
    refine va_calli (va_runV (As := [.int (1 : Int32)]) (rest := []) ⟨hx, hb, hml, hown, hts⟩ (metX8_stop l G tys _ hm (1 : Int32)) (cwV 1 hts gX8_ofCoil_X8_stop rfl rfl rfl (by decide +kernel) ⟨Nat.le_of_ble_eq_true rfl, Nat.le_of_ble_eq_true rfl⟩) ⟨pcM_b, va_recv hK hP (ci := 9) (q0 := 12) rfl hm, pcM_u hP hK hD hS hA⟩ rfl rfl hl.1 rfl (lv_room (Nat.le_of_ble_eq_true rfl)) dX8_ofCoil_16 ⟨Nat.le_of_ble_eq_true rfl, Nat.le_of_ble_eq_true rfl⟩) hS (fun q _ h => h) (fun q h => h) (fun r16 u t H locs ht hvm h16 hB hsz hk1 hS => ?_)
    rw [ht] at hB
    have hB := hB.1
    have hD := hD.set (e := .inr (9, mF ad (upd (upd z 0 (0 : Int32)) 0 (1 : Int32)) wi dm)) hm
    have hA26 := va_gs (k := 12) (e := (am, .inr (9, mF ad (upd (upd z 0 (0 : Int32)) 0 (1 : Int32)) wi dm))) (by decide) hA26
    have hm := va_ge (e := (am, .inr (9, mF ad (upd (upd z 0 (0 : Int32)) 0 (1 : Int32)) wi dm))) hm
    have hP : va_P G vwCl (((ws).set 12 (am, .inr (9, mF ad (upd z 0 (0 : Int32)) wi dm))).set 12 (am, .inr (9, mF ad (upd (upd z 0 (0 : Int32)) 0 (1 : Int32)) wi dm))) H := hB
    have hD : va_D A (((ws).set 12 (am, .inr (9, mF ad (upd z 0 (0 : Int32)) wi dm))).set 12 (am, .inr (9, mF ad (upd (upd z 0 (0 : Int32)) 0 (1 : Int32)) wi dm))) := hD
    refine lv_i2l hx hb dX8_ofCoil_19 rfl ?_
    have hcd : cdOfCoil w = 1 := by unfold cdOfCoil; rw [if_pos hbd]
    have ew : ((ws).set 12 (am, .inr (9, mF ad (upd z 0 (0 : Int32)) wi dm))).set 12 (am, .inr (9, mF ad (upd (upd z 0 (0 : Int32)) 0 (1 : Int32)) wi dm)) = (if cdOfCoil w = 0 then (ws).set 12 (am, .inr (9, mF ad (upd z 0 (0 : Int32)) wi dm)) else ws.set 12 (am, .inr (9, mF ad (upd z 0 (cdOfCoil w)) wi dm))) := by rw [hcd, if_neg (by decide), List.set_set, upd_upd]
    have hP : va_P G vwCl (((ws).set 12 (am, .inr (9, mF ad (upd z 0 (0 : Int32)) wi dm))).set 12 (am, .inr (9, mF ad (upd (upd z 0 (0 : Int32)) 0 (1 : Int32)) wi dm))) H := hP
    have hD : va_D A (((ws).set 12 (am, .inr (9, mF ad (upd z 0 (0 : Int32)) wi dm))).set 12 (am, .inr (9, mF ad (upd (upd z 0 (0 : Int32)) 0 (1 : Int32)) wi dm))) := hD
    rw [ew] at hP hD
    exact W.lret (v := r16.toInt64) hx hb hr (fun t ht hW => ⟨⟨r16.toInt64, (), rfl, (fun h0 => absurd (hcd.symm.trans h0) (by decide)), by show va_P G vwCl _ t.heap ∧ va_D A _; rw [ht]; exact ⟨hP, hD⟩⟩, hS.F ht⟩) hS.2.2 dX8_ofCoil_20
set_option maxHeartbeats 1000000 in
set_option maxRecDepth 100000 in
theorem metX8_pulse (l : Launch) (G : va_G) (tys : List (ClassId × FieldType)) {cI : ClassId} (htI : tI tys cI) {A : Nat → Prop} (ws : va_W) {am : Nat} {ad : Nat → Nat} {z : Nat → Int32} {wi dm : Int64} {F : Nat → Nat → Int32} (hm : ws[12]? = some (am, .inr (9, mF ad z wi dm))) (be bi : Int32) : Met l yX8_pulse wsX8_pulse ({ frames := 1, cells := 0, slots := 0, locals := 22 }) (pcM G tys ws A [.ref am, .int be, .int bi]) (va_Qi (fun (r : Int32) (_ : Unit) => cdPulse be bi = 0 → r = mTake (z 26) (z 27) (z 28) be bi) (fun _ t => va_P G vwCl (if cdPulse be bi = 0 then (ws.set 12 (am, .inr (9, mF ad (upd z 0 0) wi dm))).set 12 (am, .inr (9, mF ad (upd (upd z 0 0) 28 (mTake (z 26) (z 27) (z 28) be bi)) wi dm)) else ws.set 12 (am, .inr (9, mF ad (upd z 0 (cdPulse be bi)) wi dm))) t.heap ∧ va_D A (if cdPulse be bi = 0 then (ws.set 12 (am, .inr (9, mF ad (upd z 0 0) wi dm))).set 12 (am, .inr (9, mF ad (upd (upd z 0 0) 28 (mTake (z 26) (z 27) (z 28) be bi)) wi dm)) else ws.set 12 (am, .inr (9, mF ad (upd z 0 (cdPulse be bi)) wi dm)))) A) 0 0 A := by
  refine ofM (cc := cX8_pulse) (maxL := 4) (ret := some .int) (by decide) rfl (Nat.le_of_ble_eq_true rfl) ?_
  intro p e s m below meth c ls hx hb hr hlocks hml hown hts hin hl hP hK hD hA hS
  have hown : s.vm.findClass RX8 = some m.cls := hown
  have hiX8 : ∀ w ∈ u_ws RX8 TX8 39, w ∈ wsX8_pulse := fun _ h => List.mem_cons_of_mem _ (List.mem_append_right _ h)
  have hl : lv_has ls 4 [(0, .ref am), (1, .int be), (2, .int bi)] := hl
  refine lv_aload_n hx hb dX8_pulse_0 rfl (lv_at hl 0 rfl) ?_
  refine lv_iconst (v := 0) hx hb dX8_pulse_1 (by decide) ?_
  refine va_put (D := G) (ci := 9) (v := .int (0 : Int32)) (ty := .int) (C := RX8) (T := TX8) (N := 39) hx hb hts hiX8 tyX8 tyX8_ok nmX8 hown hK hP hD hS 12 hm rfl 0 (by decide) (hts (.fieldLink RX8 86 "VortexpinModel" "thrown" "I") (List.mem_of_getElem? (i := 1) rfl)) (fun _ h9 => h9) rfl (by decide +kernel) (rfl) (rfl) (Nat.le_of_ble_eq_true rfl) dX8_pulse_2 (fun H locs hP hD hS => ?_)
  have hP : va_P G vwCl ((ws).set 12 (am, .inr (9, mF ad (upd z 0 (0 : Int32)) wi dm))) H := hP
  have hD : va_D A ((ws).set 12 (am, .inr (9, mF ad (upd z 0 (0 : Int32)) wi dm))) := hD
  have hm := va_ge (e := (am, .inr (9, mF ad (upd z 0 (0 : Int32)) wi dm))) hm
  refine lv_iload_n hx hb dX8_pulse_5 rfl (lv_at hl 1 rfl) ?_
  refine lv_iconst (v := 1) hx hb dX8_pulse_6 (by decide) ?_
  refine lv_sipush (v := 1000) hx hb dX8_pulse_7 (by decide) ?_
  refine vp_callSi (va_Run.run (va_runS (As := [.int be, .int (1 : Int32), .int (1000 : Int32)]) (rest := []) ⟨hx, hb, hml, hown, hts⟩ (metX8_in l be (1 : Int32) (1000 : Int32)) (va_cwS 3 hts gX8_pulse_X8_in rfl rfl rfl (by decide +kernel) ⟨Nat.le_of_ble_eq_true rfl, Nat.le_of_ble_eq_true rfl⟩) ⟨pc0_b, pc0_u⟩ rfl rfl hl.1 rfl (lv_room (Nat.le_of_ble_eq_true rfl)) dX8_pulse_10 ⟨Nat.le_of_ble_eq_true rfl, Nat.le_of_ble_eq_true rfl⟩)) (fun r10 h10 => ?_)
  refine lv_if_eq (tgt := 27) hx hb dX8_pulse_13 (by decide) (fun c13 => ?_) (fun c13 => ?_)
  · have hbd : oR be 1 1000 := mIn_0.mp (h10.symm.trans c13)
    skip
    refine lv_aload_n hx hb dX8_pulse_27 rfl (lv_at hl 0 rfl) ?_
    refine lv_iconst (v := 1) hx hb dX8_pulse_28 (by decide) ?_
    refine va_calli (va_runV (As := [.int (1 : Int32)]) (rest := []) ⟨hx, hb, hml, hown, hts⟩ (metX8_stop l G tys _ hm (1 : Int32)) (cwV 1 hts gX8_pulse_X8_stop rfl rfl rfl (by decide +kernel) ⟨Nat.le_of_ble_eq_true rfl, Nat.le_of_ble_eq_true rfl⟩) ⟨pcM_b, va_recv hK hP (ci := 9) (q0 := 12) rfl hm, pcM_u hP hK hD hS hA⟩ rfl rfl hl.1 rfl (lv_room (Nat.le_of_ble_eq_true rfl)) dX8_pulse_29 ⟨Nat.le_of_ble_eq_true rfl, Nat.le_of_ble_eq_true rfl⟩) hS (fun q _ h => h) (fun q h => h) (fun r29 u t H locs ht hvm h29 hB hsz hk1 hS => ?_)
    rw [ht] at hB
    have hB := hB.1
    have hD := hD.set (e := .inr (9, mF ad (upd (upd z 0 (0 : Int32)) 0 (1 : Int32)) wi dm)) hm
    have hm := va_ge (e := (am, .inr (9, mF ad (upd (upd z 0 (0 : Int32)) 0 (1 : Int32)) wi dm))) hm
    have hP : va_P G vwCl (((ws).set 12 (am, .inr (9, mF ad (upd z 0 (0 : Int32)) wi dm))).set 12 (am, .inr (9, mF ad (upd (upd z 0 (0 : Int32)) 0 (1 : Int32)) wi dm))) H := hB
    have hD : va_D A (((ws).set 12 (am, .inr (9, mF ad (upd z 0 (0 : Int32)) wi dm))).set 12 (am, .inr (9, mF ad (upd (upd z 0 (0 : Int32)) 0 (1 : Int32)) wi dm))) := hD
    have hcd : cdPulse be bi = 1 := by unfold cdPulse; rw [if_pos hbd]
    have ew : ((ws).set 12 (am, .inr (9, mF ad (upd z 0 (0 : Int32)) wi dm))).set 12 (am, .inr (9, mF ad (upd (upd z 0 (0 : Int32)) 0 (1 : Int32)) wi dm)) = (if cdPulse be bi = 0 then (ws.set 12 (am, .inr (9, mF ad (upd z 0 0) wi dm))).set 12 (am, .inr (9, mF ad (upd (upd z 0 0) 28 (mTake (z 26) (z 27) (z 28) be bi)) wi dm)) else ws.set 12 (am, .inr (9, mF ad (upd z 0 (cdPulse be bi)) wi dm))) := by rw [hcd, if_neg (by decide), List.set_set, upd_upd]
    have hP : va_P G vwCl (((ws).set 12 (am, .inr (9, mF ad (upd z 0 (0 : Int32)) wi dm))).set 12 (am, .inr (9, mF ad (upd (upd z 0 (0 : Int32)) 0 (1 : Int32)) wi dm))) H := hP
    have hD : va_D A (((ws).set 12 (am, .inr (9, mF ad (upd z 0 (0 : Int32)) wi dm))).set 12 (am, .inr (9, mF ad (upd (upd z 0 (0 : Int32)) 0 (1 : Int32)) wi dm))) := hD
    rw [ew] at hP hD
    exact W.iret (v := r29) hx hb hr (fun t ht hW => ⟨⟨r29, (), rfl, (fun h0 => absurd (hcd.symm.trans h0) (by decide)), by show va_P G vwCl _ t.heap ∧ va_D A _; rw [ht]; exact ⟨hP, hD⟩⟩, hS.F ht⟩) hS.2.2 dX8_pulse_32
  · have k0 : ¬ (oR be 1 1000) := fun q9 => c13 (h10.trans (mIn_0.mpr q9))
    refine lv_iload_n hx hb dX8_pulse_16 rfl (lv_at hl 2 rfl) ?_
    refine lv_iconst (v := 0) hx hb dX8_pulse_17 (by decide) ?_
    refine lv_sipush (v := 1000) hx hb dX8_pulse_18 (by decide) ?_
    refine vp_callSi (va_Run.run (va_runS (As := [.int bi, .int (0 : Int32), .int (1000 : Int32)]) (rest := []) ⟨hx, hb, hml, hown, hts⟩ (metX8_in l bi (0 : Int32) (1000 : Int32)) (va_cwS 3 hts gX8_pulse_X8_in rfl rfl rfl (by decide +kernel) ⟨Nat.le_of_ble_eq_true rfl, Nat.le_of_ble_eq_true rfl⟩) ⟨pc0_b, pc0_u⟩ rfl rfl hl.1 rfl (lv_room (Nat.le_of_ble_eq_true rfl)) dX8_pulse_21 ⟨Nat.le_of_ble_eq_true rfl, Nat.le_of_ble_eq_true rfl⟩)) (fun r21 h21 => ?_)
    refine lv_if_ne (tgt := 33) hx hb dX8_pulse_24 (by decide) (fun c24 => ?_) (fun c24 => ?_)
    · have k1 : ¬ (oR bi 0 1000) := fun q9 => c24 (h21.trans (mIn_0.mpr q9))
      refine lv_iload_n hx hb dX8_pulse_33 rfl (lv_at hl 1 rfl) ?_
      refine lv_iconst (v := 5) hx hb dX8_pulse_34 (by decide) ?_
      refine lv_icmp_lt (tgt := 46) hx hb dX8_pulse_35 (by decide) (fun c35 => ?_) (fun c35 => ?_)
      · refine lv_iconst (v := 0) hx hb dX8_pulse_46 (by decide) ?_
        refine lv_goto (tgt := 63) hx hb dX8_pulse_47 (by decide) ?_
        refine lv_istore_n (lv' := [(3, .int (0 : Int32)), (0, .ref am), (1, .int be), (2, .int bi)]) hx hb dX8_pulse_63 rfl hl (by decide) rfl (fun ls hl => ?_)
        refine lv_aload_n hx hb dX8_pulse_64 rfl (lv_at hl 1 rfl) ?_
        refine lv_aload_n hx hb dX8_pulse_65 rfl (lv_at hl 1 rfl) ?_
        refine va_get (D := G) (ci := 9) (v := .int (z 28)) (C := RX8) (T := TX8) (N := 39) hx hb hts hiX8 hown hK hP 12 hm rfl 28 (by decide) (hts (.fieldLink RX8 185 "VortexpinModel" "count" "I") (List.mem_of_getElem? (i := 4) rfl)) (fun _ h9 => h9) rfl dX8_pulse_66 ?_
        refine lv_iload_n hx hb dX8_pulse_69 rfl (lv_at hl 0 rfl) ?_
        refine lv_iadd hx hb dX8_pulse_70 ?_
        refine lv_ldc (v := 65536) hx hb hown (hts (.constant RX8 188 (65536)) (List.mem_of_getElem? (i := 5) rfl)) dX8_pulse_71 ?_
        refine lv_irem hx hb dX8_pulse_73 (by decide) ?_
        refine fold_rem ?_
        refine va_put (D := G) (ci := 9) (v := .int (jrem ((z 28) + (0 : Int32)) (65536 : Int32))) (ty := .int) (C := RX8) (T := TX8) (N := 39) hx hb hts hiX8 tyX8 tyX8_ok nmX8 hown hK hP hD hS 12 hm rfl 28 (by decide) (hts (.fieldLink RX8 185 "VortexpinModel" "count" "I") (List.mem_of_getElem? (i := 4) rfl)) (fun _ h9 => h9) rfl (by decide +kernel) (rfl) (rfl) (Nat.le_of_ble_eq_true rfl) dX8_pulse_74 (fun H locs hP hD hS => ?_)
        have hP : va_P G vwCl (((ws).set 12 (am, .inr (9, mF ad (upd z 0 (0 : Int32)) wi dm))).set 12 (am, .inr (9, mF ad (upd (upd z 0 (0 : Int32)) 28 (jrem ((z 28) + (0 : Int32)) (65536 : Int32))) wi dm))) H := hP
        have hD : va_D A (((ws).set 12 (am, .inr (9, mF ad (upd z 0 (0 : Int32)) wi dm))).set 12 (am, .inr (9, mF ad (upd (upd z 0 (0 : Int32)) 28 (jrem ((z 28) + (0 : Int32)) (65536 : Int32))) wi dm))) := hD
        have hm := va_ge (e := (am, .inr (9, mF ad (upd (upd z 0 (0 : Int32)) 28 (jrem ((z 28) + (0 : Int32)) (65536 : Int32))) wi dm))) hm
        refine lv_aload_n hx hb dX8_pulse_77 rfl (lv_at hl 1 rfl) ?_
        refine va_get (D := G) (ci := 9) (v := .int (jrem ((z 28) + (0 : Int32)) (65536 : Int32))) (C := RX8) (T := TX8) (N := 39) hx hb hts hiX8 hown hK hP 12 hm rfl 28 (by decide) (hts (.fieldLink RX8 185 "VortexpinModel" "count" "I") (List.mem_of_getElem? (i := 4) rfl)) (fun _ h9 => h9) rfl dX8_pulse_78 ?_
        have hcd : cdPulse be bi = 0 := by unfold cdPulse; rw [if_neg k0, if_neg k1]
        have ew : ((ws).set 12 (am, .inr (9, mF ad (upd z 0 (0 : Int32)) wi dm))).set 12 (am, .inr (9, mF ad (upd (upd z 0 (0 : Int32)) 28 (jrem ((z 28) + (0 : Int32)) (65536 : Int32))) wi dm)) = (if cdPulse be bi = 0 then (ws.set 12 (am, .inr (9, mF ad (upd z 0 0) wi dm))).set 12 (am, .inr (9, mF ad (upd (upd z 0 0) 28 (mTake (z 26) (z 27) (z 28) be bi)) wi dm)) else ws.set 12 (am, .inr (9, mF ad (upd z 0 (cdPulse be bi)) wi dm))) := by rw [hcd, if_pos rfl]; unfold mTake; simp only [c35, ↓reduceIte]
        have hP : va_P G vwCl (((ws).set 12 (am, .inr (9, mF ad (upd z 0 (0 : Int32)) wi dm))).set 12 (am, .inr (9, mF ad (upd (upd z 0 (0 : Int32)) 28 (jrem ((z 28) + (0 : Int32)) (65536 : Int32))) wi dm))) H := hP
        have hD : va_D A (((ws).set 12 (am, .inr (9, mF ad (upd z 0 (0 : Int32)) wi dm))).set 12 (am, .inr (9, mF ad (upd (upd z 0 (0 : Int32)) 28 (jrem ((z 28) + (0 : Int32)) (65536 : Int32))) wi dm))) := hD
        rw [ew] at hP hD
        exact W.iret (v := jrem ((z 28) + (0 : Int32)) (65536 : Int32)) hx hb hr (fun t ht hW => ⟨⟨jrem ((z 28) + (0 : Int32)) (65536 : Int32), (), rfl, (fun _ => by unfold mTake; simp only [c35, ↓reduceIte]), by show va_P G vwCl _ t.heap ∧ va_D A _; rw [ht]; exact ⟨hP, hD⟩⟩, hS.F ht⟩) hS.2.2 dX8_pulse_81
      · refine lv_iload_n hx hb dX8_pulse_38 rfl (lv_at hl 2 rfl) ?_
        refine lv_aload_n hx hb dX8_pulse_39 rfl (lv_at hl 0 rfl) ?_
        refine va_get (D := G) (ci := 9) (v := .int (z 26)) (C := RX8) (T := TX8) (N := 39) hx hb hts hiX8 hown hK hP 12 hm rfl 26 (by decide) (hts (.fieldLink RX8 55 "VortexpinModel" "lowerMargin" "I") (List.mem_of_getElem? (i := 2) rfl)) (fun _ h9 => h9) rfl dX8_pulse_40 ?_
        refine lv_icmp_ge (tgt := 50) hx hb dX8_pulse_43 (by decide) (fun c43 => ?_) (fun c43 => ?_)
        · refine lv_iload_n hx hb dX8_pulse_50 rfl (lv_at hl 2 rfl) ?_
          refine lv_aload_n hx hb dX8_pulse_51 rfl (lv_at hl 0 rfl) ?_
          refine va_get (D := G) (ci := 9) (v := .int (z 27)) (C := RX8) (T := TX8) (N := 39) hx hb hts hiX8 hown hK hP 12 hm rfl 27 (by decide) (hts (.fieldLink RX8 59 "VortexpinModel" "upperMargin" "I") (List.mem_of_getElem? (i := 3) rfl)) (fun _ h9 => h9) rfl dX8_pulse_52 ?_
          refine lv_icmp_le (tgt := 62) hx hb dX8_pulse_55 (by decide) (fun c55 => ?_) (fun c55 => ?_)
          · refine lv_iconst (v := 1) hx hb dX8_pulse_62 (by decide) ?_
            refine lv_istore_n (lv' := [(3, .int (1 : Int32)), (0, .ref am), (1, .int be), (2, .int bi)]) hx hb dX8_pulse_63 rfl hl (by decide) rfl (fun ls hl => ?_)
            refine lv_aload_n hx hb dX8_pulse_64 rfl (lv_at hl 1 rfl) ?_
            refine lv_aload_n hx hb dX8_pulse_65 rfl (lv_at hl 1 rfl) ?_
            refine va_get (D := G) (ci := 9) (v := .int (z 28)) (C := RX8) (T := TX8) (N := 39) hx hb hts hiX8 hown hK hP 12 hm rfl 28 (by decide) (hts (.fieldLink RX8 185 "VortexpinModel" "count" "I") (List.mem_of_getElem? (i := 4) rfl)) (fun _ h9 => h9) rfl dX8_pulse_66 ?_
            refine lv_iload_n hx hb dX8_pulse_69 rfl (lv_at hl 0 rfl) ?_
            refine lv_iadd hx hb dX8_pulse_70 ?_
            refine lv_ldc (v := 65536) hx hb hown (hts (.constant RX8 188 (65536)) (List.mem_of_getElem? (i := 5) rfl)) dX8_pulse_71 ?_
            refine lv_irem hx hb dX8_pulse_73 (by decide) ?_
            refine fold_rem ?_
            refine va_put (D := G) (ci := 9) (v := .int (jrem ((z 28) + (1 : Int32)) (65536 : Int32))) (ty := .int) (C := RX8) (T := TX8) (N := 39) hx hb hts hiX8 tyX8 tyX8_ok nmX8 hown hK hP hD hS 12 hm rfl 28 (by decide) (hts (.fieldLink RX8 185 "VortexpinModel" "count" "I") (List.mem_of_getElem? (i := 4) rfl)) (fun _ h9 => h9) rfl (by decide +kernel) (rfl) (rfl) (Nat.le_of_ble_eq_true rfl) dX8_pulse_74 (fun H locs hP hD hS => ?_)
            have hP : va_P G vwCl (((ws).set 12 (am, .inr (9, mF ad (upd z 0 (0 : Int32)) wi dm))).set 12 (am, .inr (9, mF ad (upd (upd z 0 (0 : Int32)) 28 (jrem ((z 28) + (1 : Int32)) (65536 : Int32))) wi dm))) H := hP
            have hD : va_D A (((ws).set 12 (am, .inr (9, mF ad (upd z 0 (0 : Int32)) wi dm))).set 12 (am, .inr (9, mF ad (upd (upd z 0 (0 : Int32)) 28 (jrem ((z 28) + (1 : Int32)) (65536 : Int32))) wi dm))) := hD
            have hm := va_ge (e := (am, .inr (9, mF ad (upd (upd z 0 (0 : Int32)) 28 (jrem ((z 28) + (1 : Int32)) (65536 : Int32))) wi dm))) hm
            refine lv_aload_n hx hb dX8_pulse_77 rfl (lv_at hl 1 rfl) ?_
            refine va_get (D := G) (ci := 9) (v := .int (jrem ((z 28) + (1 : Int32)) (65536 : Int32))) (C := RX8) (T := TX8) (N := 39) hx hb hts hiX8 hown hK hP 12 hm rfl 28 (by decide) (hts (.fieldLink RX8 185 "VortexpinModel" "count" "I") (List.mem_of_getElem? (i := 4) rfl)) (fun _ h9 => h9) rfl dX8_pulse_78 ?_
            have hcd : cdPulse be bi = 0 := by unfold cdPulse; rw [if_neg k0, if_neg k1]
            have ew : ((ws).set 12 (am, .inr (9, mF ad (upd z 0 (0 : Int32)) wi dm))).set 12 (am, .inr (9, mF ad (upd (upd z 0 (0 : Int32)) 28 (jrem ((z 28) + (1 : Int32)) (65536 : Int32))) wi dm)) = (if cdPulse be bi = 0 then (ws.set 12 (am, .inr (9, mF ad (upd z 0 0) wi dm))).set 12 (am, .inr (9, mF ad (upd (upd z 0 0) 28 (mTake (z 26) (z 27) (z 28) be bi)) wi dm)) else ws.set 12 (am, .inr (9, mF ad (upd z 0 (cdPulse be bi)) wi dm))) := by rw [hcd, if_pos rfl]; unfold mTake; simp only [c35, c43, c55, ↓reduceIte]
            have hP : va_P G vwCl (((ws).set 12 (am, .inr (9, mF ad (upd z 0 (0 : Int32)) wi dm))).set 12 (am, .inr (9, mF ad (upd (upd z 0 (0 : Int32)) 28 (jrem ((z 28) + (1 : Int32)) (65536 : Int32))) wi dm))) H := hP
            have hD : va_D A (((ws).set 12 (am, .inr (9, mF ad (upd z 0 (0 : Int32)) wi dm))).set 12 (am, .inr (9, mF ad (upd (upd z 0 (0 : Int32)) 28 (jrem ((z 28) + (1 : Int32)) (65536 : Int32))) wi dm))) := hD
            rw [ew] at hP hD
            exact W.iret (v := jrem ((z 28) + (1 : Int32)) (65536 : Int32)) hx hb hr (fun t ht hW => ⟨⟨jrem ((z 28) + (1 : Int32)) (65536 : Int32), (), rfl, (fun _ => by unfold mTake; simp only [c35, c43, c55, ↓reduceIte]), by show va_P G vwCl _ t.heap ∧ va_D A _; rw [ht]; exact ⟨hP, hD⟩⟩, hS.F ht⟩) hS.2.2 dX8_pulse_81
          · refine lv_iconst (v := 2) hx hb dX8_pulse_58 (by decide) ?_
            refine lv_goto (tgt := 63) hx hb dX8_pulse_59 (by decide) ?_
            refine lv_istore_n (lv' := [(3, .int (2 : Int32)), (0, .ref am), (1, .int be), (2, .int bi)]) hx hb dX8_pulse_63 rfl hl (by decide) rfl (fun ls hl => ?_)
            refine lv_aload_n hx hb dX8_pulse_64 rfl (lv_at hl 1 rfl) ?_
            refine lv_aload_n hx hb dX8_pulse_65 rfl (lv_at hl 1 rfl) ?_
            refine va_get (D := G) (ci := 9) (v := .int (z 28)) (C := RX8) (T := TX8) (N := 39) hx hb hts hiX8 hown hK hP 12 hm rfl 28 (by decide) (hts (.fieldLink RX8 185 "VortexpinModel" "count" "I") (List.mem_of_getElem? (i := 4) rfl)) (fun _ h9 => h9) rfl dX8_pulse_66 ?_
            refine lv_iload_n hx hb dX8_pulse_69 rfl (lv_at hl 0 rfl) ?_
            refine lv_iadd hx hb dX8_pulse_70 ?_
            refine lv_ldc (v := 65536) hx hb hown (hts (.constant RX8 188 (65536)) (List.mem_of_getElem? (i := 5) rfl)) dX8_pulse_71 ?_
            refine lv_irem hx hb dX8_pulse_73 (by decide) ?_
            refine fold_rem ?_
            refine va_put (D := G) (ci := 9) (v := .int (jrem ((z 28) + (2 : Int32)) (65536 : Int32))) (ty := .int) (C := RX8) (T := TX8) (N := 39) hx hb hts hiX8 tyX8 tyX8_ok nmX8 hown hK hP hD hS 12 hm rfl 28 (by decide) (hts (.fieldLink RX8 185 "VortexpinModel" "count" "I") (List.mem_of_getElem? (i := 4) rfl)) (fun _ h9 => h9) rfl (by decide +kernel) (rfl) (rfl) (Nat.le_of_ble_eq_true rfl) dX8_pulse_74 (fun H locs hP hD hS => ?_)
            have hP : va_P G vwCl (((ws).set 12 (am, .inr (9, mF ad (upd z 0 (0 : Int32)) wi dm))).set 12 (am, .inr (9, mF ad (upd (upd z 0 (0 : Int32)) 28 (jrem ((z 28) + (2 : Int32)) (65536 : Int32))) wi dm))) H := hP
            have hD : va_D A (((ws).set 12 (am, .inr (9, mF ad (upd z 0 (0 : Int32)) wi dm))).set 12 (am, .inr (9, mF ad (upd (upd z 0 (0 : Int32)) 28 (jrem ((z 28) + (2 : Int32)) (65536 : Int32))) wi dm))) := hD
            have hm := va_ge (e := (am, .inr (9, mF ad (upd (upd z 0 (0 : Int32)) 28 (jrem ((z 28) + (2 : Int32)) (65536 : Int32))) wi dm))) hm
            refine lv_aload_n hx hb dX8_pulse_77 rfl (lv_at hl 1 rfl) ?_
            refine va_get (D := G) (ci := 9) (v := .int (jrem ((z 28) + (2 : Int32)) (65536 : Int32))) (C := RX8) (T := TX8) (N := 39) hx hb hts hiX8 hown hK hP 12 hm rfl 28 (by decide) (hts (.fieldLink RX8 185 "VortexpinModel" "count" "I") (List.mem_of_getElem? (i := 4) rfl)) (fun _ h9 => h9) rfl dX8_pulse_78 ?_
            have hcd : cdPulse be bi = 0 := by unfold cdPulse; rw [if_neg k0, if_neg k1]
            have ew : ((ws).set 12 (am, .inr (9, mF ad (upd z 0 (0 : Int32)) wi dm))).set 12 (am, .inr (9, mF ad (upd (upd z 0 (0 : Int32)) 28 (jrem ((z 28) + (2 : Int32)) (65536 : Int32))) wi dm)) = (if cdPulse be bi = 0 then (ws.set 12 (am, .inr (9, mF ad (upd z 0 0) wi dm))).set 12 (am, .inr (9, mF ad (upd (upd z 0 0) 28 (mTake (z 26) (z 27) (z 28) be bi)) wi dm)) else ws.set 12 (am, .inr (9, mF ad (upd z 0 (cdPulse be bi)) wi dm))) := by rw [hcd, if_pos rfl]; unfold mTake; simp only [c35, c43, c55, ↓reduceIte]
            have hP : va_P G vwCl (((ws).set 12 (am, .inr (9, mF ad (upd z 0 (0 : Int32)) wi dm))).set 12 (am, .inr (9, mF ad (upd (upd z 0 (0 : Int32)) 28 (jrem ((z 28) + (2 : Int32)) (65536 : Int32))) wi dm))) H := hP
            have hD : va_D A (((ws).set 12 (am, .inr (9, mF ad (upd z 0 (0 : Int32)) wi dm))).set 12 (am, .inr (9, mF ad (upd (upd z 0 (0 : Int32)) 28 (jrem ((z 28) + (2 : Int32)) (65536 : Int32))) wi dm))) := hD
            rw [ew] at hP hD
            exact W.iret (v := jrem ((z 28) + (2 : Int32)) (65536 : Int32)) hx hb hr (fun t ht hW => ⟨⟨jrem ((z 28) + (2 : Int32)) (65536 : Int32), (), rfl, (fun _ => by unfold mTake; simp only [c35, c43, c55, ↓reduceIte]), by show va_P G vwCl _ t.heap ∧ va_D A _; rw [ht]; exact ⟨hP, hD⟩⟩, hS.F ht⟩) hS.2.2 dX8_pulse_81
        · refine lv_iconst (v := 0) hx hb dX8_pulse_46 (by decide) ?_
          refine lv_goto (tgt := 63) hx hb dX8_pulse_47 (by decide) ?_
          refine lv_istore_n (lv' := [(3, .int (0 : Int32)), (0, .ref am), (1, .int be), (2, .int bi)]) hx hb dX8_pulse_63 rfl hl (by decide) rfl (fun ls hl => ?_)
          refine lv_aload_n hx hb dX8_pulse_64 rfl (lv_at hl 1 rfl) ?_
          refine lv_aload_n hx hb dX8_pulse_65 rfl (lv_at hl 1 rfl) ?_
          refine va_get (D := G) (ci := 9) (v := .int (z 28)) (C := RX8) (T := TX8) (N := 39) hx hb hts hiX8 hown hK hP 12 hm rfl 28 (by decide) (hts (.fieldLink RX8 185 "VortexpinModel" "count" "I") (List.mem_of_getElem? (i := 4) rfl)) (fun _ h9 => h9) rfl dX8_pulse_66 ?_
          refine lv_iload_n hx hb dX8_pulse_69 rfl (lv_at hl 0 rfl) ?_
          refine lv_iadd hx hb dX8_pulse_70 ?_
          refine lv_ldc (v := 65536) hx hb hown (hts (.constant RX8 188 (65536)) (List.mem_of_getElem? (i := 5) rfl)) dX8_pulse_71 ?_
          refine lv_irem hx hb dX8_pulse_73 (by decide) ?_
          refine fold_rem ?_
          refine va_put (D := G) (ci := 9) (v := .int (jrem ((z 28) + (0 : Int32)) (65536 : Int32))) (ty := .int) (C := RX8) (T := TX8) (N := 39) hx hb hts hiX8 tyX8 tyX8_ok nmX8 hown hK hP hD hS 12 hm rfl 28 (by decide) (hts (.fieldLink RX8 185 "VortexpinModel" "count" "I") (List.mem_of_getElem? (i := 4) rfl)) (fun _ h9 => h9) rfl (by decide +kernel) (rfl) (rfl) (Nat.le_of_ble_eq_true rfl) dX8_pulse_74 (fun H locs hP hD hS => ?_)
          have hP : va_P G vwCl (((ws).set 12 (am, .inr (9, mF ad (upd z 0 (0 : Int32)) wi dm))).set 12 (am, .inr (9, mF ad (upd (upd z 0 (0 : Int32)) 28 (jrem ((z 28) + (0 : Int32)) (65536 : Int32))) wi dm))) H := hP
          have hD : va_D A (((ws).set 12 (am, .inr (9, mF ad (upd z 0 (0 : Int32)) wi dm))).set 12 (am, .inr (9, mF ad (upd (upd z 0 (0 : Int32)) 28 (jrem ((z 28) + (0 : Int32)) (65536 : Int32))) wi dm))) := hD
          have hm := va_ge (e := (am, .inr (9, mF ad (upd (upd z 0 (0 : Int32)) 28 (jrem ((z 28) + (0 : Int32)) (65536 : Int32))) wi dm))) hm
          refine lv_aload_n hx hb dX8_pulse_77 rfl (lv_at hl 1 rfl) ?_
          refine va_get (D := G) (ci := 9) (v := .int (jrem ((z 28) + (0 : Int32)) (65536 : Int32))) (C := RX8) (T := TX8) (N := 39) hx hb hts hiX8 hown hK hP 12 hm rfl 28 (by decide) (hts (.fieldLink RX8 185 "VortexpinModel" "count" "I") (List.mem_of_getElem? (i := 4) rfl)) (fun _ h9 => h9) rfl dX8_pulse_78 ?_
          have hcd : cdPulse be bi = 0 := by unfold cdPulse; rw [if_neg k0, if_neg k1]
          have ew : ((ws).set 12 (am, .inr (9, mF ad (upd z 0 (0 : Int32)) wi dm))).set 12 (am, .inr (9, mF ad (upd (upd z 0 (0 : Int32)) 28 (jrem ((z 28) + (0 : Int32)) (65536 : Int32))) wi dm)) = (if cdPulse be bi = 0 then (ws.set 12 (am, .inr (9, mF ad (upd z 0 0) wi dm))).set 12 (am, .inr (9, mF ad (upd (upd z 0 0) 28 (mTake (z 26) (z 27) (z 28) be bi)) wi dm)) else ws.set 12 (am, .inr (9, mF ad (upd z 0 (cdPulse be bi)) wi dm))) := by rw [hcd, if_pos rfl]; unfold mTake; simp only [c35, c43, ↓reduceIte]
          have hP : va_P G vwCl (((ws).set 12 (am, .inr (9, mF ad (upd z 0 (0 : Int32)) wi dm))).set 12 (am, .inr (9, mF ad (upd (upd z 0 (0 : Int32)) 28 (jrem ((z 28) + (0 : Int32)) (65536 : Int32))) wi dm))) H := hP
          have hD : va_D A (((ws).set 12 (am, .inr (9, mF ad (upd z 0 (0 : Int32)) wi dm))).set 12 (am, .inr (9, mF ad (upd (upd z 0 (0 : Int32)) 28 (jrem ((z 28) + (0 : Int32)) (65536 : Int32))) wi dm))) := hD
          rw [ew] at hP hD
          exact W.iret (v := jrem ((z 28) + (0 : Int32)) (65536 : Int32)) hx hb hr (fun t ht hW => ⟨⟨jrem ((z 28) + (0 : Int32)) (65536 : Int32), (), rfl, (fun _ => by unfold mTake; simp only [c35, c43, ↓reduceIte]), by show va_P G vwCl _ t.heap ∧ va_D A _; rw [ht]; exact ⟨hP, hD⟩⟩, hS.F ht⟩) hS.2.2 dX8_pulse_81
    · have hbd : oR bi 0 1000 := mIn_0.mp (h21.symm.trans c24)
      skip
      refine lv_aload_n hx hb dX8_pulse_27 rfl (lv_at hl 0 rfl) ?_
      refine lv_iconst (v := 1) hx hb dX8_pulse_28 (by decide) ?_
      refine va_calli (va_runV (As := [.int (1 : Int32)]) (rest := []) ⟨hx, hb, hml, hown, hts⟩ (metX8_stop l G tys _ hm (1 : Int32)) (cwV 1 hts gX8_pulse_X8_stop rfl rfl rfl (by decide +kernel) ⟨Nat.le_of_ble_eq_true rfl, Nat.le_of_ble_eq_true rfl⟩) ⟨pcM_b, va_recv hK hP (ci := 9) (q0 := 12) rfl hm, pcM_u hP hK hD hS hA⟩ rfl rfl hl.1 rfl (lv_room (Nat.le_of_ble_eq_true rfl)) dX8_pulse_29 ⟨Nat.le_of_ble_eq_true rfl, Nat.le_of_ble_eq_true rfl⟩) hS (fun q _ h => h) (fun q h => h) (fun r29 u t H locs ht hvm h29 hB hsz hk1 hS => ?_)
      rw [ht] at hB
      have hB := hB.1
      have hD := hD.set (e := .inr (9, mF ad (upd (upd z 0 (0 : Int32)) 0 (1 : Int32)) wi dm)) hm
      have hm := va_ge (e := (am, .inr (9, mF ad (upd (upd z 0 (0 : Int32)) 0 (1 : Int32)) wi dm))) hm
      have hP : va_P G vwCl (((ws).set 12 (am, .inr (9, mF ad (upd z 0 (0 : Int32)) wi dm))).set 12 (am, .inr (9, mF ad (upd (upd z 0 (0 : Int32)) 0 (1 : Int32)) wi dm))) H := hB
      have hD : va_D A (((ws).set 12 (am, .inr (9, mF ad (upd z 0 (0 : Int32)) wi dm))).set 12 (am, .inr (9, mF ad (upd (upd z 0 (0 : Int32)) 0 (1 : Int32)) wi dm))) := hD
      have hcd : cdPulse be bi = 1 := by unfold cdPulse; rw [if_neg k0, if_pos hbd]
      have ew : ((ws).set 12 (am, .inr (9, mF ad (upd z 0 (0 : Int32)) wi dm))).set 12 (am, .inr (9, mF ad (upd (upd z 0 (0 : Int32)) 0 (1 : Int32)) wi dm)) = (if cdPulse be bi = 0 then (ws.set 12 (am, .inr (9, mF ad (upd z 0 0) wi dm))).set 12 (am, .inr (9, mF ad (upd (upd z 0 0) 28 (mTake (z 26) (z 27) (z 28) be bi)) wi dm)) else ws.set 12 (am, .inr (9, mF ad (upd z 0 (cdPulse be bi)) wi dm))) := by rw [hcd, if_neg (by decide), List.set_set, upd_upd]
      have hP : va_P G vwCl (((ws).set 12 (am, .inr (9, mF ad (upd z 0 (0 : Int32)) wi dm))).set 12 (am, .inr (9, mF ad (upd (upd z 0 (0 : Int32)) 0 (1 : Int32)) wi dm))) H := hP
      have hD : va_D A (((ws).set 12 (am, .inr (9, mF ad (upd z 0 (0 : Int32)) wi dm))).set 12 (am, .inr (9, mF ad (upd (upd z 0 (0 : Int32)) 0 (1 : Int32)) wi dm))) := hD
      rw [ew] at hP hD
      exact W.iret (v := r29) hx hb hr (fun t ht hW => ⟨⟨r29, (), rfl, (fun h0 => absurd (hcd.symm.trans h0) (by decide)), by show va_P G vwCl _ t.heap ∧ va_D A _; rw [ht]; exact ⟨hP, hD⟩⟩, hS.F ht⟩) hS.2.2 dX8_pulse_32
set_option maxHeartbeats 1000000 in
set_option maxRecDepth 100000 in
theorem metX8_bit (l : Launch) (G : va_G) (tys : List (ClassId × FieldType)) {cI : ClassId} (htI : tI tys cI) {A : Nat → Prop} (ws : va_W) {am : Nat} {ad : Nat → Nat} {z : Nat → Int32} {wi dm : Int64} {F : Nat → Nat → Int32} (hm : ws[12]? = some (am, .inr (9, mF ad z wi dm))) (x : Int32) : Met l yX8_bit wsX8_bit ({ frames := 1, cells := 0, slots := 0, locals := 22 }) (pcM G tys ws A [.ref am, .int x]) (va_Qi (fun (r : Int32) (_ : Unit) => cdOne x 16 = 0 → r = (z 28 >>> (x &&& 31)) &&& 1) (fun _ t => va_P G vwCl (if cdOne x 16 = 0 then (ws).set 12 (am, .inr (9, mF ad (upd z 0 (0 : Int32)) wi dm)) else ws.set 12 (am, .inr (9, mF ad (upd z 0 (cdOne x 16)) wi dm))) t.heap ∧ va_D A (if cdOne x 16 = 0 then (ws).set 12 (am, .inr (9, mF ad (upd z 0 (0 : Int32)) wi dm)) else ws.set 12 (am, .inr (9, mF ad (upd z 0 (cdOne x 16)) wi dm)))) A) 0 0 A := by
  refine ofM (cc := cX8_bit) (maxL := 2) (ret := some .int) (by decide) rfl (Nat.le_of_ble_eq_true rfl) ?_
  intro p e s m below meth c ls hx hb hr hlocks hml hown hts hin hl hP hK hD hA hS
  have hown : s.vm.findClass RX8 = some m.cls := hown
  have hiX8 : ∀ w ∈ u_ws RX8 TX8 39, w ∈ wsX8_bit := fun _ h => List.mem_cons_of_mem _ (List.mem_append_right _ h)
  have hl : lv_has ls 2 [(0, .ref am), (1, .int x)] := hl
  refine lv_aload_n hx hb dX8_bit_0 rfl (lv_at hl 0 rfl) ?_
  refine lv_iconst (v := 0) hx hb dX8_bit_1 (by decide) ?_
  refine va_put (D := G) (ci := 9) (v := .int (0 : Int32)) (ty := .int) (C := RX8) (T := TX8) (N := 39) hx hb hts hiX8 tyX8 tyX8_ok nmX8 hown hK hP hD hS 12 hm rfl 0 (by decide) (hts (.fieldLink RX8 86 "VortexpinModel" "thrown" "I") (List.mem_of_getElem? (i := 1) rfl)) (fun _ h9 => h9) rfl (by decide +kernel) (rfl) (rfl) (Nat.le_of_ble_eq_true rfl) dX8_bit_2 (fun H locs hP hD hS => ?_)
  have hP : va_P G vwCl ((ws).set 12 (am, .inr (9, mF ad (upd z 0 (0 : Int32)) wi dm))) H := hP
  have hD : va_D A ((ws).set 12 (am, .inr (9, mF ad (upd z 0 (0 : Int32)) wi dm))) := hD
  have hm := va_ge (e := (am, .inr (9, mF ad (upd z 0 (0 : Int32)) wi dm))) hm
  refine lv_iload_n hx hb dX8_bit_5 rfl (lv_at hl 1 rfl) ?_
  refine lv_iconst (v := 0) hx hb dX8_bit_6 (by decide) ?_
  refine lv_bipush (v := 15) hx hb dX8_bit_7 (by decide) ?_
  refine vp_callSi (va_Run.run (va_runS (As := [.int x, .int (0 : Int32), .int (15 : Int32)]) (rest := []) ⟨hx, hb, hml, hown, hts⟩ (metX8_in l x (0 : Int32) (15 : Int32)) (va_cwS 3 hts gX8_bit_X8_in rfl rfl rfl (by decide +kernel) ⟨Nat.le_of_ble_eq_true rfl, Nat.le_of_ble_eq_true rfl⟩) ⟨pc0_b, pc0_u⟩ rfl rfl hl.1 rfl (lv_room (Nat.le_of_ble_eq_true rfl)) dX8_bit_9 ⟨Nat.le_of_ble_eq_true rfl, Nat.le_of_ble_eq_true rfl⟩)) (fun r9 h9 => ?_)
  refine lv_if_eq (tgt := 26) hx hb dX8_bit_12 (by decide) (fun c12 => ?_) (fun c12 => ?_)
  · have hbd : uK x 16 := (oR_uK (k := 16) (by decide : (15 : Int32) = nI 16 - 1) (by decide)).mp (mIn_0.mp (h9.symm.trans c12))
    skip
    refine lv_aload_n hx hb dX8_bit_26 rfl (lv_at hl 0 rfl) ?_
    refine lv_iconst (v := 1) hx hb dX8_bit_27 (by decide) ?_
    refine va_calli (va_runV (As := [.int (1 : Int32)]) (rest := []) ⟨hx, hb, hml, hown, hts⟩ (metX8_stop l G tys _ hm (1 : Int32)) (cwV 1 hts gX8_bit_X8_stop rfl rfl rfl (by decide +kernel) ⟨Nat.le_of_ble_eq_true rfl, Nat.le_of_ble_eq_true rfl⟩) ⟨pcM_b, va_recv hK hP (ci := 9) (q0 := 12) rfl hm, pcM_u hP hK hD hS hA⟩ rfl rfl hl.1 rfl (lv_room (Nat.le_of_ble_eq_true rfl)) dX8_bit_28 ⟨Nat.le_of_ble_eq_true rfl, Nat.le_of_ble_eq_true rfl⟩) hS (fun q _ h => h) (fun q h => h) (fun r28 u t H locs ht hvm h28 hB hsz hk1 hS => ?_)
    rw [ht] at hB
    have hB := hB.1
    have hD := hD.set (e := .inr (9, mF ad (upd (upd z 0 (0 : Int32)) 0 (1 : Int32)) wi dm)) hm
    have hm := va_ge (e := (am, .inr (9, mF ad (upd (upd z 0 (0 : Int32)) 0 (1 : Int32)) wi dm))) hm
    have hP : va_P G vwCl (((ws).set 12 (am, .inr (9, mF ad (upd z 0 (0 : Int32)) wi dm))).set 12 (am, .inr (9, mF ad (upd (upd z 0 (0 : Int32)) 0 (1 : Int32)) wi dm))) H := hB
    have hD : va_D A (((ws).set 12 (am, .inr (9, mF ad (upd z 0 (0 : Int32)) wi dm))).set 12 (am, .inr (9, mF ad (upd (upd z 0 (0 : Int32)) 0 (1 : Int32)) wi dm))) := hD
    have hcd : cdOne x 16 = 1 := by unfold cdOne; rw [if_pos hbd]
    have ew : ((ws).set 12 (am, .inr (9, mF ad (upd z 0 (0 : Int32)) wi dm))).set 12 (am, .inr (9, mF ad (upd (upd z 0 (0 : Int32)) 0 (1 : Int32)) wi dm)) = (if cdOne x 16 = 0 then (ws).set 12 (am, .inr (9, mF ad (upd z 0 (0 : Int32)) wi dm)) else ws.set 12 (am, .inr (9, mF ad (upd z 0 (cdOne x 16)) wi dm))) := by rw [hcd, if_neg (by decide), List.set_set, upd_upd]
    have hP : va_P G vwCl (((ws).set 12 (am, .inr (9, mF ad (upd z 0 (0 : Int32)) wi dm))).set 12 (am, .inr (9, mF ad (upd (upd z 0 (0 : Int32)) 0 (1 : Int32)) wi dm))) H := hP
    have hD : va_D A (((ws).set 12 (am, .inr (9, mF ad (upd z 0 (0 : Int32)) wi dm))).set 12 (am, .inr (9, mF ad (upd (upd z 0 (0 : Int32)) 0 (1 : Int32)) wi dm))) := hD
    rw [ew] at hP hD
    exact W.iret (v := r28) hx hb hr (fun t ht hW => ⟨⟨r28, (), rfl, (fun h0 => absurd (hcd.symm.trans h0) (by decide)), by show va_P G vwCl _ t.heap ∧ va_D A _; rw [ht]; exact ⟨hP, hD⟩⟩, hS.F ht⟩) hS.2.2 dX8_bit_31
  · have k0 : ¬ (uK x 16) := fun q9 => c12 (h9.trans (mIn_0.mpr ((oR_uK (k := 16) (by decide : (15 : Int32) = nI 16 - 1) (by decide)).mpr q9)))
    refine lv_aload_n hx hb dX8_bit_15 rfl (lv_at hl 0 rfl) ?_
    refine va_get (D := G) (ci := 9) (v := .int (z 28)) (C := RX8) (T := TX8) (N := 39) hx hb hts hiX8 hown hK hP 12 hm rfl 28 (by decide) (hts (.fieldLink RX8 185 "VortexpinModel" "count" "I") (List.mem_of_getElem? (i := 2) rfl)) (fun _ h9 => h9) rfl dX8_bit_16 ?_
    refine lv_iload_n hx hb dX8_bit_19 rfl (lv_at hl 1 rfl) ?_
    refine lv_ishr hx hb dX8_bit_20 ?_
    refine lv_iconst (v := 1) hx hb dX8_bit_21 (by decide) ?_
    refine lv_iand hx hb dX8_bit_22 ?_
    refine lv_goto (tgt := 31) hx hb dX8_bit_23 (by decide) ?_
    have hcd : cdOne x 16 = 0 := by unfold cdOne; rw [if_neg k0]
    have ew : (ws).set 12 (am, .inr (9, mF ad (upd z 0 (0 : Int32)) wi dm)) = (if cdOne x 16 = 0 then (ws).set 12 (am, .inr (9, mF ad (upd z 0 (0 : Int32)) wi dm)) else ws.set 12 (am, .inr (9, mF ad (upd z 0 (cdOne x 16)) wi dm))) := by rw [hcd, if_pos rfl]
    have hP : va_P G vwCl ((ws).set 12 (am, .inr (9, mF ad (upd z 0 (0 : Int32)) wi dm))) H := hP
    have hD : va_D A ((ws).set 12 (am, .inr (9, mF ad (upd z 0 (0 : Int32)) wi dm))) := hD
    rw [ew] at hP hD
    exact W.iret (v := ((z 28) >>> (x &&& 31)) &&& (1 : Int32)) hx hb hr (fun t ht hW => ⟨⟨((z 28) >>> (x &&& 31)) &&& (1 : Int32), (), rfl, (fun _ => rfl), by show va_P G vwCl _ t.heap ∧ va_D A _; rw [ht]; exact ⟨hP, hD⟩⟩, hS.F ht⟩) hS.2.2 dX8_bit_31
set_option maxHeartbeats 1000000 in
set_option maxRecDepth 100000 in
theorem metX8_ring (l : Launch) (G : va_G) (tys : List (ClassId × FieldType)) {cI : ClassId} (htI : tI tys cI) {A : Nat → Prop} (ws : va_W) {am : Nat} {ad : Nat → Nat} {z : Nat → Int32} {wi dm : Int64} {F : Nat → Nat → Int32} (hm : ws[12]? = some (am, .inr (9, mF ad z wi dm))) (hA21 : ws[21]? = some (ad 21, .inl (cI, 6, .inl (F 21)))) (hA22 : ws[22]? = some (ad 22, .inl (cI, 6, .inl (F 22)))) {nR : Nat} (hz13 : z 13 = nI nR) (h60nR : nR ≤ 6) (x y : Int32) : Met l yX8_ring wsX8_ring ({ frames := 1, cells := 0, slots := 0, locals := 22 }) (pcM G tys ws A [.ref am, .int x, .int y]) (va_Qi (fun (r : Int32) (_ : Unit) => cdRing x y (nI nR) = 0 → r = z 13) (fun _ t => va_P G vwCl (if cdRing x y (nI nR) = 0 then ((((ws).set 12 (am, .inr (9, mF ad (upd z 0 (0 : Int32)) wi dm))).set 21 (ad 21, .inl (cI, 6, .inl (upd (F 21) (z 13).toNatClampNeg x)))).set 22 (ad 22, .inl (cI, 6, .inl (upd (F 22) (z 13).toNatClampNeg y)))).set 12 (am, .inr (9, mF ad (upd (upd z 0 (0 : Int32)) 13 ((z 13) + (1 : Int32))) wi dm)) else ws.set 12 (am, .inr (9, mF ad (upd z 0 (cdRing x y (nI nR))) wi dm))) t.heap ∧ va_D A (if cdRing x y (nI nR) = 0 then ((((ws).set 12 (am, .inr (9, mF ad (upd z 0 (0 : Int32)) wi dm))).set 21 (ad 21, .inl (cI, 6, .inl (upd (F 21) (z 13).toNatClampNeg x)))).set 22 (ad 22, .inl (cI, 6, .inl (upd (F 22) (z 13).toNatClampNeg y)))).set 12 (am, .inr (9, mF ad (upd (upd z 0 (0 : Int32)) 13 ((z 13) + (1 : Int32))) wi dm)) else ws.set 12 (am, .inr (9, mF ad (upd z 0 (cdRing x y (nI nR))) wi dm)))) A) 0 0 A := by
  refine ofM (cc := cX8_ring) (maxL := 3) (ret := some .int) (by decide) rfl (Nat.le_of_ble_eq_true rfl) ?_
  intro p e s m below meth c ls hx hb hr hlocks hml hown hts hin hl hP hK hD hA hS
  have hown : s.vm.findClass RX8 = some m.cls := hown
  have hiX8 : ∀ w ∈ u_ws RX8 TX8 39, w ∈ wsX8_ring := fun _ h => List.mem_cons_of_mem _ (List.mem_append_right _ h)
  have hl : lv_has ls 3 [(0, .ref am), (1, .int x), (2, .int y)] := hl
  refine lv_aload_n hx hb dX8_ring_0 rfl (lv_at hl 0 rfl) ?_
  refine lv_iconst (v := 0) hx hb dX8_ring_1 (by decide) ?_
  refine va_put (D := G) (ci := 9) (v := .int (0 : Int32)) (ty := .int) (C := RX8) (T := TX8) (N := 39) hx hb hts hiX8 tyX8 tyX8_ok nmX8 hown hK hP hD hS 12 hm rfl 0 (by decide) (hts (.fieldLink RX8 86 "VortexpinModel" "thrown" "I") (List.mem_of_getElem? (i := 1) rfl)) (fun _ h9 => h9) rfl (by decide +kernel) (rfl) (rfl) (Nat.le_of_ble_eq_true rfl) dX8_ring_2 (fun H locs hP hD hS => ?_)
  have hP : va_P G vwCl ((ws).set 12 (am, .inr (9, mF ad (upd z 0 (0 : Int32)) wi dm))) H := hP
  have hD : va_D A ((ws).set 12 (am, .inr (9, mF ad (upd z 0 (0 : Int32)) wi dm))) := hD
  have hA21 := va_gs (k := 12) (e := (am, .inr (9, mF ad (upd z 0 (0 : Int32)) wi dm))) (by decide) hA21
  have hA22 := va_gs (k := 12) (e := (am, .inr (9, mF ad (upd z 0 (0 : Int32)) wi dm))) (by decide) hA22
  have hm := va_ge (e := (am, .inr (9, mF ad (upd z 0 (0 : Int32)) wi dm))) hm
  refine lv_iload_n hx hb dX8_ring_5 rfl (lv_at hl 1 rfl) ?_
  refine lv_iconst (v := 1) hx hb dX8_ring_6 (by decide) ?_
  refine lv_bipush (v := 100) hx hb dX8_ring_7 (by decide) ?_
  refine vp_callSi (va_Run.run (va_runS (As := [.int x, .int (1 : Int32), .int (100 : Int32)]) (rest := []) ⟨hx, hb, hml, hown, hts⟩ (metX8_in l x (1 : Int32) (100 : Int32)) (va_cwS 3 hts gX8_ring_X8_in rfl rfl rfl (by decide +kernel) ⟨Nat.le_of_ble_eq_true rfl, Nat.le_of_ble_eq_true rfl⟩) ⟨pc0_b, pc0_u⟩ rfl rfl hl.1 rfl (lv_room (Nat.le_of_ble_eq_true rfl)) dX8_ring_9 ⟨Nat.le_of_ble_eq_true rfl, Nat.le_of_ble_eq_true rfl⟩)) (fun r9 h9 => ?_)
  refine lv_if_eq (tgt := 27) hx hb dX8_ring_12 (by decide) (fun c12 => ?_) (fun c12 => ?_)
  · have hbd : oR x 1 100 := mIn_0.mp (h9.symm.trans c12)
    skip
    refine lv_aload_n hx hb dX8_ring_27 rfl (lv_at hl 0 rfl) ?_
    refine lv_iconst (v := 1) hx hb dX8_ring_28 (by decide) ?_
    refine va_calli (va_runV (As := [.int (1 : Int32)]) (rest := []) ⟨hx, hb, hml, hown, hts⟩ (metX8_stop l G tys _ hm (1 : Int32)) (cwV 1 hts gX8_ring_X8_stop rfl rfl rfl (by decide +kernel) ⟨Nat.le_of_ble_eq_true rfl, Nat.le_of_ble_eq_true rfl⟩) ⟨pcM_b, va_recv hK hP (ci := 9) (q0 := 12) rfl hm, pcM_u hP hK hD hS hA⟩ rfl rfl hl.1 rfl (lv_room (Nat.le_of_ble_eq_true rfl)) dX8_ring_29 ⟨Nat.le_of_ble_eq_true rfl, Nat.le_of_ble_eq_true rfl⟩) hS (fun q _ h => h) (fun q h => h) (fun r29 u t H locs ht hvm h29 hB hsz hk1 hS => ?_)
    rw [ht] at hB
    have hB := hB.1
    have hD := hD.set (e := .inr (9, mF ad (upd (upd z 0 (0 : Int32)) 0 (1 : Int32)) wi dm)) hm
    have hA21 := va_gs (k := 12) (e := (am, .inr (9, mF ad (upd (upd z 0 (0 : Int32)) 0 (1 : Int32)) wi dm))) (by decide) hA21
    have hA22 := va_gs (k := 12) (e := (am, .inr (9, mF ad (upd (upd z 0 (0 : Int32)) 0 (1 : Int32)) wi dm))) (by decide) hA22
    have hm := va_ge (e := (am, .inr (9, mF ad (upd (upd z 0 (0 : Int32)) 0 (1 : Int32)) wi dm))) hm
    have hP : va_P G vwCl (((ws).set 12 (am, .inr (9, mF ad (upd z 0 (0 : Int32)) wi dm))).set 12 (am, .inr (9, mF ad (upd (upd z 0 (0 : Int32)) 0 (1 : Int32)) wi dm))) H := hB
    have hD : va_D A (((ws).set 12 (am, .inr (9, mF ad (upd z 0 (0 : Int32)) wi dm))).set 12 (am, .inr (9, mF ad (upd (upd z 0 (0 : Int32)) 0 (1 : Int32)) wi dm))) := hD
    have hcd : cdRing x y (nI nR) = 1 := by unfold cdRing; rw [if_pos hbd]
    have ew : ((ws).set 12 (am, .inr (9, mF ad (upd z 0 (0 : Int32)) wi dm))).set 12 (am, .inr (9, mF ad (upd (upd z 0 (0 : Int32)) 0 (1 : Int32)) wi dm)) = (if cdRing x y (nI nR) = 0 then ((((ws).set 12 (am, .inr (9, mF ad (upd z 0 (0 : Int32)) wi dm))).set 21 (ad 21, .inl (cI, 6, .inl (upd (F 21) (z 13).toNatClampNeg x)))).set 22 (ad 22, .inl (cI, 6, .inl (upd (F 22) (z 13).toNatClampNeg y)))).set 12 (am, .inr (9, mF ad (upd (upd z 0 (0 : Int32)) 13 ((z 13) + (1 : Int32))) wi dm)) else ws.set 12 (am, .inr (9, mF ad (upd z 0 (cdRing x y (nI nR))) wi dm))) := by rw [hcd, if_neg (by decide), List.set_set, upd_upd]
    have hP : va_P G vwCl (((ws).set 12 (am, .inr (9, mF ad (upd z 0 (0 : Int32)) wi dm))).set 12 (am, .inr (9, mF ad (upd (upd z 0 (0 : Int32)) 0 (1 : Int32)) wi dm))) H := hP
    have hD : va_D A (((ws).set 12 (am, .inr (9, mF ad (upd z 0 (0 : Int32)) wi dm))).set 12 (am, .inr (9, mF ad (upd (upd z 0 (0 : Int32)) 0 (1 : Int32)) wi dm))) := hD
    rw [ew] at hP hD
    exact W.iret (v := r29) hx hb hr (fun t ht hW => ⟨⟨r29, (), rfl, (fun h0 => absurd (hcd.symm.trans h0) (by decide)), by show va_P G vwCl _ t.heap ∧ va_D A _; rw [ht]; exact ⟨hP, hD⟩⟩, hS.F ht⟩) hS.2.2 dX8_ring_32
  · have k0 : ¬ (oR x 1 100) := fun q9 => c12 (h9.trans (mIn_0.mpr q9))
    refine lv_iload_n hx hb dX8_ring_15 rfl (lv_at hl 2 rfl) ?_
    refine lv_bipush (v := 50) hx hb dX8_ring_16 (by decide) ?_
    refine lv_sipush (v := 1000) hx hb dX8_ring_18 (by decide) ?_
    refine vp_callSi (va_Run.run (va_runS (As := [.int y, .int (50 : Int32), .int (1000 : Int32)]) (rest := []) ⟨hx, hb, hml, hown, hts⟩ (metX8_in l y (50 : Int32) (1000 : Int32)) (va_cwS 3 hts gX8_ring_X8_in rfl rfl rfl (by decide +kernel) ⟨Nat.le_of_ble_eq_true rfl, Nat.le_of_ble_eq_true rfl⟩) ⟨pc0_b, pc0_u⟩ rfl rfl hl.1 rfl (lv_room (Nat.le_of_ble_eq_true rfl)) dX8_ring_21 ⟨Nat.le_of_ble_eq_true rfl, Nat.le_of_ble_eq_true rfl⟩)) (fun r21 h21 => ?_)
    refine lv_if_ne (tgt := 33) hx hb dX8_ring_24 (by decide) (fun c24 => ?_) (fun c24 => ?_)
    · have k1 : ¬ (oR y 50 1000) := fun q9 => c24 (h21.trans (mIn_0.mpr q9))
      refine lv_aload_n hx hb dX8_ring_33 rfl (lv_at hl 0 rfl) ?_
      refine va_get (D := G) (ci := 9) (v := .int (z 13)) (C := RX8) (T := TX8) (N := 39) hx hb hts hiX8 hown hK hP 12 hm rfl 13 (by decide) (hts (.fieldLink RX8 139 "VortexpinModel" "rings" "I") (List.mem_of_getElem? (i := 2) rfl)) (fun _ h9 => h9) rfl dX8_ring_34 ?_
      refine lv_bipush (v := 6) hx hb dX8_ring_37 (by decide) ?_
      refine lv_icmp_ne (tgt := 48) hx hb dX8_ring_39 (by decide) (fun c39 => ?_) (fun c39 => ?_)
      · have k2 : ¬ (6 : Int32) ≤ nI nR := fun q9 => c39 (by rw [hz13]; exact (full_n h60nR (by decide)).mpr q9)
        refine lv_aload_n hx hb dX8_ring_48 rfl (lv_at hl 0 rfl) ?_
        refine va_get (D := G) (ci := 9) (v := .ref (ad 21)) (C := RX8) (T := TX8) (N := 39) hx hb hts hiX8 hown hK hP 12 hm rfl 14 (by decide) (hts (.fieldLink RX8 34 "VortexpinModel" "inductance" "[I") (List.mem_of_getElem? (i := 3) rfl)) (fun _ h9 => h9) rfl dX8_ring_49 ?_
        refine lv_aload_n hx hb dX8_ring_52 rfl (lv_at hl 0 rfl) ?_
        refine va_get (D := G) (ci := 9) (v := .int (z 13)) (C := RX8) (T := TX8) (N := 39) hx hb hts hiX8 hown hK hP 12 hm rfl 13 (by decide) (hts (.fieldLink RX8 139 "VortexpinModel" "rings" "I") (List.mem_of_getElem? (i := 2) rfl)) (fun _ h9 => h9) rfl dX8_ring_53 ?_
        refine lv_iload_n hx hb dX8_ring_56 rfl (lv_at hl 1 rfl) ?_
        refine va_iast hx hb hK hP hD hS 21 0 hA21 htI (by rw [hz13]; exact n_in h60nR (by decide) k2) dX8_ring_57 (fun H locs hP hD hS => ?_)
        have hm := va_gs (k := 21) (e := (ad 21, .inl (cI, 6, .inl (upd (F 21) (z 13).toNatClampNeg x)))) (by decide) hm
        have hA22 := va_gs (k := 21) (e := (ad 21, .inl (cI, 6, .inl (upd (F 21) (z 13).toNatClampNeg x)))) (by decide) hA22
        have hA21 := va_ge (e := (ad 21, .inl (cI, 6, .inl (upd (F 21) (z 13).toNatClampNeg x)))) hA21
        refine lv_aload_n hx hb dX8_ring_58 rfl (lv_at hl 0 rfl) ?_
        refine va_get (D := G) (ci := 9) (v := .ref (ad 22)) (C := RX8) (T := TX8) (N := 39) hx hb hts hiX8 hown hK hP 12 hm rfl 15 (by decide) (hts (.fieldLink RX8 37 "VortexpinModel" "ringCritical" "[I") (List.mem_of_getElem? (i := 4) rfl)) (fun _ h9 => h9) rfl dX8_ring_59 ?_
        refine lv_aload_n hx hb dX8_ring_62 rfl (lv_at hl 0 rfl) ?_
        refine va_get (D := G) (ci := 9) (v := .int (z 13)) (C := RX8) (T := TX8) (N := 39) hx hb hts hiX8 hown hK hP 12 hm rfl 13 (by decide) (hts (.fieldLink RX8 139 "VortexpinModel" "rings" "I") (List.mem_of_getElem? (i := 2) rfl)) (fun _ h9 => h9) rfl dX8_ring_63 ?_
        refine lv_iload_n hx hb dX8_ring_66 rfl (lv_at hl 2 rfl) ?_
        refine va_iast hx hb hK hP hD hS 22 0 hA22 htI (by rw [hz13]; exact n_in h60nR (by decide) k2) dX8_ring_67 (fun H locs hP hD hS => ?_)
        have hm := va_gs (k := 22) (e := (ad 22, .inl (cI, 6, .inl (upd (F 22) (z 13).toNatClampNeg y)))) (by decide) hm
        have hA21 := va_gs (k := 22) (e := (ad 22, .inl (cI, 6, .inl (upd (F 22) (z 13).toNatClampNeg y)))) (by decide) hA21
        have hA22 := va_ge (e := (ad 22, .inl (cI, 6, .inl (upd (F 22) (z 13).toNatClampNeg y)))) hA22
        refine lv_aload_n hx hb dX8_ring_68 rfl (lv_at hl 0 rfl) ?_
        refine lv_dup hx hb dX8_ring_69 rfl ?_
        refine va_get (D := G) (ci := 9) (v := .int (z 13)) (C := RX8) (T := TX8) (N := 39) hx hb hts hiX8 hown hK hP 12 hm rfl 13 (by decide) (hts (.fieldLink RX8 139 "VortexpinModel" "rings" "I") (List.mem_of_getElem? (i := 2) rfl)) (fun _ h9 => h9) rfl dX8_ring_70 ?_
        refine lv_iconst (v := 1) hx hb dX8_ring_73 (by decide) ?_
        refine lv_iadd hx hb dX8_ring_74 ?_
        refine va_put (D := G) (ci := 9) (v := .int ((z 13) + (1 : Int32))) (ty := .int) (C := RX8) (T := TX8) (N := 39) hx hb hts hiX8 tyX8 tyX8_ok nmX8 hown hK hP hD hS 12 hm rfl 13 (by decide) (hts (.fieldLink RX8 139 "VortexpinModel" "rings" "I") (List.mem_of_getElem? (i := 2) rfl)) (fun _ h9 => h9) rfl (by decide +kernel) (rfl) (rfl) (Nat.le_of_ble_eq_true rfl) dX8_ring_75 (fun H locs hP hD hS => ?_)
        have hP : va_P G vwCl (((((ws).set 12 (am, .inr (9, mF ad (upd z 0 (0 : Int32)) wi dm))).set 21 (ad 21, .inl (cI, 6, .inl (upd (F 21) (z 13).toNatClampNeg x)))).set 22 (ad 22, .inl (cI, 6, .inl (upd (F 22) (z 13).toNatClampNeg y)))).set 12 (am, .inr (9, mF ad (upd (upd z 0 (0 : Int32)) 13 ((z 13) + (1 : Int32))) wi dm))) H := hP
        have hD : va_D A (((((ws).set 12 (am, .inr (9, mF ad (upd z 0 (0 : Int32)) wi dm))).set 21 (ad 21, .inl (cI, 6, .inl (upd (F 21) (z 13).toNatClampNeg x)))).set 22 (ad 22, .inl (cI, 6, .inl (upd (F 22) (z 13).toNatClampNeg y)))).set 12 (am, .inr (9, mF ad (upd (upd z 0 (0 : Int32)) 13 ((z 13) + (1 : Int32))) wi dm))) := hD
        have hA21 := va_gs (k := 12) (e := (am, .inr (9, mF ad (upd (upd z 0 (0 : Int32)) 13 ((z 13) + (1 : Int32))) wi dm))) (by decide) hA21
        have hA22 := va_gs (k := 12) (e := (am, .inr (9, mF ad (upd (upd z 0 (0 : Int32)) 13 ((z 13) + (1 : Int32))) wi dm))) (by decide) hA22
        have hm := va_ge (e := (am, .inr (9, mF ad (upd (upd z 0 (0 : Int32)) 13 ((z 13) + (1 : Int32))) wi dm))) hm
        refine lv_aload_n hx hb dX8_ring_78 rfl (lv_at hl 0 rfl) ?_
        refine va_get (D := G) (ci := 9) (v := .int ((z 13) + (1 : Int32))) (C := RX8) (T := TX8) (N := 39) hx hb hts hiX8 hown hK hP 12 hm rfl 13 (by decide) (hts (.fieldLink RX8 139 "VortexpinModel" "rings" "I") (List.mem_of_getElem? (i := 2) rfl)) (fun _ h9 => h9) rfl dX8_ring_79 ?_
        refine lv_iconst (v := 1) hx hb dX8_ring_82 (by decide) ?_
        refine lv_isub hx hb dX8_ring_83 ?_
        have hcd : cdRing x y (nI nR) = 0 := by unfold cdRing; rw [if_neg k0, if_neg k1, if_neg k2]
        have ew : ((((ws).set 12 (am, .inr (9, mF ad (upd z 0 (0 : Int32)) wi dm))).set 21 (ad 21, .inl (cI, 6, .inl (upd (F 21) (z 13).toNatClampNeg x)))).set 22 (ad 22, .inl (cI, 6, .inl (upd (F 22) (z 13).toNatClampNeg y)))).set 12 (am, .inr (9, mF ad (upd (upd z 0 (0 : Int32)) 13 ((z 13) + (1 : Int32))) wi dm)) = (if cdRing x y (nI nR) = 0 then ((((ws).set 12 (am, .inr (9, mF ad (upd z 0 (0 : Int32)) wi dm))).set 21 (ad 21, .inl (cI, 6, .inl (upd (F 21) (z 13).toNatClampNeg x)))).set 22 (ad 22, .inl (cI, 6, .inl (upd (F 22) (z 13).toNatClampNeg y)))).set 12 (am, .inr (9, mF ad (upd (upd z 0 (0 : Int32)) 13 ((z 13) + (1 : Int32))) wi dm)) else ws.set 12 (am, .inr (9, mF ad (upd z 0 (cdRing x y (nI nR))) wi dm))) := by rw [hcd, if_pos rfl]
        have hP : va_P G vwCl (((((ws).set 12 (am, .inr (9, mF ad (upd z 0 (0 : Int32)) wi dm))).set 21 (ad 21, .inl (cI, 6, .inl (upd (F 21) (z 13).toNatClampNeg x)))).set 22 (ad 22, .inl (cI, 6, .inl (upd (F 22) (z 13).toNatClampNeg y)))).set 12 (am, .inr (9, mF ad (upd (upd z 0 (0 : Int32)) 13 ((z 13) + (1 : Int32))) wi dm))) H := hP
        have hD : va_D A (((((ws).set 12 (am, .inr (9, mF ad (upd z 0 (0 : Int32)) wi dm))).set 21 (ad 21, .inl (cI, 6, .inl (upd (F 21) (z 13).toNatClampNeg x)))).set 22 (ad 22, .inl (cI, 6, .inl (upd (F 22) (z 13).toNatClampNeg y)))).set 12 (am, .inr (9, mF ad (upd (upd z 0 (0 : Int32)) 13 ((z 13) + (1 : Int32))) wi dm))) := hD
        rw [ew] at hP hD
        exact W.iret (v := ((z 13) + (1 : Int32)) - (1 : Int32)) hx hb hr (fun t ht hW => ⟨⟨((z 13) + (1 : Int32)) - (1 : Int32), (), rfl, (fun _ => Int32.add_sub_cancel _ _), by show va_P G vwCl _ t.heap ∧ va_D A _; rw [ht]; exact ⟨hP, hD⟩⟩, hS.F ht⟩) hS.2.2 dX8_ring_84
      · have hbd : (6 : Int32) ≤ nI nR := (full_n h60nR (by decide)).mp (by rw [← hz13]; exact c39)
        skip
        refine lv_aload_n hx hb dX8_ring_42 rfl (lv_at hl 0 rfl) ?_
        refine lv_iconst (v := 2) hx hb dX8_ring_43 (by decide) ?_
        refine va_calli (va_runV (As := [.int (2 : Int32)]) (rest := []) ⟨hx, hb, hml, hown, hts⟩ (metX8_stop l G tys _ hm (2 : Int32)) (cwV 1 hts gX8_ring_X8_stop rfl rfl rfl (by decide +kernel) ⟨Nat.le_of_ble_eq_true rfl, Nat.le_of_ble_eq_true rfl⟩) ⟨pcM_b, va_recv hK hP (ci := 9) (q0 := 12) rfl hm, pcM_u hP hK hD hS hA⟩ rfl rfl hl.1 rfl (lv_room (Nat.le_of_ble_eq_true rfl)) dX8_ring_44 ⟨Nat.le_of_ble_eq_true rfl, Nat.le_of_ble_eq_true rfl⟩) hS (fun q _ h => h) (fun q h => h) (fun r44 u t H locs ht hvm h44 hB hsz hk1 hS => ?_)
        rw [ht] at hB
        have hB := hB.1
        have hD := hD.set (e := .inr (9, mF ad (upd (upd z 0 (0 : Int32)) 0 (2 : Int32)) wi dm)) hm
        have hA21 := va_gs (k := 12) (e := (am, .inr (9, mF ad (upd (upd z 0 (0 : Int32)) 0 (2 : Int32)) wi dm))) (by decide) hA21
        have hA22 := va_gs (k := 12) (e := (am, .inr (9, mF ad (upd (upd z 0 (0 : Int32)) 0 (2 : Int32)) wi dm))) (by decide) hA22
        have hm := va_ge (e := (am, .inr (9, mF ad (upd (upd z 0 (0 : Int32)) 0 (2 : Int32)) wi dm))) hm
        have hP : va_P G vwCl (((ws).set 12 (am, .inr (9, mF ad (upd z 0 (0 : Int32)) wi dm))).set 12 (am, .inr (9, mF ad (upd (upd z 0 (0 : Int32)) 0 (2 : Int32)) wi dm))) H := hB
        have hD : va_D A (((ws).set 12 (am, .inr (9, mF ad (upd z 0 (0 : Int32)) wi dm))).set 12 (am, .inr (9, mF ad (upd (upd z 0 (0 : Int32)) 0 (2 : Int32)) wi dm))) := hD
        have hcd : cdRing x y (nI nR) = 2 := by unfold cdRing; rw [if_neg k0, if_neg k1, if_pos hbd]
        have ew : ((ws).set 12 (am, .inr (9, mF ad (upd z 0 (0 : Int32)) wi dm))).set 12 (am, .inr (9, mF ad (upd (upd z 0 (0 : Int32)) 0 (2 : Int32)) wi dm)) = (if cdRing x y (nI nR) = 0 then ((((ws).set 12 (am, .inr (9, mF ad (upd z 0 (0 : Int32)) wi dm))).set 21 (ad 21, .inl (cI, 6, .inl (upd (F 21) (z 13).toNatClampNeg x)))).set 22 (ad 22, .inl (cI, 6, .inl (upd (F 22) (z 13).toNatClampNeg y)))).set 12 (am, .inr (9, mF ad (upd (upd z 0 (0 : Int32)) 13 ((z 13) + (1 : Int32))) wi dm)) else ws.set 12 (am, .inr (9, mF ad (upd z 0 (cdRing x y (nI nR))) wi dm))) := by rw [hcd, if_neg (by decide), List.set_set, upd_upd]
        have hP : va_P G vwCl (((ws).set 12 (am, .inr (9, mF ad (upd z 0 (0 : Int32)) wi dm))).set 12 (am, .inr (9, mF ad (upd (upd z 0 (0 : Int32)) 0 (2 : Int32)) wi dm))) H := hP
        have hD : va_D A (((ws).set 12 (am, .inr (9, mF ad (upd z 0 (0 : Int32)) wi dm))).set 12 (am, .inr (9, mF ad (upd (upd z 0 (0 : Int32)) 0 (2 : Int32)) wi dm))) := hD
        rw [ew] at hP hD
        exact W.iret (v := r44) hx hb hr (fun t ht hW => ⟨⟨r44, (), rfl, (fun h0 => absurd (hcd.symm.trans h0) (by decide)), by show va_P G vwCl _ t.heap ∧ va_D A _; rw [ht]; exact ⟨hP, hD⟩⟩, hS.F ht⟩) hS.2.2 dX8_ring_47
    · have hbd : oR y 50 1000 := mIn_0.mp (h21.symm.trans c24)
      skip
      refine lv_aload_n hx hb dX8_ring_27 rfl (lv_at hl 0 rfl) ?_
      refine lv_iconst (v := 1) hx hb dX8_ring_28 (by decide) ?_
      refine va_calli (va_runV (As := [.int (1 : Int32)]) (rest := []) ⟨hx, hb, hml, hown, hts⟩ (metX8_stop l G tys _ hm (1 : Int32)) (cwV 1 hts gX8_ring_X8_stop rfl rfl rfl (by decide +kernel) ⟨Nat.le_of_ble_eq_true rfl, Nat.le_of_ble_eq_true rfl⟩) ⟨pcM_b, va_recv hK hP (ci := 9) (q0 := 12) rfl hm, pcM_u hP hK hD hS hA⟩ rfl rfl hl.1 rfl (lv_room (Nat.le_of_ble_eq_true rfl)) dX8_ring_29 ⟨Nat.le_of_ble_eq_true rfl, Nat.le_of_ble_eq_true rfl⟩) hS (fun q _ h => h) (fun q h => h) (fun r29 u t H locs ht hvm h29 hB hsz hk1 hS => ?_)
      rw [ht] at hB
      have hB := hB.1
      have hD := hD.set (e := .inr (9, mF ad (upd (upd z 0 (0 : Int32)) 0 (1 : Int32)) wi dm)) hm
      have hA21 := va_gs (k := 12) (e := (am, .inr (9, mF ad (upd (upd z 0 (0 : Int32)) 0 (1 : Int32)) wi dm))) (by decide) hA21
      have hA22 := va_gs (k := 12) (e := (am, .inr (9, mF ad (upd (upd z 0 (0 : Int32)) 0 (1 : Int32)) wi dm))) (by decide) hA22
      have hm := va_ge (e := (am, .inr (9, mF ad (upd (upd z 0 (0 : Int32)) 0 (1 : Int32)) wi dm))) hm
      have hP : va_P G vwCl (((ws).set 12 (am, .inr (9, mF ad (upd z 0 (0 : Int32)) wi dm))).set 12 (am, .inr (9, mF ad (upd (upd z 0 (0 : Int32)) 0 (1 : Int32)) wi dm))) H := hB
      have hD : va_D A (((ws).set 12 (am, .inr (9, mF ad (upd z 0 (0 : Int32)) wi dm))).set 12 (am, .inr (9, mF ad (upd (upd z 0 (0 : Int32)) 0 (1 : Int32)) wi dm))) := hD
      have hcd : cdRing x y (nI nR) = 1 := by unfold cdRing; rw [if_neg k0, if_pos hbd]
      have ew : ((ws).set 12 (am, .inr (9, mF ad (upd z 0 (0 : Int32)) wi dm))).set 12 (am, .inr (9, mF ad (upd (upd z 0 (0 : Int32)) 0 (1 : Int32)) wi dm)) = (if cdRing x y (nI nR) = 0 then ((((ws).set 12 (am, .inr (9, mF ad (upd z 0 (0 : Int32)) wi dm))).set 21 (ad 21, .inl (cI, 6, .inl (upd (F 21) (z 13).toNatClampNeg x)))).set 22 (ad 22, .inl (cI, 6, .inl (upd (F 22) (z 13).toNatClampNeg y)))).set 12 (am, .inr (9, mF ad (upd (upd z 0 (0 : Int32)) 13 ((z 13) + (1 : Int32))) wi dm)) else ws.set 12 (am, .inr (9, mF ad (upd z 0 (cdRing x y (nI nR))) wi dm))) := by rw [hcd, if_neg (by decide), List.set_set, upd_upd]
      have hP : va_P G vwCl (((ws).set 12 (am, .inr (9, mF ad (upd z 0 (0 : Int32)) wi dm))).set 12 (am, .inr (9, mF ad (upd (upd z 0 (0 : Int32)) 0 (1 : Int32)) wi dm))) H := hP
      have hD : va_D A (((ws).set 12 (am, .inr (9, mF ad (upd z 0 (0 : Int32)) wi dm))).set 12 (am, .inr (9, mF ad (upd (upd z 0 (0 : Int32)) 0 (1 : Int32)) wi dm))) := hD
      rw [ew] at hP hD
      exact W.iret (v := r29) hx hb hr (fun t ht hW => ⟨⟨r29, (), rfl, (fun h0 => absurd (hcd.symm.trans h0) (by decide)), by show va_P G vwCl _ t.heap ∧ va_D A _; rw [ht]; exact ⟨hP, hD⟩⟩, hS.F ht⟩) hS.2.2 dX8_ring_32
set_option maxHeartbeats 1000000 in
set_option maxRecDepth 100000 in
theorem metX8_ofRing (l : Launch) (G : va_G) (tys : List (ClassId × FieldType)) {cI : ClassId} (htI : tI tys cI) {A : Nat → Prop} (ws : va_W) {am : Nat} {ad : Nat → Nat} {z : Nat → Int32} {wi dm : Int64} {F : Nat → Nat → Int32} (hm : ws[12]? = some (am, .inr (9, mF ad z wi dm))) (hA21 : ws[21]? = some (ad 21, .inl (cI, 6, .inl (F 21)))) (hA23 : ws[23]? = some (ad 23, .inl (cI, 6, .inl (F 23)))) (hA24 : ws[24]? = some (ad 24, .inl (cI, 6, .inl (F 24)))) (hA25 : ws[25]? = some (ad 25, .inl (cI, 6, .inl (F 25)))) {nR : Nat} (hz13 : z 13 = nI nR) (h60nR : nR ≤ 6) (hi0 : ∀ i, i < nR → ¬ F 21 i = 0) (x w : Int32) : Met l yX8_ofRing wsX8_ofRing ({ frames := 1, cells := 0, slots := 0, locals := 22 }) (pcM G tys ws A [.ref am, .int x, .int w]) (va_Qi (fun (r : Int32) (_ : Unit) => cdOfRing x w (nI nR) = 0 → r = (if w = 0 then F 24 x.toNatClampNeg else if w = 1 then rCur (F 21 x.toNatClampNeg) (F 23 x.toNatClampNeg) (F 24 x.toNatClampNeg) else F 25 x.toNatClampNeg)) (fun _ t => va_P G vwCl (if cdOfRing x w (nI nR) = 0 then (ws).set 12 (am, .inr (9, mF ad (upd z 0 (0 : Int32)) wi dm)) else ws.set 12 (am, .inr (9, mF ad (upd z 0 (cdOfRing x w (nI nR))) wi dm))) t.heap ∧ va_D A (if cdOfRing x w (nI nR) = 0 then (ws).set 12 (am, .inr (9, mF ad (upd z 0 (0 : Int32)) wi dm)) else ws.set 12 (am, .inr (9, mF ad (upd z 0 (cdOfRing x w (nI nR))) wi dm)))) A) 0 0 A := by
  refine ofM (cc := cX8_ofRing) (maxL := 3) (ret := some .int) (by decide) rfl (Nat.le_of_ble_eq_true rfl) ?_
  intro p e s m below meth c ls hx hb hr hlocks hml hown hts hin hl hP hK hD hA hS
  have hown : s.vm.findClass RX8 = some m.cls := hown
  have hiX8 : ∀ w ∈ u_ws RX8 TX8 39, w ∈ wsX8_ofRing := fun _ h => List.mem_cons_of_mem _ (List.mem_append_right _ h)
  have hl : lv_has ls 3 [(0, .ref am), (1, .int x), (2, .int w)] := hl
  refine lv_aload_n hx hb dX8_ofRing_0 rfl (lv_at hl 0 rfl) ?_
  refine lv_iconst (v := 0) hx hb dX8_ofRing_1 (by decide) ?_
  refine va_put (D := G) (ci := 9) (v := .int (0 : Int32)) (ty := .int) (C := RX8) (T := TX8) (N := 39) hx hb hts hiX8 tyX8 tyX8_ok nmX8 hown hK hP hD hS 12 hm rfl 0 (by decide) (hts (.fieldLink RX8 86 "VortexpinModel" "thrown" "I") (List.mem_of_getElem? (i := 1) rfl)) (fun _ h9 => h9) rfl (by decide +kernel) (rfl) (rfl) (Nat.le_of_ble_eq_true rfl) dX8_ofRing_2 (fun H locs hP hD hS => ?_)
  have hP : va_P G vwCl ((ws).set 12 (am, .inr (9, mF ad (upd z 0 (0 : Int32)) wi dm))) H := hP
  have hD : va_D A ((ws).set 12 (am, .inr (9, mF ad (upd z 0 (0 : Int32)) wi dm))) := hD
  have hA21 := va_gs (k := 12) (e := (am, .inr (9, mF ad (upd z 0 (0 : Int32)) wi dm))) (by decide) hA21
  have hA23 := va_gs (k := 12) (e := (am, .inr (9, mF ad (upd z 0 (0 : Int32)) wi dm))) (by decide) hA23
  have hA24 := va_gs (k := 12) (e := (am, .inr (9, mF ad (upd z 0 (0 : Int32)) wi dm))) (by decide) hA24
  have hA25 := va_gs (k := 12) (e := (am, .inr (9, mF ad (upd z 0 (0 : Int32)) wi dm))) (by decide) hA25
  have hm := va_ge (e := (am, .inr (9, mF ad (upd z 0 (0 : Int32)) wi dm))) hm
  refine lv_iload_n hx hb dX8_ofRing_5 rfl (lv_at hl 1 rfl) ?_
  refine lv_iconst (v := 0) hx hb dX8_ofRing_6 (by decide) ?_
  refine lv_aload_n hx hb dX8_ofRing_7 rfl (lv_at hl 0 rfl) ?_
  refine va_get (D := G) (ci := 9) (v := .int (z 13)) (C := RX8) (T := TX8) (N := 39) hx hb hts hiX8 hown hK hP 12 hm rfl 13 (by decide) (hts (.fieldLink RX8 139 "VortexpinModel" "rings" "I") (List.mem_of_getElem? (i := 2) rfl)) (fun _ h9 => h9) rfl dX8_ofRing_8 ?_
  refine lv_iconst (v := 1) hx hb dX8_ofRing_11 (by decide) ?_
  refine lv_isub hx hb dX8_ofRing_12 ?_
  refine vp_callSi (va_Run.run (va_runS (As := [.int x, .int (0 : Int32), .int ((z 13) - (1 : Int32))]) (rest := []) ⟨hx, hb, hml, hown, hts⟩ (metX8_in l x (0 : Int32) ((z 13) - (1 : Int32))) (va_cwS 3 hts gX8_ofRing_X8_in rfl rfl rfl (by decide +kernel) ⟨Nat.le_of_ble_eq_true rfl, Nat.le_of_ble_eq_true rfl⟩) ⟨pc0_b, pc0_u⟩ rfl rfl hl.1 rfl (lv_room (Nat.le_of_ble_eq_true rfl)) dX8_ofRing_13 ⟨Nat.le_of_ble_eq_true rfl, Nat.le_of_ble_eq_true rfl⟩)) (fun r13 h13 => ?_)
  refine lv_if_ne (tgt := 25) hx hb dX8_ofRing_16 (by decide) (fun c16 => ?_) (fun c16 => ?_)
  · have k0 : ¬ (uK x (nI nR)) := fun q9 => c16 (h13.trans (mIn_0.mpr ((oR_uK (by rw [hz13]) (show nR < 2 ^ 31 by omega)).mpr q9)))
    refine lv_iload_n hx hb dX8_ofRing_25 rfl (lv_at hl 2 rfl) ?_
    refine lv_iconst (v := 0) hx hb dX8_ofRing_26 (by decide) ?_
    refine lv_iconst (v := 2) hx hb dX8_ofRing_27 (by decide) ?_
    refine vp_callSi (va_Run.run (va_runS (As := [.int w, .int (0 : Int32), .int (2 : Int32)]) (rest := []) ⟨hx, hb, hml, hown, hts⟩ (metX8_in l w (0 : Int32) (2 : Int32)) (va_cwS 3 hts gX8_ofRing_X8_in rfl rfl rfl (by decide +kernel) ⟨Nat.le_of_ble_eq_true rfl, Nat.le_of_ble_eq_true rfl⟩) ⟨pc0_b, pc0_u⟩ rfl rfl hl.1 rfl (lv_room (Nat.le_of_ble_eq_true rfl)) dX8_ofRing_28 ⟨Nat.le_of_ble_eq_true rfl, Nat.le_of_ble_eq_true rfl⟩)) (fun r28 h28 => ?_)
    refine lv_if_ne (tgt := 40) hx hb dX8_ofRing_31 (by decide) (fun c31 => ?_) (fun c31 => ?_)
    · have k1 : ¬ (oR w 0 2) := fun q9 => c31 (h28.trans (mIn_0.mpr q9))
      refine lv_iload_n hx hb dX8_ofRing_40 rfl (lv_at hl 2 rfl) ?_
      refine lv_if_ne (tgt := 53) hx hb dX8_ofRing_41 (by decide) (fun c41 => ?_) (fun c41 => ?_)
      · refine lv_iload_n hx hb dX8_ofRing_53 rfl (lv_at hl 2 rfl) ?_
        refine lv_iconst (v := 1) hx hb dX8_ofRing_54 (by decide) ?_
        refine lv_icmp_ne (tgt := 72) hx hb dX8_ofRing_55 (by decide) (fun c55 => ?_) (fun c55 => ?_)
        · refine lv_aload_n hx hb dX8_ofRing_72 rfl (lv_at hl 0 rfl) ?_
          refine va_get (D := G) (ci := 9) (v := .ref (ad 25)) (C := RX8) (T := TX8) (N := 39) hx hb hts hiX8 hown hK hP 12 hm rfl 18 (by decide) (hts (.fieldLink RX8 46 "VortexpinModel" "slips" "[I") (List.mem_of_getElem? (i := 4) rfl)) (fun _ h9 => h9) rfl dX8_ofRing_73 ?_
          refine lv_iload_n hx hb dX8_ofRing_76 rfl (lv_at hl 1 rfl) ?_
          refine va_iald hx hb hK hP 25 0 hA25 htI (vp_uK (n := 6) (fun q9 => k0 (uK_up q9 h60nR (by decide)))) dX8_ofRing_77 ?_
          have hcd : cdOfRing x w (nI nR) = 0 := by unfold cdOfRing; rw [if_neg k0, if_neg k1]
          have ew : (ws).set 12 (am, .inr (9, mF ad (upd z 0 (0 : Int32)) wi dm)) = (if cdOfRing x w (nI nR) = 0 then (ws).set 12 (am, .inr (9, mF ad (upd z 0 (0 : Int32)) wi dm)) else ws.set 12 (am, .inr (9, mF ad (upd z 0 (cdOfRing x w (nI nR))) wi dm))) := by rw [hcd, if_pos rfl]
          have hP : va_P G vwCl ((ws).set 12 (am, .inr (9, mF ad (upd z 0 (0 : Int32)) wi dm))) H := hP
          have hD : va_D A ((ws).set 12 (am, .inr (9, mF ad (upd z 0 (0 : Int32)) wi dm))) := hD
          rw [ew] at hP hD
          exact W.iret (v := (F 25) x.toNatClampNeg) hx hb hr (fun t ht hW => ⟨⟨(F 25) x.toNatClampNeg, (), rfl, (fun _ => by subst h13; subst h28; simp only [c16, c31, c41, c55, ↓reduceIte, not_true_eq_false, not_false_eq_true]), by show va_P G vwCl _ t.heap ∧ va_D A _; rw [ht]; exact ⟨hP, hD⟩⟩, hS.F ht⟩) hS.2.2 dX8_ofRing_78
        · refine lv_aload_n hx hb dX8_ofRing_58 rfl (lv_at hl 0 rfl) ?_
          refine lv_iload_n hx hb dX8_ofRing_59 rfl (lv_at hl 1 rfl) ?_
          refine lv_aload_n hx hb dX8_ofRing_60 rfl (lv_at hl 0 rfl) ?_
          refine va_get (D := G) (ci := 9) (v := .ref (ad 24)) (C := RX8) (T := TX8) (N := 39) hx hb hts hiX8 hown hK hP 12 hm rfl 17 (by decide) (hts (.fieldLink RX8 43 "VortexpinModel" "number" "[I") (List.mem_of_getElem? (i := 3) rfl)) (fun _ h9 => h9) rfl dX8_ofRing_61 ?_
          refine lv_iload_n hx hb dX8_ofRing_64 rfl (lv_at hl 1 rfl) ?_
          refine va_iald hx hb hK hP 24 0 hA24 htI (vp_uK (n := 6) (fun q9 => k0 (uK_up q9 h60nR (by decide)))) dX8_ofRing_65 ?_
          refine vp_callSi (va_Run.run (va_runV (As := [.int x, .int ((F 24) x.toNatClampNeg)]) (rest := []) ⟨hx, hb, hml, hown, hts⟩ (metX8_currentBy l G tys htI _ hm hA23 hA21 x ((F 24) x.toNatClampNeg) (fun q9 => k0 (uK_up q9 h60nR (by decide))) (hi0 _ (uK_ix k0).2)) (cwV 2 hts gX8_ofRing_X8_currentBy rfl rfl rfl (by decide +kernel) ⟨Nat.le_of_ble_eq_true rfl, Nat.le_of_ble_eq_true rfl⟩) ⟨pcR_b, va_recv hK hP (ci := 9) (q0 := 12) rfl hm, pcR_u hP hK⟩ rfl rfl hl.1 rfl (lv_room (Nat.le_of_ble_eq_true rfl)) dX8_ofRing_66 ⟨Nat.le_of_ble_eq_true rfl, Nat.le_of_ble_eq_true rfl⟩)) (fun r66 h66 => ?_)
          refine lv_goto (tgt := 78) hx hb dX8_ofRing_69 (by decide) ?_
          have hcd : cdOfRing x w (nI nR) = 0 := by unfold cdOfRing; rw [if_neg k0, if_neg k1]
          have ew : (ws).set 12 (am, .inr (9, mF ad (upd z 0 (0 : Int32)) wi dm)) = (if cdOfRing x w (nI nR) = 0 then (ws).set 12 (am, .inr (9, mF ad (upd z 0 (0 : Int32)) wi dm)) else ws.set 12 (am, .inr (9, mF ad (upd z 0 (cdOfRing x w (nI nR))) wi dm))) := by rw [hcd, if_pos rfl]
          have hP : va_P G vwCl ((ws).set 12 (am, .inr (9, mF ad (upd z 0 (0 : Int32)) wi dm))) H := hP
          have hD : va_D A ((ws).set 12 (am, .inr (9, mF ad (upd z 0 (0 : Int32)) wi dm))) := hD
          rw [ew] at hP hD
          exact W.iret (v := r66) hx hb hr (fun t ht hW => ⟨⟨r66, (), rfl, (fun _ => by subst h13; subst h28; subst h66; simp only [c16, c31, c41, (eq_true c55), ↓reduceIte, not_true_eq_false, not_false_eq_true]), by show va_P G vwCl _ t.heap ∧ va_D A _; rw [ht]; exact ⟨hP, hD⟩⟩, hS.F ht⟩) hS.2.2 dX8_ofRing_78
      · refine lv_aload_n hx hb dX8_ofRing_44 rfl (lv_at hl 0 rfl) ?_
        refine va_get (D := G) (ci := 9) (v := .ref (ad 24)) (C := RX8) (T := TX8) (N := 39) hx hb hts hiX8 hown hK hP 12 hm rfl 17 (by decide) (hts (.fieldLink RX8 43 "VortexpinModel" "number" "[I") (List.mem_of_getElem? (i := 3) rfl)) (fun _ h9 => h9) rfl dX8_ofRing_45 ?_
        refine lv_iload_n hx hb dX8_ofRing_48 rfl (lv_at hl 1 rfl) ?_
        refine va_iald hx hb hK hP 24 0 hA24 htI (vp_uK (n := 6) (fun q9 => k0 (uK_up q9 h60nR (by decide)))) dX8_ofRing_49 ?_
        refine lv_goto (tgt := 78) hx hb dX8_ofRing_50 (by decide) ?_
        have hcd : cdOfRing x w (nI nR) = 0 := by unfold cdOfRing; rw [if_neg k0, if_neg k1]
        have ew : (ws).set 12 (am, .inr (9, mF ad (upd z 0 (0 : Int32)) wi dm)) = (if cdOfRing x w (nI nR) = 0 then (ws).set 12 (am, .inr (9, mF ad (upd z 0 (0 : Int32)) wi dm)) else ws.set 12 (am, .inr (9, mF ad (upd z 0 (cdOfRing x w (nI nR))) wi dm))) := by rw [hcd, if_pos rfl]
        have hP : va_P G vwCl ((ws).set 12 (am, .inr (9, mF ad (upd z 0 (0 : Int32)) wi dm))) H := hP
        have hD : va_D A ((ws).set 12 (am, .inr (9, mF ad (upd z 0 (0 : Int32)) wi dm))) := hD
        rw [ew] at hP hD
        exact W.iret (v := (F 24) x.toNatClampNeg) hx hb hr (fun t ht hW => ⟨⟨(F 24) x.toNatClampNeg, (), rfl, (fun _ => by subst h13; subst h28; simp only [c16, c31, (eq_true c41), ↓reduceIte, not_true_eq_false, not_false_eq_true]), by show va_P G vwCl _ t.heap ∧ va_D A _; rw [ht]; exact ⟨hP, hD⟩⟩, hS.F ht⟩) hS.2.2 dX8_ofRing_78
    · have hbd : oR w 0 2 := mIn_0.mp (h28.symm.trans c31)
      skip
      refine lv_aload_n hx hb dX8_ofRing_34 rfl (lv_at hl 0 rfl) ?_
      refine lv_iconst (v := 2) hx hb dX8_ofRing_35 (by decide) ?_
      refine va_calli (va_runV (As := [.int (2 : Int32)]) (rest := []) ⟨hx, hb, hml, hown, hts⟩ (metX8_stop l G tys _ hm (2 : Int32)) (cwV 1 hts gX8_ofRing_X8_stop rfl rfl rfl (by decide +kernel) ⟨Nat.le_of_ble_eq_true rfl, Nat.le_of_ble_eq_true rfl⟩) ⟨pcM_b, va_recv hK hP (ci := 9) (q0 := 12) rfl hm, pcM_u hP hK hD hS hA⟩ rfl rfl hl.1 rfl (lv_room (Nat.le_of_ble_eq_true rfl)) dX8_ofRing_36 ⟨Nat.le_of_ble_eq_true rfl, Nat.le_of_ble_eq_true rfl⟩) hS (fun q _ h => h) (fun q h => h) (fun r36 u t H locs ht hvm h36 hB hsz hk1 hS => ?_)
      rw [ht] at hB
      have hB := hB.1
      have hD := hD.set (e := .inr (9, mF ad (upd (upd z 0 (0 : Int32)) 0 (2 : Int32)) wi dm)) hm
      have hA21 := va_gs (k := 12) (e := (am, .inr (9, mF ad (upd (upd z 0 (0 : Int32)) 0 (2 : Int32)) wi dm))) (by decide) hA21
      have hA23 := va_gs (k := 12) (e := (am, .inr (9, mF ad (upd (upd z 0 (0 : Int32)) 0 (2 : Int32)) wi dm))) (by decide) hA23
      have hA24 := va_gs (k := 12) (e := (am, .inr (9, mF ad (upd (upd z 0 (0 : Int32)) 0 (2 : Int32)) wi dm))) (by decide) hA24
      have hA25 := va_gs (k := 12) (e := (am, .inr (9, mF ad (upd (upd z 0 (0 : Int32)) 0 (2 : Int32)) wi dm))) (by decide) hA25
      have hm := va_ge (e := (am, .inr (9, mF ad (upd (upd z 0 (0 : Int32)) 0 (2 : Int32)) wi dm))) hm
      have hP : va_P G vwCl (((ws).set 12 (am, .inr (9, mF ad (upd z 0 (0 : Int32)) wi dm))).set 12 (am, .inr (9, mF ad (upd (upd z 0 (0 : Int32)) 0 (2 : Int32)) wi dm))) H := hB
      have hD : va_D A (((ws).set 12 (am, .inr (9, mF ad (upd z 0 (0 : Int32)) wi dm))).set 12 (am, .inr (9, mF ad (upd (upd z 0 (0 : Int32)) 0 (2 : Int32)) wi dm))) := hD
      have hcd : cdOfRing x w (nI nR) = 2 := by unfold cdOfRing; rw [if_neg k0, if_pos hbd]
      have ew : ((ws).set 12 (am, .inr (9, mF ad (upd z 0 (0 : Int32)) wi dm))).set 12 (am, .inr (9, mF ad (upd (upd z 0 (0 : Int32)) 0 (2 : Int32)) wi dm)) = (if cdOfRing x w (nI nR) = 0 then (ws).set 12 (am, .inr (9, mF ad (upd z 0 (0 : Int32)) wi dm)) else ws.set 12 (am, .inr (9, mF ad (upd z 0 (cdOfRing x w (nI nR))) wi dm))) := by rw [hcd, if_neg (by decide), List.set_set, upd_upd]
      have hP : va_P G vwCl (((ws).set 12 (am, .inr (9, mF ad (upd z 0 (0 : Int32)) wi dm))).set 12 (am, .inr (9, mF ad (upd (upd z 0 (0 : Int32)) 0 (2 : Int32)) wi dm))) H := hP
      have hD : va_D A (((ws).set 12 (am, .inr (9, mF ad (upd z 0 (0 : Int32)) wi dm))).set 12 (am, .inr (9, mF ad (upd (upd z 0 (0 : Int32)) 0 (2 : Int32)) wi dm))) := hD
      rw [ew] at hP hD
      exact W.iret (v := r36) hx hb hr (fun t ht hW => ⟨⟨r36, (), rfl, (fun h0 => absurd (hcd.symm.trans h0) (by decide)), by show va_P G vwCl _ t.heap ∧ va_D A _; rw [ht]; exact ⟨hP, hD⟩⟩, hS.F ht⟩) hS.2.2 dX8_ofRing_39
  · have hbd : uK x (nI nR) := (oR_uK (by rw [hz13]) (show nR < 2 ^ 31 by omega)).mp (mIn_0.mp (h13.symm.trans c16))
    skip
    refine lv_aload_n hx hb dX8_ofRing_19 rfl (lv_at hl 0 rfl) ?_
    refine lv_iconst (v := 1) hx hb dX8_ofRing_20 (by decide) ?_
    refine va_calli (va_runV (As := [.int (1 : Int32)]) (rest := []) ⟨hx, hb, hml, hown, hts⟩ (metX8_stop l G tys _ hm (1 : Int32)) (cwV 1 hts gX8_ofRing_X8_stop rfl rfl rfl (by decide +kernel) ⟨Nat.le_of_ble_eq_true rfl, Nat.le_of_ble_eq_true rfl⟩) ⟨pcM_b, va_recv hK hP (ci := 9) (q0 := 12) rfl hm, pcM_u hP hK hD hS hA⟩ rfl rfl hl.1 rfl (lv_room (Nat.le_of_ble_eq_true rfl)) dX8_ofRing_21 ⟨Nat.le_of_ble_eq_true rfl, Nat.le_of_ble_eq_true rfl⟩) hS (fun q _ h => h) (fun q h => h) (fun r21 u t H locs ht hvm h21 hB hsz hk1 hS => ?_)
    rw [ht] at hB
    have hB := hB.1
    have hD := hD.set (e := .inr (9, mF ad (upd (upd z 0 (0 : Int32)) 0 (1 : Int32)) wi dm)) hm
    have hA21 := va_gs (k := 12) (e := (am, .inr (9, mF ad (upd (upd z 0 (0 : Int32)) 0 (1 : Int32)) wi dm))) (by decide) hA21
    have hA23 := va_gs (k := 12) (e := (am, .inr (9, mF ad (upd (upd z 0 (0 : Int32)) 0 (1 : Int32)) wi dm))) (by decide) hA23
    have hA24 := va_gs (k := 12) (e := (am, .inr (9, mF ad (upd (upd z 0 (0 : Int32)) 0 (1 : Int32)) wi dm))) (by decide) hA24
    have hA25 := va_gs (k := 12) (e := (am, .inr (9, mF ad (upd (upd z 0 (0 : Int32)) 0 (1 : Int32)) wi dm))) (by decide) hA25
    have hm := va_ge (e := (am, .inr (9, mF ad (upd (upd z 0 (0 : Int32)) 0 (1 : Int32)) wi dm))) hm
    have hP : va_P G vwCl (((ws).set 12 (am, .inr (9, mF ad (upd z 0 (0 : Int32)) wi dm))).set 12 (am, .inr (9, mF ad (upd (upd z 0 (0 : Int32)) 0 (1 : Int32)) wi dm))) H := hB
    have hD : va_D A (((ws).set 12 (am, .inr (9, mF ad (upd z 0 (0 : Int32)) wi dm))).set 12 (am, .inr (9, mF ad (upd (upd z 0 (0 : Int32)) 0 (1 : Int32)) wi dm))) := hD
    have hcd : cdOfRing x w (nI nR) = 1 := by unfold cdOfRing; rw [if_pos hbd]
    have ew : ((ws).set 12 (am, .inr (9, mF ad (upd z 0 (0 : Int32)) wi dm))).set 12 (am, .inr (9, mF ad (upd (upd z 0 (0 : Int32)) 0 (1 : Int32)) wi dm)) = (if cdOfRing x w (nI nR) = 0 then (ws).set 12 (am, .inr (9, mF ad (upd z 0 (0 : Int32)) wi dm)) else ws.set 12 (am, .inr (9, mF ad (upd z 0 (cdOfRing x w (nI nR))) wi dm))) := by rw [hcd, if_neg (by decide), List.set_set, upd_upd]
    have hP : va_P G vwCl (((ws).set 12 (am, .inr (9, mF ad (upd z 0 (0 : Int32)) wi dm))).set 12 (am, .inr (9, mF ad (upd (upd z 0 (0 : Int32)) 0 (1 : Int32)) wi dm))) H := hP
    have hD : va_D A (((ws).set 12 (am, .inr (9, mF ad (upd z 0 (0 : Int32)) wi dm))).set 12 (am, .inr (9, mF ad (upd (upd z 0 (0 : Int32)) 0 (1 : Int32)) wi dm))) := hD
    rw [ew] at hP hD
    exact W.iret (v := r21) hx hb hr (fun t ht hW => ⟨⟨r21, (), rfl, (fun h0 => absurd (hcd.symm.trans h0) (by decide)), by show va_P G vwCl _ t.heap ∧ va_D A _; rw [ht]; exact ⟨hP, hD⟩⟩, hS.F ht⟩) hS.2.2 dX8_ofRing_24
set_option maxHeartbeats 1000000 in
set_option maxRecDepth 100000 in
theorem metX8_warm (l : Launch) (G : va_G) (tys : List (ClassId × FieldType)) {cI : ClassId} (htI : tI tys cI) {A : Nat → Prop} (ws : va_W) {am : Nat} {ad : Nat → Nat} {z : Nat → Int32} {wi dm : Int64} {F : Nat → Nat → Int32} (hm : ws[12]? = some (am, .inr (9, mF ad z wi dm))) (hA23 : ws[23]? = some (ad 23, .inl (cI, 6, .inl (F 23)))) (hA24 : ws[24]? = some (ad 24, .inl (cI, 6, .inl (F 24)))) {nR : Nat} (hz13 : z 13 = nI nR) (h60nR : nR ≤ 6) (x : Int32) : Met l yX8_warm wsX8_warm ({ frames := 1, cells := 0, slots := 0, locals := 22 }) (pcM G tys ws A [.ref am, .int x]) (va_Qi (fun (r : Int32) (_ : Unit) => cdOne x (nI nR) = 0 → r = mWarm (F 23 x.toNatClampNeg)) (fun _ t => va_P G vwCl (if cdOne x (nI nR) = 0 then (ws.set 12 (am, .inr (9, mF ad (upd z 0 0) wi dm))).set 24 (ad 24, .inl (cI, 6, .inl (upd (F 24) x.toNatClampNeg (mWarm (F 23 x.toNatClampNeg))))) else ws.set 12 (am, .inr (9, mF ad (upd z 0 (cdOne x (nI nR))) wi dm))) t.heap ∧ va_D A (if cdOne x (nI nR) = 0 then (ws.set 12 (am, .inr (9, mF ad (upd z 0 0) wi dm))).set 24 (ad 24, .inl (cI, 6, .inl (upd (F 24) x.toNatClampNeg (mWarm (F 23 x.toNatClampNeg))))) else ws.set 12 (am, .inr (9, mF ad (upd z 0 (cdOne x (nI nR))) wi dm)))) A) 0 0 A := by
  refine ofM (cc := cX8_warm) (maxL := 4) (ret := some .int) (by decide) rfl (Nat.le_of_ble_eq_true rfl) ?_
  intro p e s m below meth c ls hx hb hr hlocks hml hown hts hin hl hP hK hD hA hS
  have hown : s.vm.findClass RX8 = some m.cls := hown
  have hiX8 : ∀ w ∈ u_ws RX8 TX8 39, w ∈ wsX8_warm := fun _ h => List.mem_cons_of_mem _ (List.mem_append_right _ h)
  have hl : lv_has ls 4 [(0, .ref am), (1, .int x)] := hl
  refine lv_aload_n hx hb dX8_warm_0 rfl (lv_at hl 0 rfl) ?_
  refine lv_iconst (v := 0) hx hb dX8_warm_1 (by decide) ?_
  refine va_put (D := G) (ci := 9) (v := .int (0 : Int32)) (ty := .int) (C := RX8) (T := TX8) (N := 39) hx hb hts hiX8 tyX8 tyX8_ok nmX8 hown hK hP hD hS 12 hm rfl 0 (by decide) (hts (.fieldLink RX8 86 "VortexpinModel" "thrown" "I") (List.mem_of_getElem? (i := 1) rfl)) (fun _ h9 => h9) rfl (by decide +kernel) (rfl) (rfl) (Nat.le_of_ble_eq_true rfl) dX8_warm_2 (fun H locs hP hD hS => ?_)
  have hP : va_P G vwCl ((ws).set 12 (am, .inr (9, mF ad (upd z 0 (0 : Int32)) wi dm))) H := hP
  have hD : va_D A ((ws).set 12 (am, .inr (9, mF ad (upd z 0 (0 : Int32)) wi dm))) := hD
  have hA23 := va_gs (k := 12) (e := (am, .inr (9, mF ad (upd z 0 (0 : Int32)) wi dm))) (by decide) hA23
  have hA24 := va_gs (k := 12) (e := (am, .inr (9, mF ad (upd z 0 (0 : Int32)) wi dm))) (by decide) hA24
  have hm := va_ge (e := (am, .inr (9, mF ad (upd z 0 (0 : Int32)) wi dm))) hm
  refine lv_iload_n hx hb dX8_warm_5 rfl (lv_at hl 1 rfl) ?_
  refine lv_iconst (v := 0) hx hb dX8_warm_6 (by decide) ?_
  refine lv_aload_n hx hb dX8_warm_7 rfl (lv_at hl 0 rfl) ?_
  refine va_get (D := G) (ci := 9) (v := .int (z 13)) (C := RX8) (T := TX8) (N := 39) hx hb hts hiX8 hown hK hP 12 hm rfl 13 (by decide) (hts (.fieldLink RX8 139 "VortexpinModel" "rings" "I") (List.mem_of_getElem? (i := 2) rfl)) (fun _ h9 => h9) rfl dX8_warm_8 ?_
  refine lv_iconst (v := 1) hx hb dX8_warm_11 (by decide) ?_
  refine lv_isub hx hb dX8_warm_12 ?_
  refine vp_callSi (va_Run.run (va_runS (As := [.int x, .int (0 : Int32), .int ((z 13) - (1 : Int32))]) (rest := []) ⟨hx, hb, hml, hown, hts⟩ (metX8_in l x (0 : Int32) ((z 13) - (1 : Int32))) (va_cwS 3 hts gX8_warm_X8_in rfl rfl rfl (by decide +kernel) ⟨Nat.le_of_ble_eq_true rfl, Nat.le_of_ble_eq_true rfl⟩) ⟨pc0_b, pc0_u⟩ rfl rfl hl.1 rfl (lv_room (Nat.le_of_ble_eq_true rfl)) dX8_warm_13 ⟨Nat.le_of_ble_eq_true rfl, Nat.le_of_ble_eq_true rfl⟩)) (fun r13 h13 => ?_)
  refine lv_if_ne (tgt := 25) hx hb dX8_warm_16 (by decide) (fun c16 => ?_) (fun c16 => ?_)
  · have k0 : ¬ (uK x (nI nR)) := fun q9 => c16 (h13.trans (mIn_0.mpr ((oR_uK (by rw [hz13]) (show nR < 2 ^ 31 by omega)).mpr q9)))
    refine lv_aload_n hx hb dX8_warm_25 rfl (lv_at hl 0 rfl) ?_
    refine va_get (D := G) (ci := 9) (v := .ref (ad 23)) (C := RX8) (T := TX8) (N := 39) hx hb hts hiX8 hown hK hP 12 hm rfl 16 (by decide) (hts (.fieldLink RX8 40 "VortexpinModel" "fluxOf" "[I") (List.mem_of_getElem? (i := 3) rfl)) (fun _ h9 => h9) rfl dX8_warm_26 ?_
    refine lv_iload_n hx hb dX8_warm_29 rfl (lv_at hl 1 rfl) ?_
    refine va_iald hx hb hK hP 23 0 hA23 htI (vp_uK (n := 6) (fun q9 => k0 (uK_up q9 h60nR (by decide)))) dX8_warm_30 ?_
    refine lv_sipush (v := 500) hx hb dX8_warm_31 (by decide) ?_
    refine lv_iadd hx hb dX8_warm_34 ?_
    refine lv_istore_n (lv' := [(2, .int (((F 23) x.toNatClampNeg) + (500 : Int32))), (0, .ref am), (1, .int x)]) hx hb dX8_warm_35 rfl hl (by decide) rfl (fun ls hl => ?_)
    refine lv_iload_n hx hb dX8_warm_36 rfl (lv_at hl 0 rfl) ?_
    refine lv_sipush (v := 1000) hx hb dX8_warm_37 (by decide) ?_
    refine lv_idiv hx hb dX8_warm_40 (by decide) ?_
    refine lv_istore_n (lv' := [(3, .int ((((F 23) x.toNatClampNeg) + (500 : Int32)) / (1000 : Int32))), (2, .int (((F 23) x.toNatClampNeg) + (500 : Int32))), (0, .ref am), (1, .int x)]) hx hb dX8_warm_41 rfl hl (by decide) rfl (fun ls hl => ?_)
    refine lv_aload_n hx hb dX8_warm_42 rfl (lv_at hl 2 rfl) ?_
    refine va_get (D := G) (ci := 9) (v := .ref (ad 24)) (C := RX8) (T := TX8) (N := 39) hx hb hts hiX8 hown hK hP 12 hm rfl 17 (by decide) (hts (.fieldLink RX8 43 "VortexpinModel" "number" "[I") (List.mem_of_getElem? (i := 4) rfl)) (fun _ h9 => h9) rfl dX8_warm_43 ?_
    refine lv_iload_n hx hb dX8_warm_46 rfl (lv_at hl 3 rfl) ?_
    refine lv_iload_n hx hb dX8_warm_47 rfl (lv_at hl 0 rfl) ?_
    refine lv_sipush (v := 1000) hx hb dX8_warm_48 (by decide) ?_
    refine lv_imul hx hb dX8_warm_51 ?_
    refine lv_iload_n hx hb dX8_warm_52 rfl (lv_at hl 1 rfl) ?_
    refine lv_icmp_le (tgt := 62) hx hb dX8_warm_53 (by decide) (fun c53 => ?_) (fun c53 => ?_)
    · refine lv_iload_n hx hb dX8_warm_62 rfl (lv_at hl 0 rfl) ?_
      refine va_iast hx hb hK hP hD hS 24 0 hA24 htI (vp_uK (n := 6) (fun q9 => k0 (uK_up q9 h60nR (by decide)))) dX8_warm_63 (fun H locs hP hD hS => ?_)
      have hm := va_gs (k := 24) (e := (ad 24, .inl (cI, 6, .inl (upd (F 24) x.toNatClampNeg ((((F 23) x.toNatClampNeg) + (500 : Int32)) / (1000 : Int32)))))) (by decide) hm
      have hA23 := va_gs (k := 24) (e := (ad 24, .inl (cI, 6, .inl (upd (F 24) x.toNatClampNeg ((((F 23) x.toNatClampNeg) + (500 : Int32)) / (1000 : Int32)))))) (by decide) hA23
      have hA24 := va_ge (e := (ad 24, .inl (cI, 6, .inl (upd (F 24) x.toNatClampNeg ((((F 23) x.toNatClampNeg) + (500 : Int32)) / (1000 : Int32)))))) hA24
      refine lv_aload_n hx hb dX8_warm_64 rfl (lv_at hl 2 rfl) ?_
      refine va_get (D := G) (ci := 9) (v := .ref (ad 24)) (C := RX8) (T := TX8) (N := 39) hx hb hts hiX8 hown hK hP 12 hm rfl 17 (by decide) (hts (.fieldLink RX8 43 "VortexpinModel" "number" "[I") (List.mem_of_getElem? (i := 4) rfl)) (fun _ h9 => h9) rfl dX8_warm_65 ?_
      refine lv_iload_n hx hb dX8_warm_68 rfl (lv_at hl 3 rfl) ?_
      refine va_iald hx hb hK hP 24 0 hA24 htI (vp_uK (n := 6) (fun q9 => k0 (uK_up q9 h60nR (by decide)))) dX8_warm_69 ?_
      have hcd : cdOne x (nI nR) = 0 := by unfold cdOne; rw [if_neg k0]
      have ew : ((ws).set 12 (am, .inr (9, mF ad (upd z 0 (0 : Int32)) wi dm))).set 24 (ad 24, .inl (cI, 6, .inl (upd (F 24) x.toNatClampNeg ((((F 23) x.toNatClampNeg) + (500 : Int32)) / (1000 : Int32))))) = (if cdOne x (nI nR) = 0 then (ws.set 12 (am, .inr (9, mF ad (upd z 0 0) wi dm))).set 24 (ad 24, .inl (cI, 6, .inl (upd (F 24) x.toNatClampNeg (mWarm (F 23 x.toNatClampNeg))))) else ws.set 12 (am, .inr (9, mF ad (upd z 0 (cdOne x (nI nR))) wi dm))) := by rw [hcd, if_pos rfl]; unfold mWarm; simp only [c53, ↓reduceIte]
      have hP : va_P G vwCl (((ws).set 12 (am, .inr (9, mF ad (upd z 0 (0 : Int32)) wi dm))).set 24 (ad 24, .inl (cI, 6, .inl (upd (F 24) x.toNatClampNeg ((((F 23) x.toNatClampNeg) + (500 : Int32)) / (1000 : Int32)))))) H := hP
      have hD : va_D A (((ws).set 12 (am, .inr (9, mF ad (upd z 0 (0 : Int32)) wi dm))).set 24 (ad 24, .inl (cI, 6, .inl (upd (F 24) x.toNatClampNeg ((((F 23) x.toNatClampNeg) + (500 : Int32)) / (1000 : Int32)))))) := hD
      rw [ew] at hP hD
      exact W.iret (v := (upd (F 24) x.toNatClampNeg ((((F 23) x.toNatClampNeg) + (500 : Int32)) / (1000 : Int32))) x.toNatClampNeg) hx hb hr (fun t ht hW => ⟨⟨(upd (F 24) x.toNatClampNeg ((((F 23) x.toNatClampNeg) + (500 : Int32)) / (1000 : Int32))) x.toNatClampNeg, (), rfl, (fun _ => by unfold upd mWarm; simp only [c53, ↓reduceIte]), by show va_P G vwCl _ t.heap ∧ va_D A _; rw [ht]; exact ⟨hP, hD⟩⟩, hS.F ht⟩) hS.2.2 dX8_warm_70
    · refine lv_iload_n hx hb dX8_warm_56 rfl (lv_at hl 0 rfl) ?_
      refine lv_iconst (v := 1) hx hb dX8_warm_57 (by decide) ?_
      refine lv_isub hx hb dX8_warm_58 ?_
      refine lv_goto (tgt := 63) hx hb dX8_warm_59 (by decide) ?_
      refine va_iast hx hb hK hP hD hS 24 0 hA24 htI (vp_uK (n := 6) (fun q9 => k0 (uK_up q9 h60nR (by decide)))) dX8_warm_63 (fun H locs hP hD hS => ?_)
      have hm := va_gs (k := 24) (e := (ad 24, .inl (cI, 6, .inl (upd (F 24) x.toNatClampNeg (((((F 23) x.toNatClampNeg) + (500 : Int32)) / (1000 : Int32)) - (1 : Int32)))))) (by decide) hm
      have hA23 := va_gs (k := 24) (e := (ad 24, .inl (cI, 6, .inl (upd (F 24) x.toNatClampNeg (((((F 23) x.toNatClampNeg) + (500 : Int32)) / (1000 : Int32)) - (1 : Int32)))))) (by decide) hA23
      have hA24 := va_ge (e := (ad 24, .inl (cI, 6, .inl (upd (F 24) x.toNatClampNeg (((((F 23) x.toNatClampNeg) + (500 : Int32)) / (1000 : Int32)) - (1 : Int32)))))) hA24
      refine lv_aload_n hx hb dX8_warm_64 rfl (lv_at hl 2 rfl) ?_
      refine va_get (D := G) (ci := 9) (v := .ref (ad 24)) (C := RX8) (T := TX8) (N := 39) hx hb hts hiX8 hown hK hP 12 hm rfl 17 (by decide) (hts (.fieldLink RX8 43 "VortexpinModel" "number" "[I") (List.mem_of_getElem? (i := 4) rfl)) (fun _ h9 => h9) rfl dX8_warm_65 ?_
      refine lv_iload_n hx hb dX8_warm_68 rfl (lv_at hl 3 rfl) ?_
      refine va_iald hx hb hK hP 24 0 hA24 htI (vp_uK (n := 6) (fun q9 => k0 (uK_up q9 h60nR (by decide)))) dX8_warm_69 ?_
      have hcd : cdOne x (nI nR) = 0 := by unfold cdOne; rw [if_neg k0]
      have ew : ((ws).set 12 (am, .inr (9, mF ad (upd z 0 (0 : Int32)) wi dm))).set 24 (ad 24, .inl (cI, 6, .inl (upd (F 24) x.toNatClampNeg (((((F 23) x.toNatClampNeg) + (500 : Int32)) / (1000 : Int32)) - (1 : Int32))))) = (if cdOne x (nI nR) = 0 then (ws.set 12 (am, .inr (9, mF ad (upd z 0 0) wi dm))).set 24 (ad 24, .inl (cI, 6, .inl (upd (F 24) x.toNatClampNeg (mWarm (F 23 x.toNatClampNeg))))) else ws.set 12 (am, .inr (9, mF ad (upd z 0 (cdOne x (nI nR))) wi dm))) := by rw [hcd, if_pos rfl]; unfold mWarm; simp only [c53, ↓reduceIte]
      have hP : va_P G vwCl (((ws).set 12 (am, .inr (9, mF ad (upd z 0 (0 : Int32)) wi dm))).set 24 (ad 24, .inl (cI, 6, .inl (upd (F 24) x.toNatClampNeg (((((F 23) x.toNatClampNeg) + (500 : Int32)) / (1000 : Int32)) - (1 : Int32)))))) H := hP
      have hD : va_D A (((ws).set 12 (am, .inr (9, mF ad (upd z 0 (0 : Int32)) wi dm))).set 24 (ad 24, .inl (cI, 6, .inl (upd (F 24) x.toNatClampNeg (((((F 23) x.toNatClampNeg) + (500 : Int32)) / (1000 : Int32)) - (1 : Int32)))))) := hD
      rw [ew] at hP hD
      exact W.iret (v := (upd (F 24) x.toNatClampNeg (((((F 23) x.toNatClampNeg) + (500 : Int32)) / (1000 : Int32)) - (1 : Int32))) x.toNatClampNeg) hx hb hr (fun t ht hW => ⟨⟨(upd (F 24) x.toNatClampNeg (((((F 23) x.toNatClampNeg) + (500 : Int32)) / (1000 : Int32)) - (1 : Int32))) x.toNatClampNeg, (), rfl, (fun _ => by unfold upd mWarm; simp only [c53, ↓reduceIte]), by show va_P G vwCl _ t.heap ∧ va_D A _; rw [ht]; exact ⟨hP, hD⟩⟩, hS.F ht⟩) hS.2.2 dX8_warm_70
  · have hbd : uK x (nI nR) := (oR_uK (by rw [hz13]) (show nR < 2 ^ 31 by omega)).mp (mIn_0.mp (h13.symm.trans c16))
    skip
    refine lv_aload_n hx hb dX8_warm_19 rfl (lv_at hl 0 rfl) ?_
    refine lv_iconst (v := 1) hx hb dX8_warm_20 (by decide) ?_
    refine va_calli (va_runV (As := [.int (1 : Int32)]) (rest := []) ⟨hx, hb, hml, hown, hts⟩ (metX8_stop l G tys _ hm (1 : Int32)) (cwV 1 hts gX8_warm_X8_stop rfl rfl rfl (by decide +kernel) ⟨Nat.le_of_ble_eq_true rfl, Nat.le_of_ble_eq_true rfl⟩) ⟨pcM_b, va_recv hK hP (ci := 9) (q0 := 12) rfl hm, pcM_u hP hK hD hS hA⟩ rfl rfl hl.1 rfl (lv_room (Nat.le_of_ble_eq_true rfl)) dX8_warm_21 ⟨Nat.le_of_ble_eq_true rfl, Nat.le_of_ble_eq_true rfl⟩) hS (fun q _ h => h) (fun q h => h) (fun r21 u t H locs ht hvm h21 hB hsz hk1 hS => ?_)
    rw [ht] at hB
    have hB := hB.1
    have hD := hD.set (e := .inr (9, mF ad (upd (upd z 0 (0 : Int32)) 0 (1 : Int32)) wi dm)) hm
    have hA23 := va_gs (k := 12) (e := (am, .inr (9, mF ad (upd (upd z 0 (0 : Int32)) 0 (1 : Int32)) wi dm))) (by decide) hA23
    have hA24 := va_gs (k := 12) (e := (am, .inr (9, mF ad (upd (upd z 0 (0 : Int32)) 0 (1 : Int32)) wi dm))) (by decide) hA24
    have hm := va_ge (e := (am, .inr (9, mF ad (upd (upd z 0 (0 : Int32)) 0 (1 : Int32)) wi dm))) hm
    have hP : va_P G vwCl (((ws).set 12 (am, .inr (9, mF ad (upd z 0 (0 : Int32)) wi dm))).set 12 (am, .inr (9, mF ad (upd (upd z 0 (0 : Int32)) 0 (1 : Int32)) wi dm))) H := hB
    have hD : va_D A (((ws).set 12 (am, .inr (9, mF ad (upd z 0 (0 : Int32)) wi dm))).set 12 (am, .inr (9, mF ad (upd (upd z 0 (0 : Int32)) 0 (1 : Int32)) wi dm))) := hD
    have hcd : cdOne x (nI nR) = 1 := by unfold cdOne; rw [if_pos hbd]
    have ew : ((ws).set 12 (am, .inr (9, mF ad (upd z 0 (0 : Int32)) wi dm))).set 12 (am, .inr (9, mF ad (upd (upd z 0 (0 : Int32)) 0 (1 : Int32)) wi dm)) = (if cdOne x (nI nR) = 0 then (ws.set 12 (am, .inr (9, mF ad (upd z 0 0) wi dm))).set 24 (ad 24, .inl (cI, 6, .inl (upd (F 24) x.toNatClampNeg (mWarm (F 23 x.toNatClampNeg))))) else ws.set 12 (am, .inr (9, mF ad (upd z 0 (cdOne x (nI nR))) wi dm))) := by rw [hcd, if_neg (by decide), List.set_set, upd_upd]
    have hP : va_P G vwCl (((ws).set 12 (am, .inr (9, mF ad (upd z 0 (0 : Int32)) wi dm))).set 12 (am, .inr (9, mF ad (upd (upd z 0 (0 : Int32)) 0 (1 : Int32)) wi dm))) H := hP
    have hD : va_D A (((ws).set 12 (am, .inr (9, mF ad (upd z 0 (0 : Int32)) wi dm))).set 12 (am, .inr (9, mF ad (upd (upd z 0 (0 : Int32)) 0 (1 : Int32)) wi dm))) := hD
    rw [ew] at hP hD
    exact W.iret (v := r21) hx hb hr (fun t ht hW => ⟨⟨r21, (), rfl, (fun h0 => absurd (hcd.symm.trans h0) (by decide)), by show va_P G vwCl _ t.heap ∧ va_D A _; rw [ht]; exact ⟨hP, hD⟩⟩, hS.F ht⟩) hS.2.2 dX8_warm_24
set_option maxHeartbeats 1000000 in
set_option maxRecDepth 100000 in
theorem metX8_point (l : Launch) (G : va_G) (tys : List (ClassId × FieldType)) {cI : ClassId} (htI : tI tys cI) {A : Nat → Prop} (ws : va_W) {am : Nat} {ad : Nat → Nat} {z : Nat → Int32} {wi dm : Int64} {F : Nat → Nat → Int32} (hm : ws[12]? = some (am, .inr (9, mF ad z wi dm))) (hA28 : ws[28]? = some (ad 28, .inl (cI, 60, .inl (F 28)))) (hA29 : ws[29]? = some (ad 29, .inl (cI, 60, .inl (F 29)))) (hA30 : ws[30]? = some (ad 30, .inl (cI, 60, .inl (F 30)))) {nP : Nat} (hz29 : z 29 = nI nP) (h60nP : nP ≤ 60) (x y w : Int32) : Met l yX8_point wsX8_point ({ frames := 1, cells := 0, slots := 0, locals := 22 }) (pcM G tys ws A [.ref am, .int x, .int y, .int w]) (va_Qi (fun (r : Int32) (_ : Unit) => cdPoint x y w (nI nP) = 0 → r = z 29 + 1) (fun _ t => va_P G vwCl (if cdPoint x y w (nI nP) = 0 then (((((ws).set 12 (am, .inr (9, mF ad (upd z 0 (0 : Int32)) wi dm))).set 28 (ad 28, .inl (cI, 60, .inl (upd (F 28) (z 29).toNatClampNeg x)))).set 29 (ad 29, .inl (cI, 60, .inl (upd (F 29) (z 29).toNatClampNeg y)))).set 30 (ad 30, .inl (cI, 60, .inl (upd (F 30) (z 29).toNatClampNeg w)))).set 12 (am, .inr (9, mF ad (upd (upd z 0 (0 : Int32)) 29 ((z 29) + (1 : Int32))) wi dm)) else ws.set 12 (am, .inr (9, mF ad (upd z 0 (cdPoint x y w (nI nP))) wi dm))) t.heap ∧ va_D A (if cdPoint x y w (nI nP) = 0 then (((((ws).set 12 (am, .inr (9, mF ad (upd z 0 (0 : Int32)) wi dm))).set 28 (ad 28, .inl (cI, 60, .inl (upd (F 28) (z 29).toNatClampNeg x)))).set 29 (ad 29, .inl (cI, 60, .inl (upd (F 29) (z 29).toNatClampNeg y)))).set 30 (ad 30, .inl (cI, 60, .inl (upd (F 30) (z 29).toNatClampNeg w)))).set 12 (am, .inr (9, mF ad (upd (upd z 0 (0 : Int32)) 29 ((z 29) + (1 : Int32))) wi dm)) else ws.set 12 (am, .inr (9, mF ad (upd z 0 (cdPoint x y w (nI nP))) wi dm)))) A) 0 0 A := by
  refine ofM (cc := cX8_point) (maxL := 4) (ret := some .int) (by decide) rfl (Nat.le_of_ble_eq_true rfl) ?_
  intro p e s m below meth c ls hx hb hr hlocks hml hown hts hin hl hP hK hD hA hS
  have hown : s.vm.findClass RX8 = some m.cls := hown
  have hiX8 : ∀ w ∈ u_ws RX8 TX8 39, w ∈ wsX8_point := fun _ h => List.mem_cons_of_mem _ (List.mem_append_right _ h)
  have hl : lv_has ls 4 [(0, .ref am), (1, .int x), (2, .int y), (3, .int w)] := hl
  refine lv_aload_n hx hb dX8_point_0 rfl (lv_at hl 0 rfl) ?_
  refine lv_iconst (v := 0) hx hb dX8_point_1 (by decide) ?_
  refine va_put (D := G) (ci := 9) (v := .int (0 : Int32)) (ty := .int) (C := RX8) (T := TX8) (N := 39) hx hb hts hiX8 tyX8 tyX8_ok nmX8 hown hK hP hD hS 12 hm rfl 0 (by decide) (hts (.fieldLink RX8 86 "VortexpinModel" "thrown" "I") (List.mem_of_getElem? (i := 1) rfl)) (fun _ h9 => h9) rfl (by decide +kernel) (rfl) (rfl) (Nat.le_of_ble_eq_true rfl) dX8_point_2 (fun H locs hP hD hS => ?_)
  have hP : va_P G vwCl ((ws).set 12 (am, .inr (9, mF ad (upd z 0 (0 : Int32)) wi dm))) H := hP
  have hD : va_D A ((ws).set 12 (am, .inr (9, mF ad (upd z 0 (0 : Int32)) wi dm))) := hD
  have hA28 := va_gs (k := 12) (e := (am, .inr (9, mF ad (upd z 0 (0 : Int32)) wi dm))) (by decide) hA28
  have hA29 := va_gs (k := 12) (e := (am, .inr (9, mF ad (upd z 0 (0 : Int32)) wi dm))) (by decide) hA29
  have hA30 := va_gs (k := 12) (e := (am, .inr (9, mF ad (upd z 0 (0 : Int32)) wi dm))) (by decide) hA30
  have hm := va_ge (e := (am, .inr (9, mF ad (upd z 0 (0 : Int32)) wi dm))) hm
  refine lv_iload_n hx hb dX8_point_5 rfl (lv_at hl 1 rfl) ?_
  refine lv_iconst (v := 0) hx hb dX8_point_6 (by decide) ?_
  refine lv_sipush (v := 300) hx hb dX8_point_7 (by decide) ?_
  refine vp_callSi (va_Run.run (va_runS (As := [.int x, .int (0 : Int32), .int (300 : Int32)]) (rest := []) ⟨hx, hb, hml, hown, hts⟩ (metX8_in l x (0 : Int32) (300 : Int32)) (va_cwS 3 hts gX8_point_X8_in rfl rfl rfl (by decide +kernel) ⟨Nat.le_of_ble_eq_true rfl, Nat.le_of_ble_eq_true rfl⟩) ⟨pc0_b, pc0_u⟩ rfl rfl hl.1 rfl (lv_room (Nat.le_of_ble_eq_true rfl)) dX8_point_10 ⟨Nat.le_of_ble_eq_true rfl, Nat.le_of_ble_eq_true rfl⟩)) (fun r10 h10 => ?_)
  refine lv_if_eq (tgt := 40) hx hb dX8_point_13 (by decide) (fun c13 => ?_) (fun c13 => ?_)
  · have hbd : oR x 0 300 := mIn_0.mp (h10.symm.trans c13)
    skip
    refine lv_aload_n hx hb dX8_point_40 rfl (lv_at hl 0 rfl) ?_
    refine lv_iconst (v := 1) hx hb dX8_point_41 (by decide) ?_
    refine va_calli (va_runV (As := [.int (1 : Int32)]) (rest := []) ⟨hx, hb, hml, hown, hts⟩ (metX8_stop l G tys _ hm (1 : Int32)) (cwV 1 hts gX8_point_X8_stop rfl rfl rfl (by decide +kernel) ⟨Nat.le_of_ble_eq_true rfl, Nat.le_of_ble_eq_true rfl⟩) ⟨pcM_b, va_recv hK hP (ci := 9) (q0 := 12) rfl hm, pcM_u hP hK hD hS hA⟩ rfl rfl hl.1 rfl (lv_room (Nat.le_of_ble_eq_true rfl)) dX8_point_42 ⟨Nat.le_of_ble_eq_true rfl, Nat.le_of_ble_eq_true rfl⟩) hS (fun q _ h => h) (fun q h => h) (fun r42 u t H locs ht hvm h42 hB hsz hk1 hS => ?_)
    rw [ht] at hB
    have hB := hB.1
    have hD := hD.set (e := .inr (9, mF ad (upd (upd z 0 (0 : Int32)) 0 (1 : Int32)) wi dm)) hm
    have hA28 := va_gs (k := 12) (e := (am, .inr (9, mF ad (upd (upd z 0 (0 : Int32)) 0 (1 : Int32)) wi dm))) (by decide) hA28
    have hA29 := va_gs (k := 12) (e := (am, .inr (9, mF ad (upd (upd z 0 (0 : Int32)) 0 (1 : Int32)) wi dm))) (by decide) hA29
    have hA30 := va_gs (k := 12) (e := (am, .inr (9, mF ad (upd (upd z 0 (0 : Int32)) 0 (1 : Int32)) wi dm))) (by decide) hA30
    have hm := va_ge (e := (am, .inr (9, mF ad (upd (upd z 0 (0 : Int32)) 0 (1 : Int32)) wi dm))) hm
    have hP : va_P G vwCl (((ws).set 12 (am, .inr (9, mF ad (upd z 0 (0 : Int32)) wi dm))).set 12 (am, .inr (9, mF ad (upd (upd z 0 (0 : Int32)) 0 (1 : Int32)) wi dm))) H := hB
    have hD : va_D A (((ws).set 12 (am, .inr (9, mF ad (upd z 0 (0 : Int32)) wi dm))).set 12 (am, .inr (9, mF ad (upd (upd z 0 (0 : Int32)) 0 (1 : Int32)) wi dm))) := hD
    have hcd : cdPoint x y w (nI nP) = 1 := by unfold cdPoint; rw [if_pos hbd]
    have ew : ((ws).set 12 (am, .inr (9, mF ad (upd z 0 (0 : Int32)) wi dm))).set 12 (am, .inr (9, mF ad (upd (upd z 0 (0 : Int32)) 0 (1 : Int32)) wi dm)) = (if cdPoint x y w (nI nP) = 0 then (((((ws).set 12 (am, .inr (9, mF ad (upd z 0 (0 : Int32)) wi dm))).set 28 (ad 28, .inl (cI, 60, .inl (upd (F 28) (z 29).toNatClampNeg x)))).set 29 (ad 29, .inl (cI, 60, .inl (upd (F 29) (z 29).toNatClampNeg y)))).set 30 (ad 30, .inl (cI, 60, .inl (upd (F 30) (z 29).toNatClampNeg w)))).set 12 (am, .inr (9, mF ad (upd (upd z 0 (0 : Int32)) 29 ((z 29) + (1 : Int32))) wi dm)) else ws.set 12 (am, .inr (9, mF ad (upd z 0 (cdPoint x y w (nI nP))) wi dm))) := by rw [hcd, if_neg (by decide), List.set_set, upd_upd]
    have hP : va_P G vwCl (((ws).set 12 (am, .inr (9, mF ad (upd z 0 (0 : Int32)) wi dm))).set 12 (am, .inr (9, mF ad (upd (upd z 0 (0 : Int32)) 0 (1 : Int32)) wi dm))) H := hP
    have hD : va_D A (((ws).set 12 (am, .inr (9, mF ad (upd z 0 (0 : Int32)) wi dm))).set 12 (am, .inr (9, mF ad (upd (upd z 0 (0 : Int32)) 0 (1 : Int32)) wi dm))) := hD
    rw [ew] at hP hD
    exact W.iret (v := r42) hx hb hr (fun t ht hW => ⟨⟨r42, (), rfl, (fun h0 => absurd (hcd.symm.trans h0) (by decide)), by show va_P G vwCl _ t.heap ∧ va_D A _; rw [ht]; exact ⟨hP, hD⟩⟩, hS.F ht⟩) hS.2.2 dX8_point_45
  · have k0 : ¬ (oR x 0 300) := fun q9 => c13 (h10.trans (mIn_0.mpr q9))
    refine lv_iload_n hx hb dX8_point_16 rfl (lv_at hl 2 rfl) ?_
    refine lv_sipush (v := -1000) hx hb dX8_point_17 (by decide) ?_
    refine lv_sipush (v := 1000) hx hb dX8_point_20 (by decide) ?_
    refine vp_callSi (va_Run.run (va_runS (As := [.int y, .int (-1000 : Int32), .int (1000 : Int32)]) (rest := []) ⟨hx, hb, hml, hown, hts⟩ (metX8_in l y (-1000 : Int32) (1000 : Int32)) (va_cwS 3 hts gX8_point_X8_in rfl rfl rfl (by decide +kernel) ⟨Nat.le_of_ble_eq_true rfl, Nat.le_of_ble_eq_true rfl⟩) ⟨pc0_b, pc0_u⟩ rfl rfl hl.1 rfl (lv_room (Nat.le_of_ble_eq_true rfl)) dX8_point_23 ⟨Nat.le_of_ble_eq_true rfl, Nat.le_of_ble_eq_true rfl⟩)) (fun r23 h23 => ?_)
    refine lv_if_eq (tgt := 40) hx hb dX8_point_26 (by decide) (fun c26 => ?_) (fun c26 => ?_)
    · have hbd : oR y (-1000) 1000 := mIn_0.mp (h23.symm.trans c26)
      skip
      refine lv_aload_n hx hb dX8_point_40 rfl (lv_at hl 0 rfl) ?_
      refine lv_iconst (v := 1) hx hb dX8_point_41 (by decide) ?_
      refine va_calli (va_runV (As := [.int (1 : Int32)]) (rest := []) ⟨hx, hb, hml, hown, hts⟩ (metX8_stop l G tys _ hm (1 : Int32)) (cwV 1 hts gX8_point_X8_stop rfl rfl rfl (by decide +kernel) ⟨Nat.le_of_ble_eq_true rfl, Nat.le_of_ble_eq_true rfl⟩) ⟨pcM_b, va_recv hK hP (ci := 9) (q0 := 12) rfl hm, pcM_u hP hK hD hS hA⟩ rfl rfl hl.1 rfl (lv_room (Nat.le_of_ble_eq_true rfl)) dX8_point_42 ⟨Nat.le_of_ble_eq_true rfl, Nat.le_of_ble_eq_true rfl⟩) hS (fun q _ h => h) (fun q h => h) (fun r42 u t H locs ht hvm h42 hB hsz hk1 hS => ?_)
      rw [ht] at hB
      have hB := hB.1
      have hD := hD.set (e := .inr (9, mF ad (upd (upd z 0 (0 : Int32)) 0 (1 : Int32)) wi dm)) hm
      have hA28 := va_gs (k := 12) (e := (am, .inr (9, mF ad (upd (upd z 0 (0 : Int32)) 0 (1 : Int32)) wi dm))) (by decide) hA28
      have hA29 := va_gs (k := 12) (e := (am, .inr (9, mF ad (upd (upd z 0 (0 : Int32)) 0 (1 : Int32)) wi dm))) (by decide) hA29
      have hA30 := va_gs (k := 12) (e := (am, .inr (9, mF ad (upd (upd z 0 (0 : Int32)) 0 (1 : Int32)) wi dm))) (by decide) hA30
      have hm := va_ge (e := (am, .inr (9, mF ad (upd (upd z 0 (0 : Int32)) 0 (1 : Int32)) wi dm))) hm
      have hP : va_P G vwCl (((ws).set 12 (am, .inr (9, mF ad (upd z 0 (0 : Int32)) wi dm))).set 12 (am, .inr (9, mF ad (upd (upd z 0 (0 : Int32)) 0 (1 : Int32)) wi dm))) H := hB
      have hD : va_D A (((ws).set 12 (am, .inr (9, mF ad (upd z 0 (0 : Int32)) wi dm))).set 12 (am, .inr (9, mF ad (upd (upd z 0 (0 : Int32)) 0 (1 : Int32)) wi dm))) := hD
      have hcd : cdPoint x y w (nI nP) = 1 := by unfold cdPoint; rw [if_neg k0, if_pos hbd]
      have ew : ((ws).set 12 (am, .inr (9, mF ad (upd z 0 (0 : Int32)) wi dm))).set 12 (am, .inr (9, mF ad (upd (upd z 0 (0 : Int32)) 0 (1 : Int32)) wi dm)) = (if cdPoint x y w (nI nP) = 0 then (((((ws).set 12 (am, .inr (9, mF ad (upd z 0 (0 : Int32)) wi dm))).set 28 (ad 28, .inl (cI, 60, .inl (upd (F 28) (z 29).toNatClampNeg x)))).set 29 (ad 29, .inl (cI, 60, .inl (upd (F 29) (z 29).toNatClampNeg y)))).set 30 (ad 30, .inl (cI, 60, .inl (upd (F 30) (z 29).toNatClampNeg w)))).set 12 (am, .inr (9, mF ad (upd (upd z 0 (0 : Int32)) 29 ((z 29) + (1 : Int32))) wi dm)) else ws.set 12 (am, .inr (9, mF ad (upd z 0 (cdPoint x y w (nI nP))) wi dm))) := by rw [hcd, if_neg (by decide), List.set_set, upd_upd]
      have hP : va_P G vwCl (((ws).set 12 (am, .inr (9, mF ad (upd z 0 (0 : Int32)) wi dm))).set 12 (am, .inr (9, mF ad (upd (upd z 0 (0 : Int32)) 0 (1 : Int32)) wi dm))) H := hP
      have hD : va_D A (((ws).set 12 (am, .inr (9, mF ad (upd z 0 (0 : Int32)) wi dm))).set 12 (am, .inr (9, mF ad (upd (upd z 0 (0 : Int32)) 0 (1 : Int32)) wi dm))) := hD
      rw [ew] at hP hD
      exact W.iret (v := r42) hx hb hr (fun t ht hW => ⟨⟨r42, (), rfl, (fun h0 => absurd (hcd.symm.trans h0) (by decide)), by show va_P G vwCl _ t.heap ∧ va_D A _; rw [ht]; exact ⟨hP, hD⟩⟩, hS.F ht⟩) hS.2.2 dX8_point_45
    · have k1 : ¬ (oR y (-1000) 1000) := fun q9 => c26 (h23.trans (mIn_0.mpr q9))
      refine lv_iload_n hx hb dX8_point_29 rfl (lv_at hl 3 rfl) ?_
      refine lv_ldc (v := -1000000) hx hb hown (hts (.constant RX8 142 (-1000000)) (List.mem_of_getElem? (i := 2) rfl)) dX8_point_30 ?_
      refine lv_ldc (v := 1000000) hx hb hown (hts (.constant RX8 143 (1000000)) (List.mem_of_getElem? (i := 3) rfl)) dX8_point_32 ?_
      refine vp_callSi (va_Run.run (va_runS (As := [.int w, .int (-1000000 : Int32), .int (1000000 : Int32)]) (rest := []) ⟨hx, hb, hml, hown, hts⟩ (metX8_in l w (-1000000 : Int32) (1000000 : Int32)) (va_cwS 3 hts gX8_point_X8_in rfl rfl rfl (by decide +kernel) ⟨Nat.le_of_ble_eq_true rfl, Nat.le_of_ble_eq_true rfl⟩) ⟨pc0_b, pc0_u⟩ rfl rfl hl.1 rfl (lv_room (Nat.le_of_ble_eq_true rfl)) dX8_point_34 ⟨Nat.le_of_ble_eq_true rfl, Nat.le_of_ble_eq_true rfl⟩)) (fun r34 h34 => ?_)
      refine lv_if_ne (tgt := 46) hx hb dX8_point_37 (by decide) (fun c37 => ?_) (fun c37 => ?_)
      · have k2 : ¬ (oR w (-1000000) 1000000) := fun q9 => c37 (h34.trans (mIn_0.mpr q9))
        refine lv_aload_n hx hb dX8_point_46 rfl (lv_at hl 0 rfl) ?_
        refine va_get (D := G) (ci := 9) (v := .int (z 29)) (C := RX8) (T := TX8) (N := 39) hx hb hts hiX8 hown hK hP 12 hm rfl 29 (by decide) (hts (.fieldLink RX8 189 "VortexpinModel" "points" "I") (List.mem_of_getElem? (i := 4) rfl)) (fun _ h9 => h9) rfl dX8_point_47 ?_
        refine lv_bipush (v := 60) hx hb dX8_point_50 (by decide) ?_
        refine lv_icmp_ne (tgt := 61) hx hb dX8_point_52 (by decide) (fun c52 => ?_) (fun c52 => ?_)
        · have k3 : ¬ (60 : Int32) ≤ nI nP := fun q9 => c52 (by rw [hz29]; exact (full_n h60nP (by decide)).mpr q9)
          refine lv_aload_n hx hb dX8_point_61 rfl (lv_at hl 0 rfl) ?_
          refine va_get (D := G) (ci := 9) (v := .ref (ad 28)) (C := RX8) (T := TX8) (N := 39) hx hb hts hiX8 hown hK hP 12 hm rfl 30 (by decide) (hts (.fieldLink RX8 62 "VortexpinModel" "pointWarmth" "[I") (List.mem_of_getElem? (i := 5) rfl)) (fun _ h9 => h9) rfl dX8_point_62 ?_
          refine lv_aload_n hx hb dX8_point_65 rfl (lv_at hl 0 rfl) ?_
          refine va_get (D := G) (ci := 9) (v := .int (z 29)) (C := RX8) (T := TX8) (N := 39) hx hb hts hiX8 hown hK hP 12 hm rfl 29 (by decide) (hts (.fieldLink RX8 189 "VortexpinModel" "points" "I") (List.mem_of_getElem? (i := 4) rfl)) (fun _ h9 => h9) rfl dX8_point_66 ?_
          refine lv_iload_n hx hb dX8_point_69 rfl (lv_at hl 1 rfl) ?_
          refine va_iast hx hb hK hP hD hS 28 0 hA28 htI (by rw [hz29]; exact n_in h60nP (by decide) k3) dX8_point_70 (fun H locs hP hD hS => ?_)
          have hm := va_gs (k := 28) (e := (ad 28, .inl (cI, 60, .inl (upd (F 28) (z 29).toNatClampNeg x)))) (by decide) hm
          have hA29 := va_gs (k := 28) (e := (ad 28, .inl (cI, 60, .inl (upd (F 28) (z 29).toNatClampNeg x)))) (by decide) hA29
          have hA30 := va_gs (k := 28) (e := (ad 28, .inl (cI, 60, .inl (upd (F 28) (z 29).toNatClampNeg x)))) (by decide) hA30
          have hA28 := va_ge (e := (ad 28, .inl (cI, 60, .inl (upd (F 28) (z 29).toNatClampNeg x)))) hA28
          refine lv_aload_n hx hb dX8_point_71 rfl (lv_at hl 0 rfl) ?_
          refine va_get (D := G) (ci := 9) (v := .ref (ad 29)) (C := RX8) (T := TX8) (N := 39) hx hb hts hiX8 hown hK hP 12 hm rfl 31 (by decide) (hts (.fieldLink RX8 65 "VortexpinModel" "pointCurrent" "[I") (List.mem_of_getElem? (i := 6) rfl)) (fun _ h9 => h9) rfl dX8_point_72 ?_
          refine lv_aload_n hx hb dX8_point_75 rfl (lv_at hl 0 rfl) ?_
          refine va_get (D := G) (ci := 9) (v := .int (z 29)) (C := RX8) (T := TX8) (N := 39) hx hb hts hiX8 hown hK hP 12 hm rfl 29 (by decide) (hts (.fieldLink RX8 189 "VortexpinModel" "points" "I") (List.mem_of_getElem? (i := 4) rfl)) (fun _ h9 => h9) rfl dX8_point_76 ?_
          refine lv_iload_n hx hb dX8_point_79 rfl (lv_at hl 2 rfl) ?_
          refine va_iast hx hb hK hP hD hS 29 0 hA29 htI (by rw [hz29]; exact n_in h60nP (by decide) k3) dX8_point_80 (fun H locs hP hD hS => ?_)
          have hm := va_gs (k := 29) (e := (ad 29, .inl (cI, 60, .inl (upd (F 29) (z 29).toNatClampNeg y)))) (by decide) hm
          have hA28 := va_gs (k := 29) (e := (ad 29, .inl (cI, 60, .inl (upd (F 29) (z 29).toNatClampNeg y)))) (by decide) hA28
          have hA30 := va_gs (k := 29) (e := (ad 29, .inl (cI, 60, .inl (upd (F 29) (z 29).toNatClampNeg y)))) (by decide) hA30
          have hA29 := va_ge (e := (ad 29, .inl (cI, 60, .inl (upd (F 29) (z 29).toNatClampNeg y)))) hA29
          refine lv_aload_n hx hb dX8_point_81 rfl (lv_at hl 0 rfl) ?_
          refine va_get (D := G) (ci := 9) (v := .ref (ad 30)) (C := RX8) (T := TX8) (N := 39) hx hb hts hiX8 hown hK hP 12 hm rfl 32 (by decide) (hts (.fieldLink RX8 68 "VortexpinModel" "voltage" "[I") (List.mem_of_getElem? (i := 7) rfl)) (fun _ h9 => h9) rfl dX8_point_82 ?_
          refine lv_aload_n hx hb dX8_point_85 rfl (lv_at hl 0 rfl) ?_
          refine va_get (D := G) (ci := 9) (v := .int (z 29)) (C := RX8) (T := TX8) (N := 39) hx hb hts hiX8 hown hK hP 12 hm rfl 29 (by decide) (hts (.fieldLink RX8 189 "VortexpinModel" "points" "I") (List.mem_of_getElem? (i := 4) rfl)) (fun _ h9 => h9) rfl dX8_point_86 ?_
          refine lv_iload_n hx hb dX8_point_89 rfl (lv_at hl 3 rfl) ?_
          refine va_iast hx hb hK hP hD hS 30 0 hA30 htI (by rw [hz29]; exact n_in h60nP (by decide) k3) dX8_point_90 (fun H locs hP hD hS => ?_)
          have hm := va_gs (k := 30) (e := (ad 30, .inl (cI, 60, .inl (upd (F 30) (z 29).toNatClampNeg w)))) (by decide) hm
          have hA28 := va_gs (k := 30) (e := (ad 30, .inl (cI, 60, .inl (upd (F 30) (z 29).toNatClampNeg w)))) (by decide) hA28
          have hA29 := va_gs (k := 30) (e := (ad 30, .inl (cI, 60, .inl (upd (F 30) (z 29).toNatClampNeg w)))) (by decide) hA29
          have hA30 := va_ge (e := (ad 30, .inl (cI, 60, .inl (upd (F 30) (z 29).toNatClampNeg w)))) hA30
          refine lv_aload_n hx hb dX8_point_91 rfl (lv_at hl 0 rfl) ?_
          refine lv_dup hx hb dX8_point_92 rfl ?_
          refine va_get (D := G) (ci := 9) (v := .int (z 29)) (C := RX8) (T := TX8) (N := 39) hx hb hts hiX8 hown hK hP 12 hm rfl 29 (by decide) (hts (.fieldLink RX8 189 "VortexpinModel" "points" "I") (List.mem_of_getElem? (i := 4) rfl)) (fun _ h9 => h9) rfl dX8_point_93 ?_
          refine lv_iconst (v := 1) hx hb dX8_point_96 (by decide) ?_
          refine lv_iadd hx hb dX8_point_97 ?_
          refine va_put (D := G) (ci := 9) (v := .int ((z 29) + (1 : Int32))) (ty := .int) (C := RX8) (T := TX8) (N := 39) hx hb hts hiX8 tyX8 tyX8_ok nmX8 hown hK hP hD hS 12 hm rfl 29 (by decide) (hts (.fieldLink RX8 189 "VortexpinModel" "points" "I") (List.mem_of_getElem? (i := 4) rfl)) (fun _ h9 => h9) rfl (by decide +kernel) (rfl) (rfl) (Nat.le_of_ble_eq_true rfl) dX8_point_98 (fun H locs hP hD hS => ?_)
          have hP : va_P G vwCl ((((((ws).set 12 (am, .inr (9, mF ad (upd z 0 (0 : Int32)) wi dm))).set 28 (ad 28, .inl (cI, 60, .inl (upd (F 28) (z 29).toNatClampNeg x)))).set 29 (ad 29, .inl (cI, 60, .inl (upd (F 29) (z 29).toNatClampNeg y)))).set 30 (ad 30, .inl (cI, 60, .inl (upd (F 30) (z 29).toNatClampNeg w)))).set 12 (am, .inr (9, mF ad (upd (upd z 0 (0 : Int32)) 29 ((z 29) + (1 : Int32))) wi dm))) H := hP
          have hD : va_D A ((((((ws).set 12 (am, .inr (9, mF ad (upd z 0 (0 : Int32)) wi dm))).set 28 (ad 28, .inl (cI, 60, .inl (upd (F 28) (z 29).toNatClampNeg x)))).set 29 (ad 29, .inl (cI, 60, .inl (upd (F 29) (z 29).toNatClampNeg y)))).set 30 (ad 30, .inl (cI, 60, .inl (upd (F 30) (z 29).toNatClampNeg w)))).set 12 (am, .inr (9, mF ad (upd (upd z 0 (0 : Int32)) 29 ((z 29) + (1 : Int32))) wi dm))) := hD
          have hA28 := va_gs (k := 12) (e := (am, .inr (9, mF ad (upd (upd z 0 (0 : Int32)) 29 ((z 29) + (1 : Int32))) wi dm))) (by decide) hA28
          have hA29 := va_gs (k := 12) (e := (am, .inr (9, mF ad (upd (upd z 0 (0 : Int32)) 29 ((z 29) + (1 : Int32))) wi dm))) (by decide) hA29
          have hA30 := va_gs (k := 12) (e := (am, .inr (9, mF ad (upd (upd z 0 (0 : Int32)) 29 ((z 29) + (1 : Int32))) wi dm))) (by decide) hA30
          have hm := va_ge (e := (am, .inr (9, mF ad (upd (upd z 0 (0 : Int32)) 29 ((z 29) + (1 : Int32))) wi dm))) hm
          refine lv_aload_n hx hb dX8_point_101 rfl (lv_at hl 0 rfl) ?_
          refine va_get (D := G) (ci := 9) (v := .int ((z 29) + (1 : Int32))) (C := RX8) (T := TX8) (N := 39) hx hb hts hiX8 hown hK hP 12 hm rfl 29 (by decide) (hts (.fieldLink RX8 189 "VortexpinModel" "points" "I") (List.mem_of_getElem? (i := 4) rfl)) (fun _ h9 => h9) rfl dX8_point_102 ?_
          have hcd : cdPoint x y w (nI nP) = 0 := by unfold cdPoint; rw [if_neg k0, if_neg k1, if_neg k2, if_neg k3]
          have ew : (((((ws).set 12 (am, .inr (9, mF ad (upd z 0 (0 : Int32)) wi dm))).set 28 (ad 28, .inl (cI, 60, .inl (upd (F 28) (z 29).toNatClampNeg x)))).set 29 (ad 29, .inl (cI, 60, .inl (upd (F 29) (z 29).toNatClampNeg y)))).set 30 (ad 30, .inl (cI, 60, .inl (upd (F 30) (z 29).toNatClampNeg w)))).set 12 (am, .inr (9, mF ad (upd (upd z 0 (0 : Int32)) 29 ((z 29) + (1 : Int32))) wi dm)) = (if cdPoint x y w (nI nP) = 0 then (((((ws).set 12 (am, .inr (9, mF ad (upd z 0 (0 : Int32)) wi dm))).set 28 (ad 28, .inl (cI, 60, .inl (upd (F 28) (z 29).toNatClampNeg x)))).set 29 (ad 29, .inl (cI, 60, .inl (upd (F 29) (z 29).toNatClampNeg y)))).set 30 (ad 30, .inl (cI, 60, .inl (upd (F 30) (z 29).toNatClampNeg w)))).set 12 (am, .inr (9, mF ad (upd (upd z 0 (0 : Int32)) 29 ((z 29) + (1 : Int32))) wi dm)) else ws.set 12 (am, .inr (9, mF ad (upd z 0 (cdPoint x y w (nI nP))) wi dm))) := by rw [hcd, if_pos rfl]
          have hP : va_P G vwCl ((((((ws).set 12 (am, .inr (9, mF ad (upd z 0 (0 : Int32)) wi dm))).set 28 (ad 28, .inl (cI, 60, .inl (upd (F 28) (z 29).toNatClampNeg x)))).set 29 (ad 29, .inl (cI, 60, .inl (upd (F 29) (z 29).toNatClampNeg y)))).set 30 (ad 30, .inl (cI, 60, .inl (upd (F 30) (z 29).toNatClampNeg w)))).set 12 (am, .inr (9, mF ad (upd (upd z 0 (0 : Int32)) 29 ((z 29) + (1 : Int32))) wi dm))) H := hP
          have hD : va_D A ((((((ws).set 12 (am, .inr (9, mF ad (upd z 0 (0 : Int32)) wi dm))).set 28 (ad 28, .inl (cI, 60, .inl (upd (F 28) (z 29).toNatClampNeg x)))).set 29 (ad 29, .inl (cI, 60, .inl (upd (F 29) (z 29).toNatClampNeg y)))).set 30 (ad 30, .inl (cI, 60, .inl (upd (F 30) (z 29).toNatClampNeg w)))).set 12 (am, .inr (9, mF ad (upd (upd z 0 (0 : Int32)) 29 ((z 29) + (1 : Int32))) wi dm))) := hD
          rw [ew] at hP hD
          exact W.iret (v := (z 29) + (1 : Int32)) hx hb hr (fun t ht hW => ⟨⟨(z 29) + (1 : Int32), (), rfl, (fun _ => rfl), by show va_P G vwCl _ t.heap ∧ va_D A _; rw [ht]; exact ⟨hP, hD⟩⟩, hS.F ht⟩) hS.2.2 dX8_point_105
        · have hbd : (60 : Int32) ≤ nI nP := (full_n h60nP (by decide)).mp (by rw [← hz29]; exact c52)
          skip
          refine lv_aload_n hx hb dX8_point_55 rfl (lv_at hl 0 rfl) ?_
          refine lv_iconst (v := 2) hx hb dX8_point_56 (by decide) ?_
          refine va_calli (va_runV (As := [.int (2 : Int32)]) (rest := []) ⟨hx, hb, hml, hown, hts⟩ (metX8_stop l G tys _ hm (2 : Int32)) (cwV 1 hts gX8_point_X8_stop rfl rfl rfl (by decide +kernel) ⟨Nat.le_of_ble_eq_true rfl, Nat.le_of_ble_eq_true rfl⟩) ⟨pcM_b, va_recv hK hP (ci := 9) (q0 := 12) rfl hm, pcM_u hP hK hD hS hA⟩ rfl rfl hl.1 rfl (lv_room (Nat.le_of_ble_eq_true rfl)) dX8_point_57 ⟨Nat.le_of_ble_eq_true rfl, Nat.le_of_ble_eq_true rfl⟩) hS (fun q _ h => h) (fun q h => h) (fun r57 u t H locs ht hvm h57 hB hsz hk1 hS => ?_)
          rw [ht] at hB
          have hB := hB.1
          have hD := hD.set (e := .inr (9, mF ad (upd (upd z 0 (0 : Int32)) 0 (2 : Int32)) wi dm)) hm
          have hA28 := va_gs (k := 12) (e := (am, .inr (9, mF ad (upd (upd z 0 (0 : Int32)) 0 (2 : Int32)) wi dm))) (by decide) hA28
          have hA29 := va_gs (k := 12) (e := (am, .inr (9, mF ad (upd (upd z 0 (0 : Int32)) 0 (2 : Int32)) wi dm))) (by decide) hA29
          have hA30 := va_gs (k := 12) (e := (am, .inr (9, mF ad (upd (upd z 0 (0 : Int32)) 0 (2 : Int32)) wi dm))) (by decide) hA30
          have hm := va_ge (e := (am, .inr (9, mF ad (upd (upd z 0 (0 : Int32)) 0 (2 : Int32)) wi dm))) hm
          have hP : va_P G vwCl (((ws).set 12 (am, .inr (9, mF ad (upd z 0 (0 : Int32)) wi dm))).set 12 (am, .inr (9, mF ad (upd (upd z 0 (0 : Int32)) 0 (2 : Int32)) wi dm))) H := hB
          have hD : va_D A (((ws).set 12 (am, .inr (9, mF ad (upd z 0 (0 : Int32)) wi dm))).set 12 (am, .inr (9, mF ad (upd (upd z 0 (0 : Int32)) 0 (2 : Int32)) wi dm))) := hD
          have hcd : cdPoint x y w (nI nP) = 2 := by unfold cdPoint; rw [if_neg k0, if_neg k1, if_neg k2, if_pos hbd]
          have ew : ((ws).set 12 (am, .inr (9, mF ad (upd z 0 (0 : Int32)) wi dm))).set 12 (am, .inr (9, mF ad (upd (upd z 0 (0 : Int32)) 0 (2 : Int32)) wi dm)) = (if cdPoint x y w (nI nP) = 0 then (((((ws).set 12 (am, .inr (9, mF ad (upd z 0 (0 : Int32)) wi dm))).set 28 (ad 28, .inl (cI, 60, .inl (upd (F 28) (z 29).toNatClampNeg x)))).set 29 (ad 29, .inl (cI, 60, .inl (upd (F 29) (z 29).toNatClampNeg y)))).set 30 (ad 30, .inl (cI, 60, .inl (upd (F 30) (z 29).toNatClampNeg w)))).set 12 (am, .inr (9, mF ad (upd (upd z 0 (0 : Int32)) 29 ((z 29) + (1 : Int32))) wi dm)) else ws.set 12 (am, .inr (9, mF ad (upd z 0 (cdPoint x y w (nI nP))) wi dm))) := by rw [hcd, if_neg (by decide), List.set_set, upd_upd]
          have hP : va_P G vwCl (((ws).set 12 (am, .inr (9, mF ad (upd z 0 (0 : Int32)) wi dm))).set 12 (am, .inr (9, mF ad (upd (upd z 0 (0 : Int32)) 0 (2 : Int32)) wi dm))) H := hP
          have hD : va_D A (((ws).set 12 (am, .inr (9, mF ad (upd z 0 (0 : Int32)) wi dm))).set 12 (am, .inr (9, mF ad (upd (upd z 0 (0 : Int32)) 0 (2 : Int32)) wi dm))) := hD
          rw [ew] at hP hD
          exact W.iret (v := r57) hx hb hr (fun t ht hW => ⟨⟨r57, (), rfl, (fun h0 => absurd (hcd.symm.trans h0) (by decide)), by show va_P G vwCl _ t.heap ∧ va_D A _; rw [ht]; exact ⟨hP, hD⟩⟩, hS.F ht⟩) hS.2.2 dX8_point_60
      · have hbd : oR w (-1000000) 1000000 := mIn_0.mp (h34.symm.trans c37)
        skip
        refine lv_aload_n hx hb dX8_point_40 rfl (lv_at hl 0 rfl) ?_
        refine lv_iconst (v := 1) hx hb dX8_point_41 (by decide) ?_
        refine va_calli (va_runV (As := [.int (1 : Int32)]) (rest := []) ⟨hx, hb, hml, hown, hts⟩ (metX8_stop l G tys _ hm (1 : Int32)) (cwV 1 hts gX8_point_X8_stop rfl rfl rfl (by decide +kernel) ⟨Nat.le_of_ble_eq_true rfl, Nat.le_of_ble_eq_true rfl⟩) ⟨pcM_b, va_recv hK hP (ci := 9) (q0 := 12) rfl hm, pcM_u hP hK hD hS hA⟩ rfl rfl hl.1 rfl (lv_room (Nat.le_of_ble_eq_true rfl)) dX8_point_42 ⟨Nat.le_of_ble_eq_true rfl, Nat.le_of_ble_eq_true rfl⟩) hS (fun q _ h => h) (fun q h => h) (fun r42 u t H locs ht hvm h42 hB hsz hk1 hS => ?_)
        rw [ht] at hB
        have hB := hB.1
        have hD := hD.set (e := .inr (9, mF ad (upd (upd z 0 (0 : Int32)) 0 (1 : Int32)) wi dm)) hm
        have hA28 := va_gs (k := 12) (e := (am, .inr (9, mF ad (upd (upd z 0 (0 : Int32)) 0 (1 : Int32)) wi dm))) (by decide) hA28
        have hA29 := va_gs (k := 12) (e := (am, .inr (9, mF ad (upd (upd z 0 (0 : Int32)) 0 (1 : Int32)) wi dm))) (by decide) hA29
        have hA30 := va_gs (k := 12) (e := (am, .inr (9, mF ad (upd (upd z 0 (0 : Int32)) 0 (1 : Int32)) wi dm))) (by decide) hA30
        have hm := va_ge (e := (am, .inr (9, mF ad (upd (upd z 0 (0 : Int32)) 0 (1 : Int32)) wi dm))) hm
        have hP : va_P G vwCl (((ws).set 12 (am, .inr (9, mF ad (upd z 0 (0 : Int32)) wi dm))).set 12 (am, .inr (9, mF ad (upd (upd z 0 (0 : Int32)) 0 (1 : Int32)) wi dm))) H := hB
        have hD : va_D A (((ws).set 12 (am, .inr (9, mF ad (upd z 0 (0 : Int32)) wi dm))).set 12 (am, .inr (9, mF ad (upd (upd z 0 (0 : Int32)) 0 (1 : Int32)) wi dm))) := hD
        have hcd : cdPoint x y w (nI nP) = 1 := by unfold cdPoint; rw [if_neg k0, if_neg k1, if_pos hbd]
        have ew : ((ws).set 12 (am, .inr (9, mF ad (upd z 0 (0 : Int32)) wi dm))).set 12 (am, .inr (9, mF ad (upd (upd z 0 (0 : Int32)) 0 (1 : Int32)) wi dm)) = (if cdPoint x y w (nI nP) = 0 then (((((ws).set 12 (am, .inr (9, mF ad (upd z 0 (0 : Int32)) wi dm))).set 28 (ad 28, .inl (cI, 60, .inl (upd (F 28) (z 29).toNatClampNeg x)))).set 29 (ad 29, .inl (cI, 60, .inl (upd (F 29) (z 29).toNatClampNeg y)))).set 30 (ad 30, .inl (cI, 60, .inl (upd (F 30) (z 29).toNatClampNeg w)))).set 12 (am, .inr (9, mF ad (upd (upd z 0 (0 : Int32)) 29 ((z 29) + (1 : Int32))) wi dm)) else ws.set 12 (am, .inr (9, mF ad (upd z 0 (cdPoint x y w (nI nP))) wi dm))) := by rw [hcd, if_neg (by decide), List.set_set, upd_upd]
        have hP : va_P G vwCl (((ws).set 12 (am, .inr (9, mF ad (upd z 0 (0 : Int32)) wi dm))).set 12 (am, .inr (9, mF ad (upd (upd z 0 (0 : Int32)) 0 (1 : Int32)) wi dm))) H := hP
        have hD : va_D A (((ws).set 12 (am, .inr (9, mF ad (upd z 0 (0 : Int32)) wi dm))).set 12 (am, .inr (9, mF ad (upd (upd z 0 (0 : Int32)) 0 (1 : Int32)) wi dm))) := hD
        rw [ew] at hP hD
        exact W.iret (v := r42) hx hb hr (fun t ht hW => ⟨⟨r42, (), rfl, (fun h0 => absurd (hcd.symm.trans h0) (by decide)), by show va_P G vwCl _ t.heap ∧ va_D A _; rw [ht]; exact ⟨hP, hD⟩⟩, hS.F ht⟩) hS.2.2 dX8_point_45
set_option maxHeartbeats 1000000 in
set_option maxRecDepth 100000 in
theorem metX8_claim (l : Launch) (G : va_G) (tys : List (ClassId × FieldType)) {cI : ClassId} (htI : tI tys cI) {A : Nat → Prop} (ws : va_W) {am : Nat} {ad : Nat → Nat} {z : Nat → Int32} {wi dm : Int64} {F : Nat → Nat → Int32} (hm : ws[12]? = some (am, .inr (9, mF ad z wi dm))) (hA31 : ws[31]? = some (ad 31, .inl (cI, 8, .inl (F 31)))) (hA32 : ws[32]? = some (ad 32, .inl (cI, 8, .inl (F 32)))) (hA33 : ws[33]? = some (ad 33, .inl (cI, 8, .inl (F 33)))) (hA34 : ws[34]? = some (ad 34, .inl (cI, 8, .inl (F 34)))) {nP : Nat} (hz29 : z 29 = nI nP) (h60nP : nP ≤ 60) {nC : Nat} (hz33 : z 33 = nI nC) (h60nC : nC ≤ 8) (x fr to : Int32) : Met l yX8_claim wsX8_claim ({ frames := 1, cells := 0, slots := 0, locals := 22 }) (pcM G tys ws A [.ref am, .int x, .int fr, .int to]) (va_Qi (fun (r : Int32) (_ : Unit) => cdClaim x fr to (nI nP) (nI nC) = 0 → r = z 33) (fun _ t => va_P G vwCl (if cdClaim x fr to (nI nP) (nI nC) = 0 then ((((((ws).set 12 (am, .inr (9, mF ad (upd z 0 (0 : Int32)) wi dm))).set 31 (ad 31, .inl (cI, 8, .inl (upd (F 31) (z 33).toNatClampNeg x)))).set 32 (ad 32, .inl (cI, 8, .inl (upd (F 32) (z 33).toNatClampNeg fr)))).set 33 (ad 33, .inl (cI, 8, .inl (upd (F 33) (z 33).toNatClampNeg to)))).set 34 (ad 34, .inl (cI, 8, .inl (upd (F 34) (z 33).toNatClampNeg (z 29))))).set 12 (am, .inr (9, mF ad (upd (upd z 0 (0 : Int32)) 33 ((z 33) + (1 : Int32))) wi dm)) else ws.set 12 (am, .inr (9, mF ad (upd z 0 (cdClaim x fr to (nI nP) (nI nC))) wi dm))) t.heap ∧ va_D A (if cdClaim x fr to (nI nP) (nI nC) = 0 then ((((((ws).set 12 (am, .inr (9, mF ad (upd z 0 (0 : Int32)) wi dm))).set 31 (ad 31, .inl (cI, 8, .inl (upd (F 31) (z 33).toNatClampNeg x)))).set 32 (ad 32, .inl (cI, 8, .inl (upd (F 32) (z 33).toNatClampNeg fr)))).set 33 (ad 33, .inl (cI, 8, .inl (upd (F 33) (z 33).toNatClampNeg to)))).set 34 (ad 34, .inl (cI, 8, .inl (upd (F 34) (z 33).toNatClampNeg (z 29))))).set 12 (am, .inr (9, mF ad (upd (upd z 0 (0 : Int32)) 33 ((z 33) + (1 : Int32))) wi dm)) else ws.set 12 (am, .inr (9, mF ad (upd z 0 (cdClaim x fr to (nI nP) (nI nC))) wi dm)))) A) 0 0 A := by
  refine ofM (cc := cX8_claim) (maxL := 4) (ret := some .int) (by decide) rfl (Nat.le_of_ble_eq_true rfl) ?_
  intro p e s m below meth c ls hx hb hr hlocks hml hown hts hin hl hP hK hD hA hS
  have hown : s.vm.findClass RX8 = some m.cls := hown
  have hiX8 : ∀ w ∈ u_ws RX8 TX8 39, w ∈ wsX8_claim := fun _ h => List.mem_cons_of_mem _ (List.mem_append_right _ h)
  have hl : lv_has ls 4 [(0, .ref am), (1, .int x), (2, .int fr), (3, .int to)] := hl
  refine lv_aload_n hx hb dX8_claim_0 rfl (lv_at hl 0 rfl) ?_
  refine lv_iconst (v := 0) hx hb dX8_claim_1 (by decide) ?_
  refine va_put (D := G) (ci := 9) (v := .int (0 : Int32)) (ty := .int) (C := RX8) (T := TX8) (N := 39) hx hb hts hiX8 tyX8 tyX8_ok nmX8 hown hK hP hD hS 12 hm rfl 0 (by decide) (hts (.fieldLink RX8 86 "VortexpinModel" "thrown" "I") (List.mem_of_getElem? (i := 1) rfl)) (fun _ h9 => h9) rfl (by decide +kernel) (rfl) (rfl) (Nat.le_of_ble_eq_true rfl) dX8_claim_2 (fun H locs hP hD hS => ?_)
  have hP : va_P G vwCl ((ws).set 12 (am, .inr (9, mF ad (upd z 0 (0 : Int32)) wi dm))) H := hP
  have hD : va_D A ((ws).set 12 (am, .inr (9, mF ad (upd z 0 (0 : Int32)) wi dm))) := hD
  have hA31 := va_gs (k := 12) (e := (am, .inr (9, mF ad (upd z 0 (0 : Int32)) wi dm))) (by decide) hA31
  have hA32 := va_gs (k := 12) (e := (am, .inr (9, mF ad (upd z 0 (0 : Int32)) wi dm))) (by decide) hA32
  have hA33 := va_gs (k := 12) (e := (am, .inr (9, mF ad (upd z 0 (0 : Int32)) wi dm))) (by decide) hA33
  have hA34 := va_gs (k := 12) (e := (am, .inr (9, mF ad (upd z 0 (0 : Int32)) wi dm))) (by decide) hA34
  have hm := va_ge (e := (am, .inr (9, mF ad (upd z 0 (0 : Int32)) wi dm))) hm
  refine lv_iload_n hx hb dX8_claim_5 rfl (lv_at hl 2 rfl) ?_
  refine lv_iconst (v := 0) hx hb dX8_claim_6 (by decide) ?_
  refine lv_aload_n hx hb dX8_claim_7 rfl (lv_at hl 0 rfl) ?_
  refine va_get (D := G) (ci := 9) (v := .int (z 29)) (C := RX8) (T := TX8) (N := 39) hx hb hts hiX8 hown hK hP 12 hm rfl 29 (by decide) (hts (.fieldLink RX8 189 "VortexpinModel" "points" "I") (List.mem_of_getElem? (i := 2) rfl)) (fun _ h9 => h9) rfl dX8_claim_8 ?_
  refine lv_iconst (v := 1) hx hb dX8_claim_11 (by decide) ?_
  refine lv_isub hx hb dX8_claim_12 ?_
  refine vp_callSi (va_Run.run (va_runS (As := [.int fr, .int (0 : Int32), .int ((z 29) - (1 : Int32))]) (rest := []) ⟨hx, hb, hml, hown, hts⟩ (metX8_in l fr (0 : Int32) ((z 29) - (1 : Int32))) (va_cwS 3 hts gX8_claim_X8_in rfl rfl rfl (by decide +kernel) ⟨Nat.le_of_ble_eq_true rfl, Nat.le_of_ble_eq_true rfl⟩) ⟨pc0_b, pc0_u⟩ rfl rfl hl.1 rfl (lv_room (Nat.le_of_ble_eq_true rfl)) dX8_claim_13 ⟨Nat.le_of_ble_eq_true rfl, Nat.le_of_ble_eq_true rfl⟩)) (fun r13 h13 => ?_)
  refine lv_if_eq (tgt := 33) hx hb dX8_claim_16 (by decide) (fun c16 => ?_) (fun c16 => ?_)
  · have hbd : uK fr (nI nP) := (oR_uK (by rw [hz29]) (show nP < 2 ^ 31 by omega)).mp (mIn_0.mp (h13.symm.trans c16))
    skip
    refine lv_aload_n hx hb dX8_claim_33 rfl (lv_at hl 0 rfl) ?_
    refine lv_iconst (v := 1) hx hb dX8_claim_34 (by decide) ?_
    refine va_calli (va_runV (As := [.int (1 : Int32)]) (rest := []) ⟨hx, hb, hml, hown, hts⟩ (metX8_stop l G tys _ hm (1 : Int32)) (cwV 1 hts gX8_claim_X8_stop rfl rfl rfl (by decide +kernel) ⟨Nat.le_of_ble_eq_true rfl, Nat.le_of_ble_eq_true rfl⟩) ⟨pcM_b, va_recv hK hP (ci := 9) (q0 := 12) rfl hm, pcM_u hP hK hD hS hA⟩ rfl rfl hl.1 rfl (lv_room (Nat.le_of_ble_eq_true rfl)) dX8_claim_35 ⟨Nat.le_of_ble_eq_true rfl, Nat.le_of_ble_eq_true rfl⟩) hS (fun q _ h => h) (fun q h => h) (fun r35 u t H locs ht hvm h35 hB hsz hk1 hS => ?_)
    rw [ht] at hB
    have hB := hB.1
    have hD := hD.set (e := .inr (9, mF ad (upd (upd z 0 (0 : Int32)) 0 (1 : Int32)) wi dm)) hm
    have hA31 := va_gs (k := 12) (e := (am, .inr (9, mF ad (upd (upd z 0 (0 : Int32)) 0 (1 : Int32)) wi dm))) (by decide) hA31
    have hA32 := va_gs (k := 12) (e := (am, .inr (9, mF ad (upd (upd z 0 (0 : Int32)) 0 (1 : Int32)) wi dm))) (by decide) hA32
    have hA33 := va_gs (k := 12) (e := (am, .inr (9, mF ad (upd (upd z 0 (0 : Int32)) 0 (1 : Int32)) wi dm))) (by decide) hA33
    have hA34 := va_gs (k := 12) (e := (am, .inr (9, mF ad (upd (upd z 0 (0 : Int32)) 0 (1 : Int32)) wi dm))) (by decide) hA34
    have hm := va_ge (e := (am, .inr (9, mF ad (upd (upd z 0 (0 : Int32)) 0 (1 : Int32)) wi dm))) hm
    have hP : va_P G vwCl (((ws).set 12 (am, .inr (9, mF ad (upd z 0 (0 : Int32)) wi dm))).set 12 (am, .inr (9, mF ad (upd (upd z 0 (0 : Int32)) 0 (1 : Int32)) wi dm))) H := hB
    have hD : va_D A (((ws).set 12 (am, .inr (9, mF ad (upd z 0 (0 : Int32)) wi dm))).set 12 (am, .inr (9, mF ad (upd (upd z 0 (0 : Int32)) 0 (1 : Int32)) wi dm))) := hD
    have hcd : cdClaim x fr to (nI nP) (nI nC) = 1 := by unfold cdClaim; rw [if_pos hbd]
    have ew : ((ws).set 12 (am, .inr (9, mF ad (upd z 0 (0 : Int32)) wi dm))).set 12 (am, .inr (9, mF ad (upd (upd z 0 (0 : Int32)) 0 (1 : Int32)) wi dm)) = (if cdClaim x fr to (nI nP) (nI nC) = 0 then ((((((ws).set 12 (am, .inr (9, mF ad (upd z 0 (0 : Int32)) wi dm))).set 31 (ad 31, .inl (cI, 8, .inl (upd (F 31) (z 33).toNatClampNeg x)))).set 32 (ad 32, .inl (cI, 8, .inl (upd (F 32) (z 33).toNatClampNeg fr)))).set 33 (ad 33, .inl (cI, 8, .inl (upd (F 33) (z 33).toNatClampNeg to)))).set 34 (ad 34, .inl (cI, 8, .inl (upd (F 34) (z 33).toNatClampNeg (z 29))))).set 12 (am, .inr (9, mF ad (upd (upd z 0 (0 : Int32)) 33 ((z 33) + (1 : Int32))) wi dm)) else ws.set 12 (am, .inr (9, mF ad (upd z 0 (cdClaim x fr to (nI nP) (nI nC))) wi dm))) := by rw [hcd, if_neg (by decide), List.set_set, upd_upd]
    have hP : va_P G vwCl (((ws).set 12 (am, .inr (9, mF ad (upd z 0 (0 : Int32)) wi dm))).set 12 (am, .inr (9, mF ad (upd (upd z 0 (0 : Int32)) 0 (1 : Int32)) wi dm))) H := hP
    have hD : va_D A (((ws).set 12 (am, .inr (9, mF ad (upd z 0 (0 : Int32)) wi dm))).set 12 (am, .inr (9, mF ad (upd (upd z 0 (0 : Int32)) 0 (1 : Int32)) wi dm))) := hD
    rw [ew] at hP hD
    exact W.iret (v := r35) hx hb hr (fun t ht hW => ⟨⟨r35, (), rfl, (fun h0 => absurd (hcd.symm.trans h0) (by decide)), by show va_P G vwCl _ t.heap ∧ va_D A _; rw [ht]; exact ⟨hP, hD⟩⟩, hS.F ht⟩) hS.2.2 dX8_claim_38
  · have k0 : ¬ (uK fr (nI nP)) := fun q9 => c16 (h13.trans (mIn_0.mpr ((oR_uK (by rw [hz29]) (show nP < 2 ^ 31 by omega)).mpr q9)))
    refine lv_iload_n hx hb dX8_claim_19 rfl (lv_at hl 3 rfl) ?_
    refine lv_iconst (v := 0) hx hb dX8_claim_20 (by decide) ?_
    refine lv_aload_n hx hb dX8_claim_21 rfl (lv_at hl 0 rfl) ?_
    refine va_get (D := G) (ci := 9) (v := .int (z 29)) (C := RX8) (T := TX8) (N := 39) hx hb hts hiX8 hown hK hP 12 hm rfl 29 (by decide) (hts (.fieldLink RX8 189 "VortexpinModel" "points" "I") (List.mem_of_getElem? (i := 2) rfl)) (fun _ h9 => h9) rfl dX8_claim_22 ?_
    refine lv_iconst (v := 1) hx hb dX8_claim_25 (by decide) ?_
    refine lv_isub hx hb dX8_claim_26 ?_
    refine vp_callSi (va_Run.run (va_runS (As := [.int to, .int (0 : Int32), .int ((z 29) - (1 : Int32))]) (rest := []) ⟨hx, hb, hml, hown, hts⟩ (metX8_in l to (0 : Int32) ((z 29) - (1 : Int32))) (va_cwS 3 hts gX8_claim_X8_in rfl rfl rfl (by decide +kernel) ⟨Nat.le_of_ble_eq_true rfl, Nat.le_of_ble_eq_true rfl⟩) ⟨pc0_b, pc0_u⟩ rfl rfl hl.1 rfl (lv_room (Nat.le_of_ble_eq_true rfl)) dX8_claim_27 ⟨Nat.le_of_ble_eq_true rfl, Nat.le_of_ble_eq_true rfl⟩)) (fun r27 h27 => ?_)
    refine lv_if_ne (tgt := 39) hx hb dX8_claim_30 (by decide) (fun c30 => ?_) (fun c30 => ?_)
    · have k1 : ¬ (uK to (nI nP)) := fun q9 => c30 (h27.trans (mIn_0.mpr ((oR_uK (by rw [hz29]) (show nP < 2 ^ 31 by omega)).mpr q9)))
      refine lv_iload_n hx hb dX8_claim_39 rfl (lv_at hl 1 rfl) ?_
      refine lv_iconst (v := 1) hx hb dX8_claim_40 (by decide) ?_
      refine lv_sipush (v := 300) hx hb dX8_claim_41 (by decide) ?_
      refine vp_callSi (va_Run.run (va_runS (As := [.int x, .int (1 : Int32), .int (300 : Int32)]) (rest := []) ⟨hx, hb, hml, hown, hts⟩ (metX8_in l x (1 : Int32) (300 : Int32)) (va_cwS 3 hts gX8_claim_X8_in rfl rfl rfl (by decide +kernel) ⟨Nat.le_of_ble_eq_true rfl, Nat.le_of_ble_eq_true rfl⟩) ⟨pc0_b, pc0_u⟩ rfl rfl hl.1 rfl (lv_room (Nat.le_of_ble_eq_true rfl)) dX8_claim_44 ⟨Nat.le_of_ble_eq_true rfl, Nat.le_of_ble_eq_true rfl⟩)) (fun r44 h44 => ?_)
      refine lv_if_eq (tgt := 55) hx hb dX8_claim_47 (by decide) (fun c47 => ?_) (fun c47 => ?_)
      · have hbd : oR x 1 300 := mIn_0.mp (h44.symm.trans c47)
        skip
        refine lv_aload_n hx hb dX8_claim_55 rfl (lv_at hl 0 rfl) ?_
        refine lv_iconst (v := 2) hx hb dX8_claim_56 (by decide) ?_
        refine va_calli (va_runV (As := [.int (2 : Int32)]) (rest := []) ⟨hx, hb, hml, hown, hts⟩ (metX8_stop l G tys _ hm (2 : Int32)) (cwV 1 hts gX8_claim_X8_stop rfl rfl rfl (by decide +kernel) ⟨Nat.le_of_ble_eq_true rfl, Nat.le_of_ble_eq_true rfl⟩) ⟨pcM_b, va_recv hK hP (ci := 9) (q0 := 12) rfl hm, pcM_u hP hK hD hS hA⟩ rfl rfl hl.1 rfl (lv_room (Nat.le_of_ble_eq_true rfl)) dX8_claim_57 ⟨Nat.le_of_ble_eq_true rfl, Nat.le_of_ble_eq_true rfl⟩) hS (fun q _ h => h) (fun q h => h) (fun r57 u t H locs ht hvm h57 hB hsz hk1 hS => ?_)
        rw [ht] at hB
        have hB := hB.1
        have hD := hD.set (e := .inr (9, mF ad (upd (upd z 0 (0 : Int32)) 0 (2 : Int32)) wi dm)) hm
        have hA31 := va_gs (k := 12) (e := (am, .inr (9, mF ad (upd (upd z 0 (0 : Int32)) 0 (2 : Int32)) wi dm))) (by decide) hA31
        have hA32 := va_gs (k := 12) (e := (am, .inr (9, mF ad (upd (upd z 0 (0 : Int32)) 0 (2 : Int32)) wi dm))) (by decide) hA32
        have hA33 := va_gs (k := 12) (e := (am, .inr (9, mF ad (upd (upd z 0 (0 : Int32)) 0 (2 : Int32)) wi dm))) (by decide) hA33
        have hA34 := va_gs (k := 12) (e := (am, .inr (9, mF ad (upd (upd z 0 (0 : Int32)) 0 (2 : Int32)) wi dm))) (by decide) hA34
        have hm := va_ge (e := (am, .inr (9, mF ad (upd (upd z 0 (0 : Int32)) 0 (2 : Int32)) wi dm))) hm
        have hP : va_P G vwCl (((ws).set 12 (am, .inr (9, mF ad (upd z 0 (0 : Int32)) wi dm))).set 12 (am, .inr (9, mF ad (upd (upd z 0 (0 : Int32)) 0 (2 : Int32)) wi dm))) H := hB
        have hD : va_D A (((ws).set 12 (am, .inr (9, mF ad (upd z 0 (0 : Int32)) wi dm))).set 12 (am, .inr (9, mF ad (upd (upd z 0 (0 : Int32)) 0 (2 : Int32)) wi dm))) := hD
        have hcd : cdClaim x fr to (nI nP) (nI nC) = 2 := by unfold cdClaim; rw [if_neg k0, if_neg k1, if_pos hbd]
        have ew : ((ws).set 12 (am, .inr (9, mF ad (upd z 0 (0 : Int32)) wi dm))).set 12 (am, .inr (9, mF ad (upd (upd z 0 (0 : Int32)) 0 (2 : Int32)) wi dm)) = (if cdClaim x fr to (nI nP) (nI nC) = 0 then ((((((ws).set 12 (am, .inr (9, mF ad (upd z 0 (0 : Int32)) wi dm))).set 31 (ad 31, .inl (cI, 8, .inl (upd (F 31) (z 33).toNatClampNeg x)))).set 32 (ad 32, .inl (cI, 8, .inl (upd (F 32) (z 33).toNatClampNeg fr)))).set 33 (ad 33, .inl (cI, 8, .inl (upd (F 33) (z 33).toNatClampNeg to)))).set 34 (ad 34, .inl (cI, 8, .inl (upd (F 34) (z 33).toNatClampNeg (z 29))))).set 12 (am, .inr (9, mF ad (upd (upd z 0 (0 : Int32)) 33 ((z 33) + (1 : Int32))) wi dm)) else ws.set 12 (am, .inr (9, mF ad (upd z 0 (cdClaim x fr to (nI nP) (nI nC))) wi dm))) := by rw [hcd, if_neg (by decide), List.set_set, upd_upd]
        have hP : va_P G vwCl (((ws).set 12 (am, .inr (9, mF ad (upd z 0 (0 : Int32)) wi dm))).set 12 (am, .inr (9, mF ad (upd (upd z 0 (0 : Int32)) 0 (2 : Int32)) wi dm))) H := hP
        have hD : va_D A (((ws).set 12 (am, .inr (9, mF ad (upd z 0 (0 : Int32)) wi dm))).set 12 (am, .inr (9, mF ad (upd (upd z 0 (0 : Int32)) 0 (2 : Int32)) wi dm))) := hD
        rw [ew] at hP hD
        exact W.iret (v := r57) hx hb hr (fun t ht hW => ⟨⟨r57, (), rfl, (fun h0 => absurd (hcd.symm.trans h0) (by decide)), by show va_P G vwCl _ t.heap ∧ va_D A _; rw [ht]; exact ⟨hP, hD⟩⟩, hS.F ht⟩) hS.2.2 dX8_claim_60
      · have k2 : ¬ (oR x 1 300) := fun q9 => c47 (h44.trans (mIn_0.mpr q9))
        refine lv_iload_n hx hb dX8_claim_50 rfl (lv_at hl 3 rfl) ?_
        refine lv_iload_n hx hb dX8_claim_51 rfl (lv_at hl 2 rfl) ?_
        refine lv_icmp_ge (tgt := 61) hx hb dX8_claim_52 (by decide) (fun c52 => ?_) (fun c52 => ?_)
        · have k3 : ¬ oR to fr (nI nP - 1) := fun q9 => q9.elim (fun z9 => Int32.not_le.mpr z9 c52) (uK_le k1 (by omega))
          refine lv_aload_n hx hb dX8_claim_61 rfl (lv_at hl 0 rfl) ?_
          refine va_get (D := G) (ci := 9) (v := .int (z 33)) (C := RX8) (T := TX8) (N := 39) hx hb hts hiX8 hown hK hP 12 hm rfl 33 (by decide) (hts (.fieldLink RX8 192 "VortexpinModel" "claims" "I") (List.mem_of_getElem? (i := 3) rfl)) (fun _ h9 => h9) rfl dX8_claim_62 ?_
          refine lv_bipush (v := 8) hx hb dX8_claim_65 (by decide) ?_
          refine lv_icmp_ne (tgt := 76) hx hb dX8_claim_67 (by decide) (fun c67 => ?_) (fun c67 => ?_)
          · have k4 : ¬ (8 : Int32) ≤ nI nC := fun q9 => c67 (by rw [hz33]; exact (full_n h60nC (by decide)).mpr q9)
            refine lv_aload_n hx hb dX8_claim_76 rfl (lv_at hl 0 rfl) ?_
            refine va_get (D := G) (ci := 9) (v := .ref (ad 31)) (C := RX8) (T := TX8) (N := 39) hx hb hts hiX8 hown hK hP 12 hm rfl 34 (by decide) (hts (.fieldLink RX8 71 "VortexpinModel" "claimWarmth" "[I") (List.mem_of_getElem? (i := 4) rfl)) (fun _ h9 => h9) rfl dX8_claim_77 ?_
            refine lv_aload_n hx hb dX8_claim_80 rfl (lv_at hl 0 rfl) ?_
            refine va_get (D := G) (ci := 9) (v := .int (z 33)) (C := RX8) (T := TX8) (N := 39) hx hb hts hiX8 hown hK hP 12 hm rfl 33 (by decide) (hts (.fieldLink RX8 192 "VortexpinModel" "claims" "I") (List.mem_of_getElem? (i := 3) rfl)) (fun _ h9 => h9) rfl dX8_claim_81 ?_
            refine lv_iload_n hx hb dX8_claim_84 rfl (lv_at hl 1 rfl) ?_
            refine va_iast hx hb hK hP hD hS 31 0 hA31 htI (by rw [hz33]; exact n_in h60nC (by decide) k4) dX8_claim_85 (fun H locs hP hD hS => ?_)
            have hm := va_gs (k := 31) (e := (ad 31, .inl (cI, 8, .inl (upd (F 31) (z 33).toNatClampNeg x)))) (by decide) hm
            have hA32 := va_gs (k := 31) (e := (ad 31, .inl (cI, 8, .inl (upd (F 31) (z 33).toNatClampNeg x)))) (by decide) hA32
            have hA33 := va_gs (k := 31) (e := (ad 31, .inl (cI, 8, .inl (upd (F 31) (z 33).toNatClampNeg x)))) (by decide) hA33
            have hA34 := va_gs (k := 31) (e := (ad 31, .inl (cI, 8, .inl (upd (F 31) (z 33).toNatClampNeg x)))) (by decide) hA34
            have hA31 := va_ge (e := (ad 31, .inl (cI, 8, .inl (upd (F 31) (z 33).toNatClampNeg x)))) hA31
            refine lv_aload_n hx hb dX8_claim_86 rfl (lv_at hl 0 rfl) ?_
            refine va_get (D := G) (ci := 9) (v := .ref (ad 32)) (C := RX8) (T := TX8) (N := 39) hx hb hts hiX8 hown hK hP 12 hm rfl 35 (by decide) (hts (.fieldLink RX8 74 "VortexpinModel" "claimFrom" "[I") (List.mem_of_getElem? (i := 5) rfl)) (fun _ h9 => h9) rfl dX8_claim_87 ?_
            refine lv_aload_n hx hb dX8_claim_90 rfl (lv_at hl 0 rfl) ?_
            refine va_get (D := G) (ci := 9) (v := .int (z 33)) (C := RX8) (T := TX8) (N := 39) hx hb hts hiX8 hown hK hP 12 hm rfl 33 (by decide) (hts (.fieldLink RX8 192 "VortexpinModel" "claims" "I") (List.mem_of_getElem? (i := 3) rfl)) (fun _ h9 => h9) rfl dX8_claim_91 ?_
            refine lv_iload_n hx hb dX8_claim_94 rfl (lv_at hl 2 rfl) ?_
            refine va_iast hx hb hK hP hD hS 32 0 hA32 htI (by rw [hz33]; exact n_in h60nC (by decide) k4) dX8_claim_95 (fun H locs hP hD hS => ?_)
            have hm := va_gs (k := 32) (e := (ad 32, .inl (cI, 8, .inl (upd (F 32) (z 33).toNatClampNeg fr)))) (by decide) hm
            have hA31 := va_gs (k := 32) (e := (ad 32, .inl (cI, 8, .inl (upd (F 32) (z 33).toNatClampNeg fr)))) (by decide) hA31
            have hA33 := va_gs (k := 32) (e := (ad 32, .inl (cI, 8, .inl (upd (F 32) (z 33).toNatClampNeg fr)))) (by decide) hA33
            have hA34 := va_gs (k := 32) (e := (ad 32, .inl (cI, 8, .inl (upd (F 32) (z 33).toNatClampNeg fr)))) (by decide) hA34
            have hA32 := va_ge (e := (ad 32, .inl (cI, 8, .inl (upd (F 32) (z 33).toNatClampNeg fr)))) hA32
            refine lv_aload_n hx hb dX8_claim_96 rfl (lv_at hl 0 rfl) ?_
            refine va_get (D := G) (ci := 9) (v := .ref (ad 33)) (C := RX8) (T := TX8) (N := 39) hx hb hts hiX8 hown hK hP 12 hm rfl 36 (by decide) (hts (.fieldLink RX8 77 "VortexpinModel" "claimTo" "[I") (List.mem_of_getElem? (i := 6) rfl)) (fun _ h9 => h9) rfl dX8_claim_97 ?_
            refine lv_aload_n hx hb dX8_claim_100 rfl (lv_at hl 0 rfl) ?_
            refine va_get (D := G) (ci := 9) (v := .int (z 33)) (C := RX8) (T := TX8) (N := 39) hx hb hts hiX8 hown hK hP 12 hm rfl 33 (by decide) (hts (.fieldLink RX8 192 "VortexpinModel" "claims" "I") (List.mem_of_getElem? (i := 3) rfl)) (fun _ h9 => h9) rfl dX8_claim_101 ?_
            refine lv_iload_n hx hb dX8_claim_104 rfl (lv_at hl 3 rfl) ?_
            refine va_iast hx hb hK hP hD hS 33 0 hA33 htI (by rw [hz33]; exact n_in h60nC (by decide) k4) dX8_claim_105 (fun H locs hP hD hS => ?_)
            have hm := va_gs (k := 33) (e := (ad 33, .inl (cI, 8, .inl (upd (F 33) (z 33).toNatClampNeg to)))) (by decide) hm
            have hA31 := va_gs (k := 33) (e := (ad 33, .inl (cI, 8, .inl (upd (F 33) (z 33).toNatClampNeg to)))) (by decide) hA31
            have hA32 := va_gs (k := 33) (e := (ad 33, .inl (cI, 8, .inl (upd (F 33) (z 33).toNatClampNeg to)))) (by decide) hA32
            have hA34 := va_gs (k := 33) (e := (ad 33, .inl (cI, 8, .inl (upd (F 33) (z 33).toNatClampNeg to)))) (by decide) hA34
            have hA33 := va_ge (e := (ad 33, .inl (cI, 8, .inl (upd (F 33) (z 33).toNatClampNeg to)))) hA33
            refine lv_aload_n hx hb dX8_claim_106 rfl (lv_at hl 0 rfl) ?_
            refine va_get (D := G) (ci := 9) (v := .ref (ad 34)) (C := RX8) (T := TX8) (N := 39) hx hb hts hiX8 hown hK hP 12 hm rfl 37 (by decide) (hts (.fieldLink RX8 80 "VortexpinModel" "claimAll" "[I") (List.mem_of_getElem? (i := 7) rfl)) (fun _ h9 => h9) rfl dX8_claim_107 ?_
            refine lv_aload_n hx hb dX8_claim_110 rfl (lv_at hl 0 rfl) ?_
            refine va_get (D := G) (ci := 9) (v := .int (z 33)) (C := RX8) (T := TX8) (N := 39) hx hb hts hiX8 hown hK hP 12 hm rfl 33 (by decide) (hts (.fieldLink RX8 192 "VortexpinModel" "claims" "I") (List.mem_of_getElem? (i := 3) rfl)) (fun _ h9 => h9) rfl dX8_claim_111 ?_
            refine lv_aload_n hx hb dX8_claim_114 rfl (lv_at hl 0 rfl) ?_
            refine va_get (D := G) (ci := 9) (v := .int (z 29)) (C := RX8) (T := TX8) (N := 39) hx hb hts hiX8 hown hK hP 12 hm rfl 29 (by decide) (hts (.fieldLink RX8 189 "VortexpinModel" "points" "I") (List.mem_of_getElem? (i := 2) rfl)) (fun _ h9 => h9) rfl dX8_claim_115 ?_
            refine va_iast hx hb hK hP hD hS 34 0 hA34 htI (by rw [hz33]; exact n_in h60nC (by decide) k4) dX8_claim_118 (fun H locs hP hD hS => ?_)
            have hm := va_gs (k := 34) (e := (ad 34, .inl (cI, 8, .inl (upd (F 34) (z 33).toNatClampNeg (z 29))))) (by decide) hm
            have hA31 := va_gs (k := 34) (e := (ad 34, .inl (cI, 8, .inl (upd (F 34) (z 33).toNatClampNeg (z 29))))) (by decide) hA31
            have hA32 := va_gs (k := 34) (e := (ad 34, .inl (cI, 8, .inl (upd (F 34) (z 33).toNatClampNeg (z 29))))) (by decide) hA32
            have hA33 := va_gs (k := 34) (e := (ad 34, .inl (cI, 8, .inl (upd (F 34) (z 33).toNatClampNeg (z 29))))) (by decide) hA33
            have hA34 := va_ge (e := (ad 34, .inl (cI, 8, .inl (upd (F 34) (z 33).toNatClampNeg (z 29))))) hA34
            refine lv_aload_n hx hb dX8_claim_119 rfl (lv_at hl 0 rfl) ?_
            refine lv_dup hx hb dX8_claim_120 rfl ?_
            refine va_get (D := G) (ci := 9) (v := .int (z 33)) (C := RX8) (T := TX8) (N := 39) hx hb hts hiX8 hown hK hP 12 hm rfl 33 (by decide) (hts (.fieldLink RX8 192 "VortexpinModel" "claims" "I") (List.mem_of_getElem? (i := 3) rfl)) (fun _ h9 => h9) rfl dX8_claim_121 ?_
            refine lv_iconst (v := 1) hx hb dX8_claim_124 (by decide) ?_
            refine lv_iadd hx hb dX8_claim_125 ?_
            refine va_put (D := G) (ci := 9) (v := .int ((z 33) + (1 : Int32))) (ty := .int) (C := RX8) (T := TX8) (N := 39) hx hb hts hiX8 tyX8 tyX8_ok nmX8 hown hK hP hD hS 12 hm rfl 33 (by decide) (hts (.fieldLink RX8 192 "VortexpinModel" "claims" "I") (List.mem_of_getElem? (i := 3) rfl)) (fun _ h9 => h9) rfl (by decide +kernel) (rfl) (rfl) (Nat.le_of_ble_eq_true rfl) dX8_claim_126 (fun H locs hP hD hS => ?_)
            have hP : va_P G vwCl (((((((ws).set 12 (am, .inr (9, mF ad (upd z 0 (0 : Int32)) wi dm))).set 31 (ad 31, .inl (cI, 8, .inl (upd (F 31) (z 33).toNatClampNeg x)))).set 32 (ad 32, .inl (cI, 8, .inl (upd (F 32) (z 33).toNatClampNeg fr)))).set 33 (ad 33, .inl (cI, 8, .inl (upd (F 33) (z 33).toNatClampNeg to)))).set 34 (ad 34, .inl (cI, 8, .inl (upd (F 34) (z 33).toNatClampNeg (z 29))))).set 12 (am, .inr (9, mF ad (upd (upd z 0 (0 : Int32)) 33 ((z 33) + (1 : Int32))) wi dm))) H := hP
            have hD : va_D A (((((((ws).set 12 (am, .inr (9, mF ad (upd z 0 (0 : Int32)) wi dm))).set 31 (ad 31, .inl (cI, 8, .inl (upd (F 31) (z 33).toNatClampNeg x)))).set 32 (ad 32, .inl (cI, 8, .inl (upd (F 32) (z 33).toNatClampNeg fr)))).set 33 (ad 33, .inl (cI, 8, .inl (upd (F 33) (z 33).toNatClampNeg to)))).set 34 (ad 34, .inl (cI, 8, .inl (upd (F 34) (z 33).toNatClampNeg (z 29))))).set 12 (am, .inr (9, mF ad (upd (upd z 0 (0 : Int32)) 33 ((z 33) + (1 : Int32))) wi dm))) := hD
            have hA31 := va_gs (k := 12) (e := (am, .inr (9, mF ad (upd (upd z 0 (0 : Int32)) 33 ((z 33) + (1 : Int32))) wi dm))) (by decide) hA31
            have hA32 := va_gs (k := 12) (e := (am, .inr (9, mF ad (upd (upd z 0 (0 : Int32)) 33 ((z 33) + (1 : Int32))) wi dm))) (by decide) hA32
            have hA33 := va_gs (k := 12) (e := (am, .inr (9, mF ad (upd (upd z 0 (0 : Int32)) 33 ((z 33) + (1 : Int32))) wi dm))) (by decide) hA33
            have hA34 := va_gs (k := 12) (e := (am, .inr (9, mF ad (upd (upd z 0 (0 : Int32)) 33 ((z 33) + (1 : Int32))) wi dm))) (by decide) hA34
            have hm := va_ge (e := (am, .inr (9, mF ad (upd (upd z 0 (0 : Int32)) 33 ((z 33) + (1 : Int32))) wi dm))) hm
            refine lv_aload_n hx hb dX8_claim_129 rfl (lv_at hl 0 rfl) ?_
            refine va_get (D := G) (ci := 9) (v := .int ((z 33) + (1 : Int32))) (C := RX8) (T := TX8) (N := 39) hx hb hts hiX8 hown hK hP 12 hm rfl 33 (by decide) (hts (.fieldLink RX8 192 "VortexpinModel" "claims" "I") (List.mem_of_getElem? (i := 3) rfl)) (fun _ h9 => h9) rfl dX8_claim_130 ?_
            refine lv_iconst (v := 1) hx hb dX8_claim_133 (by decide) ?_
            refine lv_isub hx hb dX8_claim_134 ?_
            have hcd : cdClaim x fr to (nI nP) (nI nC) = 0 := by unfold cdClaim; rw [if_neg k0, if_neg k1, if_neg k2, if_neg k3, if_neg k4]
            have ew : ((((((ws).set 12 (am, .inr (9, mF ad (upd z 0 (0 : Int32)) wi dm))).set 31 (ad 31, .inl (cI, 8, .inl (upd (F 31) (z 33).toNatClampNeg x)))).set 32 (ad 32, .inl (cI, 8, .inl (upd (F 32) (z 33).toNatClampNeg fr)))).set 33 (ad 33, .inl (cI, 8, .inl (upd (F 33) (z 33).toNatClampNeg to)))).set 34 (ad 34, .inl (cI, 8, .inl (upd (F 34) (z 33).toNatClampNeg (z 29))))).set 12 (am, .inr (9, mF ad (upd (upd z 0 (0 : Int32)) 33 ((z 33) + (1 : Int32))) wi dm)) = (if cdClaim x fr to (nI nP) (nI nC) = 0 then ((((((ws).set 12 (am, .inr (9, mF ad (upd z 0 (0 : Int32)) wi dm))).set 31 (ad 31, .inl (cI, 8, .inl (upd (F 31) (z 33).toNatClampNeg x)))).set 32 (ad 32, .inl (cI, 8, .inl (upd (F 32) (z 33).toNatClampNeg fr)))).set 33 (ad 33, .inl (cI, 8, .inl (upd (F 33) (z 33).toNatClampNeg to)))).set 34 (ad 34, .inl (cI, 8, .inl (upd (F 34) (z 33).toNatClampNeg (z 29))))).set 12 (am, .inr (9, mF ad (upd (upd z 0 (0 : Int32)) 33 ((z 33) + (1 : Int32))) wi dm)) else ws.set 12 (am, .inr (9, mF ad (upd z 0 (cdClaim x fr to (nI nP) (nI nC))) wi dm))) := by rw [hcd, if_pos rfl]
            have hP : va_P G vwCl (((((((ws).set 12 (am, .inr (9, mF ad (upd z 0 (0 : Int32)) wi dm))).set 31 (ad 31, .inl (cI, 8, .inl (upd (F 31) (z 33).toNatClampNeg x)))).set 32 (ad 32, .inl (cI, 8, .inl (upd (F 32) (z 33).toNatClampNeg fr)))).set 33 (ad 33, .inl (cI, 8, .inl (upd (F 33) (z 33).toNatClampNeg to)))).set 34 (ad 34, .inl (cI, 8, .inl (upd (F 34) (z 33).toNatClampNeg (z 29))))).set 12 (am, .inr (9, mF ad (upd (upd z 0 (0 : Int32)) 33 ((z 33) + (1 : Int32))) wi dm))) H := hP
            have hD : va_D A (((((((ws).set 12 (am, .inr (9, mF ad (upd z 0 (0 : Int32)) wi dm))).set 31 (ad 31, .inl (cI, 8, .inl (upd (F 31) (z 33).toNatClampNeg x)))).set 32 (ad 32, .inl (cI, 8, .inl (upd (F 32) (z 33).toNatClampNeg fr)))).set 33 (ad 33, .inl (cI, 8, .inl (upd (F 33) (z 33).toNatClampNeg to)))).set 34 (ad 34, .inl (cI, 8, .inl (upd (F 34) (z 33).toNatClampNeg (z 29))))).set 12 (am, .inr (9, mF ad (upd (upd z 0 (0 : Int32)) 33 ((z 33) + (1 : Int32))) wi dm))) := hD
            rw [ew] at hP hD
            exact W.iret (v := ((z 33) + (1 : Int32)) - (1 : Int32)) hx hb hr (fun t ht hW => ⟨⟨((z 33) + (1 : Int32)) - (1 : Int32), (), rfl, (fun _ => Int32.add_sub_cancel _ _), by show va_P G vwCl _ t.heap ∧ va_D A _; rw [ht]; exact ⟨hP, hD⟩⟩, hS.F ht⟩) hS.2.2 dX8_claim_135
          · have hbd : (8 : Int32) ≤ nI nC := (full_n h60nC (by decide)).mp (by rw [← hz33]; exact c67)
            skip
            refine lv_aload_n hx hb dX8_claim_70 rfl (lv_at hl 0 rfl) ?_
            refine lv_iconst (v := 3) hx hb dX8_claim_71 (by decide) ?_
            refine va_calli (va_runV (As := [.int (3 : Int32)]) (rest := []) ⟨hx, hb, hml, hown, hts⟩ (metX8_stop l G tys _ hm (3 : Int32)) (cwV 1 hts gX8_claim_X8_stop rfl rfl rfl (by decide +kernel) ⟨Nat.le_of_ble_eq_true rfl, Nat.le_of_ble_eq_true rfl⟩) ⟨pcM_b, va_recv hK hP (ci := 9) (q0 := 12) rfl hm, pcM_u hP hK hD hS hA⟩ rfl rfl hl.1 rfl (lv_room (Nat.le_of_ble_eq_true rfl)) dX8_claim_72 ⟨Nat.le_of_ble_eq_true rfl, Nat.le_of_ble_eq_true rfl⟩) hS (fun q _ h => h) (fun q h => h) (fun r72 u t H locs ht hvm h72 hB hsz hk1 hS => ?_)
            rw [ht] at hB
            have hB := hB.1
            have hD := hD.set (e := .inr (9, mF ad (upd (upd z 0 (0 : Int32)) 0 (3 : Int32)) wi dm)) hm
            have hA31 := va_gs (k := 12) (e := (am, .inr (9, mF ad (upd (upd z 0 (0 : Int32)) 0 (3 : Int32)) wi dm))) (by decide) hA31
            have hA32 := va_gs (k := 12) (e := (am, .inr (9, mF ad (upd (upd z 0 (0 : Int32)) 0 (3 : Int32)) wi dm))) (by decide) hA32
            have hA33 := va_gs (k := 12) (e := (am, .inr (9, mF ad (upd (upd z 0 (0 : Int32)) 0 (3 : Int32)) wi dm))) (by decide) hA33
            have hA34 := va_gs (k := 12) (e := (am, .inr (9, mF ad (upd (upd z 0 (0 : Int32)) 0 (3 : Int32)) wi dm))) (by decide) hA34
            have hm := va_ge (e := (am, .inr (9, mF ad (upd (upd z 0 (0 : Int32)) 0 (3 : Int32)) wi dm))) hm
            have hP : va_P G vwCl (((ws).set 12 (am, .inr (9, mF ad (upd z 0 (0 : Int32)) wi dm))).set 12 (am, .inr (9, mF ad (upd (upd z 0 (0 : Int32)) 0 (3 : Int32)) wi dm))) H := hB
            have hD : va_D A (((ws).set 12 (am, .inr (9, mF ad (upd z 0 (0 : Int32)) wi dm))).set 12 (am, .inr (9, mF ad (upd (upd z 0 (0 : Int32)) 0 (3 : Int32)) wi dm))) := hD
            have hcd : cdClaim x fr to (nI nP) (nI nC) = 3 := by unfold cdClaim; rw [if_neg k0, if_neg k1, if_neg k2, if_neg k3, if_pos hbd]
            have ew : ((ws).set 12 (am, .inr (9, mF ad (upd z 0 (0 : Int32)) wi dm))).set 12 (am, .inr (9, mF ad (upd (upd z 0 (0 : Int32)) 0 (3 : Int32)) wi dm)) = (if cdClaim x fr to (nI nP) (nI nC) = 0 then ((((((ws).set 12 (am, .inr (9, mF ad (upd z 0 (0 : Int32)) wi dm))).set 31 (ad 31, .inl (cI, 8, .inl (upd (F 31) (z 33).toNatClampNeg x)))).set 32 (ad 32, .inl (cI, 8, .inl (upd (F 32) (z 33).toNatClampNeg fr)))).set 33 (ad 33, .inl (cI, 8, .inl (upd (F 33) (z 33).toNatClampNeg to)))).set 34 (ad 34, .inl (cI, 8, .inl (upd (F 34) (z 33).toNatClampNeg (z 29))))).set 12 (am, .inr (9, mF ad (upd (upd z 0 (0 : Int32)) 33 ((z 33) + (1 : Int32))) wi dm)) else ws.set 12 (am, .inr (9, mF ad (upd z 0 (cdClaim x fr to (nI nP) (nI nC))) wi dm))) := by rw [hcd, if_neg (by decide), List.set_set, upd_upd]
            have hP : va_P G vwCl (((ws).set 12 (am, .inr (9, mF ad (upd z 0 (0 : Int32)) wi dm))).set 12 (am, .inr (9, mF ad (upd (upd z 0 (0 : Int32)) 0 (3 : Int32)) wi dm))) H := hP
            have hD : va_D A (((ws).set 12 (am, .inr (9, mF ad (upd z 0 (0 : Int32)) wi dm))).set 12 (am, .inr (9, mF ad (upd (upd z 0 (0 : Int32)) 0 (3 : Int32)) wi dm))) := hD
            rw [ew] at hP hD
            exact W.iret (v := r72) hx hb hr (fun t ht hW => ⟨⟨r72, (), rfl, (fun h0 => absurd (hcd.symm.trans h0) (by decide)), by show va_P G vwCl _ t.heap ∧ va_D A _; rw [ht]; exact ⟨hP, hD⟩⟩, hS.F ht⟩) hS.2.2 dX8_claim_75
        · have hbd : oR to fr (nI nP - 1) := Or.inl (i32_nle c52)
          skip
          refine lv_aload_n hx hb dX8_claim_55 rfl (lv_at hl 0 rfl) ?_
          refine lv_iconst (v := 2) hx hb dX8_claim_56 (by decide) ?_
          refine va_calli (va_runV (As := [.int (2 : Int32)]) (rest := []) ⟨hx, hb, hml, hown, hts⟩ (metX8_stop l G tys _ hm (2 : Int32)) (cwV 1 hts gX8_claim_X8_stop rfl rfl rfl (by decide +kernel) ⟨Nat.le_of_ble_eq_true rfl, Nat.le_of_ble_eq_true rfl⟩) ⟨pcM_b, va_recv hK hP (ci := 9) (q0 := 12) rfl hm, pcM_u hP hK hD hS hA⟩ rfl rfl hl.1 rfl (lv_room (Nat.le_of_ble_eq_true rfl)) dX8_claim_57 ⟨Nat.le_of_ble_eq_true rfl, Nat.le_of_ble_eq_true rfl⟩) hS (fun q _ h => h) (fun q h => h) (fun r57 u t H locs ht hvm h57 hB hsz hk1 hS => ?_)
          rw [ht] at hB
          have hB := hB.1
          have hD := hD.set (e := .inr (9, mF ad (upd (upd z 0 (0 : Int32)) 0 (2 : Int32)) wi dm)) hm
          have hA31 := va_gs (k := 12) (e := (am, .inr (9, mF ad (upd (upd z 0 (0 : Int32)) 0 (2 : Int32)) wi dm))) (by decide) hA31
          have hA32 := va_gs (k := 12) (e := (am, .inr (9, mF ad (upd (upd z 0 (0 : Int32)) 0 (2 : Int32)) wi dm))) (by decide) hA32
          have hA33 := va_gs (k := 12) (e := (am, .inr (9, mF ad (upd (upd z 0 (0 : Int32)) 0 (2 : Int32)) wi dm))) (by decide) hA33
          have hA34 := va_gs (k := 12) (e := (am, .inr (9, mF ad (upd (upd z 0 (0 : Int32)) 0 (2 : Int32)) wi dm))) (by decide) hA34
          have hm := va_ge (e := (am, .inr (9, mF ad (upd (upd z 0 (0 : Int32)) 0 (2 : Int32)) wi dm))) hm
          have hP : va_P G vwCl (((ws).set 12 (am, .inr (9, mF ad (upd z 0 (0 : Int32)) wi dm))).set 12 (am, .inr (9, mF ad (upd (upd z 0 (0 : Int32)) 0 (2 : Int32)) wi dm))) H := hB
          have hD : va_D A (((ws).set 12 (am, .inr (9, mF ad (upd z 0 (0 : Int32)) wi dm))).set 12 (am, .inr (9, mF ad (upd (upd z 0 (0 : Int32)) 0 (2 : Int32)) wi dm))) := hD
          have hcd : cdClaim x fr to (nI nP) (nI nC) = 2 := by unfold cdClaim; rw [if_neg k0, if_neg k1, if_neg k2, if_pos hbd]
          have ew : ((ws).set 12 (am, .inr (9, mF ad (upd z 0 (0 : Int32)) wi dm))).set 12 (am, .inr (9, mF ad (upd (upd z 0 (0 : Int32)) 0 (2 : Int32)) wi dm)) = (if cdClaim x fr to (nI nP) (nI nC) = 0 then ((((((ws).set 12 (am, .inr (9, mF ad (upd z 0 (0 : Int32)) wi dm))).set 31 (ad 31, .inl (cI, 8, .inl (upd (F 31) (z 33).toNatClampNeg x)))).set 32 (ad 32, .inl (cI, 8, .inl (upd (F 32) (z 33).toNatClampNeg fr)))).set 33 (ad 33, .inl (cI, 8, .inl (upd (F 33) (z 33).toNatClampNeg to)))).set 34 (ad 34, .inl (cI, 8, .inl (upd (F 34) (z 33).toNatClampNeg (z 29))))).set 12 (am, .inr (9, mF ad (upd (upd z 0 (0 : Int32)) 33 ((z 33) + (1 : Int32))) wi dm)) else ws.set 12 (am, .inr (9, mF ad (upd z 0 (cdClaim x fr to (nI nP) (nI nC))) wi dm))) := by rw [hcd, if_neg (by decide), List.set_set, upd_upd]
          have hP : va_P G vwCl (((ws).set 12 (am, .inr (9, mF ad (upd z 0 (0 : Int32)) wi dm))).set 12 (am, .inr (9, mF ad (upd (upd z 0 (0 : Int32)) 0 (2 : Int32)) wi dm))) H := hP
          have hD : va_D A (((ws).set 12 (am, .inr (9, mF ad (upd z 0 (0 : Int32)) wi dm))).set 12 (am, .inr (9, mF ad (upd (upd z 0 (0 : Int32)) 0 (2 : Int32)) wi dm))) := hD
          rw [ew] at hP hD
          exact W.iret (v := r57) hx hb hr (fun t ht hW => ⟨⟨r57, (), rfl, (fun h0 => absurd (hcd.symm.trans h0) (by decide)), by show va_P G vwCl _ t.heap ∧ va_D A _; rw [ht]; exact ⟨hP, hD⟩⟩, hS.F ht⟩) hS.2.2 dX8_claim_60
    · have hbd : uK to (nI nP) := (oR_uK (by rw [hz29]) (show nP < 2 ^ 31 by omega)).mp (mIn_0.mp (h27.symm.trans c30))
      skip
      refine lv_aload_n hx hb dX8_claim_33 rfl (lv_at hl 0 rfl) ?_
      refine lv_iconst (v := 1) hx hb dX8_claim_34 (by decide) ?_
      refine va_calli (va_runV (As := [.int (1 : Int32)]) (rest := []) ⟨hx, hb, hml, hown, hts⟩ (metX8_stop l G tys _ hm (1 : Int32)) (cwV 1 hts gX8_claim_X8_stop rfl rfl rfl (by decide +kernel) ⟨Nat.le_of_ble_eq_true rfl, Nat.le_of_ble_eq_true rfl⟩) ⟨pcM_b, va_recv hK hP (ci := 9) (q0 := 12) rfl hm, pcM_u hP hK hD hS hA⟩ rfl rfl hl.1 rfl (lv_room (Nat.le_of_ble_eq_true rfl)) dX8_claim_35 ⟨Nat.le_of_ble_eq_true rfl, Nat.le_of_ble_eq_true rfl⟩) hS (fun q _ h => h) (fun q h => h) (fun r35 u t H locs ht hvm h35 hB hsz hk1 hS => ?_)
      rw [ht] at hB
      have hB := hB.1
      have hD := hD.set (e := .inr (9, mF ad (upd (upd z 0 (0 : Int32)) 0 (1 : Int32)) wi dm)) hm
      have hA31 := va_gs (k := 12) (e := (am, .inr (9, mF ad (upd (upd z 0 (0 : Int32)) 0 (1 : Int32)) wi dm))) (by decide) hA31
      have hA32 := va_gs (k := 12) (e := (am, .inr (9, mF ad (upd (upd z 0 (0 : Int32)) 0 (1 : Int32)) wi dm))) (by decide) hA32
      have hA33 := va_gs (k := 12) (e := (am, .inr (9, mF ad (upd (upd z 0 (0 : Int32)) 0 (1 : Int32)) wi dm))) (by decide) hA33
      have hA34 := va_gs (k := 12) (e := (am, .inr (9, mF ad (upd (upd z 0 (0 : Int32)) 0 (1 : Int32)) wi dm))) (by decide) hA34
      have hm := va_ge (e := (am, .inr (9, mF ad (upd (upd z 0 (0 : Int32)) 0 (1 : Int32)) wi dm))) hm
      have hP : va_P G vwCl (((ws).set 12 (am, .inr (9, mF ad (upd z 0 (0 : Int32)) wi dm))).set 12 (am, .inr (9, mF ad (upd (upd z 0 (0 : Int32)) 0 (1 : Int32)) wi dm))) H := hB
      have hD : va_D A (((ws).set 12 (am, .inr (9, mF ad (upd z 0 (0 : Int32)) wi dm))).set 12 (am, .inr (9, mF ad (upd (upd z 0 (0 : Int32)) 0 (1 : Int32)) wi dm))) := hD
      have hcd : cdClaim x fr to (nI nP) (nI nC) = 1 := by unfold cdClaim; rw [if_neg k0, if_pos hbd]
      have ew : ((ws).set 12 (am, .inr (9, mF ad (upd z 0 (0 : Int32)) wi dm))).set 12 (am, .inr (9, mF ad (upd (upd z 0 (0 : Int32)) 0 (1 : Int32)) wi dm)) = (if cdClaim x fr to (nI nP) (nI nC) = 0 then ((((((ws).set 12 (am, .inr (9, mF ad (upd z 0 (0 : Int32)) wi dm))).set 31 (ad 31, .inl (cI, 8, .inl (upd (F 31) (z 33).toNatClampNeg x)))).set 32 (ad 32, .inl (cI, 8, .inl (upd (F 32) (z 33).toNatClampNeg fr)))).set 33 (ad 33, .inl (cI, 8, .inl (upd (F 33) (z 33).toNatClampNeg to)))).set 34 (ad 34, .inl (cI, 8, .inl (upd (F 34) (z 33).toNatClampNeg (z 29))))).set 12 (am, .inr (9, mF ad (upd (upd z 0 (0 : Int32)) 33 ((z 33) + (1 : Int32))) wi dm)) else ws.set 12 (am, .inr (9, mF ad (upd z 0 (cdClaim x fr to (nI nP) (nI nC))) wi dm))) := by rw [hcd, if_neg (by decide), List.set_set, upd_upd]
      have hP : va_P G vwCl (((ws).set 12 (am, .inr (9, mF ad (upd z 0 (0 : Int32)) wi dm))).set 12 (am, .inr (9, mF ad (upd (upd z 0 (0 : Int32)) 0 (1 : Int32)) wi dm))) H := hP
      have hD : va_D A (((ws).set 12 (am, .inr (9, mF ad (upd z 0 (0 : Int32)) wi dm))).set 12 (am, .inr (9, mF ad (upd (upd z 0 (0 : Int32)) 0 (1 : Int32)) wi dm))) := hD
      rw [ew] at hP hD
      exact W.iret (v := r35) hx hb hr (fun t ht hW => ⟨⟨r35, (), rfl, (fun h0 => absurd (hcd.symm.trans h0) (by decide)), by show va_P G vwCl _ t.heap ∧ va_D A _; rw [ht]; exact ⟨hP, hD⟩⟩, hS.F ht⟩) hS.2.2 dX8_claim_38
