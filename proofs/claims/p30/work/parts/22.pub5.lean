/-- one point against the claim's points from fr on: whether a pair has been seen, whether one is too far -/
def jIn (tm cu vo : Nat → Int32) (no p : Int32) (a fr : Nat) : Nat → Int32 × Bool
  | 0 => (p, false)
  | k + 1 => if (jIn tm cu vo no p a fr k).2 = true then jIn tm cu vo no p a fr k else if pMir (tm a) (cu a) (tm (fr + k)) (cu (fr + k)) = 0 then jIn tm cu vo no p a fr k else if jabs (vo a - vo (fr + k)) ≤ 2 * no then (1, false) else (1, true)
def jOut (tm cu vo : Nat → Int32) (no ct : Int32) (fr n : Nat) : Nat → Int32 × Bool
  | 0 => (0, false)
  | k + 1 => if (jOut tm cu vo no ct fr n k).2 = true then jOut tm cu vo no ct fr n k else if tm (fr + k) < ct then jIn tm cu vo no (jOut tm cu vo no ct fr n k).1 (fr + k) fr n else jOut tm cu vo no ct fr n k
def jOpen (tm cu vo : Nat → Int32) (no ct : Int32) (fr n : Nat) : Int32 := if (jOut tm cu vo no ct fr n n).2 = true then 1 else if (jOut tm cu vo no ct fr n n).1 = 0 then 1 else 0
section JStep
variable {tm cu vo : Nat → Int32} {no p ct : Int32} {a fr n k : Nat}
theorem jIn_stop (h : (jIn tm cu vo no p a fr k).2 = true) : ∀ j, k ≤ j → (jIn tm cu vo no p a fr j).2 = true := by
  intro j hj
  induction j with
  | zero => have : k = 0 := by omega
            subst this; exact h
  | succ j ih =>
    rcases Nat.lt_or_ge j k with q | q
    · have : k = j + 1 := by omega
      subst this; exact h
    · show (if (jIn tm cu vo no p a fr j).2 = true then _ else _ : Int32 × Bool).2 = true
      rw [if_pos (ih q)]
      exact ih q
theorem jOut_stop (h : (jOut tm cu vo no ct fr n k).2 = true) : ∀ j, k ≤ j → (jOut tm cu vo no ct fr n j).2 = true := by
  intro j hj
  induction j with
  | zero => have : k = 0 := by omega
            subst this; exact h
  | succ j ih =>
    rcases Nat.lt_or_ge j k with q | q
    · have : k = j + 1 := by omega
      subst this; exact h
    · show (if (jOut tm cu vo no ct fr n j).2 = true then _ else _ : Int32 × Bool).2 = true
      rw [if_pos (ih q)]
      exact ih q
theorem jIn_no (h : (jIn tm cu vo no p a fr k).2 = false) (h1 : pMir (tm a) (cu a) (tm (fr + k)) (cu (fr + k)) = 0) : jIn tm cu vo no p a fr (k + 1) = jIn tm cu vo no p a fr k := by
  show (if (jIn tm cu vo no p a fr k).2 = true then _ else _) = _
  rw [if_neg (by rw [h]; exact Bool.false_ne_true), if_pos h1]
theorem jIn_near (h : (jIn tm cu vo no p a fr k).2 = false) (h1 : ¬ pMir (tm a) (cu a) (tm (fr + k)) (cu (fr + k)) = 0) (h2 : jabs (vo a - vo (fr + k)) ≤ 2 * no) : jIn tm cu vo no p a fr (k + 1) = (1, false) := by
  show (if (jIn tm cu vo no p a fr k).2 = true then _ else _) = _
  rw [if_neg (by rw [h]; exact Bool.false_ne_true), if_neg h1, if_pos h2]
theorem jIn_far (h : (jIn tm cu vo no p a fr k).2 = false) (h1 : ¬ pMir (tm a) (cu a) (tm (fr + k)) (cu (fr + k)) = 0) (h2 : ¬ jabs (vo a - vo (fr + k)) ≤ 2 * no) : jIn tm cu vo no p a fr (k + 1) = (1, true) := by
  show (if (jIn tm cu vo no p a fr k).2 = true then _ else _) = _
  rw [if_neg (by rw [h]; exact Bool.false_ne_true), if_neg h1, if_neg h2]
theorem jOut_in (h : (jOut tm cu vo no ct fr n k).2 = false) (h1 : tm (fr + k) < ct) : jOut tm cu vo no ct fr n (k + 1) = jIn tm cu vo no (jOut tm cu vo no ct fr n k).1 (fr + k) fr n := by
  show (if (jOut tm cu vo no ct fr n k).2 = true then _ else _) = _
  rw [if_neg (by rw [h]; exact Bool.false_ne_true), if_pos h1]
theorem jOut_out (h : (jOut tm cu vo no ct fr n k).2 = false) (h1 : ¬ tm (fr + k) < ct) : jOut tm cu vo no ct fr n (k + 1) = jOut tm cu vo no ct fr n k := by
  show (if (jOut tm cu vo no ct fr n k).2 = true then _ else _) = _
  rw [if_neg (by rw [h]; exact Bool.false_ne_true), if_neg h1]
end JStep
set_option maxHeartbeats 4000000 in
set_option maxRecDepth 100000 in
theorem metX7_repeats (l : Launch) (hnt : l.stackTraces = false) (G : va_G) (tys : List (ClassId × FieldType)) {A : Nat → Prop} {tE mi : Nat} {cI : ClassId} (htI : tI tys cI) (ws : va_W) {cO : ClassId} (htO : tO tys cO) {pv v aS af aR ao ak aP aC : Nat} (hv : ws[pv]? = some (v, .inr (7, [.ref aS, .ref af, .ref aR, .ref ao, .ref ak, .ref aP, .ref aC]))) {pP qP nP : Nat} {eP : Nat → Nat} (hP9 : lsL ws tE cO pP aP nP eP qP) {gP : Nat → Nat} {pt pu pw : Nat → Int32} (hPt : ∀ i, i < nP → ws[gP i]? = some (eP i, .inr (5, [.int (pt i), .int (pu i), .int (pw i)]))) {pC qC nC : Nat} {eC : Nat → Nat} (hC9 : lsL ws tE cO pC aC nC eC qC) {gC gW aW : Nat → Nat} {ct cf co2 ca : Nat → Int32} {wd : Nat → Nat → Int32} (hCl : ∀ i, i < nC → ws[gC i]? = some (eC i, .inr (1, [.int (ct i), .int (cf i), .int (co2 i), .int (ca i), .ref (aW i)]))) (hWd : ∀ i, i < nC → ws[gW i]? = some (aW i, .inl (cI, 7, .inl (wd i)))) (x h d : Int32) : vx_Met l yX7_repeats wsX7_repeats { frames := 7, cells := 2, slots := 12, locals := 103 } (pcX G tys ws A tE mi [.ref v, .int x, .int h, .int d]) (va_Qi (fun (r : Int32) (_ : Unit) => cdRepeats x h (nI nC) = 0 ∧ r = hCnt (upd (wd x.toNatClampNeg) h.toNatClampNeg (if d = 0 then 2 else 1)) 1 7) (fun _ t => va_P G vwCl (ws.set (gW x.toNatClampNeg) (aW x.toNatClampNeg, .inl (cI, 7, .inl (upd (wd x.toNatClampNeg) h.toNatClampNeg (if d = 0 then 2 else 1))))) t.heap ∧ va_D A (ws.set (gW x.toNatClampNeg) (aW x.toNatClampNeg, .inl (cI, 7, .inl (upd (wd x.toNatClampNeg) h.toNatClampNeg (if d = 0 then 2 else 1)))))) A) (xcT (fun E => xC (cdRepeats x h (nI nC)) eIB eIB "" E)) 2 12 A := by
  refine ofX (cc := cX7_repeats) (maxL := 5) (ret := some .int) (by decide) rfl (Nat.le_of_ble_eq_true rfl) ?_
  intro p e s m below meth c ls hx hb hr hlocks hml hown hts hno hl hP hK hD hA hS hE
  have hown : s.vm.findClass RX7 = some m.cls := hown
  have hiX0 : ∀ w ∈ u_ws RX0 TX0 5, w ∈ wsX7_repeats := fun _ h => List.mem_cons_of_mem _ (List.mem_append_left _ (List.mem_append_left _ (List.mem_append_right _ h)))
  have hiX7 : ∀ w ∈ u_ws RX7 TX7 7, w ∈ wsX7_repeats := fun _ h => List.mem_cons_of_mem _ (List.mem_append_left _ (List.mem_append_left _ (List.mem_append_left _ (List.mem_append_right _ h))))
  have hl : lv_has ls 5 [(0, .ref v), (1, .int x), (2, .int h), (3, .int d)] := hl
  have hO : okO s s.heap := ⟨Nat.le_refl _, fun _ _ => rfl⟩
  refine lv_iload_n hx hb dX7_repeats_0 rfl (lv_at hl 1 rfl) ?_
  refine lv_aload_n hx hb dX7_repeats_1 rfl (lv_at hl 0 rfl) ?_
  refine va_get (D := G) (ci := 7) (v := .ref aC) (C := RX7) (T := TX7) (N := 7) hx hb hts hiX7 hown hK hP pv hv rfl 6 (by decide) (hts (.fieldLink RX7 43 "Vortexpin" "claims" "Ljava/util/ArrayList;") (List.mem_of_getElem? (i := 1) rfl)) (fun _ h9 => h9) rfl dX7_repeats_2 ?_
  obtain ⟨mosz5, aesz5, hLsz5⟩ := lsL_cell hC9
  refine vp_callSi (va_Run.run (va_runV (As := []) (rest := [.int x]) ⟨hx, hb, hml, hown, hts⟩ (metSize l G tys _ hC9) (cwV 0 hts gX7_repeats_Jx4a65c_size_8abf5 rfl rfl rfl (by decide +kernel) ⟨Nat.le_of_ble_eq_true rfl, Nat.le_of_ble_eq_true rfl⟩) ⟨pcR_b, va_recv hK hP (ci := 0) (q0 := pC) rfl hLsz5, pcR_u hP hK⟩ rfl rfl hl.1 rfl (lv_room (Nat.le_of_ble_eq_true rfl)) dX7_repeats_5 ⟨Nat.le_of_ble_eq_true rfl, Nat.le_of_ble_eq_true rfl⟩)) (fun r5 h5 => ?_)
  subst h5
  refine ref_step (vx_runS (As := [.int x, .int (nI nC)]) (rest := []) ⟨hx, hb, hml, hown, hts⟩ (metX7_refuseUnknown l hnt x (nI nC)) (va_cwS 2 hts gX7_repeats_X7_refuseUnknown rfl rfl rfl (by decide +kernel) ⟨Nat.le_of_ble_eq_true rfl, Nat.le_of_ble_eq_true rfl⟩) ⟨pcE_b, pcE_u hE hS hA⟩ rfl rfl hl.1 rfl (lv_room (Nat.le_of_ble_eq_true rfl)) dX7_repeats_8 ⟨Nat.le_of_ble_eq_true rfl, Nat.le_of_ble_eq_true rfl⟩) hno hlocks hS hO hP (fun hbd => Or.inl ⟨by unfold cdRepeats; rw [if_pos hbd], rfl⟩) (Nat.le_of_ble_eq_true rfl) (Nat.le_of_ble_eq_true rfl) (fun k0 H locs hS hO hP => ?_)
  have hs := hCl x.toNatClampNeg (uK_ix k0).2; have hw := hWd x.toNatClampNeg (uK_ix k0).2
  refine lv_iload_n hx hb dX7_repeats_11 rfl (lv_at hl 2 rfl) ?_
  refine lv_bipush (v := 7) hx hb dX7_repeats_12 (by decide) ?_
  refine ref_step (vx_runS (As := [.int h, .int (7 : Int32)]) (rest := []) ⟨hx, hb, hml, hown, hts⟩ (metX7_refuseUnknown l hnt h (7 : Int32)) (va_cwS 2 hts gX7_repeats_X7_refuseUnknown rfl rfl rfl (by decide +kernel) ⟨Nat.le_of_ble_eq_true rfl, Nat.le_of_ble_eq_true rfl⟩) ⟨pcE_b, pcE_u hE hS hA⟩ rfl rfl hl.1 rfl (lv_room (Nat.le_of_ble_eq_true rfl)) dX7_repeats_14 ⟨Nat.le_of_ble_eq_true rfl, Nat.le_of_ble_eq_true rfl⟩) hno hlocks hS hO hP (fun hbd => Or.inl ⟨by unfold cdRepeats; rw [if_neg k0, if_pos hbd], rfl⟩) (Nat.le_of_ble_eq_true rfl) (Nat.le_of_ble_eq_true rfl) (fun k1 H locs hS hO hP => ?_)
  refine lv_aload_n hx hb dX7_repeats_17 rfl (lv_at hl 0 rfl) ?_
  refine va_get (D := G) (ci := 7) (v := .ref aC) (C := RX7) (T := TX7) (N := 7) hx hb hts hiX7 hown hK hP pv hv rfl 6 (by decide) (hts (.fieldLink RX7 43 "Vortexpin" "claims" "Ljava/util/ArrayList;") (List.mem_of_getElem? (i := 1) rfl)) (fun _ h9 => h9) rfl dX7_repeats_18 ?_
  refine lv_iload_n hx hb dX7_repeats_21 rfl (lv_at hl 1 rfl) ?_
  obtain ⟨mogt22, aegt22, hLgt22⟩ := lsL_cell hC9
  refine va_csq (va_Run.run (va_runV (As := [.int x]) (rest := []) ⟨hx, hb, hml, hown, hts⟩ (metGet l G tys _ htO hC9 x k0) (cwV 1 hts gX7_repeats_Jx4a65c_get_915e3 rfl rfl rfl (by decide +kernel) ⟨Nat.le_of_ble_eq_true rfl, Nat.le_of_ble_eq_true rfl⟩) ⟨pcR_b, va_recv hK hP (ci := 0) (q0 := pC) rfl hLgt22, pcR_u hP hK⟩ rfl rfl hl.1 rfl (lv_room (Nat.le_of_ble_eq_true rfl)) dX7_repeats_22 ⟨Nat.le_of_ble_eq_true rfl, Nat.le_of_ble_eq_true rfl⟩)) (fun r22 h22 => ?_)
  refine rf_q h22 ?_
  refine va_castE hx hb hown (hts (.classLink RX7 194 "Vortexpin$Claim") (List.mem_of_getElem? (i := 2) rfl)) (va_recv hK hP (ci := 1) (q0 := (gC x.toNatClampNeg)) rfl hs) dX7_repeats_25 ?_
  refine lv_astore (lv' := [(4, .ref (eC x.toNatClampNeg)), (0, .ref v), (1, .int x), (2, .int h), (3, .int d)]) hx hb dX7_repeats_28 hl (by decide) rfl (fun ls hl => ?_)
  refine lv_aload hx hb dX7_repeats_30 (lv_at hl 0 rfl) ?_
  refine va_get (D := G) (ci := 1) (v := .ref (aW x.toNatClampNeg)) (C := RX0) (T := TX0) (N := 5) hx hb hts hiX0 hown hK hP (gC x.toNatClampNeg) hs rfl 4 (by decide) (hts (.fieldLink RX7 199 "Vortexpin$Claim" "words" "[I") (List.mem_of_getElem? (i := 3) rfl)) (fun _ h9 => h9) rfl dX7_repeats_32 ?_
  refine lv_iload_n hx hb dX7_repeats_35 rfl (lv_at hl 3 rfl) ?_
  refine lv_iload_n hx hb dX7_repeats_36 rfl (lv_at hl 4 rfl) ?_
  refine lv_if_eq (tgt := 44) hx hb dX7_repeats_37 (by decide) (fun c37 => ?_) (fun c37 => ?_)
  · refine lv_iconst (v := 2) hx hb dX7_repeats_44 (by decide) ?_
    refine va_iast hx hb hK hP hD hS (gW x.toNatClampNeg) 0 hw htI (vp_uK k1) dX7_repeats_45 (fun H locs hP hD hS => ?_)
    have hv := va_gs (k := (gW x.toNatClampNeg)) (e := (aW x.toNatClampNeg, .inl (cI, 7, .inl (upd (wd x.toNatClampNeg) h.toNatClampNeg (2 : Int32))))) ((ne_lr hw hv).symm) hv
    have hs := va_gs (k := (gW x.toNatClampNeg)) (e := (aW x.toNatClampNeg, .inl (cI, 7, .inl (upd (wd x.toNatClampNeg) h.toNatClampNeg (2 : Int32))))) ((ne_lr hw hs).symm) hs
    have hw := va_ge (e := (aW x.toNatClampNeg, .inl (cI, 7, .inl (upd (wd x.toNatClampNeg) h.toNatClampNeg (2 : Int32))))) hw
    refine lv_aload hx hb dX7_repeats_46 (lv_at hl 0 rfl) ?_
    refine lv_iconst (v := 1) hx hb dX7_repeats_48 (by decide) ?_
    refine vp_callSi (va_Run.run (va_runV (As := [.int (1 : Int32)]) (rest := []) ⟨hx, hb, hml, hown, hts⟩ (metX0_housesThat l G tys cI htI _ hs hw (1 : Int32)) (cwV 1 hts gX7_repeats_X0_housesThat rfl rfl rfl (by decide +kernel) ⟨Nat.le_of_ble_eq_true rfl, Nat.le_of_ble_eq_true rfl⟩) ⟨pcR_b, va_recv hK hP (ci := 1) (q0 := (gC x.toNatClampNeg)) rfl hs, pcR_u hP hK⟩ rfl rfl hl.1 rfl (lv_room (Nat.le_of_ble_eq_true rfl)) dX7_repeats_49 ⟨Nat.le_of_ble_eq_true rfl, Nat.le_of_ble_eq_true rfl⟩)) (fun r49 h49 => ?_)
    refine W.widen (k := 2) (n := 12) (Nat.le_of_ble_eq_true rfl) (Nat.le_of_ble_eq_true rfl) (vx_ret ?_)
    have ew : (ws).set (gW x.toNatClampNeg) (aW x.toNatClampNeg, .inl (cI, 7, .inl (upd (wd x.toNatClampNeg) h.toNatClampNeg (2 : Int32)))) = ws.set (gW x.toNatClampNeg) (aW x.toNatClampNeg, .inl (cI, 7, .inl (upd (wd x.toNatClampNeg) h.toNatClampNeg (if d = 0 then 2 else 1)))) := by subst h49; simp only [List.set_set, (eq_true c37), ↓reduceIte, not_true_eq_false, not_false_eq_true]
    have hP : va_P G vwCl ((ws).set (gW x.toNatClampNeg) (aW x.toNatClampNeg, .inl (cI, 7, .inl (upd (wd x.toNatClampNeg) h.toNatClampNeg (2 : Int32))))) H := hP
    have hD : va_D A ((ws).set (gW x.toNatClampNeg) (aW x.toNatClampNeg, .inl (cI, 7, .inl (upd (wd x.toNatClampNeg) h.toNatClampNeg (2 : Int32))))) := hD
    rw [ew] at hP hD
    exact W.iret (v := r49) hx hb hr (fun t ht hW => ⟨⟨r49, (), rfl, ⟨by unfold cdRepeats; rw [if_neg k0, if_neg k1], by subst h49; simp only [(eq_true c37), ↓reduceIte, not_true_eq_false, not_false_eq_true]⟩, by show va_P G vwCl _ t.heap ∧ va_D A _; rw [ht]; exact ⟨hP, hD⟩⟩, hS.F ht⟩) hS.2.2 dX7_repeats_52
  · refine lv_iconst (v := 1) hx hb dX7_repeats_40 (by decide) ?_
    refine lv_goto (tgt := 45) hx hb dX7_repeats_41 (by decide) ?_
    refine va_iast hx hb hK hP hD hS (gW x.toNatClampNeg) 0 hw htI (vp_uK k1) dX7_repeats_45 (fun H locs hP hD hS => ?_)
    have hv := va_gs (k := (gW x.toNatClampNeg)) (e := (aW x.toNatClampNeg, .inl (cI, 7, .inl (upd (wd x.toNatClampNeg) h.toNatClampNeg (1 : Int32))))) ((ne_lr hw hv).symm) hv
    have hs := va_gs (k := (gW x.toNatClampNeg)) (e := (aW x.toNatClampNeg, .inl (cI, 7, .inl (upd (wd x.toNatClampNeg) h.toNatClampNeg (1 : Int32))))) ((ne_lr hw hs).symm) hs
    have hw := va_ge (e := (aW x.toNatClampNeg, .inl (cI, 7, .inl (upd (wd x.toNatClampNeg) h.toNatClampNeg (1 : Int32))))) hw
    refine lv_aload hx hb dX7_repeats_46 (lv_at hl 0 rfl) ?_
    refine lv_iconst (v := 1) hx hb dX7_repeats_48 (by decide) ?_
    refine vp_callSi (va_Run.run (va_runV (As := [.int (1 : Int32)]) (rest := []) ⟨hx, hb, hml, hown, hts⟩ (metX0_housesThat l G tys cI htI _ hs hw (1 : Int32)) (cwV 1 hts gX7_repeats_X0_housesThat rfl rfl rfl (by decide +kernel) ⟨Nat.le_of_ble_eq_true rfl, Nat.le_of_ble_eq_true rfl⟩) ⟨pcR_b, va_recv hK hP (ci := 1) (q0 := (gC x.toNatClampNeg)) rfl hs, pcR_u hP hK⟩ rfl rfl hl.1 rfl (lv_room (Nat.le_of_ble_eq_true rfl)) dX7_repeats_49 ⟨Nat.le_of_ble_eq_true rfl, Nat.le_of_ble_eq_true rfl⟩)) (fun r49 h49 => ?_)
    refine W.widen (k := 2) (n := 12) (Nat.le_of_ble_eq_true rfl) (Nat.le_of_ble_eq_true rfl) (vx_ret ?_)
    have ew : (ws).set (gW x.toNatClampNeg) (aW x.toNatClampNeg, .inl (cI, 7, .inl (upd (wd x.toNatClampNeg) h.toNatClampNeg (1 : Int32)))) = ws.set (gW x.toNatClampNeg) (aW x.toNatClampNeg, .inl (cI, 7, .inl (upd (wd x.toNatClampNeg) h.toNatClampNeg (if d = 0 then 2 else 1)))) := by subst h49; simp only [List.set_set, c37, ↓reduceIte, not_true_eq_false, not_false_eq_true]
    have hP : va_P G vwCl ((ws).set (gW x.toNatClampNeg) (aW x.toNatClampNeg, .inl (cI, 7, .inl (upd (wd x.toNatClampNeg) h.toNatClampNeg (1 : Int32))))) H := hP
    have hD : va_D A ((ws).set (gW x.toNatClampNeg) (aW x.toNatClampNeg, .inl (cI, 7, .inl (upd (wd x.toNatClampNeg) h.toNatClampNeg (1 : Int32))))) := hD
    rw [ew] at hP hD
    exact W.iret (v := r49) hx hb hr (fun t ht hW => ⟨⟨r49, (), rfl, ⟨by unfold cdRepeats; rw [if_neg k0, if_neg k1], by subst h49; simp only [c37, ↓reduceIte, not_true_eq_false, not_false_eq_true]⟩, by show va_P G vwCl _ t.heap ∧ va_D A _; rw [ht]; exact ⟨hP, hD⟩⟩, hS.F ht⟩) hS.2.2 dX7_repeats_52
set_option maxHeartbeats 4000000 in
set_option maxRecDepth 100000 in
theorem metX0_isOpen (l : Launch) (G : va_G) (tys : List (ClassId × FieldType)) {tE : Nat} {cI : ClassId} (htI : tI tys cI) (ws : va_W) {cO : ClassId} (htO : tO tys cO) {aP : Nat} {pP qP nP : Nat} {eP : Nat → Nat} (hP9 : lsL ws tE cO pP aP nP eP qP) (hn60 : nP ≤ 60) {gP : Nat → Nat} {pt pu pw : Nat → Int32} (hPt : ∀ i, i < nP → ws[gP i]? = some (eP i, .inr (5, [.int (pt i), .int (pu i), .int (pw i)]))) {p1 a1 pv av : Nat} {tm0 fr0 to0 pn0 : Int32} {wd : Nat → Int32} (hs : ws[p1]? = some (a1, .inr (1, [.int tm0, .int fr0, .int to0, .int pn0, .ref av]))) (hw : ws[pv]? = some (av, .inl (cI, 7, .inl wd))) (no : Int32) {cf ct : Nat} (hcf : fr0 = nI cf) (hct : to0 = nI ct) (hcn : cf ≤ ct ∧ ct < nP) : Met l yX0_isOpen wsX0_isOpen ({ frames := 3, cells := 0, slots := 0, locals := 64 }) (pcR G tys ws [.ref a1, .ref aP, .int no]) (vp_Si (fun r => r = jOpen pt pu pw no tm0 cf (ct + 1 - cf))) 0 0 (fun _ => False) := by
  refine ofR (cc := cX0_isOpen) (maxL := 8) (ret := some .boolean) (by decide) rfl (Nat.le_of_ble_eq_true rfl) ?_
  intro p e s m below meth c ls hx hb hr hlocks hml hown hts hl hP hK
  have hown : s.vm.findClass RX0 = some m.cls := hown
  have hiX0 : ∀ w ∈ u_ws RX0 TX0 5, w ∈ wsX0_isOpen := fun _ h => List.mem_cons_of_mem _ (List.mem_append_left _ (List.mem_append_left _ (List.mem_append_right _ h)))
  have hiX4 : ∀ w ∈ u_ws RX4 TX4 3, w ∈ wsX0_isOpen := fun _ h => List.mem_cons_of_mem _ (List.mem_append_left _ (List.mem_append_right _ h))
  have hl : lv_has ls 8 [(0, .ref a1), (1, .ref aP), (2, .int no)] := hl
  subst hcf
  subst hct
  refine lv_iconst (v := 0) hx hb dX0_isOpen_0 (by decide) ?_
  refine lv_istore_n (lv' := [(3, .int (0 : Int32)), (0, .ref a1), (1, .ref aP), (2, .int no)]) hx hb dX0_isOpen_1 rfl hl (by decide) rfl (fun ls hl => ?_)
  refine lv_aload_n hx hb dX0_isOpen_2 rfl (lv_at hl 1 rfl) ?_
  refine va_get (D := G) (ci := 1) (v := .int (nI cf)) (C := RX0) (T := TX0) (N := 5) hx hb hts hiX0 hown hK hP p1 hs rfl 1 (by decide) (hts (.fieldLink RX0 15 "Vortexpin$Claim" "from" "I") (List.mem_of_getElem? (i := 1) rfl)) (fun _ h9 => h9) rfl dX0_isOpen_3 ?_
  refine lv_istore (lv' := [(4, .int (nI cf)), (3, .int (0 : Int32)), (0, .ref a1), (1, .ref aP), (2, .int no)]) hx hb dX0_isOpen_6 hl (by decide) rfl (fun ls hl => ?_)
  have hl : lv_has ls 8 [(4, .int (nI (cf + 0))), (3, .int ((jOut pt pu pw no tm0 cf (ct + 1 - cf) 0).1)), (0, .ref a1), (1, .ref aP), (2, .int no)] := hl
  refine loopR (ct + 1 - cf) 8 8 (fun i => [(0, .ref a1), (1, .ref aP), (2, .int no), (3, .int ((jOut pt pu pw no tm0 cf (ct + 1 - cf) i).1)), (4, .int (nI (cf + i)))]) (fun i => (jOut pt pu pw no tm0 cf (ct + 1 - cf) i).2 = false) (fun i hNi hKi ihi ls hl => ?_) (i0 := 0) (by omega) (rfl) (lv_sub hl [2, 3, 4, 1, 0] rfl)
  have hl : lv_has ls 8 [(0, .ref a1), (1, .ref aP), (2, .int no), (3, .int ((jOut pt pu pw no tm0 cf (ct + 1 - cf) i).1)), (4, .int (nI (cf + i)))] := hl
  refine lv_iload hx hb dX0_isOpen_8 (lv_at hl 4 rfl) ?_
  refine lv_aload_n hx hb dX0_isOpen_10 rfl (lv_at hl 0 rfl) ?_
  refine va_get (D := G) (ci := 1) (v := .int (nI ct)) (C := RX0) (T := TX0) (N := 5) hx hb hts hiX0 hown hK hP p1 hs rfl 2 (by decide) (hts (.fieldLink RX0 18 "Vortexpin$Claim" "to" "I") (List.mem_of_getElem? (i := 2) rfl)) (fun _ h9 => h9) rfl dX0_isOpen_11 ?_
  refine lv_icmp_gt (tgt := 133) hx hb dX0_isOpen_14 (by decide) (fun c14 => ?_) (fun c14 => ?_)
  · have heqi : i = (ct + 1 - cf) := by have h9 : ct < cf + i := Nat.lt_of_not_le (fun q => nI_nlt q (by omega) c14); omega
    refine lv_iload_n hx hb dX0_isOpen_133 rfl (lv_at hl 3 rfl) ?_
    refine lv_if_ne (tgt := 141) hx hb dX0_isOpen_134 (by decide) (fun c134 => ?_) (fun c134 => ?_)
    · refine lv_iconst (v := 0) hx hb dX0_isOpen_141 (by decide) ?_
      exact W.zret (v := (0 : Int32)) hx hb hr (rfl) (fun t ht hW => ⟨(0 : Int32), rfl, (by unfold jOpen; rw [heqi] at hKi; rw [if_neg (by rw [hKi]; exact Bool.false_ne_true)]; rw [heqi] at c134; simp only [c134, ↓reduceIte]), ht⟩) (fun _ h => absurd h List.not_mem_nil) dX0_isOpen_142
    · refine lv_iconst (v := 1) hx hb dX0_isOpen_137 (by decide) ?_
      refine lv_goto (tgt := 142) hx hb dX0_isOpen_138 (by decide) ?_
      exact W.zret (v := (1 : Int32)) hx hb hr (rfl) (fun t ht hW => ⟨(1 : Int32), rfl, (by unfold jOpen; rw [heqi] at hKi; rw [if_neg (by rw [hKi]; exact Bool.false_ne_true)]; rw [heqi] at c134; simp only [c134, ↓reduceIte]), ht⟩) (fun _ h => absurd h List.not_mem_nil) dX0_isOpen_142
  · have hlti : i < (ct + 1 - cf) := by have := mt (nI_lt (a := ct) (b := cf + i)) (fun q => c14 (q (by omega))); omega
    refine lv_iload hx hb dX0_isOpen_17 (lv_at hl 4 rfl) ?_
    refine lv_aload_n hx hb dX0_isOpen_19 rfl (lv_at hl 1 rfl) ?_
    obtain ⟨mosz20, aesz20, hLsz20⟩ := lsL_cell hP9
    refine vp_callSi (va_Run.run (va_runV (As := []) (rest := [.int (nI (cf + i))]) ⟨hx, hb, hml, hown, hts⟩ (metSize l G tys _ hP9) (cwV 0 hts gX0_isOpen_Jx4a65c_size_8abf5 rfl rfl rfl (by decide +kernel) ⟨Nat.le_of_ble_eq_true rfl, Nat.le_of_ble_eq_true rfl⟩) ⟨pcR_b, va_recv hK hP (ci := 0) (q0 := pP) rfl hLsz20, pcR_u hP hK⟩ rfl rfl hl.1 rfl (lv_room (Nat.le_of_ble_eq_true rfl)) dX0_isOpen_20 ⟨Nat.le_of_ble_eq_true rfl, Nat.le_of_ble_eq_true rfl⟩)) (fun r20 h20 => ?_)
    subst h20
    refine lv_icmp_ge (tgt := 133) hx hb dX0_isOpen_23 (by decide) (fun c23 => absurd c23 (by exact nI_ge (show cf + i < nP by omega) (by omega))) (fun c23 => ?_)
    refine lv_aload_n hx hb dX0_isOpen_26 rfl (lv_at hl 1 rfl) ?_
    refine lv_iload hx hb dX0_isOpen_27 (lv_at hl 4 rfl) ?_
    obtain ⟨mogt29, aegt29, hLgt29⟩ := lsL_cell hP9
    refine va_csq (va_Run.run (va_runV (As := [.int (nI (cf + i))]) (rest := []) ⟨hx, hb, hml, hown, hts⟩ (metGet l G tys _ htO hP9 (nI (cf + i)) (uK_of (by omega) (by omega))) (cwV 1 hts gX0_isOpen_Jx4a65c_get_915e3 rfl rfl rfl (by decide +kernel) ⟨Nat.le_of_ble_eq_true rfl, Nat.le_of_ble_eq_true rfl⟩) ⟨pcR_b, va_recv hK hP (ci := 0) (q0 := pP) rfl hLgt29, pcR_u hP hK⟩ rfl rfl hl.1 rfl (lv_room (Nat.le_of_ble_eq_true rfl)) dX0_isOpen_29 ⟨Nat.le_of_ble_eq_true rfl, Nat.le_of_ble_eq_true rfl⟩)) (fun r29 h29 => ?_)
    refine rf_q (y := eP (cf + i)) (h29.trans (by rw [nI_clamp (by omega)])) ?_
    have h4 := hPt (cf + i) (by omega)
    refine va_castE hx hb hown (hts (.classLink RX0 46 "Vortexpin$Point") (List.mem_of_getElem? (i := 3) rfl)) (va_recv hK hP (ci := 5) (q0 := (gP (cf + i))) rfl h4) dX0_isOpen_32 ?_
    refine lv_astore (lv' := [(5, .ref (eP (cf + i))), (0, .ref a1), (1, .ref aP), (2, .int no), (3, .int ((jOut pt pu pw no tm0 cf (ct + 1 - cf) i).1)), (4, .int (nI (cf + i)))]) hx hb dX0_isOpen_35 hl (by decide) rfl (fun ls hl => ?_)
    refine lv_aload hx hb dX0_isOpen_37 (lv_at hl 0 rfl) ?_
    refine va_get (D := G) (ci := 5) (v := .int (pt (cf + i))) (C := RX4) (T := TX4) (N := 3) hx hb hts hiX4 hown hK hP (gP (cf + i)) h4 rfl 0 (by decide) (hts (.fieldLink RX0 48 "Vortexpin$Point" "temperature" "I") (List.mem_of_getElem? (i := 4) rfl)) (fun _ h9 => h9) rfl dX0_isOpen_39 ?_
    refine lv_aload_n hx hb dX0_isOpen_42 rfl (lv_at hl 1 rfl) ?_
    refine va_get (D := G) (ci := 1) (v := .int tm0) (C := RX0) (T := TX0) (N := 5) hx hb hts hiX0 hown hK hP p1 hs rfl 0 (by decide) (hts (.fieldLink RX0 9 "Vortexpin$Claim" "temperature" "I") (List.mem_of_getElem? (i := 5) rfl)) (fun _ h9 => h9) rfl dX0_isOpen_43 ?_
    refine lv_icmp_lt (tgt := 52) hx hb dX0_isOpen_46 (by decide) (fun c46 => ?_) (fun c46 => ?_)
    · refine lv_aload_n hx hb dX0_isOpen_52 rfl (lv_at hl 1 rfl) ?_
      refine va_get (D := G) (ci := 1) (v := .int (nI cf)) (C := RX0) (T := TX0) (N := 5) hx hb hts hiX0 hown hK hP p1 hs rfl 1 (by decide) (hts (.fieldLink RX0 15 "Vortexpin$Claim" "from" "I") (List.mem_of_getElem? (i := 1) rfl)) (fun _ h9 => h9) rfl dX0_isOpen_53 ?_
      refine lv_istore (lv' := [(6, .int (nI cf)), (5, .ref (eP (cf + i))), (0, .ref a1), (1, .ref aP), (2, .int no), (3, .int ((jOut pt pu pw no tm0 cf (ct + 1 - cf) i).1)), (4, .int (nI (cf + i)))]) hx hb dX0_isOpen_56 hl (by decide) rfl (fun ls hl => ?_)
      have hl : lv_has ls 8 [(6, .int (nI (cf + 0))), (5, .ref (eP (cf + i))), (0, .ref a1), (1, .ref aP), (2, .int no), (3, .int ((jIn pt pu pw no (jOut pt pu pw no tm0 cf (ct + 1 - cf) i).1 (cf + i) cf 0).1)), (4, .int (nI (cf + i)))] := hl
      refine loopR (ct + 1 - cf) 58 8 (fun j => [(0, .ref a1), (1, .ref aP), (2, .int no), (3, .int ((jIn pt pu pw no (jOut pt pu pw no tm0 cf (ct + 1 - cf) i).1 (cf + i) cf j).1)), (4, .int (nI (cf + i))), (5, .ref (eP (cf + i))), (6, .int (nI (cf + j)))]) (fun j => (jIn pt pu pw no (jOut pt pu pw no tm0 cf (ct + 1 - cf) i).1 (cf + i) cf j).2 = false) (fun j hNj hKj ihj ls hl => ?_) (i0 := 0) (by omega) (rfl) (lv_sub hl [2, 3, 4, 5, 6, 1, 0] rfl)
      have hl : lv_has ls 8 [(0, .ref a1), (1, .ref aP), (2, .int no), (3, .int ((jIn pt pu pw no (jOut pt pu pw no tm0 cf (ct + 1 - cf) i).1 (cf + i) cf j).1)), (4, .int (nI (cf + i))), (5, .ref (eP (cf + i))), (6, .int (nI (cf + j)))] := hl
      refine lv_iload hx hb dX0_isOpen_58 (lv_at hl 6 rfl) ?_
      refine lv_aload_n hx hb dX0_isOpen_60 rfl (lv_at hl 0 rfl) ?_
      refine va_get (D := G) (ci := 1) (v := .int (nI ct)) (C := RX0) (T := TX0) (N := 5) hx hb hts hiX0 hown hK hP p1 hs rfl 2 (by decide) (hts (.fieldLink RX0 18 "Vortexpin$Claim" "to" "I") (List.mem_of_getElem? (i := 2) rfl)) (fun _ h9 => h9) rfl dX0_isOpen_61 ?_
      refine lv_icmp_gt (tgt := 127) hx hb dX0_isOpen_64 (by decide) (fun c64 => ?_) (fun c64 => ?_)
      · have heqj : j = (ct + 1 - cf) := by have h9 : ct < cf + j := Nat.lt_of_not_le (fun q => nI_nlt q (by omega) c64); omega
        refine lv_iinc (v := nI (cf + i + 1)) (lv' := [(4, .int (nI (cf + i + 1))), (0, .ref a1), (1, .ref aP), (2, .int no), (3, .int ((jIn pt pu pw no (jOut pt pu pw no tm0 cf (ct + 1 - cf) i).1 (cf + i) cf j).1)), (5, .ref (eP (cf + i))), (6, .int (nI (cf + j)))]) hx hb dX0_isOpen_127 hl (k := 4) rfl (nI_1 (cf + i)) (by decide) rfl (fun ls hl => ?_)
        refine lv_goto (tgt := 8) hx hb dX0_isOpen_130 (by decide) ?_
        have ea3 : (jIn pt pu pw no (jOut pt pu pw no tm0 cf (ct + 1 - cf) i).1 (cf + i) cf j).1 = (jOut pt pu pw no tm0 cf (ct + 1 - cf) (i + 1)).1 := by rw [jOut_in hKi c46, heqj]
        rw [ea3] at hl
        have ea4 : nI (cf + i + 1) = nI (cf + (i + 1)) := by rw [Nat.add_assoc]
        rw [ea4] at hl
        exact ihi ls hlti (by rw [jOut_in hKi c46]; rw [heqj] at hKj; exact hKj) (lv_sub hl [1, 2, 3, 4, 0] rfl)
      · have hltj : j < (ct + 1 - cf) := by have := mt (nI_lt (a := ct) (b := cf + j)) (fun q => c64 (q (by omega))); omega
        refine lv_iload hx hb dX0_isOpen_67 (lv_at hl 6 rfl) ?_
        refine lv_aload_n hx hb dX0_isOpen_69 rfl (lv_at hl 1 rfl) ?_
        obtain ⟨mosz70, aesz70, hLsz70⟩ := lsL_cell hP9
        refine vp_callSi (va_Run.run (va_runV (As := []) (rest := [.int (nI (cf + j))]) ⟨hx, hb, hml, hown, hts⟩ (metSize l G tys _ hP9) (cwV 0 hts gX0_isOpen_Jx4a65c_size_8abf5 rfl rfl rfl (by decide +kernel) ⟨Nat.le_of_ble_eq_true rfl, Nat.le_of_ble_eq_true rfl⟩) ⟨pcR_b, va_recv hK hP (ci := 0) (q0 := pP) rfl hLsz70, pcR_u hP hK⟩ rfl rfl hl.1 rfl (lv_room (Nat.le_of_ble_eq_true rfl)) dX0_isOpen_70 ⟨Nat.le_of_ble_eq_true rfl, Nat.le_of_ble_eq_true rfl⟩)) (fun r70 h70 => ?_)
        subst h70
        refine lv_icmp_ge (tgt := 127) hx hb dX0_isOpen_73 (by decide) (fun c73 => absurd c73 (by exact nI_ge (show cf + j < nP by omega) (by omega))) (fun c73 => ?_)
        refine lv_aload_n hx hb dX0_isOpen_76 rfl (lv_at hl 1 rfl) ?_
        refine lv_iload hx hb dX0_isOpen_77 (lv_at hl 6 rfl) ?_
        obtain ⟨mogt79, aegt79, hLgt79⟩ := lsL_cell hP9
        refine va_csq (va_Run.run (va_runV (As := [.int (nI (cf + j))]) (rest := []) ⟨hx, hb, hml, hown, hts⟩ (metGet l G tys _ htO hP9 (nI (cf + j)) (uK_of (by omega) (by omega))) (cwV 1 hts gX0_isOpen_Jx4a65c_get_915e3 rfl rfl rfl (by decide +kernel) ⟨Nat.le_of_ble_eq_true rfl, Nat.le_of_ble_eq_true rfl⟩) ⟨pcR_b, va_recv hK hP (ci := 0) (q0 := pP) rfl hLgt79, pcR_u hP hK⟩ rfl rfl hl.1 rfl (lv_room (Nat.le_of_ble_eq_true rfl)) dX0_isOpen_79 ⟨Nat.le_of_ble_eq_true rfl, Nat.le_of_ble_eq_true rfl⟩)) (fun r79 h79 => ?_)
        refine rf_q (y := eP (cf + j)) (h79.trans (by rw [nI_clamp (by omega)])) ?_
        have g4 := hPt (cf + j) (by omega)
        refine va_castE hx hb hown (hts (.classLink RX0 46 "Vortexpin$Point") (List.mem_of_getElem? (i := 3) rfl)) (va_recv hK hP (ci := 5) (q0 := (gP (cf + j))) rfl g4) dX0_isOpen_82 ?_
        refine lv_astore (lv' := [(7, .ref (eP (cf + j))), (0, .ref a1), (1, .ref aP), (2, .int no), (3, .int ((jIn pt pu pw no (jOut pt pu pw no tm0 cf (ct + 1 - cf) i).1 (cf + i) cf j).1)), (4, .int (nI (cf + i))), (5, .ref (eP (cf + i))), (6, .int (nI (cf + j)))]) hx hb dX0_isOpen_85 hl (by decide) rfl (fun ls hl => ?_)
        refine lv_aload hx hb dX0_isOpen_87 (lv_at hl 6 rfl) ?_
        refine lv_aload hx hb dX0_isOpen_89 (lv_at hl 0 rfl) ?_
        refine vp_callSi (va_Run.run (va_runV (As := [.ref (eP (cf + j))]) (rest := []) ⟨hx, hb, hml, hown, hts⟩ (metX4_mirrors l G tys _ h4 g4) (cwV 1 hts gX0_isOpen_X4_mirrors rfl rfl rfl (by decide +kernel) ⟨Nat.le_of_ble_eq_true rfl, Nat.le_of_ble_eq_true rfl⟩) ⟨pcR_b, va_recv hK hP (ci := 5) (q0 := (gP (cf + i))) rfl h4, pcR_u hP hK⟩ rfl rfl hl.1 rfl (lv_room (Nat.le_of_ble_eq_true rfl)) dX0_isOpen_91 ⟨Nat.le_of_ble_eq_true rfl, Nat.le_of_ble_eq_true rfl⟩)) (fun r91 h91 => ?_)
        refine lv_if_eq (tgt := 121) hx hb dX0_isOpen_94 (by decide) (fun c94 => ?_) (fun c94 => ?_)
        · refine lv_iinc (v := nI (cf + j + 1)) (lv' := [(6, .int (nI (cf + j + 1))), (7, .ref (eP (cf + j))), (0, .ref a1), (1, .ref aP), (2, .int no), (3, .int ((jIn pt pu pw no (jOut pt pu pw no tm0 cf (ct + 1 - cf) i).1 (cf + i) cf j).1)), (4, .int (nI (cf + i))), (5, .ref (eP (cf + i)))]) hx hb dX0_isOpen_121 hl (k := 7) rfl (nI_1 (cf + j)) (by decide) rfl (fun ls hl => ?_)
          refine lv_goto (tgt := 58) hx hb dX0_isOpen_124 (by decide) ?_
          have ea3 : (jIn pt pu pw no (jOut pt pu pw no tm0 cf (ct + 1 - cf) i).1 (cf + i) cf j).1 = (jIn pt pu pw no (jOut pt pu pw no tm0 cf (ct + 1 - cf) i).1 (cf + i) cf (j + 1)).1 := by rw [jIn_no hKj (by rw [← h91]; exact c94)]
          rw [ea3] at hl
          have ea6 : nI (cf + j + 1) = nI (cf + (j + 1)) := by rw [Nat.add_assoc]
          rw [ea6] at hl
          exact ihj ls hltj (by rw [jIn_no hKj (by rw [← h91]; exact c94)]; exact hKj) (lv_sub hl [2, 3, 4, 5, 6, 7, 0] rfl)
        · refine lv_iconst (v := 1) hx hb dX0_isOpen_97 (by decide) ?_
          refine lv_istore_n (lv' := [(3, .int (1 : Int32)), (7, .ref (eP (cf + j))), (0, .ref a1), (1, .ref aP), (2, .int no), (4, .int (nI (cf + i))), (5, .ref (eP (cf + i))), (6, .int (nI (cf + j)))]) hx hb dX0_isOpen_98 rfl hl (by decide) rfl (fun ls hl => ?_)
          refine lv_aload hx hb dX0_isOpen_99 (lv_at hl 6 rfl) ?_
          refine va_get (D := G) (ci := 5) (v := .int (pw (cf + i))) (C := RX4) (T := TX4) (N := 3) hx hb hts hiX4 hown hK hP (gP (cf + i)) h4 rfl 2 (by decide) (hts (.fieldLink RX0 53 "Vortexpin$Point" "voltage" "I") (List.mem_of_getElem? (i := 6) rfl)) (fun _ h9 => h9) rfl dX0_isOpen_101 ?_
          refine lv_aload hx hb dX0_isOpen_104 (lv_at hl 1 rfl) ?_
          refine va_get (D := G) (ci := 5) (v := .int (pw (cf + j))) (C := RX4) (T := TX4) (N := 3) hx hb hts hiX4 hown hK hP (gP (cf + j)) g4 rfl 2 (by decide) (hts (.fieldLink RX0 53 "Vortexpin$Point" "voltage" "I") (List.mem_of_getElem? (i := 6) rfl)) (fun _ h9 => h9) rfl dX0_isOpen_106 ?_
          refine lv_isub hx hb dX0_isOpen_109 ?_
          refine va_mabs hx hb (hml.trans hl.1.symm) hown (hts (.methodLink RX0 56 Lib.Math.abs.name) (List.mem_of_getElem? (i := 7) rfl)) (hts (.static Lib.Math.abs.name) (List.mem_of_getElem? (i := 8) rfl)) (hts (.initialized "java/lang/Math") (List.mem_of_getElem? (i := 9) rfl)) (hts (.code Lib.Math.abs.name Lib.Math.abs.code 1 (some .int)) (List.mem_of_getElem? (i := 10) rfl)) (Nat.le_of_ble_eq_true rfl) (Nat.le_of_ble_eq_true rfl) (Nat.le_of_ble_eq_true rfl) (Nat.le_of_ble_eq_true rfl) dX0_isOpen_110 ?_
          refine fold_abs ?_
          refine lv_iconst (v := 2) hx hb dX0_isOpen_113 (by decide) ?_
          refine lv_iload_n hx hb dX0_isOpen_114 rfl (lv_at hl 4 rfl) ?_
          refine lv_imul hx hb dX0_isOpen_115 ?_
          refine lv_icmp_le (tgt := 121) hx hb dX0_isOpen_116 (by decide) (fun c116 => ?_) (fun c116 => ?_)
          · refine lv_iinc (v := nI (cf + j + 1)) (lv' := [(6, .int (nI (cf + j + 1))), (3, .int (1 : Int32)), (7, .ref (eP (cf + j))), (0, .ref a1), (1, .ref aP), (2, .int no), (4, .int (nI (cf + i))), (5, .ref (eP (cf + i)))]) hx hb dX0_isOpen_121 hl (k := 7) rfl (nI_1 (cf + j)) (by decide) rfl (fun ls hl => ?_)
            refine lv_goto (tgt := 58) hx hb dX0_isOpen_124 (by decide) ?_
            have ea3 : (1 : Int32) = (jIn pt pu pw no (jOut pt pu pw no tm0 cf (ct + 1 - cf) i).1 (cf + i) cf (j + 1)).1 := by rw [jIn_near hKj (by rw [← h91]; exact c94) (by exact c116)]
            rw [ea3] at hl
            have ea6 : nI (cf + j + 1) = nI (cf + (j + 1)) := by rw [Nat.add_assoc]
            rw [ea6] at hl
            exact ihj ls hltj (by rw [jIn_near hKj (by rw [← h91]; exact c94) (by exact c116)]) (lv_sub hl [3, 4, 5, 1, 6, 7, 0] rfl)
          · refine lv_iconst (v := 1) hx hb dX0_isOpen_119 (by decide) ?_
            exact W.zret (v := (1 : Int32)) hx hb hr (rfl) (fun t ht hW => ⟨(1 : Int32), rfl, (by have hz := jIn_far hKj (by rw [← h91]; exact c94) (by exact c116); have h1 : (jOut pt pu pw no tm0 cf (ct + 1 - cf) (i + 1)).2 = true := (by rw [jOut_in hKi c46]; exact jIn_stop (by rw [hz]) _ hltj); have h2 := jOut_stop h1 _ hlti; unfold jOpen; rw [if_pos h2]), ht⟩) (fun _ h => absurd h List.not_mem_nil) dX0_isOpen_120
    · refine lv_goto (tgt := 127) hx hb dX0_isOpen_49 (by decide) ?_
      refine lv_iinc (v := nI (cf + i + 1)) (lv' := [(4, .int (nI (cf + i + 1))), (5, .ref (eP (cf + i))), (0, .ref a1), (1, .ref aP), (2, .int no), (3, .int ((jOut pt pu pw no tm0 cf (ct + 1 - cf) i).1))]) hx hb dX0_isOpen_127 hl (k := 5) rfl (nI_1 (cf + i)) (by decide) rfl (fun ls hl => ?_)
      refine lv_goto (tgt := 8) hx hb dX0_isOpen_130 (by decide) ?_
      have ea3 : (jOut pt pu pw no tm0 cf (ct + 1 - cf) i).1 = (jOut pt pu pw no tm0 cf (ct + 1 - cf) (i + 1)).1 := by rw [jOut_out hKi c46]
      rw [ea3] at hl
      have ea4 : nI (cf + i + 1) = nI (cf + (i + 1)) := by rw [Nat.add_assoc]
      rw [ea4] at hl
      exact ihi ls hlti (by rw [jOut_out hKi c46]; exact hKi) (lv_sub hl [2, 3, 4, 5, 0] rfl)
def jVer (op fr to pn : Int32) (wd : Nat → Int32) : Int32 := if 4 * pn ≤ 5 * (to - fr + 1) then (if op = 0 then (if 2 ≤ hCnt wd 1 7 then (if hCnt wd 2 7 < hCnt wd 1 7 then 4 else 3) else 2) else 1) else 0
set_option maxHeartbeats 4000000 in
set_option maxRecDepth 100000 in
theorem metX0_verdict (l : Launch) (G : va_G) (tys : List (ClassId × FieldType)) {tE : Nat} {cI : ClassId} (htI : tI tys cI) (ws : va_W) {cO : ClassId} (htO : tO tys cO) {aP : Nat} {pP qP nP : Nat} {eP : Nat → Nat} (hP9 : lsL ws tE cO pP aP nP eP qP) (hn60 : nP ≤ 60) {gP : Nat → Nat} {pt pu pw : Nat → Int32} (hPt : ∀ i, i < nP → ws[gP i]? = some (eP i, .inr (5, [.int (pt i), .int (pu i), .int (pw i)]))) {p1 a1 pv av : Nat} {tm0 fr0 to0 pn0 : Int32} {wd : Nat → Int32} (hs : ws[p1]? = some (a1, .inr (1, [.int tm0, .int fr0, .int to0, .int pn0, .ref av]))) (hw : ws[pv]? = some (av, .inl (cI, 7, .inl wd))) (no : Int32) {cf ct : Nat} (hcf : fr0 = nI cf) (hct : to0 = nI ct) (hcn : cf ≤ ct ∧ ct < nP) : Met l yX0_verdict wsX0_verdict ({ frames := 4, cells := 0, slots := 0, locals := 91 }) (pcR G tys ws [.ref a1, .ref aP, .int no]) (vp_Si (fun r => r = jVer (jOpen pt pu pw no tm0 cf (ct + 1 - cf)) fr0 to0 pn0 wd)) 0 0 (fun _ => False) := by
  refine ofR (cc := cX0_verdict) (maxL := 4) (ret := some .int) (by decide) rfl (Nat.le_of_ble_eq_true rfl) ?_
  intro p e s m below meth c ls hx hb hr hlocks hml hown hts hl hP hK
  have hown : s.vm.findClass RX0 = some m.cls := hown
  have hiX0 : ∀ w ∈ u_ws RX0 TX0 5, w ∈ wsX0_verdict := fun _ h => List.mem_cons_of_mem _ (List.mem_append_left _ (List.mem_append_left _ (List.mem_append_right _ h)))
  have hl : lv_has ls 4 [(0, .ref a1), (1, .ref aP), (2, .int no)] := hl
  refine lv_iconst (v := 5) hx hb dX0_verdict_0 (by decide) ?_
  refine lv_aload_n hx hb dX0_verdict_1 rfl (lv_at hl 0 rfl) ?_
  refine va_get (D := G) (ci := 1) (v := .int to0) (C := RX0) (T := TX0) (N := 5) hx hb hts hiX0 hown hK hP p1 hs rfl 2 (by decide) (hts (.fieldLink RX0 18 "Vortexpin$Claim" "to" "I") (List.mem_of_getElem? (i := 1) rfl)) (fun _ h9 => h9) rfl dX0_verdict_2 ?_
  refine lv_aload_n hx hb dX0_verdict_5 rfl (lv_at hl 0 rfl) ?_
  refine va_get (D := G) (ci := 1) (v := .int fr0) (C := RX0) (T := TX0) (N := 5) hx hb hts hiX0 hown hK hP p1 hs rfl 1 (by decide) (hts (.fieldLink RX0 15 "Vortexpin$Claim" "from" "I") (List.mem_of_getElem? (i := 2) rfl)) (fun _ h9 => h9) rfl dX0_verdict_6 ?_
  refine lv_isub hx hb dX0_verdict_9 ?_
  refine lv_iconst (v := 1) hx hb dX0_verdict_10 (by decide) ?_
  refine lv_iadd hx hb dX0_verdict_11 ?_
  refine lv_imul hx hb dX0_verdict_12 ?_
  refine lv_iconst (v := 4) hx hb dX0_verdict_13 (by decide) ?_
  refine lv_aload_n hx hb dX0_verdict_14 rfl (lv_at hl 0 rfl) ?_
  refine va_get (D := G) (ci := 1) (v := .int pn0) (C := RX0) (T := TX0) (N := 5) hx hb hts hiX0 hown hK hP p1 hs rfl 3 (by decide) (hts (.fieldLink RX0 21 "Vortexpin$Claim" "pointsThen" "I") (List.mem_of_getElem? (i := 3) rfl)) (fun _ h9 => h9) rfl dX0_verdict_15 ?_
  refine lv_imul hx hb dX0_verdict_18 ?_
  refine lv_icmp_ge (tgt := 24) hx hb dX0_verdict_19 (by decide) (fun c19 => ?_) (fun c19 => ?_)
  · refine lv_aload_n hx hb dX0_verdict_24 rfl (lv_at hl 0 rfl) ?_
    refine lv_aload_n hx hb dX0_verdict_25 rfl (lv_at hl 1 rfl) ?_
    refine lv_iload_n hx hb dX0_verdict_26 rfl (lv_at hl 2 rfl) ?_
    refine vp_callSi (va_Run.run (va_runV (As := [.ref aP, .int no]) (rest := []) ⟨hx, hb, hml, hown, hts⟩ (metX0_isOpen l G tys htI _ htO hP9 hn60 hPt hs hw no hcf hct hcn) (cwV 2 hts gX0_verdict_X0_isOpen rfl rfl rfl (by decide +kernel) ⟨Nat.le_of_ble_eq_true rfl, Nat.le_of_ble_eq_true rfl⟩) ⟨pcR_b, va_recv hK hP (ci := 1) (q0 := p1) rfl hs, pcR_u hP hK⟩ rfl rfl hl.1 rfl (lv_room (Nat.le_of_ble_eq_true rfl)) dX0_verdict_27 ⟨Nat.le_of_ble_eq_true rfl, Nat.le_of_ble_eq_true rfl⟩)) (fun r27 h27 => ?_)
    refine lv_if_eq (tgt := 35) hx hb dX0_verdict_30 (by decide) (fun c30 => ?_) (fun c30 => ?_)
    · refine lv_aload_n hx hb dX0_verdict_35 rfl (lv_at hl 0 rfl) ?_
      refine lv_iconst (v := 1) hx hb dX0_verdict_36 (by decide) ?_
      refine vp_callSi (va_Run.run (va_runV (As := [.int (1 : Int32)]) (rest := []) ⟨hx, hb, hml, hown, hts⟩ (metX0_housesThat l G tys cI htI _ hs hw (1 : Int32)) (cwV 1 hts gX0_verdict_X0_housesThat rfl rfl rfl (by decide +kernel) ⟨Nat.le_of_ble_eq_true rfl, Nat.le_of_ble_eq_true rfl⟩) ⟨pcR_b, va_recv hK hP (ci := 1) (q0 := p1) rfl hs, pcR_u hP hK⟩ rfl rfl hl.1 rfl (lv_room (Nat.le_of_ble_eq_true rfl)) dX0_verdict_37 ⟨Nat.le_of_ble_eq_true rfl, Nat.le_of_ble_eq_true rfl⟩)) (fun r37 h37 => ?_)
      refine lv_istore_n (lv' := [(3, .int r37), (0, .ref a1), (1, .ref aP), (2, .int no)]) hx hb dX0_verdict_40 rfl hl (by decide) rfl (fun ls hl => ?_)
      refine lv_iload_n hx hb dX0_verdict_41 rfl (lv_at hl 0 rfl) ?_
      refine lv_iconst (v := 2) hx hb dX0_verdict_42 (by decide) ?_
      refine lv_icmp_ge (tgt := 48) hx hb dX0_verdict_43 (by decide) (fun c43 => ?_) (fun c43 => ?_)
      · refine lv_aload_n hx hb dX0_verdict_48 rfl (lv_at hl 1 rfl) ?_
        refine lv_iconst (v := 2) hx hb dX0_verdict_49 (by decide) ?_
        refine vp_callSi (va_Run.run (va_runV (As := [.int (2 : Int32)]) (rest := []) ⟨hx, hb, hml, hown, hts⟩ (metX0_housesThat l G tys cI htI _ hs hw (2 : Int32)) (cwV 1 hts gX0_verdict_X0_housesThat rfl rfl rfl (by decide +kernel) ⟨Nat.le_of_ble_eq_true rfl, Nat.le_of_ble_eq_true rfl⟩) ⟨pcR_b, va_recv hK hP (ci := 1) (q0 := p1) rfl hs, pcR_u hP hK⟩ rfl rfl hl.1 rfl (lv_room (Nat.le_of_ble_eq_true rfl)) dX0_verdict_50 ⟨Nat.le_of_ble_eq_true rfl, Nat.le_of_ble_eq_true rfl⟩)) (fun r50 h50 => ?_)
        refine lv_iload_n hx hb dX0_verdict_53 rfl (lv_at hl 0 rfl) ?_
        refine lv_icmp_lt (tgt := 61) hx hb dX0_verdict_54 (by decide) (fun c54 => ?_) (fun c54 => ?_)
        · refine lv_iconst (v := 4) hx hb dX0_verdict_61 (by decide) ?_
          exact W.iret (v := (4 : Int32)) hx hb hr (fun t ht hW => ⟨(4 : Int32), rfl, (by subst h27; subst h37; subst h50; simp only [jVer, c19, (eq_true c30), c43, c54, ↓reduceIte, not_true_eq_false, not_false_eq_true]), ht⟩) (fun _ h => absurd h List.not_mem_nil) dX0_verdict_62
        · refine lv_iconst (v := 3) hx hb dX0_verdict_57 (by decide) ?_
          refine lv_goto (tgt := 62) hx hb dX0_verdict_58 (by decide) ?_
          exact W.iret (v := (3 : Int32)) hx hb hr (fun t ht hW => ⟨(3 : Int32), rfl, (by subst h27; subst h37; subst h50; simp only [jVer, c19, (eq_true c30), c43, c54, ↓reduceIte, not_true_eq_false, not_false_eq_true]), ht⟩) (fun _ h => absurd h List.not_mem_nil) dX0_verdict_62
      · refine lv_iconst (v := 2) hx hb dX0_verdict_46 (by decide) ?_
        exact W.iret (v := (2 : Int32)) hx hb hr (fun t ht hW => ⟨(2 : Int32), rfl, (by subst h27; subst h37; simp only [jVer, c19, (eq_true c30), c43, ↓reduceIte, not_true_eq_false, not_false_eq_true]), ht⟩) (fun _ h => absurd h List.not_mem_nil) dX0_verdict_47
    · refine lv_iconst (v := 1) hx hb dX0_verdict_33 (by decide) ?_
      exact W.iret (v := (1 : Int32)) hx hb hr (fun t ht hW => ⟨(1 : Int32), rfl, (by subst h27; simp only [jVer, c19, c30, ↓reduceIte, not_true_eq_false, not_false_eq_true]), ht⟩) (fun _ h => absurd h List.not_mem_nil) dX0_verdict_34
  · refine lv_iconst (v := 0) hx hb dX0_verdict_22 (by decide) ?_
    exact W.iret (v := (0 : Int32)) hx hb hr (fun t ht hW => ⟨(0 : Int32), rfl, (by simp only [jVer, c19, ↓reduceIte, not_true_eq_false, not_false_eq_true]), ht⟩) (fun _ h => absurd h List.not_mem_nil) dX0_verdict_23
set_option maxHeartbeats 4000000 in
set_option maxRecDepth 100000 in
theorem metX7_judge (l : Launch) (hnt : l.stackTraces = false) (G : va_G) (tys : List (ClassId × FieldType)) {A : Nat → Prop} {tE mi : Nat} {cI : ClassId} (htI : tI tys cI) (ws : va_W) {cO : ClassId} (htO : tO tys cO) {pv v aS af aR ao ak aP aC : Nat} (hv : ws[pv]? = some (v, .inr (7, [.ref aS, .ref af, .ref aR, .ref ao, .ref ak, .ref aP, .ref aC]))) {pP qP nP : Nat} {eP : Nat → Nat} (hP9 : lsL ws tE cO pP aP nP eP qP) {gP : Nat → Nat} {pt pu pw : Nat → Int32} (hPt : ∀ i, i < nP → ws[gP i]? = some (eP i, .inr (5, [.int (pt i), .int (pu i), .int (pw i)]))) {pC qC nC : Nat} {eC : Nat → Nat} (hC9 : lsL ws tE cO pC aC nC eC qC) {gC gW aW : Nat → Nat} {ct cf co2 ca : Nat → Int32} {wd : Nat → Nat → Int32} (hCl : ∀ i, i < nC → ws[gC i]? = some (eC i, .inr (1, [.int (ct i), .int (cf i), .int (co2 i), .int (ca i), .ref (aW i)]))) (hWd : ∀ i, i < nC → ws[gW i]? = some (aW i, .inl (cI, 7, .inl (wd i)))) (hn60 : nP ≤ 60) (hcl : ∀ i, i < nC → ∃ a b : Nat, cf i = nI a ∧ co2 i = nI b ∧ a ≤ b ∧ b < nP) (x no : Int32) : vx_Met l yX7_judge wsX7_judge { frames := 7, cells := 2, slots := 12, locals := 114 } (pcX G tys ws A tE mi [.ref v, .int x, .int no]) (va_Qi (fun (r : Int32) (_ : Unit) => cdJudge x no (nI nC) = 0 ∧ r = jVer (jOpen pt pu pw no (ct x.toNatClampNeg) (cf x.toNatClampNeg).toNatClampNeg ((co2 x.toNatClampNeg).toNatClampNeg + 1 - (cf x.toNatClampNeg).toNatClampNeg)) (cf x.toNatClampNeg) (co2 x.toNatClampNeg) (ca x.toNatClampNeg) (wd x.toNatClampNeg)) (fun _ t => va_P G vwCl (ws) t.heap ∧ va_D A (ws)) A) (xcT (fun E => xC (cdJudge x no (nI nC)) eIB eIA "" E)) 2 12 A := by
  refine ofX (cc := cX7_judge) (maxL := 3) (ret := some .int) (by decide) rfl (Nat.le_of_ble_eq_true rfl) ?_
  intro p e s m below meth c ls hx hb hr hlocks hml hown hts hno hl hP hK hD hA hS hE
  have hown : s.vm.findClass RX7 = some m.cls := hown
  have hiX7 : ∀ w ∈ u_ws RX7 TX7 7, w ∈ wsX7_judge := fun _ h => List.mem_cons_of_mem _ (List.mem_append_left _ (List.mem_append_left _ (List.mem_append_left _ (List.mem_append_left _ (List.mem_append_left _ (List.mem_append_right _ h))))))
  have hl : lv_has ls 3 [(0, .ref v), (1, .int x), (2, .int no)] := hl
  have hO : okO s s.heap := ⟨Nat.le_refl _, fun _ _ => rfl⟩
  refine lv_iload_n hx hb dX7_judge_0 rfl (lv_at hl 1 rfl) ?_
  refine lv_aload_n hx hb dX7_judge_1 rfl (lv_at hl 0 rfl) ?_
  refine va_get (D := G) (ci := 7) (v := .ref aC) (C := RX7) (T := TX7) (N := 7) hx hb hts hiX7 hown hK hP pv hv rfl 6 (by decide) (hts (.fieldLink RX7 43 "Vortexpin" "claims" "Ljava/util/ArrayList;") (List.mem_of_getElem? (i := 1) rfl)) (fun _ h9 => h9) rfl dX7_judge_2 ?_
  obtain ⟨mosz5, aesz5, hLsz5⟩ := lsL_cell hC9
  refine vp_callSi (va_Run.run (va_runV (As := []) (rest := [.int x]) ⟨hx, hb, hml, hown, hts⟩ (metSize l G tys _ hC9) (cwV 0 hts gX7_judge_Jx4a65c_size_8abf5 rfl rfl rfl (by decide +kernel) ⟨Nat.le_of_ble_eq_true rfl, Nat.le_of_ble_eq_true rfl⟩) ⟨pcR_b, va_recv hK hP (ci := 0) (q0 := pC) rfl hLsz5, pcR_u hP hK⟩ rfl rfl hl.1 rfl (lv_room (Nat.le_of_ble_eq_true rfl)) dX7_judge_5 ⟨Nat.le_of_ble_eq_true rfl, Nat.le_of_ble_eq_true rfl⟩)) (fun r5 h5 => ?_)
  subst h5
  refine ref_step (vx_runS (As := [.int x, .int (nI nC)]) (rest := []) ⟨hx, hb, hml, hown, hts⟩ (metX7_refuseUnknown l hnt x (nI nC)) (va_cwS 2 hts gX7_judge_X7_refuseUnknown rfl rfl rfl (by decide +kernel) ⟨Nat.le_of_ble_eq_true rfl, Nat.le_of_ble_eq_true rfl⟩) ⟨pcE_b, pcE_u hE hS hA⟩ rfl rfl hl.1 rfl (lv_room (Nat.le_of_ble_eq_true rfl)) dX7_judge_8 ⟨Nat.le_of_ble_eq_true rfl, Nat.le_of_ble_eq_true rfl⟩) hno hlocks hS hO hP (fun hbd => Or.inl ⟨by unfold cdJudge; rw [if_pos hbd], rfl⟩) (Nat.le_of_ble_eq_true rfl) (Nat.le_of_ble_eq_true rfl) (fun k0 H locs hS hO hP => ?_)
  have hs := hCl x.toNatClampNeg (uK_ix k0).2; have hw := hWd x.toNatClampNeg (uK_ix k0).2
  refine lv_iload_n hx hb dX7_judge_11 rfl (lv_at hl 2 rfl) ?_
  refine lv_iconst (v := 0) hx hb dX7_judge_12 (by decide) ?_
  refine lv_ldc (v := 1000000) hx hb hown (hts (.constant RX7 122 (1000000)) (List.mem_of_getElem? (i := 2) rfl)) dX7_judge_13 ?_
  refine ref_step (vx_runS (As := [.int no, .int (0 : Int32), .int (1000000 : Int32)]) (rest := []) ⟨hx, hb, hml, hown, hts⟩ (metX7_refuseOutside l hnt no (0 : Int32) (1000000 : Int32)) (va_cwS 3 hts gX7_judge_X7_refuseOutside rfl rfl rfl (by decide +kernel) ⟨Nat.le_of_ble_eq_true rfl, Nat.le_of_ble_eq_true rfl⟩) ⟨pcE_b, pcE_u hE hS hA⟩ rfl rfl hl.1 rfl (lv_room (Nat.le_of_ble_eq_true rfl)) dX7_judge_15 ⟨Nat.le_of_ble_eq_true rfl, Nat.le_of_ble_eq_true rfl⟩) hno hlocks hS hO hP (fun hbd => Or.inr (Or.inl ⟨by unfold cdJudge; rw [if_neg k0, if_pos hbd], rfl⟩)) (Nat.le_of_ble_eq_true rfl) (Nat.le_of_ble_eq_true rfl) (fun k1 H locs hS hO hP => ?_)
  refine lv_aload_n hx hb dX7_judge_18 rfl (lv_at hl 0 rfl) ?_
  refine va_get (D := G) (ci := 7) (v := .ref aC) (C := RX7) (T := TX7) (N := 7) hx hb hts hiX7 hown hK hP pv hv rfl 6 (by decide) (hts (.fieldLink RX7 43 "Vortexpin" "claims" "Ljava/util/ArrayList;") (List.mem_of_getElem? (i := 1) rfl)) (fun _ h9 => h9) rfl dX7_judge_19 ?_
  refine lv_iload_n hx hb dX7_judge_22 rfl (lv_at hl 1 rfl) ?_
  obtain ⟨mogt23, aegt23, hLgt23⟩ := lsL_cell hC9
  refine va_csq (va_Run.run (va_runV (As := [.int x]) (rest := []) ⟨hx, hb, hml, hown, hts⟩ (metGet l G tys _ htO hC9 x k0) (cwV 1 hts gX7_judge_Jx4a65c_get_915e3 rfl rfl rfl (by decide +kernel) ⟨Nat.le_of_ble_eq_true rfl, Nat.le_of_ble_eq_true rfl⟩) ⟨pcR_b, va_recv hK hP (ci := 0) (q0 := pC) rfl hLgt23, pcR_u hP hK⟩ rfl rfl hl.1 rfl (lv_room (Nat.le_of_ble_eq_true rfl)) dX7_judge_23 ⟨Nat.le_of_ble_eq_true rfl, Nat.le_of_ble_eq_true rfl⟩)) (fun r23 h23 => ?_)
  refine rf_q h23 ?_
  refine va_castE hx hb hown (hts (.classLink RX7 194 "Vortexpin$Claim") (List.mem_of_getElem? (i := 3) rfl)) (va_recv hK hP (ci := 1) (q0 := (gC x.toNatClampNeg)) rfl hs) dX7_judge_26 ?_
  refine lv_aload_n hx hb dX7_judge_29 rfl (lv_at hl 0 rfl) ?_
  refine va_get (D := G) (ci := 7) (v := .ref aP) (C := RX7) (T := TX7) (N := 7) hx hb hts hiX7 hown hK hP pv hv rfl 5 (by decide) (hts (.fieldLink RX7 40 "Vortexpin" "points" "Ljava/util/ArrayList;") (List.mem_of_getElem? (i := 4) rfl)) (fun _ h9 => h9) rfl dX7_judge_30 ?_
  refine lv_iload_n hx hb dX7_judge_33 rfl (lv_at hl 2 rfl) ?_
  obtain ⟨ka, kb, g1, g2, g3⟩ := hcl x.toNatClampNeg (uK_ix k0).2
  refine vp_callSi (va_Run.run (va_runV (As := [.ref aP, .int no]) (rest := []) ⟨hx, hb, hml, hown, hts⟩ (metX0_verdict l G tys htI _ htO hP9 hn60 hPt hs hw no g1 g2 g3) (cwV 2 hts gX7_judge_X0_verdict rfl rfl rfl (by decide +kernel) ⟨Nat.le_of_ble_eq_true rfl, Nat.le_of_ble_eq_true rfl⟩) ⟨pcR_b, va_recv hK hP (ci := 1) (q0 := (gC x.toNatClampNeg)) rfl hs, pcR_u hP hK⟩ rfl rfl hl.1 rfl (lv_room (Nat.le_of_ble_eq_true rfl)) dX7_judge_34 ⟨Nat.le_of_ble_eq_true rfl, Nat.le_of_ble_eq_true rfl⟩)) (fun r34 h34 => ?_)
  refine W.widen (k := 2) (n := 12) (Nat.le_of_ble_eq_true rfl) (Nat.le_of_ble_eq_true rfl) (vx_ret ?_)
  exact W.iret (v := r34) hx hb hr (fun t ht hW => ⟨⟨r34, (), rfl, ⟨by unfold cdJudge; rw [if_neg k0, if_neg k1], (by rw [h34, g1, g2, nI_clamp (show ka < 2 ^ 31 by omega), nI_clamp (show kb < 2 ^ 31 by omega)])⟩, by show va_P G vwCl _ t.heap ∧ va_D A _; rw [ht]; exact ⟨hP, hD⟩⟩, hS.F ht⟩) hS.2.2 dX7_judge_37

