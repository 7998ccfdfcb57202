set_option maxHeartbeats 4000000 in
set_option maxRecDepth 100000 in
theorem metX7_fluxT (l : Launch) (hnt : l.stackTraces = false) (G : va_G) (tys : List (ClassId × FieldType)) {A : Nat → Prop} {tE mi : Nat} (ws : va_W) {cO : ClassId} (htO : tO tys cO) {pv v aS af aR ao ak aP aC : Nat} (hv : ws[pv]? = some (v, .inr (7, [.ref aS, .ref af, .ref aR, .ref ao, .ref ak, .ref aP, .ref aC]))) {pR qR nR : Nat} {eR : Nat → Nat} (hR9 : lsL ws tE cO pR aR nR eR qR) {gR : Nat → Nat} {ri rc rf rn rs : Nat → Int32} (hRg : ∀ i, i < nR → ws[gR i]? = some (eR i, .inr (6, [.int (ri i), .int (rc i), .int (rf i), .int (rn i), .int (rs i)]))) (x f : Int32) (hterm : ¬ uK x (nI nR) → ¬ oR f (-1000000) 1000000 → ∃ j, j < 1000000 ∧ rStop (ri x.toNatClampNeg) (rc x.toNatClampNeg) f (rIt (ri x.toNatClampNeg) f (rn x.toNatClampNeg) j)) : vx_Met l yX7_flux wsX7_flux { frames := 7, cells := 2, slots := 12, locals := 104 } (pcX G tys ws A tE mi [.ref v, .int x, .int f]) (va_Qi (fun (r : Int32) (u : Nat) => cdFlux x f (nI nR) = 0 ∧ r = rIt (ri x.toNatClampNeg) f (rn x.toNatClampNeg) u - rn x.toNatClampNeg ∧ rStop (ri x.toNatClampNeg) (rc x.toNatClampNeg) f (rIt (ri x.toNatClampNeg) f (rn x.toNatClampNeg) u) ∧ ∀ j, j < u → ¬ rStop (ri x.toNatClampNeg) (rc x.toNatClampNeg) f (rIt (ri x.toNatClampNeg) f (rn x.toNatClampNeg) j)) (fun u t => va_P G vwCl (ws.set (gR x.toNatClampNeg) (eR x.toNatClampNeg, .inr (6, [.int (ri x.toNatClampNeg), .int (rc x.toNatClampNeg), .int f, .int (rIt (ri x.toNatClampNeg) f (rn x.toNatClampNeg) u), .int (rs x.toNatClampNeg + nI u)]))) t.heap ∧ va_D A (ws.set (gR x.toNatClampNeg) (eR x.toNatClampNeg, .inr (6, [.int (ri x.toNatClampNeg), .int (rc x.toNatClampNeg), .int f, .int (rIt (ri x.toNatClampNeg) f (rn x.toNatClampNeg) u), .int (rs x.toNatClampNeg + nI u)])))) A) (xcT (fun E => xC (cdFlux x f (nI nR)) eIB eIA "" E)) 2 12 A := by
  refine ofX (cc := cX7_flux) (maxL := 4) (ret := some .int) (by decide) rfl (Nat.le_of_ble_eq_true rfl) ?_
  intro p e s m below meth c ls hx hb hr hlocks hml hown hts hno hl hP hK hD hA hS hE
  have hown : s.vm.findClass RX7 = some m.cls := hown
  have hiX5 : ∀ w ∈ u_ws RX5 TX5 5, w ∈ wsX7_flux := fun _ h => List.mem_cons_of_mem _ (List.mem_append_left _ (List.mem_append_left _ (List.mem_append_left _ (List.mem_append_right _ h))))
  have hiX7 : ∀ w ∈ u_ws RX7 TX7 7, w ∈ wsX7_flux := fun _ h => List.mem_cons_of_mem _ (List.mem_append_left _ (List.mem_append_left _ (List.mem_append_left _ (List.mem_append_left _ (List.mem_append_right _ h)))))
  have hl : lv_has ls 4 [(0, .ref v), (1, .int x), (2, .int f)] := hl
  have hO : okO s s.heap := ⟨Nat.le_refl _, fun _ _ => rfl⟩
  refine lv_iload_n hx hb dX7_flux_0 rfl (lv_at hl 1 rfl) ?_
  refine lv_aload_n hx hb dX7_flux_1 rfl (lv_at hl 0 rfl) ?_
  refine va_get (D := G) (ci := 7) (v := .ref aR) (C := RX7) (T := TX7) (N := 7) hx hb hts hiX7 hown hK hP pv hv rfl 2 (by decide) (hts (.fieldLink RX7 23 "Vortexpin" "rings" "Ljava/util/ArrayList;") (List.mem_of_getElem? (i := 1) rfl)) (fun _ h9 => h9) rfl dX7_flux_2 ?_
  obtain ⟨mosz5, aesz5, hLsz5⟩ := lsL_cell hR9
  refine vp_callSi (va_Run.run (va_runV (As := []) (rest := [.int x]) ⟨hx, hb, hml, hown, hts⟩ (metSize l G tys _ hR9) (cwV 0 hts gX7_flux_Jx4a65c_size_8abf5 rfl rfl rfl (by decide +kernel) ⟨Nat.le_of_ble_eq_true rfl, Nat.le_of_ble_eq_true rfl⟩) ⟨pcR_b, va_recv hK hP (ci := 0) (q0 := pR) rfl hLsz5, pcR_u hP hK⟩ rfl rfl hl.1 rfl (lv_room (Nat.le_of_ble_eq_true rfl)) dX7_flux_5 ⟨Nat.le_of_ble_eq_true rfl, Nat.le_of_ble_eq_true rfl⟩)) (fun r5 h5 => ?_)
  subst h5
  refine ref_step (vx_runS (As := [.int x, .int (nI nR)]) (rest := []) ⟨hx, hb, hml, hown, hts⟩ (metX7_refuseUnknown l hnt x (nI nR)) (va_cwS 2 hts gX7_flux_X7_refuseUnknown rfl rfl rfl (by decide +kernel) ⟨Nat.le_of_ble_eq_true rfl, Nat.le_of_ble_eq_true rfl⟩) ⟨pcE_b, pcE_u hE hS hA⟩ rfl rfl hl.1 rfl (lv_room (Nat.le_of_ble_eq_true rfl)) dX7_flux_8 ⟨Nat.le_of_ble_eq_true rfl, Nat.le_of_ble_eq_true rfl⟩) hno hlocks hS hO hP (fun hbd => Or.inl ⟨by unfold cdFlux; rw [if_pos hbd], rfl⟩) (Nat.le_of_ble_eq_true rfl) (Nat.le_of_ble_eq_true rfl) (fun k0 H locs hS hO hP => ?_)
  have hs := hRg x.toNatClampNeg (uK_ix k0).2
  refine lv_iload_n hx hb dX7_flux_11 rfl (lv_at hl 2 rfl) ?_
  refine lv_ldc (v := -1000000) hx hb hown (hts (.constant RX7 121 (-1000000)) (List.mem_of_getElem? (i := 2) rfl)) dX7_flux_12 ?_
  refine lv_ldc (v := 1000000) hx hb hown (hts (.constant RX7 122 (1000000)) (List.mem_of_getElem? (i := 3) rfl)) dX7_flux_14 ?_
  refine ref_step (vx_runS (As := [.int f, .int (-1000000 : Int32), .int (1000000 : Int32)]) (rest := []) ⟨hx, hb, hml, hown, hts⟩ (metX7_refuseOutside l hnt f (-1000000 : Int32) (1000000 : Int32)) (va_cwS 3 hts gX7_flux_X7_refuseOutside rfl rfl rfl (by decide +kernel) ⟨Nat.le_of_ble_eq_true rfl, Nat.le_of_ble_eq_true rfl⟩) ⟨pcE_b, pcE_u hE hS hA⟩ rfl rfl hl.1 rfl (lv_room (Nat.le_of_ble_eq_true rfl)) dX7_flux_16 ⟨Nat.le_of_ble_eq_true rfl, Nat.le_of_ble_eq_true rfl⟩) hno hlocks hS hO hP (fun hbd => Or.inr (Or.inl ⟨by unfold cdFlux; rw [if_neg k0, if_pos hbd], rfl⟩)) (Nat.le_of_ble_eq_true rfl) (Nat.le_of_ble_eq_true rfl) (fun k1 H locs hS hO hP => ?_)
  refine lv_aload_n hx hb dX7_flux_19 rfl (lv_at hl 0 rfl) ?_
  refine va_get (D := G) (ci := 7) (v := .ref aR) (C := RX7) (T := TX7) (N := 7) hx hb hts hiX7 hown hK hP pv hv rfl 2 (by decide) (hts (.fieldLink RX7 23 "Vortexpin" "rings" "Ljava/util/ArrayList;") (List.mem_of_getElem? (i := 1) rfl)) (fun _ h9 => h9) rfl dX7_flux_20 ?_
  refine lv_iload_n hx hb dX7_flux_23 rfl (lv_at hl 1 rfl) ?_
  obtain ⟨mogt24, aegt24, hLgt24⟩ := lsL_cell hR9
  refine va_csq (va_Run.run (va_runV (As := [.int x]) (rest := []) ⟨hx, hb, hml, hown, hts⟩ (metGet l G tys _ htO hR9 x k0) (cwV 1 hts gX7_flux_Jx4a65c_get_915e3 rfl rfl rfl (by decide +kernel) ⟨Nat.le_of_ble_eq_true rfl, Nat.le_of_ble_eq_true rfl⟩) ⟨pcR_b, va_recv hK hP (ci := 0) (q0 := pR) rfl hLgt24, pcR_u hP hK⟩ rfl rfl hl.1 rfl (lv_room (Nat.le_of_ble_eq_true rfl)) dX7_flux_24 ⟨Nat.le_of_ble_eq_true rfl, Nat.le_of_ble_eq_true rfl⟩)) (fun r24 h24 => ?_)
  refine rf_q h24 ?_
  refine va_castE hx hb hown (hts (.classLink RX7 117 "Vortexpin$Ring") (List.mem_of_getElem? (i := 4) rfl)) (va_recv hK hP (ci := 6) (q0 := (gR x.toNatClampNeg)) rfl hs) dX7_flux_27 ?_
  refine lv_astore_n (lv' := [(3, .ref (eR x.toNatClampNeg)), (0, .ref v), (1, .int x), (2, .int f)]) hx hb dX7_flux_30 rfl hl (by decide) rfl (fun ls hl => ?_)
  refine lv_aload_n hx hb dX7_flux_31 rfl (lv_at hl 0 rfl) ?_
  refine lv_iload_n hx hb dX7_flux_32 rfl (lv_at hl 3 rfl) ?_
  refine va_put (D := G) (ci := 6) (v := .int f) (ty := .int) (C := RX5) (T := TX5) (N := 5) hx hb hts hiX5 tyX5 tyX5_ok nmX5 hown hK hP hD hS (gR x.toNatClampNeg) hs rfl 2 (by decide) (hts (.fieldLink RX7 123 "Vortexpin$Ring" "flux" "I") (List.mem_of_getElem? (i := 5) rfl)) (fun _ h9 => h9) rfl (by decide +kernel) (rfl) (rfl) (Nat.le_of_ble_eq_true rfl) dX7_flux_33 (fun H locs hP hD hS => ?_)
  have hv := va_gs (k := (gR x.toNatClampNeg)) (e := (eR x.toNatClampNeg, .inr (6, [.int (ri x.toNatClampNeg), .int (rc x.toNatClampNeg), .int f, .int (rn x.toNatClampNeg), .int (rs x.toNatClampNeg)]))) (ne_oo hv hs (by decide)) hv
  have hs := va_ge (e := (eR x.toNatClampNeg, .inr (6, [.int (ri x.toNatClampNeg), .int (rc x.toNatClampNeg), .int f, .int (rn x.toNatClampNeg), .int (rs x.toNatClampNeg)]))) hs
  refine lv_aload_n hx hb dX7_flux_36 rfl (lv_at hl 0 rfl) ?_
  refine va_calli (va_runV (As := []) (rest := []) ⟨hx, hb, hml, hown, hts⟩ (metX5_settle l G tys _ hs (hterm k0 k1)) (cwV 0 hts gX7_flux_X5_settle rfl rfl rfl (by decide +kernel) ⟨Nat.le_of_ble_eq_true rfl, Nat.le_of_ble_eq_true rfl⟩) ⟨pcM_b, va_recv hK hP (ci := 6) (q0 := (gR x.toNatClampNeg)) rfl hs, pcM_u hP hK hD hS hA⟩ rfl rfl hl.1 rfl (lv_room (Nat.le_of_ble_eq_true rfl)) dX7_flux_37 ⟨Nat.le_of_ble_eq_true rfl, Nat.le_of_ble_eq_true rfl⟩) hS (fun q _ h => h) (fun q h => h) (fun r37 u t H locs ht hvm h37 hB hsz hk1 hS => ?_)
  rw [ht] at hB
  have hD := hD.set (e := .inr (6, [.int (ri x.toNatClampNeg), .int (rc x.toNatClampNeg), .int f, .int (rIt (ri x.toNatClampNeg) f (rn x.toNatClampNeg) u), .int (rs x.toNatClampNeg + nI u)])) hs
  have hv := va_gs (k := (gR x.toNatClampNeg)) (e := (eR x.toNatClampNeg, .inr (6, [.int (ri x.toNatClampNeg), .int (rc x.toNatClampNeg), .int f, .int (rIt (ri x.toNatClampNeg) f (rn x.toNatClampNeg) u), .int (rs x.toNatClampNeg + nI u)]))) (ne_oo hv hs (by decide)) hv
  have hs := va_ge (e := (eR x.toNatClampNeg, .inr (6, [.int (ri x.toNatClampNeg), .int (rc x.toNatClampNeg), .int f, .int (rIt (ri x.toNatClampNeg) f (rn x.toNatClampNeg) u), .int (rs x.toNatClampNeg + nI u)]))) hs
  have hP : va_P G vwCl (((ws).set (gR x.toNatClampNeg) (eR x.toNatClampNeg, .inr (6, [.int (ri x.toNatClampNeg), .int (rc x.toNatClampNeg), .int f, .int (rn x.toNatClampNeg), .int (rs x.toNatClampNeg)]))).set (gR x.toNatClampNeg) (eR x.toNatClampNeg, .inr (6, [.int (ri x.toNatClampNeg), .int (rc x.toNatClampNeg), .int f, .int (rIt (ri x.toNatClampNeg) f (rn x.toNatClampNeg) u), .int (rs x.toNatClampNeg + nI u)]))) H := hB
  have hD : va_D A (((ws).set (gR x.toNatClampNeg) (eR x.toNatClampNeg, .inr (6, [.int (ri x.toNatClampNeg), .int (rc x.toNatClampNeg), .int f, .int (rn x.toNatClampNeg), .int (rs x.toNatClampNeg)]))).set (gR x.toNatClampNeg) (eR x.toNatClampNeg, .inr (6, [.int (ri x.toNatClampNeg), .int (rc x.toNatClampNeg), .int f, .int (rIt (ri x.toNatClampNeg) f (rn x.toNatClampNeg) u), .int (rs x.toNatClampNeg + nI u)]))) := hD
  refine W.widen (k := 2) (n := 12) (Nat.le_of_ble_eq_true rfl) (Nat.le_of_ble_eq_true rfl) (vx_ret ?_)
  have ew : ((ws).set (gR x.toNatClampNeg) (eR x.toNatClampNeg, .inr (6, [.int (ri x.toNatClampNeg), .int (rc x.toNatClampNeg), .int f, .int (rn x.toNatClampNeg), .int (rs x.toNatClampNeg)]))).set (gR x.toNatClampNeg) (eR x.toNatClampNeg, .inr (6, [.int (ri x.toNatClampNeg), .int (rc x.toNatClampNeg), .int f, .int (rIt (ri x.toNatClampNeg) f (rn x.toNatClampNeg) u), .int (rs x.toNatClampNeg + nI u)])) = ws.set (gR x.toNatClampNeg) (eR x.toNatClampNeg, .inr (6, [.int (ri x.toNatClampNeg), .int (rc x.toNatClampNeg), .int f, .int (rIt (ri x.toNatClampNeg) f (rn x.toNatClampNeg) u), .int (rs x.toNatClampNeg + nI u)])) := by simp only [List.set_set, ↓reduceIte, not_true_eq_false, not_false_eq_true]
  have hP : va_P G vwCl (((ws).set (gR x.toNatClampNeg) (eR x.toNatClampNeg, .inr (6, [.int (ri x.toNatClampNeg), .int (rc x.toNatClampNeg), .int f, .int (rn x.toNatClampNeg), .int (rs x.toNatClampNeg)]))).set (gR x.toNatClampNeg) (eR x.toNatClampNeg, .inr (6, [.int (ri x.toNatClampNeg), .int (rc x.toNatClampNeg), .int f, .int (rIt (ri x.toNatClampNeg) f (rn x.toNatClampNeg) u), .int (rs x.toNatClampNeg + nI u)]))) H := hP
  have hD : va_D A (((ws).set (gR x.toNatClampNeg) (eR x.toNatClampNeg, .inr (6, [.int (ri x.toNatClampNeg), .int (rc x.toNatClampNeg), .int f, .int (rn x.toNatClampNeg), .int (rs x.toNatClampNeg)]))).set (gR x.toNatClampNeg) (eR x.toNatClampNeg, .inr (6, [.int (ri x.toNatClampNeg), .int (rc x.toNatClampNeg), .int f, .int (rIt (ri x.toNatClampNeg) f (rn x.toNatClampNeg) u), .int (rs x.toNatClampNeg + nI u)]))) := hD
  rw [ew] at hP hD
  exact W.iret (v := r37) hx hb hr (fun t ht hW => ⟨⟨r37, u, rfl, ⟨by unfold cdFlux; rw [if_neg k0, if_neg k1], h37⟩, by show va_P G vwCl _ t.heap ∧ va_D A _; rw [ht]; exact ⟨hP, hD⟩⟩, hS.F ht⟩) hS.2.2 dX7_flux_40
/-- where slips stop the number is small -/
theorem div_far {D i q : Nat} (hi : 1 ≤ i) (h100 : i ≤ 100) (hD : 1000 ≤ D) : (D - 1000) / i < D / i := by
  have h1 : (D - 1000) / i * i ≤ D - 1000 := Nat.div_mul_le_self _ _
  have h2 : ((D - 1000) / i + 1) * i ≤ D := by rw [Nat.add_mul]; omega
  exact Nat.lt_of_succ_le ((Nat.le_div_iff_mul_le hi).mpr h2)
theorem div_near {D i r : Nat} (hi : 1 ≤ i) (h100 : i ≤ 100) (hr : r ≤ 1000) (h : D / i ≤ r) : D ≤ 100100 := by
  have h1 : D < (D / i + 1) * i := by
    have := Nat.div_add_mod D i
    have h2 := Nat.mod_lt D (show i > 0 by omega)
    rw [Nat.add_mul, Nat.mul_comm (D / i) i]
    omega
  have h2 : (D / i + 1) * i ≤ 1001 * 100 := Nat.mul_le_mul (by omega) h100
  omega
section Rng
variable {ind cr fl : Int32} {i c r : Int}
theorem stop_rng (hi : ind.toInt = i) (i1 : 1 ≤ i) (i2 : i ≤ 100) (hc : fl.toInt = c) (c1 : -1000000 ≤ c) (c2 : c ≤ 1000000) (hr : cr.toInt = r) (r0 : 0 ≤ r) (r1 : r ≤ 1000) {n : Int32} {m : Int} (hm : n.toInt = m) (m1 : -4000 ≤ m) (m2 : m ≤ 4000) (hs : rStop ind cr fl n) : -1101 ≤ m ∧ m ≤ 1101 := by
  have hq := rCur_int (ind := ind) (fl := fl) hi i1 hc c1 c2 hm (by omega) (by omega)
  have hb := rBy_int hm (by omega) (by omega) hq
  have la := tdiv_abs (a := 1000 * m - c) i1
  have key : (1000 * m - c).natAbs ≤ 100100 := by
    rcases Nat.lt_or_ge (1000 * m - c).natAbs 1000 with z | z
    · omega
    rcases hs with h | h
    · rw [Int32.le_iff_toInt_le, jabs_int hq (by omega), hr, Int.natAbs_tdiv] at h
      exact div_near (i := i.natAbs) (r := r.toNat) (by omega) (by omega) (by omega) ((Int.le_toNat r0).mpr h)
    · exfalso
      have far := div_far (q := 0) (i := i.natAbs) (by omega) (by omega) z
      refine h ?_
      rcases Int.lt_or_le 0 ((1000 * m - c).tdiv i) with p | p
      · obtain ⟨b1, b2⟩ := hb.2 p
        have dp := tdiv_pos' i1 p
        have hq2 := rCur_int (ind := ind) (fl := fl) hi i1 hc c1 c2 b2 (by omega) (by omega)
        have l2 := tdiv_abs (a := 1000 * (m - 1) - c) i1
        rw [Int32.lt_iff_toInt_lt, jabs_int hq (by omega), jabs_int hq2 (by omega), Int.natAbs_tdiv, Int.natAbs_tdiv, show (1000 * (m - 1) - c).natAbs = (1000 * m - c).natAbs - 1000 by omega]
        exact Int.ofNat_lt.mpr far
      · obtain ⟨b1, b2⟩ := hb.1 p
        have dn : 1000 * m - c ≤ 0 := by
          rcases Int.lt_or_le 0 (1000 * m - c) with w | w
          · exfalso
            have e1 : (1000 * m - c).tdiv i = 0 := by
              have := Int.tdiv_nonneg (show 0 ≤ 1000 * m - c by omega) (show 0 ≤ i by omega)
              omega
            have e2 := congrArg Int.natAbs e1
            rw [Int.natAbs_tdiv] at e2
            have e3 : (1000 * m - c).natAbs / i.natAbs = 0 := e2
            rw [e3] at far
            exact Nat.not_lt_zero _ far
          · exact w
        have hq2 := rCur_int (ind := ind) (fl := fl) hi i1 hc c1 c2 b2 (by omega) (by omega)
        have l2 := tdiv_abs (a := 1000 * (m + 1) - c) i1
        rw [Int32.lt_iff_toInt_lt, jabs_int hq (by omega), jabs_int hq2 (by omega), Int.natAbs_tdiv, Int.natAbs_tdiv, show (1000 * (m + 1) - c).natAbs = (1000 * m - c).natAbs - 1000 by omega]
        exact Int.ofNat_lt.mpr far
  omega
/-- a slip brings the number nearer -/
theorem slip_near (hi : ind.toInt = i) (i1 : 1 ≤ i) (hc : fl.toInt = c) (c1 : -1000000 ≤ c) (c2 : c ≤ 1000000) (hr : cr.toInt = r) (r0 : 0 ≤ r) {n : Int32} {m : Int} (hm : n.toInt = m) (m1 : -4000 ≤ m) (m2 : m ≤ 4000) (hs : ¬ rStop ind cr fl n) : (1000 * (rBy ind fl n).toInt - c).natAbs ≤ (1000 * m - c).natAbs + 0 ∨ (1000 * (rBy ind fl n).toInt - c).natAbs ≤ 1000 := by
  have hq := rCur_int (ind := ind) (fl := fl) hi i1 hc c1 c2 hm (by omega) (by omega)
  have hb := rBy_int hm (by omega) (by omega) hq
  have la := tdiv_abs (a := 1000 * m - c) i1
  have hs1 : ¬ jabs (rCur ind fl n) ≤ cr := fun z => hs (Or.inl z)
  rw [Int32.le_iff_toInt_le, jabs_int hq (by omega), hr] at hs1
  rcases Int.lt_or_le 0 ((1000 * m - c).tdiv i) with p | p
  · obtain ⟨b1, b2⟩ := hb.2 p
    have dp := tdiv_pos' i1 p
    rw [b2]; omega
  · obtain ⟨b1, b2⟩ := hb.1 p
    have dn := tdiv_neg' (a := 1000 * m - c) i1 (by omega)
    rw [b2]; omega
theorem slips_near (hi : ind.toInt = i) (i1 : 1 ≤ i) (hc : fl.toInt = c) (c1 : -1000000 ≤ c) (c2 : c ≤ 1000000) (hr : cr.toInt = r) (r0 : 0 ≤ r) : ∀ (u : Nat) (n : Int32), (-1101 ≤ n.toInt ∧ n.toInt ≤ 1101) → (∀ j, j < u → ¬ rStop ind cr fl (rIt ind fl n j)) → (1000 * (rIt ind fl n u).toInt - c).natAbs ≤ 2101000 := by
  intro u n hn
  induction u with
  | zero => intro _; show (1000 * n.toInt - c).natAbs ≤ 2101000; omega
  | succ u ih =>
    intro h
    have h1 := ih (fun j hj => h j (by omega))
    have h2 := slip_near hi i1 hc c1 c2 hr r0 rfl (by omega) (by omega) (h u (by omega))
    show (1000 * (rBy ind fl (rIt ind fl n u)).toInt - c).natAbs ≤ 2101000
    omega
theorem flux_rng (hi : ind.toInt = i) (i1 : 1 ≤ i) (i2 : i ≤ 100) (hc : fl.toInt = c) (c1 : -1000000 ≤ c) (c2 : c ≤ 1000000) (hr : cr.toInt = r) (r0 : 0 ≤ r) (r1 : r ≤ 1000) {n : Int32} (hn : -1101 ≤ n.toInt ∧ n.toInt ≤ 1101) {u : Nat} (hs : rStop ind cr fl (rIt ind fl n u)) (hu : ∀ j, j < u → ¬ rStop ind cr fl (rIt ind fl n j)) : -1101 ≤ (rIt ind fl n u).toInt ∧ (rIt ind fl n u).toInt ≤ 1101 := by
  have h1 := slips_near hi i1 hc c1 c2 hr r0 u n hn hu
  exact stop_rng hi i1 i2 hc c1 c2 hr r0 r1 rfl (by omega) (by omega) hs
theorem flux_term (hi : ind.toInt = i) (i1 : 1 ≤ i) (hc : fl.toInt = c) (c1 : -1000000 ≤ c) (c2 : c ≤ 1000000) (hr : cr.toInt = r) (r0 : 0 ≤ r) {n : Int32} (hn : -1101 ≤ n.toInt ∧ n.toInt ≤ 1101) : ∃ j, j < 1000000 ∧ rStop ind cr fl (rIt ind fl n j) := by
  obtain ⟨j, h1, h2⟩ := slips_end hi i1 hc c1 c2 hr r0 2101 n _ rfl (by omega) (by omega)
  exact ⟨j, by omega, h2⟩
end Rng
