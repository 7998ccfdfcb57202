set_option maxHeartbeats 4000000 in
set_option maxRecDepth 100000 in
theorem metX2_init (l : Launch) (G : va_G) (tys : List (ClassId × FieldType)) {A : Nat → Prop} (ws : va_W) {pk ak : Nat} {lo up co : Int32} (hk : ws[pk]? = some (ak, .inr (3, [.int lo, .int up, .int co]))) : Met l yX2_init wsX2_init ({ frames := 1, cells := 0, slots := 0, locals := 12 }) (pcM G tys ws A [.ref ak]) (qMv G (ws.set pk (ak, .inr (3, [.int 300, .int 700, .int co]))) A) 0 0 A := by
  refine ofM (cc := cX2_init) (maxL := 1) (ret := none) (by decide) rfl (Nat.le_of_ble_eq_true rfl) ?_
  intro p e s m below meth c ls hx hb hr hlocks hml hown hts hin hl hP hK hD hA hS
  have hown : s.vm.findClass RX2 = some m.cls := hown
  have hiX2 : ∀ w ∈ u_ws RX2 TX2 3, w ∈ wsX2_init := fun _ h => List.mem_cons_of_mem _ (List.mem_append_right _ h)
  have hl : lv_has ls 1 [(0, .ref ak)] := hl
  refine lv_aload_n hx hb dX2_init_0 rfl (lv_at hl 0 rfl) ?_
  refine W.objInit hx hb hown (hts (.methodLink RX2 1 objectInit) (List.mem_of_getElem? (i := 1) rfl)) (hts (.instanceMethod objectInit) (List.mem_of_getElem? (i := 2) rfl)) (hts _ (List.mem_of_getElem? (i := 3) rfl)) rfl (by rw [hml]; exact hl.1) rfl dX2_init_1 (Nat.le_of_ble_eq_true rfl) (Nat.le_of_ble_eq_true rfl) ?_
  refine W.eq (g2 := F0 m 4 ls []) rfl ?_
  refine lv_aload_n hx hb dX2_init_4 rfl (lv_at hl 0 rfl) ?_
  refine lv_sipush (v := 300) hx hb dX2_init_5 (by decide) ?_
  refine va_put (D := G) (ci := 3) (v := .int (300 : Int32)) (ty := .int) (C := RX2) (T := TX2) (N := 3) hx hb hts hiX2 tyX2 tyX2_ok nmX2 hown hK hP hD hS pk hk rfl 0 (by decide) (hts (.fieldLink RX2 7 "Vortexpin$Counter" "lower" "I") (List.mem_of_getElem? (i := 4) rfl)) (fun _ h9 => h9) rfl (by decide +kernel) (rfl) (rfl) (Nat.le_of_ble_eq_true rfl) dX2_init_8 (fun H locs hP hD hS => ?_)
  have hk := va_ge (e := (ak, .inr (3, [.int (300 : Int32), .int up, .int co]))) hk
  refine lv_aload_n hx hb dX2_init_11 rfl (lv_at hl 0 rfl) ?_
  refine lv_sipush (v := 700) hx hb dX2_init_12 (by decide) ?_
  refine va_put (D := G) (ci := 3) (v := .int (700 : Int32)) (ty := .int) (C := RX2) (T := TX2) (N := 3) hx hb hts hiX2 tyX2 tyX2_ok nmX2 hown hK hP hD hS pk hk rfl 1 (by decide) (hts (.fieldLink RX2 13 "Vortexpin$Counter" "upper" "I") (List.mem_of_getElem? (i := 5) rfl)) (fun _ h9 => h9) rfl (by decide +kernel) (rfl) (rfl) (Nat.le_of_ble_eq_true rfl) dX2_init_15 (fun H locs hP hD hS => ?_)
  have hk := va_ge (e := (ak, .inr (3, [.int (300 : Int32), .int (700 : Int32), .int co]))) hk
  have ew : ((ws).set pk (ak, .inr (3, [.int (300 : Int32), .int up, .int co]))).set pk (ak, .inr (3, [.int (300 : Int32), .int (700 : Int32), .int co])) = ws.set pk (ak, .inr (3, [.int 300, .int 700, .int co])) := by simp only [List.set_set, ↓reduceIte, not_true_eq_false, not_false_eq_true]
  exact W.vret hx hb hr (fun t ht hW => ⟨⟨(), rfl, trivial, by show va_P G vwCl _ t.heap; rw [ht]; rw [← ew]; exact hP⟩, hS.F ht⟩) hS.2.2 dX2_init_18
set_option maxHeartbeats 4000000 in
set_option maxRecDepth 100000 in
theorem metX4_init (l : Launch) (G : va_G) (tys : List (ClassId × FieldType)) {A : Nat → Prop} (ws : va_W) {p4 a4 : Nat} {x0 y0 z0 : Int32} (h4 : ws[p4]? = some (a4, .inr (5, [.int x0, .int y0, .int z0]))) (x y z : Int32) : Met l yX4_init wsX4_init ({ frames := 1, cells := 0, slots := 0, locals := 12 }) (pcM G tys ws A [.ref a4, .int x, .int y, .int z]) (qMv G (ws.set p4 (a4, .inr (5, [.int x, .int y, .int z]))) A) 0 0 A := by
  refine ofM (cc := cX4_init) (maxL := 4) (ret := none) (by decide) rfl (Nat.le_of_ble_eq_true rfl) ?_
  intro p e s m below meth c ls hx hb hr hlocks hml hown hts hin hl hP hK hD hA hS
  have hown : s.vm.findClass RX4 = some m.cls := hown
  have hiX4 : ∀ w ∈ u_ws RX4 TX4 3, w ∈ wsX4_init := fun _ h => List.mem_cons_of_mem _ (List.mem_append_right _ h)
  have hl : lv_has ls 4 [(0, .ref a4), (1, .int x), (2, .int y), (3, .int z)] := hl
  refine lv_aload_n hx hb dX4_init_0 rfl (lv_at hl 0 rfl) ?_
  refine W.objInit hx hb hown (hts (.methodLink RX4 1 objectInit) (List.mem_of_getElem? (i := 1) rfl)) (hts (.instanceMethod objectInit) (List.mem_of_getElem? (i := 2) rfl)) (hts _ (List.mem_of_getElem? (i := 3) rfl)) rfl (by rw [hml]; exact hl.1) rfl dX4_init_1 (Nat.le_of_ble_eq_true rfl) (Nat.le_of_ble_eq_true rfl) ?_
  refine W.eq (g2 := F0 m 4 ls []) rfl ?_
  refine lv_aload_n hx hb dX4_init_4 rfl (lv_at hl 0 rfl) ?_
  refine lv_iload_n hx hb dX4_init_5 rfl (lv_at hl 1 rfl) ?_
  refine va_putF (D := G) (ci := 5) (v := .int x) (ty := .int) (C := RX4) (T := TX4) (N := 3) hx hb hts hiX4 tyX4 tyX4_ok nmX4 hown hK hP hD hS p4 h4 rfl 0 (by decide) (hts (.fieldLink RX4 7 "Vortexpin$Point" "temperature" "I") (List.mem_of_getElem? (i := 4) rfl)) (fun _ h9 => h9) rfl hin rfl (by decide +kernel) (rfl) (rfl) (Nat.le_of_ble_eq_true rfl) dX4_init_6 (fun H locs hP hD hS => ?_)
  have h4 := va_ge (e := (a4, .inr (5, [.int x, .int y0, .int z0]))) h4
  refine lv_aload_n hx hb dX4_init_9 rfl (lv_at hl 0 rfl) ?_
  refine lv_iload_n hx hb dX4_init_10 rfl (lv_at hl 2 rfl) ?_
  refine va_putF (D := G) (ci := 5) (v := .int y) (ty := .int) (C := RX4) (T := TX4) (N := 3) hx hb hts hiX4 tyX4 tyX4_ok nmX4 hown hK hP hD hS p4 h4 rfl 1 (by decide) (hts (.fieldLink RX4 13 "Vortexpin$Point" "current" "I") (List.mem_of_getElem? (i := 5) rfl)) (fun _ h9 => h9) rfl hin rfl (by decide +kernel) (rfl) (rfl) (Nat.le_of_ble_eq_true rfl) dX4_init_11 (fun H locs hP hD hS => ?_)
  have h4 := va_ge (e := (a4, .inr (5, [.int x, .int y, .int z0]))) h4
  refine lv_aload_n hx hb dX4_init_14 rfl (lv_at hl 0 rfl) ?_
  refine lv_iload_n hx hb dX4_init_15 rfl (lv_at hl 3 rfl) ?_
  refine va_putF (D := G) (ci := 5) (v := .int z) (ty := .int) (C := RX4) (T := TX4) (N := 3) hx hb hts hiX4 tyX4 tyX4_ok nmX4 hown hK hP hD hS p4 h4 rfl 2 (by decide) (hts (.fieldLink RX4 16 "Vortexpin$Point" "voltage" "I") (List.mem_of_getElem? (i := 6) rfl)) (fun _ h9 => h9) rfl hin rfl (by decide +kernel) (rfl) (rfl) (Nat.le_of_ble_eq_true rfl) dX4_init_16 (fun H locs hP hD hS => ?_)
  have h4 := va_ge (e := (a4, .inr (5, [.int x, .int y, .int z]))) h4
  have ew : (((ws).set p4 (a4, .inr (5, [.int x, .int y0, .int z0]))).set p4 (a4, .inr (5, [.int x, .int y, .int z0]))).set p4 (a4, .inr (5, [.int x, .int y, .int z])) = ws.set p4 (a4, .inr (5, [.int x, .int y, .int z])) := by simp only [List.set_set, ↓reduceIte, not_true_eq_false, not_false_eq_true]
  exact W.vret hx hb hr (fun t ht hW => ⟨⟨(), rfl, trivial, by show va_P G vwCl _ t.heap; rw [ht]; rw [← ew]; exact hP⟩, hS.F ht⟩) hS.2.2 dX4_init_19
set_option maxHeartbeats 4000000 in
set_option maxRecDepth 100000 in
theorem metX5_init (l : Launch) (G : va_G) (tys : List (ClassId × FieldType)) {A : Nat → Prop} (ws : va_W) {pr ar : Nat} (hr0 : ws[pr]? = some (ar, .inr (6, [.int 0, .int 0, .int 0, .int 0, .int 0]))) (x y : Int32) : Met l yX5_init wsX5_init ({ frames := 1, cells := 0, slots := 0, locals := 12 }) (pcM G tys ws A [.ref ar, .int x, .int y]) (qMv G (ws.set pr (ar, .inr (6, [.int x, .int y, .int 0, .int 0, .int 0]))) A) 0 0 A := by
  refine ofM (cc := cX5_init) (maxL := 3) (ret := none) (by decide) rfl (Nat.le_of_ble_eq_true rfl) ?_
  intro p e s m below meth c ls hx hb hr hlocks hml hown hts hin hl hP hK hD hA hS
  have hown : s.vm.findClass RX5 = some m.cls := hown
  have hiX5 : ∀ w ∈ u_ws RX5 TX5 5, w ∈ wsX5_init := fun _ h => List.mem_cons_of_mem _ (List.mem_append_right _ h)
  have hl : lv_has ls 3 [(0, .ref ar), (1, .int x), (2, .int y)] := hl
  refine lv_aload_n hx hb dX5_init_0 rfl (lv_at hl 0 rfl) ?_
  refine W.objInit hx hb hown (hts (.methodLink RX5 1 objectInit) (List.mem_of_getElem? (i := 1) rfl)) (hts (.instanceMethod objectInit) (List.mem_of_getElem? (i := 2) rfl)) (hts _ (List.mem_of_getElem? (i := 3) rfl)) rfl (by rw [hml]; exact hl.1) rfl dX5_init_1 (Nat.le_of_ble_eq_true rfl) (Nat.le_of_ble_eq_true rfl) ?_
  refine W.eq (g2 := F0 m 4 ls []) rfl ?_
  refine lv_aload_n hx hb dX5_init_4 rfl (lv_at hl 0 rfl) ?_
  refine lv_iload_n hx hb dX5_init_5 rfl (lv_at hl 1 rfl) ?_
  refine va_putF (D := G) (ci := 6) (v := .int x) (ty := .int) (C := RX5) (T := TX5) (N := 5) hx hb hts hiX5 tyX5 tyX5_ok nmX5 hown hK hP hD hS pr hr0 rfl 0 (by decide) (hts (.fieldLink RX5 7 "Vortexpin$Ring" "inductance" "I") (List.mem_of_getElem? (i := 4) rfl)) (fun _ h9 => h9) rfl hin rfl (by decide +kernel) (rfl) (rfl) (Nat.le_of_ble_eq_true rfl) dX5_init_6 (fun H locs hP hD hS => ?_)
  have hr0 := va_ge (e := (ar, .inr (6, [.int x, .int 0, .int 0, .int 0, .int 0]))) hr0
  refine lv_aload_n hx hb dX5_init_9 rfl (lv_at hl 0 rfl) ?_
  refine lv_iload_n hx hb dX5_init_10 rfl (lv_at hl 2 rfl) ?_
  refine va_putF (D := G) (ci := 6) (v := .int y) (ty := .int) (C := RX5) (T := TX5) (N := 5) hx hb hts hiX5 tyX5 tyX5_ok nmX5 hown hK hP hD hS pr hr0 rfl 1 (by decide) (hts (.fieldLink RX5 13 "Vortexpin$Ring" "critical" "I") (List.mem_of_getElem? (i := 5) rfl)) (fun _ h9 => h9) rfl hin rfl (by decide +kernel) (rfl) (rfl) (Nat.le_of_ble_eq_true rfl) dX5_init_11 (fun H locs hP hD hS => ?_)
  have hr0 := va_ge (e := (ar, .inr (6, [.int x, .int y, .int 0, .int 0, .int 0]))) hr0
  have ew : ((ws).set pr (ar, .inr (6, [.int x, .int 0, .int 0, .int 0, .int 0]))).set pr (ar, .inr (6, [.int x, .int y, .int 0, .int 0, .int 0])) = ws.set pr (ar, .inr (6, [.int x, .int y, .int 0, .int 0, .int 0])) := by simp only [List.set_set, ↓reduceIte, not_true_eq_false, not_false_eq_true]
  exact W.vret hx hb hr (fun t ht hW => ⟨⟨(), rfl, trivial, by show va_P G vwCl _ t.heap; rw [ht]; rw [← ew]; exact hP⟩, hS.F ht⟩) hS.2.2 dX5_init_14
set_option maxHeartbeats 4000000 in
set_option maxRecDepth 100000 in
theorem metX0_init (l : Launch) (G : va_G) (tys : List (ClassId × FieldType)) {A : Nat → Prop} {cI : ClassId} (htI : tI tys cI) (ws : va_W) {p1 a1 : Nat} (h1 : ws[p1]? = some (a1, .inr (1, [.int 0, .int 0, .int 0, .int 0, .null]))) (x y z u : Int32) : Met l yX0_init wsX0_init ({ frames := 1, cells := 1, slots := 7, locals := 12 }) (pcM G tys ws A [.ref a1, .int x, .int y, .int z, .int u]) (va_Qv (fun (_ : Nat) => True) (fun q t => va_P G vwCl ((((((ws.set p1 (a1, .inr (1, [.int x, .int 0, .int 0, .int 0, .null]))).set p1 (a1, .inr (1, [.int x, .int y, .int 0, .int 0, .null]))).set p1 (a1, .inr (1, [.int x, .int y, .int z, .int 0, .null]))).set p1 (a1, .inr (1, [.int x, .int y, .int z, .int u, .null]))) ++ ([(q, .inl (cI, 7, .inl (fun _ => 0)))] : va_W)).set p1 (a1, .inr (1, [.int x, .int y, .int z, .int u, .ref q]))) t.heap ∧ va_D A ((((((ws.set p1 (a1, .inr (1, [.int x, .int 0, .int 0, .int 0, .null]))).set p1 (a1, .inr (1, [.int x, .int y, .int 0, .int 0, .null]))).set p1 (a1, .inr (1, [.int x, .int y, .int z, .int 0, .null]))).set p1 (a1, .inr (1, [.int x, .int y, .int z, .int u, .null]))) ++ ([(q, .inl (cI, 7, .inl (fun _ => 0)))] : va_W)).set p1 (a1, .inr (1, [.int x, .int y, .int z, .int u, .ref q])))) A) 1 7 A := by
  refine ofM (cc := cX0_init) (maxL := 5) (ret := none) (by decide) rfl (Nat.le_of_ble_eq_true rfl) ?_
  intro p e s m below meth c ls hx hb hr hlocks hml hown hts hin hl hP hK hD hA hS
  have hown : s.vm.findClass RX0 = some m.cls := hown
  have hiX0 : ∀ w ∈ u_ws RX0 TX0 5, w ∈ wsX0_init := fun _ h => List.mem_cons_of_mem _ (List.mem_append_right _ h)
  have hl : lv_has ls 5 [(0, .ref a1), (1, .int x), (2, .int y), (3, .int z), (4, .int u)] := hl
  refine lv_aload_n hx hb dX0_init_0 rfl (lv_at hl 0 rfl) ?_
  refine W.objInit hx hb hown (hts (.methodLink RX0 3 objectInit) (List.mem_of_getElem? (i := 1) rfl)) (hts (.instanceMethod objectInit) (List.mem_of_getElem? (i := 2) rfl)) (hts _ (List.mem_of_getElem? (i := 3) rfl)) rfl (by rw [hml]; exact hl.1) rfl dX0_init_1 (Nat.le_of_ble_eq_true rfl) (Nat.le_of_ble_eq_true rfl) ?_
  refine W.eq (g2 := F0 m 4 ls []) rfl ?_
  refine lv_aload_n hx hb dX0_init_4 rfl (lv_at hl 0 rfl) ?_
  refine lv_iload_n hx hb dX0_init_5 rfl (lv_at hl 1 rfl) ?_
  refine va_putF (D := G) (ci := 1) (v := .int x) (ty := .int) (C := RX0) (T := TX0) (N := 5) hx hb hts hiX0 tyX0 tyX0_ok nmX0 hown hK hP hD hS p1 h1 rfl 0 (by decide) (hts (.fieldLink RX0 9 "Vortexpin$Claim" "temperature" "I") (List.mem_of_getElem? (i := 4) rfl)) (fun _ h9 => h9) rfl hin rfl (by decide +kernel) (rfl) (rfl) (Nat.le_of_ble_eq_true rfl) dX0_init_6 (fun H locs hP hD hS => ?_)
  have h1 := va_ge (e := (a1, .inr (1, [.int x, .int 0, .int 0, .int 0, .null]))) h1
  refine lv_aload_n hx hb dX0_init_9 rfl (lv_at hl 0 rfl) ?_
  refine lv_iload_n hx hb dX0_init_10 rfl (lv_at hl 2 rfl) ?_
  refine va_putF (D := G) (ci := 1) (v := .int y) (ty := .int) (C := RX0) (T := TX0) (N := 5) hx hb hts hiX0 tyX0 tyX0_ok nmX0 hown hK hP hD hS p1 h1 rfl 1 (by decide) (hts (.fieldLink RX0 15 "Vortexpin$Claim" "from" "I") (List.mem_of_getElem? (i := 5) rfl)) (fun _ h9 => h9) rfl hin rfl (by decide +kernel) (rfl) (rfl) (Nat.le_of_ble_eq_true rfl) dX0_init_11 (fun H locs hP hD hS => ?_)
  have h1 := va_ge (e := (a1, .inr (1, [.int x, .int y, .int 0, .int 0, .null]))) h1
  refine lv_aload_n hx hb dX0_init_14 rfl (lv_at hl 0 rfl) ?_
  refine lv_iload_n hx hb dX0_init_15 rfl (lv_at hl 3 rfl) ?_
  refine va_putF (D := G) (ci := 1) (v := .int z) (ty := .int) (C := RX0) (T := TX0) (N := 5) hx hb hts hiX0 tyX0 tyX0_ok nmX0 hown hK hP hD hS p1 h1 rfl 2 (by decide) (hts (.fieldLink RX0 18 "Vortexpin$Claim" "to" "I") (List.mem_of_getElem? (i := 6) rfl)) (fun _ h9 => h9) rfl hin rfl (by decide +kernel) (rfl) (rfl) (Nat.le_of_ble_eq_true rfl) dX0_init_16 (fun H locs hP hD hS => ?_)
  have h1 := va_ge (e := (a1, .inr (1, [.int x, .int y, .int z, .int 0, .null]))) h1
  refine lv_aload_n hx hb dX0_init_19 rfl (lv_at hl 0 rfl) ?_
  refine lv_iload hx hb dX0_init_20 (lv_at hl 4 rfl) ?_
  refine va_putF (D := G) (ci := 1) (v := .int u) (ty := .int) (C := RX0) (T := TX0) (N := 5) hx hb hts hiX0 tyX0 tyX0_ok nmX0 hown hK hP hD hS p1 h1 rfl 3 (by decide) (hts (.fieldLink RX0 21 "Vortexpin$Claim" "pointsThen" "I") (List.mem_of_getElem? (i := 7) rfl)) (fun _ h9 => h9) rfl hin rfl (by decide +kernel) (rfl) (rfl) (Nat.le_of_ble_eq_true rfl) dX0_init_22 (fun H locs hP hD hS => ?_)
  have h1 := va_ge (e := (a1, .inr (1, [.int x, .int y, .int z, .int u, .null]))) h1
  refine lv_aload_n hx hb dX0_init_25 rfl (lv_at hl 0 rfl) ?_
  refine lv_bipush (v := 7) hx hb dX0_init_26 (by decide) ?_
  refine va_newa (atype := .int) (n := 7) (N' := 7) (a0 := (7, .inl (fun _ => 0))) hx hb (hts (.arrayClass .int) (List.mem_of_getElem? (i := 8) rfl)) rfl hK hP hD hS hA (fun _ => rfl) (by decide) (by decide) (by decide) (Nat.le_of_ble_eq_true rfl) (Nat.le_of_ble_eq_true rfl) dX0_init_28 (fun q28 cA H hK2 hP hD hS => ?_)
  have hz2 : (tys ++ [(cA, FieldType.int)])[tys.length]? = some (cA, .int) := by simp
  have hcA : cA = cI := Option.some.inj ((va_nm_int (hK2.2 tys.length _ hz2).2).symm.trans (va_nm_int (hK.2 0 _ htI).2))
  rw [hcA] at hP hD
  have nq28_h1 : p1 ≠ (((((ws).set p1 (a1, .inr (1, [.int x, .int 0, .int 0, .int 0, .null]))).set p1 (a1, .inr (1, [.int x, .int y, .int 0, .int 0, .null]))).set p1 (a1, .inr (1, [.int x, .int y, .int z, .int 0, .null]))).set p1 (a1, .inr (1, [.int x, .int y, .int z, .int u, .null]))).length := Nat.ne_of_lt (pl_lt h1)
  have h1 := va_ga (w2 := [(q28, .inl (cI, 7, .inl (fun _ => 0)))]) h1
  have hq28 : ((((((ws).set p1 (a1, .inr (1, [.int x, .int 0, .int 0, .int 0, .null]))).set p1 (a1, .inr (1, [.int x, .int y, .int 0, .int 0, .null]))).set p1 (a1, .inr (1, [.int x, .int y, .int z, .int 0, .null]))).set p1 (a1, .inr (1, [.int x, .int y, .int z, .int u, .null]))) ++ ([(q28, .inl (cI, 7, .inl (fun _ => 0)))] : va_W))[(((((ws).set p1 (a1, .inr (1, [.int x, .int 0, .int 0, .int 0, .null]))).set p1 (a1, .inr (1, [.int x, .int y, .int 0, .int 0, .null]))).set p1 (a1, .inr (1, [.int x, .int y, .int z, .int 0, .null]))).set p1 (a1, .inr (1, [.int x, .int y, .int z, .int u, .null]))).length]? = some (q28, .inl (cI, 7, .inl (fun _ => 0))) := va_gn
  refine va_putF (D := G) (ci := 1) (v := .ref q28) (ty := .array .int) (C := RX0) (T := TX0) (N := 5) hx hb hts hiX0 tyX0 tyX0_ok nmX0 hown hK hP hD hS p1 h1 rfl 4 (by decide) (hts (.fieldLink RX0 24 "Vortexpin$Claim" "words" "[I") (List.mem_of_getElem? (i := 9) rfl)) (fun _ h9 => h9) rfl hin rfl (by decide +kernel) (rfl) (rfl) (Nat.le_of_ble_eq_true rfl) dX0_init_30 (fun H locs hP hD hS => ?_)
  have hq28 := va_gs (k := p1) (e := (a1, .inr (1, [.int x, .int y, .int z, .int u, .ref q28]))) (nq28_h1.symm) hq28
  have h1 := va_ge (e := (a1, .inr (1, [.int x, .int y, .int z, .int u, .ref q28]))) h1
  exact W.vret hx hb hr (fun t ht hW => ⟨⟨q28, rfl, trivial, by show va_P G vwCl _ t.heap ∧ va_D A _; rw [ht]; exact ⟨hP, hD⟩⟩, hS.F ht⟩) hS.2.2 dX0_init_33

