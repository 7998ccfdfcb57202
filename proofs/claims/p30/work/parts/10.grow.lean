theorem asg_of {C E : String} {s : State} (h : va_Nw (.castable C E) s) : ∀ comp c0 : ClassId, s.vm.findClass E = some comp → s.vm.findClass C = some c0 → s.vm.assignable c0 comp = true := by
  intro comp c0 h1 h2
  obtain ⟨c, t, g1, g2, g3⟩ := Cond.castable_spec (va_Nw.use (A := #[]) rfl h)
  rw [h1] at g2
  rw [h2] at g1
  cases g1
  cases g2
  exact g3
theorem va_gn {ws : va_W} {x : Nat × va_E} : (ws ++ [x])[ws.length]? = some x := by simp
theorem va_sn {ws : va_W} {x y : Nat × va_E} : (ws ++ [x]).set ws.length y = ws ++ [y] := by simp
theorem jmin_le {n z : Nat} (h : n ≤ z) (hz : z < 2 ^ 31) : jmin (nI n) (nI z) = nI n := by
  unfold jmin
  exact if_neg (nI_nlt h hz)
theorem arr_cls {G : va_G} {tys : List (ClassId × FieldType)} {ws : va_W} {H : Heap} {s : State} {cO : ClassId} {pe ae n : Nat} {a : Nat → Option Nat} (hK : va_K G vwCl tys s) (hP : va_P G vwCl ws H) (htO : tO tys cO) (he : ws[pe]? = some (ae, .inl (cO, n, .inr (.inr (.inr (.inr a)))))) : ∃ cell : Cell, H[ae]? = some cell ∧ cell.vm.isStatics = false ∧ s.vm.findClass "[Ljava/lang/Object;" = some cell.cls :=
  ⟨_, hP pe _ he, rfl, va_nmO (hK.2 1 _ htO).2 rfl⟩
set_option maxHeartbeats 4000000 in
set_option maxRecDepth 100000 in
theorem metJ7_copyOf_6403c (l : Launch) (G : va_G) (tys : List (ClassId × FieldType)) {A : Nat → Prop} {tE mi : Nat} (ws : va_W) {pe ae n : Nat} {a : Nat → Option Nat} {cO : ClassId} (htO : tO tys cO) (he : ws[pe]? = some (ae, .inl (cO, n, .inr (.inr (.inr (.inr a)))))) (z : Nat) (hnz : n ≤ z) (hz : z ≤ 200) {ci : Nat} {r : vw_C} (hc : vwCl[ci]? = some r) (hcw : Cond.castable r.1 "java/lang/Object" ∈ envW) (hel : ∀ i, i < n → ∀ y, a i = some y → ∃ (k : Nat) (vs : List Value), ws[k]? = some (y, .inr (ci, vs))) : Met l yJ7_copyOf_6403c wsJ7_copyOf_6403c ({ frames := 1, cells := 1, slots := 200, locals := 40 }) (pcX G tys ws A tE mi [.ref ae, .int (nI z), .ref mi]) (va_Qr (fun (_ : Unit) => True) (fun _ q t => va_P G vwCl (ws ++ ([(q, .inl (cO, z, .inr (.inr (.inr (.inr (va_cpy a (fun _ => none) 0 0 n))))))] : va_W)) t.heap ∧ va_D A (ws ++ ([(q, .inl (cO, z, .inr (.inr (.inr (.inr (va_cpy a (fun _ => none) 0 0 n))))))] : va_W))) A) 1 200 A := by
  refine ofXMF (cc := cJ7_copyOf_6403c) (maxL := 4) (ret := some (.array (.object "java/lang/Object"))) (by decide +kernel) rfl (Nat.le_of_ble_eq_true rfl) ?_
  intro p e s m below meth c ls hx hb hr hlocks hml hown hts hin hl hP hK hD hA hS hE
  have hown : s.vm.findClass RJ7 = some m.cls := hown
  have hl : lv_has ls 4 [(0, .ref ae), (1, .int (nI z)), (2, .ref mi)] := hl
  refine lv_aload_n hx hb dJ7_copyOf_6403c_0 rfl (lv_at hl 2 rfl) ?_
  refine va_ldcM hx hb hown (hts (.classLink RJ7 110 "[Ljava/lang/Object;") (List.mem_of_getElem? (i := 1) rfl)) hE.2.2.2.2.2.2.2.2.1 dJ7_copyOf_6403c_1 ?_
  refine lv_acmp_ne (rx := some mi) (ry := some mi) (tgt := 13) hx hb dJ7_copyOf_6403c_3 (by decide) (fun h => absurd rfl h) (fun _ => ?_)
  refine lv_iload_n hx hb dJ7_copyOf_6403c_6 rfl (lv_at hl 1 rfl) ?_
  refine va_newq hx hb hown (hts (.classLink RJ7 2 "java/lang/Object") (List.mem_of_getElem? (i := 2) rfl)) hE.2.2.2.2.2.2.2.1 hK (N' := z) hP hD hS hA (nI_pos (by omega)) (nI_clamp (by omega)) (hbytes := by omega) (Nat.le_of_ble_eq_true rfl) (by show 0 + z ≤ 200; omega) dJ7_copyOf_6403c_7 (fun q cA H hK2 hP hD hS => ?_)
  have hz2 : (tys ++ [(cA, FieldType.object "java/lang/Object")])[tys.length]? = some (cA, .object "java/lang/Object") := by simp
  have hcA : cA = cO := Option.some.inj ((va_nmO (nm := "[Ljava/lang/Object;") (hK2.2 tys.length _ hz2).2 rfl).symm.trans (va_nmO (nm := "[Ljava/lang/Object;") (hK.2 1 _ htO).2 rfl))
  subst hcA
  refine W.widen (k := 1) (n := 200) (by omega) (by omega) ?_
  have he := va_ga (w2 := [(q, .inl (cA, z, .inr (.inr (.inr (.inr (fun _ => none))))))]) he
  have hN : (ws ++ ([(q, .inl (cA, z, .inr (.inr (.inr (.inr (fun _ => none))))))] : va_W))[ws.length]? = some (q, .inl (cA, z, .inr (.inr (.inr (.inr (fun _ => none)))))) := va_gn
  have hP : va_P G vwCl (ws ++ ([(q, .inl (cA, z, .inr (.inr (.inr (.inr (fun _ => none))))))] : va_W)) H := hP
  have hD : va_D A (ws ++ ([(q, .inl (cA, z, .inr (.inr (.inr (.inr (fun _ => none))))))] : va_W)) := hD
  refine lv_goto (tgt := 24) hx hb dJ7_copyOf_6403c_10 (by decide) ?_
  refine lv_astore_n (lv' := [(3, .ref q), (0, .ref ae), (1, .int (nI z)), (2, .ref mi)]) hx hb dJ7_copyOf_6403c_24 rfl hl (by decide) rfl (fun ls hl => ?_)
  refine lv_aload_n hx hb dJ7_copyOf_6403c_25 rfl (lv_at hl 1 rfl) ?_
  refine lv_iconst (v := 0) hx hb dJ7_copyOf_6403c_26 (by decide) ?_
  refine lv_aload_n hx hb dJ7_copyOf_6403c_27 rfl (lv_at hl 0 rfl) ?_
  refine lv_iconst (v := 0) hx hb dJ7_copyOf_6403c_28 (by decide) ?_
  refine lv_aload_n hx hb dJ7_copyOf_6403c_29 rfl (lv_at hl 1 rfl) ?_
  refine va_alen hx hb hK hP pe 1 he htO (v := nI n) rfl dJ7_copyOf_6403c_30 ?_
  refine lv_iload_n hx hb dJ7_copyOf_6403c_31 rfl (lv_at hl 2 rfl) ?_
  refine va_mmin hx hb (hml.trans hl.1.symm) hown (hts (.methodLink RJ7 304 Lib.Math.min.name) (List.mem_of_getElem? (i := 3) rfl)) (hts (.static Lib.Math.min.name) (List.mem_of_getElem? (i := 4) rfl)) (hts (.initialized "java/lang/Math") (List.mem_of_getElem? (i := 5) rfl)) (hts (.code Lib.Math.min.name Lib.Math.min.code 2 (some .int)) (List.mem_of_getElem? (i := 6) rfl)) (Nat.le_of_ble_eq_true rfl) (Nat.le_of_ble_eq_true rfl) (Nat.le_of_ble_eq_true rfl) (Nat.le_of_ble_eq_true rfl) dJ7_copyOf_6403c_32 ?_
  refine fold_min ?_
  refine re_i (y := nI n) (jmin_le hnz (by omega)) ?_
  refine va_copyq (C := r.1) hx hb (hml.trans hl.1.symm) hown (hts (.methodLink RJ7 150 arraycopyName) (List.mem_of_getElem? (i := 7) rfl)) (hts (.native arraycopyName) (List.mem_of_getElem? (i := 8) rfl)) (hts (.static arraycopyName) (List.mem_of_getElem? (i := 9) rfl)) (hts (.initialized "java/lang/System") (List.mem_of_getElem? (i := 10) rfl)) hK hP hD hS pe ws.length 1 1 he hN htO htO (by decide) (by decide) (nI_pos (by omega)) (by rw [nI_clamp (by omega), sb_cl0]; omega) (by rw [nI_clamp (by omega), sb_cl0]; omega) ?_ (asg_of (hE.2.2.2.2.2.2.2.2.2.1 _ hcw)) (Nat.le_of_ble_eq_true rfl) (Nat.le_of_ble_eq_true rfl) dJ7_copyOf_6403c_35 (fun H locs hP hD hS => ?_)
  · intro i hi y hy
    rw [nI_clamp (by omega)] at hi
    rw [sb_cl0, Nat.zero_add] at hy
    obtain ⟨k, vs, hkv⟩ := hel i hi y hy
    exact va_recv hK hP hc (va_ga hkv)
  rw [nI_clamp (show n < 2 ^ 31 by omega), sb_cl0] at hP hD
  have hP : va_P G vwCl (ws ++ ([(q, .inl (cA, z, .inr (.inr (.inr (.inr (va_cpy a (fun _ => none) 0 0 n))))))] : va_W)) H := by rw [← va_sn]; exact hP
  have hD : va_D A (ws ++ ([(q, .inl (cA, z, .inr (.inr (.inr (.inr (va_cpy a (fun _ => none) 0 0 n))))))] : va_W)) := by rw [← va_sn]; exact hD
  refine lv_aload_n hx hb dJ7_copyOf_6403c_38 rfl (lv_at hl 0 rfl) ?_
  exact W.aret (v := .ref q) (rt := .array (.object "java/lang/Object")) hx hb hr (Or.inr ⟨_, rfl⟩) (Or.inr ⟨_, rfl⟩) (fun t ht hW => ⟨⟨(), q, rfl, trivial, by show va_P G vwCl _ t.heap ∧ va_D A _; rw [ht]; exact ⟨hP, hD⟩⟩, hS.F ht⟩) hS.2.2 dJ7_copyOf_6403c_39
set_option maxHeartbeats 4000000 in
set_option maxRecDepth 100000 in
theorem metJ7_copyOf_1904c (l : Launch) (G : va_G) (tys : List (ClassId × FieldType)) {A : Nat → Prop} {tE mi : Nat} (ws : va_W) {pe ae n : Nat} {a : Nat → Option Nat} {cO : ClassId} (htO : tO tys cO) (he : ws[pe]? = some (ae, .inl (cO, n, .inr (.inr (.inr (.inr a)))))) (z : Nat) (hnz : n ≤ z) (hz : z ≤ 200) {ci : Nat} {r : vw_C} (hc : vwCl[ci]? = some r) (hcw : Cond.castable r.1 "java/lang/Object" ∈ envW) (hel : ∀ i, i < n → ∀ y, a i = some y → ∃ (k : Nat) (vs : List Value), ws[k]? = some (y, .inr (ci, vs))) : Met l yJ7_copyOf_1904c wsJ7_copyOf_1904c ({ frames := 2, cells := 1, slots := 200, locals := 63 }) (pcX G tys ws A tE mi [.ref ae, .int (nI z)]) (va_Qr (fun (_ : Unit) => True) (fun _ q t => va_P G vwCl (ws ++ ([(q, .inl (cO, z, .inr (.inr (.inr (.inr (va_cpy a (fun _ => none) 0 0 n))))))] : va_W)) t.heap ∧ va_D A (ws ++ ([(q, .inl (cO, z, .inr (.inr (.inr (.inr (va_cpy a (fun _ => none) 0 0 n))))))] : va_W))) A) 1 200 A := by
  refine ofXMF (cc := cJ7_copyOf_1904c) (maxL := 2) (ret := some (.array (.object "java/lang/Object"))) (by decide +kernel) rfl (Nat.le_of_ble_eq_true rfl) ?_
  intro p e s m below meth c ls hx hb hr hlocks hml hown hts hin hl hP hK hD hA hS hE
  have hown : s.vm.findClass RJ7 = some m.cls := hown
  have hl : lv_has ls 2 [(0, .ref ae), (1, .int (nI z))] := hl
  refine lv_aload_n hx hb dJ7_copyOf_1904c_0 rfl (lv_at hl 0 rfl) ?_
  refine lv_iload_n hx hb dJ7_copyOf_1904c_1 rfl (lv_at hl 1 rfl) ?_
  refine lv_aload_n hx hb dJ7_copyOf_1904c_2 rfl (lv_at hl 0 rfl) ?_
  refine va_getC hx hb (hml.trans hl.1.symm) hown (hts (.methodLink RJ7 86 ⟨"java/lang/Object", "getClass", "()Ljava/lang/Class;"⟩) (List.mem_of_getElem? (i := 1) rfl)) ((hE.2.2.2.2.2.2.2.2.2.1 _ (List.mem_of_getElem? (i := 12) rfl)).use rfl) (hts (.selects "[Ljava/lang/Object;" ⟨"java/lang/Object", "getClass", "()Ljava/lang/Class;"⟩ ⟨"java/lang/Object", "getClass", "()Ljava/lang/Class;"⟩) (List.mem_of_getElem? (i := 2) rfl)) (hts (.instanceMethod ⟨"java/lang/Object", "getClass", "()Ljava/lang/Class;"⟩) (List.mem_of_getElem? (i := 3) rfl)) (hts (.native ⟨"java/lang/Object", "getClass", "()Ljava/lang/Class;"⟩) (List.mem_of_getElem? (i := 4) rfl)) hE.2.2.2.2.2.2.2.2.1 (arr_cls hK hP htO he) (Nat.le_of_ble_eq_true rfl) (Nat.le_of_ble_eq_true rfl) dJ7_copyOf_1904c_3 ?_
  refine va_callr (va_runS (As := [.ref ae, .int (nI z), .ref mi]) (rest := []) ⟨hx, hb, hml, hown, hts⟩ (metJ7_copyOf_6403c l G tys _ htO he z hnz hz hc hcw hel) (va_cwS 3 hts gJ7_copyOf_1904c_J7_copyOf_6403c rfl rfl rfl (by decide +kernel) ⟨Nat.le_of_ble_eq_true rfl, Nat.le_of_ble_eq_true rfl⟩) ⟨pcX_b, pcX_u hP hK hD hS hA hE⟩ rfl rfl hl.1 rfl (lv_room (Nat.le_of_ble_eq_true rfl)) dJ7_copyOf_1904c_6 ⟨Nat.le_of_ble_eq_true rfl, Nat.le_of_ble_eq_true rfl⟩) hS (fun q _ h => h) (fun q h => h) (fun u q t H locs ht hvm hu hB hsz hk1 hS => ?_)
  rw [ht] at hB
  obtain ⟨hP, hD⟩ := hB
  exact W.aret (v := .ref q) (rt := .array (.object "java/lang/Object")) hx hb hr (Or.inr ⟨_, rfl⟩) (Or.inr ⟨_, rfl⟩) (fun t ht hW => ⟨⟨(), q, rfl, trivial, by show va_P G vwCl _ t.heap ∧ va_D A _; rw [ht]; exact ⟨hP, hD⟩⟩, hS.F ht⟩) hS.2.2 dJ7_copyOf_1904c_9

