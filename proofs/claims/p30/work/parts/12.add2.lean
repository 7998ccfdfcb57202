theorem ne_lr {ws : va_W} {i j a b : Nat} {x : ClassId × vp_A} {y : Nat × List Value} (h1 : ws[i]? = some (a, .inl x)) (h2 : ws[j]? = some (b, .inr y)) : i ≠ j := fun h => by subst h; rw [h1] at h2; cases h2
theorem ne_oo {ws : va_W} {i j a b c1 c2 : Nat} {x y : List Value} (h1 : ws[i]? = some (a, .inr (c1, x))) (h2 : ws[j]? = some (b, .inr (c2, y))) (h : c1 ≠ c2) : i ≠ j := fun e => by subst e; rw [h1] at h2; cases h2; exact h rfl
theorem pl_lt {ws : va_W} {i : Nat} {x : Nat × va_E} (h : ws[i]? = some x) : i < ws.length := (List.getElem?_eq_some_iff.mp h).1
/-- a list: c elements, at addresses el; its row at place pe, where it has one -/
def lsL (ws : va_W) (tE : Nat) (cO : ClassId) (pl al c : Nat) (el : Nat → Nat) (pe : Nat) : Prop :=
  ∃ mo : Int32, (c = 0 ∧ ws[pl]? = some (al, .inr (0, [.int mo, .ref tE, .int 0]))) ∨ (0 < c ∧ ∃ (ae n : Nat) (a : Nat → Option Nat), ws[pl]? = some (al, .inr (0, [.int mo, .ref ae, .int (nI c)])) ∧ ws[pe]? = some (ae, .inl (cO, n, .inr (.inr (.inr (.inr a))))) ∧ c ≤ n ∧ 10 ≤ n ∧ n ≤ 100 ∧ (∀ i, i < c → a i = some (el i)) ∧ ∀ i, c ≤ i → a i = none)
/-- behind an add -/
def lsA (ws : va_W) (tE : Nat) (cO : ClassId) (pl al c : Nat) (el : Nat → Nat) (pe v : Nat) (w2 : va_W) : Prop :=
  ∃ pe2, lsL w2 tE cO pl al (c + 1) (va_up el c v) pe2 ∧ ((pe2 = pe ∧ 0 < c) ∨ pe2 = ws.length) ∧ ∀ (j : Nat) (x : Nat × va_E), j ≠ pl → (0 < c → j ≠ pe) → ws[j]? = some x → w2[j]? = some x
theorem lsA_room {ws : va_W} {tE : Nat} {cO : ClassId} {pl al c pe ae n v : Nat} {el : Nat → Nat} {mo mo0 : Int32} {a : Nat → Option Nat} {e0 : Nat × va_E} (h0 : 0 < c) (hL : ws[pl]? = some (al, .inr (0, [.int mo0, .ref ae, .int (nI c)]))) (he : ws[pe]? = some (ae, .inl (cO, n, .inr (.inr (.inr (.inr a)))))) (hcn : c < n) (h10 : 10 ≤ n) (h100 : n ≤ 100) (ha : ∀ i, i < c → a i = some (el i)) (hn : ∀ i, c ≤ i → a i = none) :
    lsA ws tE cO pl al c el pe v (((ws.set pl e0).set pe (ae, .inl (cO, n, .inr (.inr (.inr (.inr (va_up a c (some v)))))))).set pl (al, .inr (0, [.int mo, .ref ae, .int (nI (c + 1))]))) := by
  have hne : pe ≠ pl := ne_lr he hL
  refine ⟨pe, ⟨mo, Or.inr ⟨by omega, ae, n, va_up a c (some v), va_ge (va_gs hne.symm (va_ge hL)), va_gs hne (va_ge (va_gs hne he)), by omega, h10, h100, fun i hi => ?_, fun i hi => ?_⟩⟩, Or.inl ⟨rfl, h0⟩, fun j x h1 h2 h3 => va_gs h1 (va_gs (h2 h0) (va_gs h1 h3))⟩
  · unfold va_up
    by_cases q : i = c
    · rw [if_pos q, if_pos q]
    · rw [if_neg q, if_neg q]; exact ha i (by omega)
  · rw [va_up_ne _ _ (by omega)]
    exact hn i (by omega)
theorem lsA_new {ws : va_W} {tE : Nat} {cO : ClassId} {pl al c pe q n v : Nat} {el : Nat → Nat} {mo : Int32} {a : Nat → Option Nat} {e0 e1 e2 : Nat × va_E} {x0 : Nat × va_E} (hL : ws[pl]? = some x0) (hcn : c < n) (h10 : 10 ≤ n) (h100 : n ≤ 100) (ha : ∀ i, i < c → a i = some (el i)) (hn : ∀ i, c ≤ i → a i = none) :
    lsA ws tE cO pl al c el pe v (((((ws.set pl e0) ++ ([e1] : va_W)).set pl e2).set (ws.set pl e0).length (q, .inl (cO, n, .inr (.inr (.inr (.inr (va_up a c (some v)))))))).set pl (al, .inr (0, [.int mo, .ref q, .int (nI (c + 1))]))) := by
  have hlt := pl_lt hL
  have hl2 : (ws.set pl e0).length = ws.length := List.length_set
  have hne : ws.length ≠ pl := by omega
  have hp : ((ws.set pl e0) ++ ([e1] : va_W))[pl]? = some e0 := va_ga (va_ge hL)
  have hN : (ws.set pl e0 ++ ([e1] : va_W))[(ws.set pl e0).length]? = some e1 := va_gn
  refine ⟨ws.length, ⟨mo, Or.inr ⟨by omega, q, n, va_up a c (some v), va_ge (va_gs (by omega) (va_ge hp)), ?_, by omega, h10, h100, fun i hi => ?_, fun i hi => ?_⟩⟩, Or.inr rfl, fun j x h1 h2 h3 => ?_⟩
  · rw [← hl2]
    exact va_gs (by omega) (va_ge (va_gs (by omega) hN))
  · unfold va_up
    by_cases q : i = c
    · rw [if_pos q, if_pos q]
    · rw [if_neg q, if_neg q]; exact ha i (by omega)
  · rw [va_up_ne _ _ (by omega)]
    exact hn i (by omega)
  · have hj := pl_lt h3
    exact va_gs h1 (va_gs (by omega) (va_gs h1 (va_ga (va_gs h1 h3))))
set_option maxHeartbeats 4000000 in
set_option maxRecDepth 100000 in
theorem metJx4a65c_add_72be8_R (l : Launch) (G : va_G) (tys : List (ClassId × FieldType)) {A : Nat → Prop} {tE mi : Nat} (ws : va_W) {pl al pe ae n : Nat} {mo : Int32} {a : Nat → Option Nat} {cO : ClassId} {cn : Nat} (htO : tO tys cO) (hL : ws[pl]? = some (al, .inr (0, [.int mo, .ref ae, .int (nI cn)]))) (he : ws[pe]? = some (ae, .inl (cO, n, .inr (.inr (.inr (.inr a)))))) (hcn : cn < n) (h100 : n ≤ 100) {ci : Nat} {r : vw_C} (hc : vwCl[ci]? = some r) (hcw : Cond.castable r.1 "java/lang/Object" ∈ envW) {qk v : Nat} {vs : List Value} (hv : ws[qk]? = some (v, .inr (ci, vs))) (hci : ci ≠ 0) : Met l yJx4a65c_add_72be8 wsJx4a65c_add_72be8 ({ frames := 6, cells := 1, slots := 200, locals := 174 }) (pcX G tys ws A tE mi [.ref al, .ref v, .ref ae, .int (nI cn)]) (va_Qv (fun (_ : Unit) => True) (fun _ t => va_P G vwCl ((ws.set pe (ae, .inl (cO, n, .inr (.inr (.inr (.inr (va_up a cn (some v)))))))).set pl (al, .inr (0, [.int mo, .ref ae, .int (nI (cn + 1))]))) t.heap ∧ va_D A ((ws.set pe (ae, .inl (cO, n, .inr (.inr (.inr (.inr (va_up a cn (some v)))))))).set pl (al, .inr (0, [.int mo, .ref ae, .int (nI (cn + 1))])))) A) 1 200 A := by
  refine ofXMF (cc := cJx4a65c_add_72be8) (maxL := 4) (ret := none) (by decide +kernel) rfl (Nat.le_of_ble_eq_true rfl) ?_
  intro p e s m below meth c ls hx hb hr hlocks hml hown hts hin hl hP hK hD hA hS hE
  have hown : s.vm.findClass RJx4a65c = some m.cls := hown
  have hiJx4a65c : ∀ w ∈ u_ws RJx4a65c TJx4a65c 3, w ∈ wsJx4a65c_add_72be8 := fun _ h => List.mem_cons_of_mem _ (List.mem_append_right _ h)
  have hl : lv_has ls 4 [(0, .ref al), (1, .ref v), (2, .ref ae), (3, .int (nI cn))] := hl
  have hL0 := hL
  have hv0 := hv
  have he0 := he
  refine lv_iload_n hx hb dJx4a65c_add_72be8_0 rfl (lv_at hl 3 rfl) ?_
  refine lv_aload_n hx hb dJx4a65c_add_72be8_1 rfl (lv_at hl 2 rfl) ?_
  refine va_alen hx hb hK hP pe 1 he htO (v := nI n) rfl dJx4a65c_add_72be8_2 ?_
  refine lv_icmp_ne (tgt := 11) hx hb dJx4a65c_add_72be8_3 (by decide) (fun c3 => ?_) (fun c3 => absurd c3 (fun h => Nat.ne_of_lt hcn ((nI_eq (by omega) (by omega)).mp h)))
  refine lv_aload_n hx hb dJx4a65c_add_72be8_11 rfl (lv_at hl 2 rfl) ?_
  refine lv_iload_n hx hb dJx4a65c_add_72be8_12 rfl (lv_at hl 3 rfl) ?_
  refine lv_aload_n hx hb dJx4a65c_add_72be8_13 rfl (lv_at hl 1 rfl) ?_
  refine va_astqO hx hb hK hP hD hS pe 1 qk ci he htO (hE.2.2.2.2.2.2.2.2.2.1 _ hcw) hv hc (vp_in_nI hcn (by omega)) dJx4a65c_add_72be8_14 (fun H locs hP hD hS => ?_)
  rw [nI_clamp (show cn < 2 ^ 31 by omega)] at hP hD
  have hL := va_gs (k := pe) (e := (ae, .inl (cO, n, .inr (.inr (.inr (.inr (va_up a cn (some v)))))))) ((ne_lr he0 hL0).symm) hL
  have hv := va_gs (k := pe) (e := (ae, .inl (cO, n, .inr (.inr (.inr (.inr (va_up a cn (some v)))))))) ((ne_lr he0 hv0).symm) hv
  have he := va_ge (e := (ae, .inl (cO, n, .inr (.inr (.inr (.inr (va_up a cn (some v)))))))) he
  refine lv_aload_n hx hb dJx4a65c_add_72be8_15 rfl (lv_at hl 0 rfl) ?_
  refine lv_iload_n hx hb dJx4a65c_add_72be8_16 rfl (lv_at hl 3 rfl) ?_
  refine lv_iconst (v := 1) hx hb dJx4a65c_add_72be8_17 (by decide) ?_
  refine lv_iadd hx hb dJx4a65c_add_72be8_18 ?_
  refine re_i (y := nI (cn + 1)) (nI_1 cn) ?_
  refine va_put (D := G) (ci := 0) (v := .int (nI (cn + 1))) (ty := .int) (C := RJx4a65c) (T := TJx4a65c) (N := 3) hx hb hts hiJx4a65c tyJx4a65c tyJx4a65c_ok nmJx4a65c hown hK hP hD hS pl hL rfl 2 (by decide) (hts (.fieldLink RJx4a65c 48 "java/util/ArrayList" "size" "I") (List.mem_of_getElem? (i := 1) rfl)) (fun _ h9 => h9) rfl (by decide +kernel) (rfl) (rfl) (Nat.le_of_ble_eq_true rfl) dJx4a65c_add_72be8_19 (fun H locs hP hD hS => ?_)
  have he := va_gs (k := pl) (e := (al, .inr (0, [.int mo, .ref ae, .int (nI (cn + 1))]))) (ne_lr he0 hL0) he
  have hv := va_gs (k := pl) (e := (al, .inr (0, [.int mo, .ref ae, .int (nI (cn + 1))]))) (ne_oo hv0 hL0 hci) hv
  have hL := va_ge (e := (al, .inr (0, [.int mo, .ref ae, .int (nI (cn + 1))]))) hL
  refine W.widen (k := 1) (n := 200) (by omega) (by omega) ?_
  exact W.vret hx hb hr (fun t ht hW => ⟨⟨(), rfl, trivial, by show va_P G vwCl _ t.heap ∧ va_D A _; rw [ht]; exact ⟨hP, hD⟩⟩, hS.F ht⟩) hS.2.2 dJx4a65c_add_72be8_22
set_option maxHeartbeats 4000000 in
set_option maxRecDepth 100000 in
theorem metJx4a65c_add_72be8_N (l : Launch) (G : va_G) (tys : List (ClassId × FieldType)) {A : Nat → Prop} {tE mi : Nat} (ws : va_W) {pl al pe ae n : Nat} {mo : Int32} {a : Nat → Option Nat} {cO : ClassId} (htO : tO tys cO) (hL : ws[pl]? = some (al, .inr (0, [.int mo, .ref ae, .int (nI n)]))) (he : ws[pe]? = some (ae, .inl (cO, n, .inr (.inr (.inr (.inr a)))))) (h10 : 10 ≤ n) (h100 : n ≤ 100) {ci : Nat} {r : vw_C} (hc : vwCl[ci]? = some r) (hcw : Cond.castable r.1 "java/lang/Object" ∈ envW) (hel : ∀ i, i < n → ∀ y, a i = some y → ∃ (k : Nat) (vs : List Value), ws[k]? = some (y, .inr (ci, vs))) {qk v : Nat} {vs : List Value} (hv : ws[qk]? = some (v, .inr (ci, vs))) (hci : ci ≠ 0) : Met l yJx4a65c_add_72be8 wsJx4a65c_add_72be8 ({ frames := 6, cells := 1, slots := 200, locals := 174 }) (pcX G tys ws A tE mi [.ref al, .ref v, .ref ae, .int (nI n)]) (va_Qv (fun (_ : Nat) => True) (fun q t => va_P G vwCl ((((ws ++ ([(q, .inl (cO, n + n / 2, .inr (.inr (.inr (.inr (va_cpy a (fun _ => none) 0 0 n))))))] : va_W)).set pl (al, .inr (0, [.int mo, .ref q, .int (nI n)]))).set ws.length (q, .inl (cO, n + n / 2, .inr (.inr (.inr (.inr (va_up (va_cpy a (fun _ => none) 0 0 n) n (some v)))))))).set pl (al, .inr (0, [.int mo, .ref q, .int (nI (n + 1))]))) t.heap ∧ va_D A ((((ws ++ ([(q, .inl (cO, n + n / 2, .inr (.inr (.inr (.inr (va_cpy a (fun _ => none) 0 0 n))))))] : va_W)).set pl (al, .inr (0, [.int mo, .ref q, .int (nI n)]))).set ws.length (q, .inl (cO, n + n / 2, .inr (.inr (.inr (.inr (va_up (va_cpy a (fun _ => none) 0 0 n) n (some v)))))))).set pl (al, .inr (0, [.int mo, .ref q, .int (nI (n + 1))])))) A) 1 200 A := by
  refine ofXMF (cc := cJx4a65c_add_72be8) (maxL := 4) (ret := none) (by decide +kernel) rfl (Nat.le_of_ble_eq_true rfl) ?_
  intro p e s m below meth c ls hx hb hr hlocks hml hown hts hin hl hP hK hD hA hS hE
  have hown : s.vm.findClass RJx4a65c = some m.cls := hown
  have hiJx4a65c : ∀ w ∈ u_ws RJx4a65c TJx4a65c 3, w ∈ wsJx4a65c_add_72be8 := fun _ h => List.mem_cons_of_mem _ (List.mem_append_right _ h)
  have hl : lv_has ls 4 [(0, .ref al), (1, .ref v), (2, .ref ae), (3, .int (nI n))] := hl
  have hL0 := hL
  have hv0 := hv
  have he0 := he
  have nvl : qk ≠ pl := ne_oo hv hL hci
  refine lv_iload_n hx hb dJx4a65c_add_72be8_0 rfl (lv_at hl 3 rfl) ?_
  refine lv_aload_n hx hb dJx4a65c_add_72be8_1 rfl (lv_at hl 2 rfl) ?_
  refine va_alen hx hb hK hP pe 1 he htO (v := nI n) rfl dJx4a65c_add_72be8_2 ?_
  refine lv_icmp_ne (tgt := 11) hx hb dJx4a65c_add_72be8_3 (by decide) (fun c3 => absurd (rfl) c3) (fun c3 => ?_)
  refine lv_aload_n hx hb dJx4a65c_add_72be8_6 rfl (lv_at hl 0 rfl) ?_
  refine va_callr (va_runV (As := []) (rest := []) ⟨hx, hb, hml, hown, hts⟩ (metJx4a65c_grow_d5877_N l G tys _ htO hL he h10 h100 hc hcw hel) (cwV 0 hts gJx4a65c_add_72be8_Jx4a65c_grow_d5877 rfl rfl rfl (by decide +kernel) ⟨Nat.le_of_ble_eq_true rfl, Nat.le_of_ble_eq_true rfl⟩) ⟨pcX_b, va_recv hK hP (ci := 0) (q0 := pl) rfl hL, pcX_u hP hK hD hS hA hE⟩ rfl rfl hl.1 rfl (lv_room (Nat.le_of_ble_eq_true rfl)) dJx4a65c_add_72be8_7 ⟨Nat.le_of_ble_eq_true rfl, Nat.le_of_ble_eq_true rfl⟩) hS (fun q _ h => h) (fun q h => h) (fun u q t H locs ht hvm hu hB hsz hk1 hS => ?_)
  rw [ht] at hB
  obtain ⟨hP, hD⟩ := hB
  have hne : (ws).length ≠ pl := Nat.ne_of_gt (List.getElem?_eq_some_iff.mp hL).1
  have hN : (((ws) ++ ([(q, .inl (cO, n + n / 2, .inr (.inr (.inr (.inr (va_cpy a (fun _ => none) 0 0 n))))))] : va_W)).set pl (al, .inr (0, [.int mo, .ref q, .int (nI n)])))[(ws).length]? = some (q, .inl (cO, n + n / 2, .inr (.inr (.inr (.inr (va_cpy a (fun _ => none) 0 0 n)))))) := va_gs hne va_gn
  have hL := va_ge (e := (al, .inr (0, [.int mo, .ref q, .int (nI n)]))) (va_ga (w2 := [(q, .inl (cO, n + n / 2, .inr (.inr (.inr (.inr (va_cpy a (fun _ => none) 0 0 n))))))]) hL)
  have hv := va_gs (k := pl) (e := (al, .inr (0, [.int mo, .ref q, .int (nI n)]))) nvl (va_ga (w2 := [(q, .inl (cO, n + n / 2, .inr (.inr (.inr (.inr (va_cpy a (fun _ => none) 0 0 n))))))]) hv)
  have hP : va_P G vwCl (((ws) ++ ([(q, .inl (cO, n + n / 2, .inr (.inr (.inr (.inr (va_cpy a (fun _ => none) 0 0 n))))))] : va_W)).set pl (al, .inr (0, [.int mo, .ref q, .int (nI n)]))) H := hP
  have hD : va_D A (((ws) ++ ([(q, .inl (cO, n + n / 2, .inr (.inr (.inr (.inr (va_cpy a (fun _ => none) 0 0 n))))))] : va_W)).set pl (al, .inr (0, [.int mo, .ref q, .int (nI n)]))) := hD
  refine lv_astore_n (lv' := [(2, .ref q), (0, .ref al), (1, .ref v), (3, .int (nI n))]) hx hb dJx4a65c_add_72be8_10 rfl hl (by decide) rfl (fun ls hl => ?_)
  refine lv_aload_n hx hb dJx4a65c_add_72be8_11 rfl (lv_at hl 0 rfl) ?_
  refine lv_iload_n hx hb dJx4a65c_add_72be8_12 rfl (lv_at hl 3 rfl) ?_
  refine lv_aload_n hx hb dJx4a65c_add_72be8_13 rfl (lv_at hl 2 rfl) ?_
  refine va_astqO hx hb hK hP hD hS ((ws).length) 1 qk ci hN htO (hE.2.2.2.2.2.2.2.2.2.1 _ hcw) hv hc (vp_in_nI (by omega) (by omega)) dJx4a65c_add_72be8_14 (fun H locs hP hD hS => ?_)
  rw [nI_clamp (show n < 2 ^ 31 by omega)] at hP hD
  have hL := va_gs (k := ((ws).length)) (e := (q, .inl (cO, n + n / 2, .inr (.inr (.inr (.inr (va_up (va_cpy a (fun _ => none) 0 0 n) n (some v)))))))) (Nat.ne_of_lt (pl_lt hL0)) hL
  have hv := va_gs (k := ((ws).length)) (e := (q, .inl (cO, n + n / 2, .inr (.inr (.inr (.inr (va_up (va_cpy a (fun _ => none) 0 0 n) n (some v)))))))) (Nat.ne_of_lt (pl_lt hv0)) hv
  have hN := va_ge (e := (q, .inl (cO, n + n / 2, .inr (.inr (.inr (.inr (va_up (va_cpy a (fun _ => none) 0 0 n) n (some v)))))))) hN
  refine lv_aload_n hx hb dJx4a65c_add_72be8_15 rfl (lv_at hl 1 rfl) ?_
  refine lv_iload_n hx hb dJx4a65c_add_72be8_16 rfl (lv_at hl 3 rfl) ?_
  refine lv_iconst (v := 1) hx hb dJx4a65c_add_72be8_17 (by decide) ?_
  refine lv_iadd hx hb dJx4a65c_add_72be8_18 ?_
  refine re_i (y := nI (n + 1)) (nI_1 n) ?_
  refine va_put (D := G) (ci := 0) (v := .int (nI (n + 1))) (ty := .int) (C := RJx4a65c) (T := TJx4a65c) (N := 3) hx hb hts hiJx4a65c tyJx4a65c tyJx4a65c_ok nmJx4a65c hown hK hP hD hS pl hL rfl 2 (by decide) (hts (.fieldLink RJx4a65c 48 "java/util/ArrayList" "size" "I") (List.mem_of_getElem? (i := 1) rfl)) (fun _ h9 => h9) rfl (by decide +kernel) (rfl) (rfl) (Nat.le_of_ble_eq_true rfl) dJx4a65c_add_72be8_19 (fun H locs hP hD hS => ?_)
  have hv := va_gs (k := pl) (e := (al, .inr (0, [.int mo, .ref q, .int (nI (n + 1))]))) (ne_oo hv0 hL0 hci) hv
  have hN := va_gs (k := pl) (e := (al, .inr (0, [.int mo, .ref q, .int (nI (n + 1))]))) (Nat.ne_of_gt (pl_lt hL0)) hN
  have hL := va_ge (e := (al, .inr (0, [.int mo, .ref q, .int (nI (n + 1))]))) hL
  exact W.vret hx hb hr (fun t ht hW => ⟨⟨q, rfl, trivial, by show va_P G vwCl _ t.heap ∧ va_D A _; rw [ht]; exact ⟨hP, hD⟩⟩, hS.F ht⟩) hS.2.2 dJx4a65c_add_72be8_22
set_option maxHeartbeats 4000000 in
set_option maxRecDepth 100000 in
theorem metJx4a65c_add_72be8_0 (l : Launch) (G : va_G) (tys : List (ClassId × FieldType)) {A : Nat → Prop} {tE mi : Nat} (ws : va_W) {pl al : Nat} {mo : Int32} {cO : ClassId} (htO : tO tys cO) (hL : ws[pl]? = some (al, .inr (0, [.int mo, .ref tE, .int 0]))) {ci : Nat} {r : vw_C} (hc : vwCl[ci]? = some r) (hcw : Cond.castable r.1 "java/lang/Object" ∈ envW) {qk v : Nat} {vs : List Value} (hv : ws[qk]? = some (v, .inr (ci, vs))) (hci : ci ≠ 0) : Met l yJx4a65c_add_72be8 wsJx4a65c_add_72be8 ({ frames := 6, cells := 1, slots := 200, locals := 174 }) (pcX G tys ws A tE mi [.ref al, .ref v, .ref tE, .int (0 : Int32)]) (va_Qv (fun (_ : Nat) => True) (fun q t => va_P G vwCl ((((ws ++ ([(q, .inl (cO, 10, .inr (.inr (.inr (.inr (fun _ => none))))))] : va_W)).set pl (al, .inr (0, [.int mo, .ref q, .int 0]))).set ws.length (q, .inl (cO, 10, .inr (.inr (.inr (.inr (va_up (fun _ => none) 0 (some v)))))))).set pl (al, .inr (0, [.int mo, .ref q, .int (nI (0 + 1))]))) t.heap ∧ va_D A ((((ws ++ ([(q, .inl (cO, 10, .inr (.inr (.inr (.inr (fun _ => none))))))] : va_W)).set pl (al, .inr (0, [.int mo, .ref q, .int 0]))).set ws.length (q, .inl (cO, 10, .inr (.inr (.inr (.inr (va_up (fun _ => none) 0 (some v)))))))).set pl (al, .inr (0, [.int mo, .ref q, .int (nI (0 + 1))])))) A) 1 200 A := by
  refine ofXMF (cc := cJx4a65c_add_72be8) (maxL := 4) (ret := none) (by decide +kernel) rfl (Nat.le_of_ble_eq_true rfl) ?_
  intro p e s m below meth c ls hx hb hr hlocks hml hown hts hin hl hP hK hD hA hS hE
  have hown : s.vm.findClass RJx4a65c = some m.cls := hown
  have hiJx4a65c : ∀ w ∈ u_ws RJx4a65c TJx4a65c 3, w ∈ wsJx4a65c_add_72be8 := fun _ h => List.mem_cons_of_mem _ (List.mem_append_right _ h)
  have hl : lv_has ls 4 [(0, .ref al), (1, .ref v), (2, .ref tE), (3, .int (0 : Int32))] := hl
  have hL0 := hL
  have hv0 := hv
  have nvl : qk ≠ pl := ne_oo hv hL hci
  refine lv_iload_n hx hb dJx4a65c_add_72be8_0 rfl (lv_at hl 3 rfl) ?_
  refine lv_aload_n hx hb dJx4a65c_add_72be8_1 rfl (lv_at hl 2 rfl) ?_
  refine va_tlen hx hb hE.2.2.2.2.2.2.1 hS (v := 0) rfl dJx4a65c_add_72be8_2 ?_
  refine lv_icmp_ne (tgt := 11) hx hb dJx4a65c_add_72be8_3 (by decide) (fun c3 => absurd (by decide) c3) (fun c3 => ?_)
  refine lv_aload_n hx hb dJx4a65c_add_72be8_6 rfl (lv_at hl 0 rfl) ?_
  refine va_callr (va_runV (As := []) (rest := []) ⟨hx, hb, hml, hown, hts⟩ (metJx4a65c_grow_d5877_0 l G tys _ htO hL) (cwV 0 hts gJx4a65c_add_72be8_Jx4a65c_grow_d5877 rfl rfl rfl (by decide +kernel) ⟨Nat.le_of_ble_eq_true rfl, Nat.le_of_ble_eq_true rfl⟩) ⟨pcX_b, va_recv hK hP (ci := 0) (q0 := pl) rfl hL, pcX_u hP hK hD hS hA hE⟩ rfl rfl hl.1 rfl (lv_room (Nat.le_of_ble_eq_true rfl)) dJx4a65c_add_72be8_7 ⟨Nat.le_of_ble_eq_true rfl, Nat.le_of_ble_eq_true rfl⟩) hS (fun q _ h => h) (fun q h => h) (fun u q t H locs ht hvm hu hB hsz hk1 hS => ?_)
  rw [ht] at hB
  obtain ⟨hP, hD⟩ := hB
  have hne : (ws).length ≠ pl := Nat.ne_of_gt (List.getElem?_eq_some_iff.mp hL).1
  have hN : (((ws) ++ ([(q, .inl (cO, 10, .inr (.inr (.inr (.inr (fun _ => none))))))] : va_W)).set pl (al, .inr (0, [.int mo, .ref q, .int (0 : Int32)])))[(ws).length]? = some (q, .inl (cO, 10, .inr (.inr (.inr (.inr (fun _ => none)))))) := va_gs hne va_gn
  have hL := va_ge (e := (al, .inr (0, [.int mo, .ref q, .int (0 : Int32)]))) (va_ga (w2 := [(q, .inl (cO, 10, .inr (.inr (.inr (.inr (fun _ => none))))))]) hL)
  have hv := va_gs (k := pl) (e := (al, .inr (0, [.int mo, .ref q, .int (0 : Int32)]))) nvl (va_ga (w2 := [(q, .inl (cO, 10, .inr (.inr (.inr (.inr (fun _ => none))))))]) hv)
  have hP : va_P G vwCl (((ws) ++ ([(q, .inl (cO, 10, .inr (.inr (.inr (.inr (fun _ => none))))))] : va_W)).set pl (al, .inr (0, [.int mo, .ref q, .int (0 : Int32)]))) H := hP
  have hD : va_D A (((ws) ++ ([(q, .inl (cO, 10, .inr (.inr (.inr (.inr (fun _ => none))))))] : va_W)).set pl (al, .inr (0, [.int mo, .ref q, .int (0 : Int32)]))) := hD
  refine lv_astore_n (lv' := [(2, .ref q), (0, .ref al), (1, .ref v), (3, .int (0 : Int32))]) hx hb dJx4a65c_add_72be8_10 rfl hl (by decide) rfl (fun ls hl => ?_)
  refine lv_aload_n hx hb dJx4a65c_add_72be8_11 rfl (lv_at hl 0 rfl) ?_
  refine lv_iload_n hx hb dJx4a65c_add_72be8_12 rfl (lv_at hl 3 rfl) ?_
  refine lv_aload_n hx hb dJx4a65c_add_72be8_13 rfl (lv_at hl 2 rfl) ?_
  refine va_astqO hx hb hK hP hD hS ((ws).length) 1 qk ci hN htO (hE.2.2.2.2.2.2.2.2.2.1 _ hcw) hv hc (vp_in_nI (n := 0) (by omega) (by omega)) dJx4a65c_add_72be8_14 (fun H locs hP hD hS => ?_)
  rw [sb_cl0] at hP hD
  have hL := va_gs (k := ((ws).length)) (e := (q, .inl (cO, 10, .inr (.inr (.inr (.inr (va_up (fun _ => none) 0 (some v)))))))) (Nat.ne_of_lt (pl_lt hL0)) hL
  have hv := va_gs (k := ((ws).length)) (e := (q, .inl (cO, 10, .inr (.inr (.inr (.inr (va_up (fun _ => none) 0 (some v)))))))) (Nat.ne_of_lt (pl_lt hv0)) hv
  have hN := va_ge (e := (q, .inl (cO, 10, .inr (.inr (.inr (.inr (va_up (fun _ => none) 0 (some v)))))))) hN
  refine lv_aload_n hx hb dJx4a65c_add_72be8_15 rfl (lv_at hl 1 rfl) ?_
  refine lv_iload_n hx hb dJx4a65c_add_72be8_16 rfl (lv_at hl 3 rfl) ?_
  refine lv_iconst (v := 1) hx hb dJx4a65c_add_72be8_17 (by decide) ?_
  refine lv_iadd hx hb dJx4a65c_add_72be8_18 ?_
  refine re_i (y := nI (0 + 1)) (by decide) ?_
  refine va_put (D := G) (ci := 0) (v := .int (nI (0 + 1))) (ty := .int) (C := RJx4a65c) (T := TJx4a65c) (N := 3) hx hb hts hiJx4a65c tyJx4a65c tyJx4a65c_ok nmJx4a65c hown hK hP hD hS pl hL rfl 2 (by decide) (hts (.fieldLink RJx4a65c 48 "java/util/ArrayList" "size" "I") (List.mem_of_getElem? (i := 1) rfl)) (fun _ h9 => h9) rfl (by decide +kernel) (rfl) (rfl) (Nat.le_of_ble_eq_true rfl) dJx4a65c_add_72be8_19 (fun H locs hP hD hS => ?_)
  have hv := va_gs (k := pl) (e := (al, .inr (0, [.int mo, .ref q, .int (nI (0 + 1))]))) (ne_oo hv0 hL0 hci) hv
  have hN := va_gs (k := pl) (e := (al, .inr (0, [.int mo, .ref q, .int (nI (0 + 1))]))) (Nat.ne_of_gt (pl_lt hL0)) hN
  have hL := va_ge (e := (al, .inr (0, [.int mo, .ref q, .int (nI (0 + 1))]))) hL
  exact W.vret hx hb hr (fun t ht hW => ⟨⟨q, rfl, trivial, by show va_P G vwCl _ t.heap ∧ va_D A _; rw [ht]; exact ⟨hP, hD⟩⟩, hS.F ht⟩) hS.2.2 dJx4a65c_add_72be8_22
set_option maxHeartbeats 4000000 in
set_option maxRecDepth 100000 in
theorem metJx4a65c_add_9ea2d_R (l : Launch) (G : va_G) (tys : List (ClassId × FieldType)) {A : Nat → Prop} {tE mi : Nat} (ws : va_W) {pl al pe ae n : Nat} {mo : Int32} {a : Nat → Option Nat} {cO : ClassId} {cn : Nat} (htO : tO tys cO) (hL : ws[pl]? = some (al, .inr (0, [.int mo, .ref ae, .int (nI cn)]))) (he : ws[pe]? = some (ae, .inl (cO, n, .inr (.inr (.inr (.inr a)))))) (hcn : cn < n) (h10 : 10 ≤ n) (h100 : n ≤ 100) {ci : Nat} {r : vw_C} (hc : vwCl[ci]? = some r) (hcw : Cond.castable r.1 "java/lang/Object" ∈ envW) {qk v : Nat} {vs : List Value} (hv : ws[qk]? = some (v, .inr (ci, vs))) (hci : ci ≠ 0) {el : Nat → Nat} (h0 : 0 < cn) (hae : ∀ i, i < cn → a i = some (el i)) (han : ∀ i, cn ≤ i → a i = none) : Met l yJx4a65c_add_9ea2d wsJx4a65c_add_9ea2d ({ frames := 7, cells := 1, slots := 200, locals := 204 }) (pcX G tys ws A tE mi [.ref al, .ref v]) (va_Qi (fun (r : Int32) (w2 : va_W) => r = 1 ∧ lsA ws tE cO pl al cn el pe v w2) (fun w2 t => va_P G vwCl w2 t.heap ∧ va_D A w2) A) 1 200 A := by
  refine ofXMF (cc := cJx4a65c_add_9ea2d) (maxL := 2) (ret := some .boolean) (by decide +kernel) rfl (Nat.le_of_ble_eq_true rfl) ?_
  intro p e s m below meth c ls hx hb hr hlocks hml hown hts hin hl hP hK hD hA hS hE
  have hown : s.vm.findClass RJx4a65c = some m.cls := hown
  have hiJx4a65c : ∀ w ∈ u_ws RJx4a65c TJx4a65c 3, w ∈ wsJx4a65c_add_9ea2d := fun _ h => List.mem_cons_of_mem _ (List.mem_append_right _ h)
  have hl : lv_has ls 2 [(0, .ref al), (1, .ref v)] := hl
  have hL0 := hL
  have hv0 := hv
  have he0 := he
  refine lv_aload_n hx hb dJx4a65c_add_9ea2d_0 rfl (lv_at hl 0 rfl) ?_
  refine lv_dup hx hb dJx4a65c_add_9ea2d_1 rfl ?_
  refine va_get (D := G) (ci := 0) (v := .int mo) (C := RJx4a65c) (T := TJx4a65c) (N := 3) hx hb hts hiJx4a65c hown hK hP pl hL rfl 0 (by decide) (hts (.fieldLink RJx4a65c 63 "java/util/ArrayList" "modCount" "I") (List.mem_of_getElem? (i := 1) rfl)) (fun x9 h9 => u_same (hts (.sameField "java/util/ArrayList" "java/util/AbstractList" "modCount" "I") (List.mem_of_getElem? (i := 2) rfl)) x9 h9) rfl dJx4a65c_add_9ea2d_2 ?_
  refine lv_iconst (v := 1) hx hb dJx4a65c_add_9ea2d_5 (by decide) ?_
  refine lv_iadd hx hb dJx4a65c_add_9ea2d_6 ?_
  refine va_put (D := G) (ci := 0) (v := .int (mo + (1 : Int32))) (ty := .int) (C := RJx4a65c) (T := TJx4a65c) (N := 3) hx hb hts hiJx4a65c tyJx4a65c tyJx4a65c_ok nmJx4a65c hown hK hP hD hS pl hL rfl 0 (by decide) (hts (.fieldLink RJx4a65c 63 "java/util/ArrayList" "modCount" "I") (List.mem_of_getElem? (i := 1) rfl)) (fun x9 h9 => u_same (hts (.sameField "java/util/ArrayList" "java/util/AbstractList" "modCount" "I") (List.mem_of_getElem? (i := 2) rfl)) x9 h9) rfl (by decide +kernel) (rfl) (rfl) (Nat.le_of_ble_eq_true rfl) dJx4a65c_add_9ea2d_7 (fun H locs hP hD hS => ?_)
  have he := va_gs (k := pl) (e := (al, .inr (0, [.int (mo + (1 : Int32)), .ref ae, .int (nI cn)]))) (ne_lr he0 hL0) he
  have hv := va_gs (k := pl) (e := (al, .inr (0, [.int (mo + (1 : Int32)), .ref ae, .int (nI cn)]))) (ne_oo hv0 hL0 hci) hv
  have hL := va_ge (e := (al, .inr (0, [.int (mo + (1 : Int32)), .ref ae, .int (nI cn)]))) hL
  refine lv_aload_n hx hb dJx4a65c_add_9ea2d_10 rfl (lv_at hl 0 rfl) ?_
  refine lv_aload_n hx hb dJx4a65c_add_9ea2d_11 rfl (lv_at hl 1 rfl) ?_
  refine lv_aload_n hx hb dJx4a65c_add_9ea2d_12 rfl (lv_at hl 0 rfl) ?_
  refine va_get (D := G) (ci := 0) (v := .ref ae) (C := RJx4a65c) (T := TJx4a65c) (N := 3) hx hb hts hiJx4a65c hown hK hP pl hL rfl 1 (by decide) (hts (.fieldLink RJx4a65c 9 "java/util/ArrayList" "elementData" "[Ljava/lang/Object;") (List.mem_of_getElem? (i := 3) rfl)) (fun _ h9 => h9) rfl dJx4a65c_add_9ea2d_13 ?_
  refine lv_aload_n hx hb dJx4a65c_add_9ea2d_16 rfl (lv_at hl 0 rfl) ?_
  refine va_get (D := G) (ci := 0) (v := .int (nI cn)) (C := RJx4a65c) (T := TJx4a65c) (N := 3) hx hb hts hiJx4a65c hown hK hP pl hL rfl 2 (by decide) (hts (.fieldLink RJx4a65c 48 "java/util/ArrayList" "size" "I") (List.mem_of_getElem? (i := 4) rfl)) (fun _ h9 => h9) rfl dJx4a65c_add_9ea2d_17 ?_
  refine va_callv (va_runV (As := [.ref v, .ref ae, .int (nI cn)]) (rest := []) ⟨hx, hb, hml, hown, hts⟩ (metJx4a65c_add_72be8_R l G tys _ htO hL he hcn h100 hc hcw hv hci) (cwV 3 hts gJx4a65c_add_9ea2d_Jx4a65c_add_72be8 rfl rfl rfl (by decide +kernel) ⟨Nat.le_of_ble_eq_true rfl, Nat.le_of_ble_eq_true rfl⟩) ⟨pcX_b, va_recv hK hP (ci := 0) (q0 := pl) rfl hL, pcX_u hP hK hD hS hA hE⟩ rfl rfl hl.1 rfl (lv_room (Nat.le_of_ble_eq_true rfl)) dJx4a65c_add_9ea2d_20 ⟨Nat.le_of_ble_eq_true rfl, Nat.le_of_ble_eq_true rfl⟩) hS (fun q _ h => h) (fun q h => h) (fun u t H locs ht hvm hu hB hsz hk1 hS => ?_)
  rw [ht] at hB
  obtain ⟨hP, hD⟩ := hB
  refine lv_iconst (v := 1) hx hb dJx4a65c_add_9ea2d_23 (by decide) ?_
  exact W.zret (v := (1 : Int32)) hx hb hr rfl (fun t ht hW => ⟨⟨(1 : Int32), _, rfl, ⟨rfl, lsA_room h0 hL0 he0 hcn h10 h100 hae han⟩, by show va_P G vwCl _ t.heap ∧ va_D A _; rw [ht]; exact ⟨hP, hD⟩⟩, hS.F ht⟩) hS.2.2 dJx4a65c_add_9ea2d_24
set_option maxHeartbeats 4000000 in
set_option maxRecDepth 100000 in
theorem metJx4a65c_add_9ea2d_N (l : Launch) (G : va_G) (tys : List (ClassId × FieldType)) {A : Nat → Prop} {tE mi : Nat} (ws : va_W) {pl al pe ae n : Nat} {mo : Int32} {a : Nat → Option Nat} {cO : ClassId} (htO : tO tys cO) (hL : ws[pl]? = some (al, .inr (0, [.int mo, .ref ae, .int (nI n)]))) (he : ws[pe]? = some (ae, .inl (cO, n, .inr (.inr (.inr (.inr a)))))) (hn60 : n < 60) (h10 : 10 ≤ n) {ci : Nat} {r : vw_C} (hc : vwCl[ci]? = some r) (hcw : Cond.castable r.1 "java/lang/Object" ∈ envW) (hel : ∀ i, i < n → ∀ y, a i = some y → ∃ (k : Nat) (vs : List Value), ws[k]? = some (y, .inr (ci, vs))) {qk v : Nat} {vs : List Value} (hv : ws[qk]? = some (v, .inr (ci, vs))) (hci : ci ≠ 0) {el : Nat → Nat} (h0 : 0 < n) (hae : ∀ i, i < n → a i = some (el i)) (han : ∀ i, n ≤ i → a i = none) : Met l yJx4a65c_add_9ea2d wsJx4a65c_add_9ea2d ({ frames := 7, cells := 1, slots := 200, locals := 204 }) (pcX G tys ws A tE mi [.ref al, .ref v]) (va_Qi (fun (r : Int32) (w2 : va_W) => r = 1 ∧ lsA ws tE cO pl al n el pe v w2) (fun w2 t => va_P G vwCl w2 t.heap ∧ va_D A w2) A) 1 200 A := by
  refine ofXMF (cc := cJx4a65c_add_9ea2d) (maxL := 2) (ret := some .boolean) (by decide +kernel) rfl (Nat.le_of_ble_eq_true rfl) ?_
  intro p e s m below meth c ls hx hb hr hlocks hml hown hts hin hl hP hK hD hA hS hE
  have hown : s.vm.findClass RJx4a65c = some m.cls := hown
  have hiJx4a65c : ∀ w ∈ u_ws RJx4a65c TJx4a65c 3, w ∈ wsJx4a65c_add_9ea2d := fun _ h => List.mem_cons_of_mem _ (List.mem_append_right _ h)
  have hl : lv_has ls 2 [(0, .ref al), (1, .ref v)] := hl
  have hL0 := hL
  have hv0 := hv
  have he0 := he
  have h100 : n ≤ 100 := by omega
  refine lv_aload_n hx hb dJx4a65c_add_9ea2d_0 rfl (lv_at hl 0 rfl) ?_
  refine lv_dup hx hb dJx4a65c_add_9ea2d_1 rfl ?_
  refine va_get (D := G) (ci := 0) (v := .int mo) (C := RJx4a65c) (T := TJx4a65c) (N := 3) hx hb hts hiJx4a65c hown hK hP pl hL rfl 0 (by decide) (hts (.fieldLink RJx4a65c 63 "java/util/ArrayList" "modCount" "I") (List.mem_of_getElem? (i := 1) rfl)) (fun x9 h9 => u_same (hts (.sameField "java/util/ArrayList" "java/util/AbstractList" "modCount" "I") (List.mem_of_getElem? (i := 2) rfl)) x9 h9) rfl dJx4a65c_add_9ea2d_2 ?_
  refine lv_iconst (v := 1) hx hb dJx4a65c_add_9ea2d_5 (by decide) ?_
  refine lv_iadd hx hb dJx4a65c_add_9ea2d_6 ?_
  refine va_put (D := G) (ci := 0) (v := .int (mo + (1 : Int32))) (ty := .int) (C := RJx4a65c) (T := TJx4a65c) (N := 3) hx hb hts hiJx4a65c tyJx4a65c tyJx4a65c_ok nmJx4a65c hown hK hP hD hS pl hL rfl 0 (by decide) (hts (.fieldLink RJx4a65c 63 "java/util/ArrayList" "modCount" "I") (List.mem_of_getElem? (i := 1) rfl)) (fun x9 h9 => u_same (hts (.sameField "java/util/ArrayList" "java/util/AbstractList" "modCount" "I") (List.mem_of_getElem? (i := 2) rfl)) x9 h9) rfl (by decide +kernel) (rfl) (rfl) (Nat.le_of_ble_eq_true rfl) dJx4a65c_add_9ea2d_7 (fun H locs hP hD hS => ?_)
  have he := va_gs (k := pl) (e := (al, .inr (0, [.int (mo + (1 : Int32)), .ref ae, .int (nI n)]))) (ne_lr he0 hL0) he
  have hv := va_gs (k := pl) (e := (al, .inr (0, [.int (mo + (1 : Int32)), .ref ae, .int (nI n)]))) (ne_oo hv0 hL0 hci) hv
  have hL := va_ge (e := (al, .inr (0, [.int (mo + (1 : Int32)), .ref ae, .int (nI n)]))) hL
  have hel : ∀ i, i < n → ∀ y, a i = some y → ∃ (k : Nat) (vs : List Value), ((ws).set pl (al, .inr (0, [.int (mo + (1 : Int32)), .ref ae, .int (nI n)])))[k]? = some (y, .inr (ci, vs)) := fun i hi y hy => by obtain ⟨k, vs, h⟩ := hel i hi y hy; exact ⟨k, vs, va_gs (ne_oo h hL0 hci) h⟩
  refine lv_aload_n hx hb dJx4a65c_add_9ea2d_10 rfl (lv_at hl 0 rfl) ?_
  refine lv_aload_n hx hb dJx4a65c_add_9ea2d_11 rfl (lv_at hl 1 rfl) ?_
  refine lv_aload_n hx hb dJx4a65c_add_9ea2d_12 rfl (lv_at hl 0 rfl) ?_
  refine va_get (D := G) (ci := 0) (v := .ref ae) (C := RJx4a65c) (T := TJx4a65c) (N := 3) hx hb hts hiJx4a65c hown hK hP pl hL rfl 1 (by decide) (hts (.fieldLink RJx4a65c 9 "java/util/ArrayList" "elementData" "[Ljava/lang/Object;") (List.mem_of_getElem? (i := 3) rfl)) (fun _ h9 => h9) rfl dJx4a65c_add_9ea2d_13 ?_
  refine lv_aload_n hx hb dJx4a65c_add_9ea2d_16 rfl (lv_at hl 0 rfl) ?_
  refine va_get (D := G) (ci := 0) (v := .int (nI n)) (C := RJx4a65c) (T := TJx4a65c) (N := 3) hx hb hts hiJx4a65c hown hK hP pl hL rfl 2 (by decide) (hts (.fieldLink RJx4a65c 48 "java/util/ArrayList" "size" "I") (List.mem_of_getElem? (i := 4) rfl)) (fun _ h9 => h9) rfl dJx4a65c_add_9ea2d_17 ?_
  refine va_callv (va_runV (As := [.ref v, .ref ae, .int (nI n)]) (rest := []) ⟨hx, hb, hml, hown, hts⟩ (metJx4a65c_add_72be8_N l G tys _ htO hL he h10 h100 hc hcw hel hv hci) (cwV 3 hts gJx4a65c_add_9ea2d_Jx4a65c_add_72be8 rfl rfl rfl (by decide +kernel) ⟨Nat.le_of_ble_eq_true rfl, Nat.le_of_ble_eq_true rfl⟩) ⟨pcX_b, va_recv hK hP (ci := 0) (q0 := pl) rfl hL, pcX_u hP hK hD hS hA hE⟩ rfl rfl hl.1 rfl (lv_room (Nat.le_of_ble_eq_true rfl)) dJx4a65c_add_9ea2d_20 ⟨Nat.le_of_ble_eq_true rfl, Nat.le_of_ble_eq_true rfl⟩) hS (fun q _ h => h) (fun q h => h) (fun q t H locs ht hvm hu hB hsz hk1 hS => ?_)
  rw [ht] at hB
  obtain ⟨hP, hD⟩ := hB
  refine lv_iconst (v := 1) hx hb dJx4a65c_add_9ea2d_23 (by decide) ?_
  exact W.zret (v := (1 : Int32)) hx hb hr rfl (fun t ht hW => ⟨⟨(1 : Int32), _, rfl, ⟨rfl, lsA_new (n := n + n / 2) (a := va_cpy a (fun _ => none) 0 0 n) hL0 (by omega) (by omega) (by omega) (fun i hi => by rw [pk_cpy_in (Nat.zero_le i) (by omega), Nat.zero_add]; exact hae i hi) (fun i hi => pk_cpy_out (Or.inr (by omega)))⟩, by show va_P G vwCl _ t.heap ∧ va_D A _; rw [ht]; exact ⟨hP, hD⟩⟩, hS.F ht⟩) hS.2.2 dJx4a65c_add_9ea2d_24
set_option maxHeartbeats 4000000 in
set_option maxRecDepth 100000 in
theorem metJx4a65c_add_9ea2d_0 (l : Launch) (G : va_G) (tys : List (ClassId × FieldType)) {A : Nat → Prop} {tE mi : Nat} (ws : va_W) {pl al : Nat} {mo : Int32} {cO : ClassId} (htO : tO tys cO) (hL : ws[pl]? = some (al, .inr (0, [.int mo, .ref tE, .int 0]))) {ci : Nat} {r : vw_C} (hc : vwCl[ci]? = some r) (hcw : Cond.castable r.1 "java/lang/Object" ∈ envW) {qk v : Nat} {vs : List Value} (hv : ws[qk]? = some (v, .inr (ci, vs))) (hci : ci ≠ 0) (el : Nat → Nat) (pe : Nat) : Met l yJx4a65c_add_9ea2d wsJx4a65c_add_9ea2d ({ frames := 7, cells := 1, slots := 200, locals := 204 }) (pcX G tys ws A tE mi [.ref al, .ref v]) (va_Qi (fun (r : Int32) (w2 : va_W) => r = 1 ∧ lsA ws tE cO pl al 0 el pe v w2) (fun w2 t => va_P G vwCl w2 t.heap ∧ va_D A w2) A) 1 200 A := by
  refine ofXMF (cc := cJx4a65c_add_9ea2d) (maxL := 2) (ret := some .boolean) (by decide +kernel) rfl (Nat.le_of_ble_eq_true rfl) ?_
  intro p e s m below meth c ls hx hb hr hlocks hml hown hts hin hl hP hK hD hA hS hE
  have hown : s.vm.findClass RJx4a65c = some m.cls := hown
  have hiJx4a65c : ∀ w ∈ u_ws RJx4a65c TJx4a65c 3, w ∈ wsJx4a65c_add_9ea2d := fun _ h => List.mem_cons_of_mem _ (List.mem_append_right _ h)
  have hl : lv_has ls 2 [(0, .ref al), (1, .ref v)] := hl
  have hL0 := hL
  have hv0 := hv
  refine lv_aload_n hx hb dJx4a65c_add_9ea2d_0 rfl (lv_at hl 0 rfl) ?_
  refine lv_dup hx hb dJx4a65c_add_9ea2d_1 rfl ?_
  refine va_get (D := G) (ci := 0) (v := .int mo) (C := RJx4a65c) (T := TJx4a65c) (N := 3) hx hb hts hiJx4a65c hown hK hP pl hL rfl 0 (by decide) (hts (.fieldLink RJx4a65c 63 "java/util/ArrayList" "modCount" "I") (List.mem_of_getElem? (i := 1) rfl)) (fun x9 h9 => u_same (hts (.sameField "java/util/ArrayList" "java/util/AbstractList" "modCount" "I") (List.mem_of_getElem? (i := 2) rfl)) x9 h9) rfl dJx4a65c_add_9ea2d_2 ?_
  refine lv_iconst (v := 1) hx hb dJx4a65c_add_9ea2d_5 (by decide) ?_
  refine lv_iadd hx hb dJx4a65c_add_9ea2d_6 ?_
  refine va_put (D := G) (ci := 0) (v := .int (mo + (1 : Int32))) (ty := .int) (C := RJx4a65c) (T := TJx4a65c) (N := 3) hx hb hts hiJx4a65c tyJx4a65c tyJx4a65c_ok nmJx4a65c hown hK hP hD hS pl hL rfl 0 (by decide) (hts (.fieldLink RJx4a65c 63 "java/util/ArrayList" "modCount" "I") (List.mem_of_getElem? (i := 1) rfl)) (fun x9 h9 => u_same (hts (.sameField "java/util/ArrayList" "java/util/AbstractList" "modCount" "I") (List.mem_of_getElem? (i := 2) rfl)) x9 h9) rfl (by decide +kernel) (rfl) (rfl) (Nat.le_of_ble_eq_true rfl) dJx4a65c_add_9ea2d_7 (fun H locs hP hD hS => ?_)
  have hv := va_gs (k := pl) (e := (al, .inr (0, [.int (mo + (1 : Int32)), .ref tE, .int (0 : Int32)]))) (ne_oo hv0 hL0 hci) hv
  have hL := va_ge (e := (al, .inr (0, [.int (mo + (1 : Int32)), .ref tE, .int (0 : Int32)]))) hL
  refine lv_aload_n hx hb dJx4a65c_add_9ea2d_10 rfl (lv_at hl 0 rfl) ?_
  refine lv_aload_n hx hb dJx4a65c_add_9ea2d_11 rfl (lv_at hl 1 rfl) ?_
  refine lv_aload_n hx hb dJx4a65c_add_9ea2d_12 rfl (lv_at hl 0 rfl) ?_
  refine va_get (D := G) (ci := 0) (v := .ref tE) (C := RJx4a65c) (T := TJx4a65c) (N := 3) hx hb hts hiJx4a65c hown hK hP pl hL rfl 1 (by decide) (hts (.fieldLink RJx4a65c 9 "java/util/ArrayList" "elementData" "[Ljava/lang/Object;") (List.mem_of_getElem? (i := 3) rfl)) (fun _ h9 => h9) rfl dJx4a65c_add_9ea2d_13 ?_
  refine lv_aload_n hx hb dJx4a65c_add_9ea2d_16 rfl (lv_at hl 0 rfl) ?_
  refine va_get (D := G) (ci := 0) (v := .int (0 : Int32)) (C := RJx4a65c) (T := TJx4a65c) (N := 3) hx hb hts hiJx4a65c hown hK hP pl hL rfl 2 (by decide) (hts (.fieldLink RJx4a65c 48 "java/util/ArrayList" "size" "I") (List.mem_of_getElem? (i := 4) rfl)) (fun _ h9 => h9) rfl dJx4a65c_add_9ea2d_17 ?_
  refine va_callv (va_runV (As := [.ref v, .ref tE, .int (0 : Int32)]) (rest := []) ⟨hx, hb, hml, hown, hts⟩ (metJx4a65c_add_72be8_0 l G tys _ htO hL hc hcw hv hci) (cwV 3 hts gJx4a65c_add_9ea2d_Jx4a65c_add_72be8 rfl rfl rfl (by decide +kernel) ⟨Nat.le_of_ble_eq_true rfl, Nat.le_of_ble_eq_true rfl⟩) ⟨pcX_b, va_recv hK hP (ci := 0) (q0 := pl) rfl hL, pcX_u hP hK hD hS hA hE⟩ rfl rfl hl.1 rfl (lv_room (Nat.le_of_ble_eq_true rfl)) dJx4a65c_add_9ea2d_20 ⟨Nat.le_of_ble_eq_true rfl, Nat.le_of_ble_eq_true rfl⟩) hS (fun q _ h => h) (fun q h => h) (fun q t H locs ht hvm hu hB hsz hk1 hS => ?_)
  rw [ht] at hB
  obtain ⟨hP, hD⟩ := hB
  refine lv_iconst (v := 1) hx hb dJx4a65c_add_9ea2d_23 (by decide) ?_
  exact W.zret (v := (1 : Int32)) hx hb hr rfl (fun t ht hW => ⟨⟨(1 : Int32), _, rfl, ⟨rfl, lsA_new (n := 10) (a := fun _ => none) hL0 (by omega) (by omega) (by omega) (fun i hi => absurd hi (Nat.not_lt_zero i)) (fun _ _ => rfl)⟩, by show va_P G vwCl _ t.heap ∧ va_D A _; rw [ht]; exact ⟨hP, hD⟩⟩, hS.F ht⟩) hS.2.2 dJx4a65c_add_9ea2d_24
/-- add, to a list as it may be -/
theorem metAdd (l : Launch) (G : va_G) (tys : List (ClassId × FieldType)) {A : Nat → Prop} {tE mi : Nat} (ws : va_W) {pl al cn pe : Nat} {el : Nat → Nat} {cO : ClassId} (htO : tO tys cO) (hls : lsL ws tE cO pl al cn el pe) (hn60 : cn < 60) {ci : Nat} {r : vw_C} (hc : vwCl[ci]? = some r) (hcw : Cond.castable r.1 "java/lang/Object" ∈ envW) (hex : ∀ i, i < cn → ∃ (k : Nat) (vs : List Value), ws[k]? = some (el i, .inr (ci, vs))) {qk v : Nat} {vs : List Value} (hv : ws[qk]? = some (v, .inr (ci, vs))) (hci : ci ≠ 0) : Met l yJx4a65c_add_9ea2d wsJx4a65c_add_9ea2d ({ frames := 7, cells := 1, slots := 200, locals := 204 }) (pcX G tys ws A tE mi [.ref al, .ref v]) (va_Qi (fun (r : Int32) (w2 : va_W) => r = 1 ∧ lsA ws tE cO pl al cn el pe v w2) (fun w2 t => va_P G vwCl w2 t.heap ∧ va_D A w2) A) 1 200 A := by
  obtain ⟨mo, ⟨rfl, hL⟩ | ⟨h0, ae, n, a, hL, he, hcn, h10, h100, hae, han⟩⟩ := hls
  · exact metJx4a65c_add_9ea2d_0 l G tys ws htO hL hc hcw hv hci el pe
  · rcases Nat.lt_or_eq_of_le hcn with h | h
    · exact metJx4a65c_add_9ea2d_R l G tys ws htO hL he h h10 h100 hc hcw hv hci h0 hae han
    · subst h
      exact metJx4a65c_add_9ea2d_N l G tys ws htO hL he hn60 h10 hc hcw (fun i hi y hy => by rw [hae i hi] at hy; cases hy; exact hex i hi) hv hci h0 hae han

