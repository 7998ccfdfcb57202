set_option maxHeartbeats 4000000 in
set_option maxRecDepth 100000 in
/-- YOUR PART: from the entry, for every script of at most 2048 ints, the law comes to its end with true -/
theorem whole_start {p : Program} {e : Env} {s : State} {m : MethodId} {below : List Frame} {meth : Method} {c : Code} (l : Launch) (hflags : l.flags = flags0) {b L : Nat} {xs : Nat → Int32} (hL : L ≤ 2048) (C0 : lw_At p s m meth c b L xs) : W p l e room_1 s m #[Value.ref b] below meth c s.heap [] 0 0 (lw_Z below #[Value.ref b] s) (entryFrame m ([Value.ref b] : List Value).toArray 10) := by
  have hnt : l.stackTraces = false := by unfold Launch.stackTraces; rw [hflags]; decide +kernel
  have C1 := C0
  obtain ⟨hx, hb, hr, hml, hown, hts0, hX, hbl, hlocks, hgv⟩ := C1
  have hts : ∀ w ∈ wsL_law, w.before #[Value.ref b] s = true := fun w h => hts0 w (wsL_law_in w h)
  have hown : s.vm.findClass RL = some m.cls := hown
  have hA : ∀ q : Nat, s.heap.size ≤ q → (fun q : Nat => s.heap.size ≤ q) q := fun _ h => h
  obtain ⟨tE, mi, hE⟩ := env_start C0
  obtain ⟨G, cI, cO, cJ, cB, hK⟩ := K_start hts0
  obtain ⟨tys, htys⟩ : ∃ t : List (ClassId × FieldType), t = [(cI, .int), (cO, .object "java/lang/Object"), (cJ, .long), (cB, .double)] := ⟨_, rfl⟩
  rw [← htys] at hK
  have htI : tI tys cI := by rw [htys]; rfl
  have htO : tO tys cO := by rw [htys]; rfl
  have htJ : tys[2]? = some (cJ, .long) := by rw [htys]; rfl
  have htB : tys[3]? = some (cB, .double) := by rw [htys]; rfl
  have hS : va_S (fun q : Nat => s.heap.size ≤ q) s.heap s.heap [] := va_S.rf
  have hP : va_P G vwCl [] s.heap := fun k q h => by simp at h
  have hD : va_D (fun q : Nat => s.heap.size ≤ q) [] := ⟨fun i j p q h => by simp at h, fun k q h => by simp at h⟩
  have hl := lv_entry ([.ref b]) (n := 10) (Nat.le_of_ble_eq_true rfl)
  rw [lg_entry_eq]
  generalize (lg_sl ([.ref b]) ++ List.replicate (10 - (lg_sl ([.ref b])).length) Slot.unset).toArray = ls at hl ⊢
  have hl : lv_has ls 10 [(0, .ref b)] := hl
  refine va_new (D := G) (ci := 8) (fs := [.null, .null, .null, .null, .null, .null, .null]) (C := RX7) (T := TX7) (N := 7) hx hb hts inlX7 tyX7 tyX7_ok hown (hts0 (.classLink RL 8 RX7) (by decide +kernel)) (hts0 (.instantiable RX7 7) (by decide +kernel)) (hts0 (.initialized RX7) (by decide +kernel)) hK hP hD hS hA rfl (fun j hj => by rcases (show j = 0 ∨ j = 1 ∨ j = 2 ∨ j = 3 ∨ j = 4 ∨ j = 5 ∨ j = 6 by omega) with rfl | rfl | rfl | rfl | rfl | rfl | rfl <;> rfl) (Nat.le_of_ble_eq_true rfl) (Nat.le_of_ble_eq_true rfl) dL_law_0 (fun v H hP hD hS => ?_)
  have hP : va_P G vwCl [(v, .inr (8, [.null, .null, .null, .null, .null, .null, .null]))] H := hP
  have hD : va_D (fun q : Nat => s.heap.size ≤ q) [(v, .inr (8, [.null, .null, .null, .null, .null, .null, .null]))] := hD
  refine lv_dup hx hb dL_law_3 rfl ?_
  refine va_callv (va_runI (As := []) (rest := [.ref v]) ⟨hx, hb, hml, hown, hts⟩ (metX7_init l G tys (mi := mi) htI) (cwI 0 hts gL_law_X7_init rfl rfl rfl (hts0 (.initialized RX7) (by decide +kernel)) (hts0 (.methodLink RL 94 yX7_init) (by decide +kernel)) (hts0 (.instanceMethod yX7_init) (by decide +kernel)) rfl (by decide +kernel) ⟨Nat.le_of_ble_eq_true rfl, Nat.le_of_ble_eq_true rfl⟩) ⟨pcX_b, pcX_u hP hK hD hS hA hE⟩ rfl rfl hl.1 rfl (lv_room (Nat.le_of_ble_eq_true rfl)) dL_law_4 ⟨Nat.le_of_ble_eq_true rfl, Nat.le_of_ble_eq_true rfl⟩) hS (fun q _ h => h) (fun q h => h) (fun ad t H locs ht hvm hu hB hsz hk1 hS => ?_)
  rw [ht] at hB
  obtain ⟨hP, hD⟩ := hB
  refine lv_astore_n (lv' := [(1, .ref v), (0, .ref b)]) hx hb dL_law_7 rfl hl (by decide) rfl (fun ls hl => ?_)
  refine va_new (D := G) (ci := 9) (fs := [.int 0, .int 0, .null, .null, .null, .null, .null, .null, .null, .int 0, .null, .int 0, .int 0, .int 0, .null, .null, .null, .null, .null, .null, .null, .int 0, .int 0, .int 0, .long 0, .long 0, .int 0, .int 0, .int 0, .int 0, .null, .null, .null, .int 0, .null, .null, .null, .null, .null]) (C := RX8) (T := TX8) (N := 39) hx hb hts inlX8 tyX8 tyX8_ok hown (hts0 (.classLink RL 95 RX8) (by decide +kernel)) (hts0 (.instantiable RX8 39) (by decide +kernel)) (hts0 (.initialized RX8) (by decide +kernel)) hK hP hD hS hA rfl (fun j hj => by
    match j, hj with
    | 0, _ => rfl
    | 1, _ => rfl
    | 2, _ => rfl
    | 3, _ => rfl
    | 4, _ => rfl
    | 5, _ => rfl
    | 6, _ => rfl
    | 7, _ => rfl
    | 8, _ => rfl
    | 9, _ => rfl
    | 10, _ => rfl
    | 11, _ => rfl
    | 12, _ => rfl
    | 13, _ => rfl
    | 14, _ => rfl
    | 15, _ => rfl
    | 16, _ => rfl
    | 17, _ => rfl
    | 18, _ => rfl
    | 19, _ => rfl
    | 20, _ => rfl
    | 21, _ => rfl
    | 22, _ => rfl
    | 23, _ => rfl
    | 24, _ => rfl
    | 25, _ => rfl
    | 26, _ => rfl
    | 27, _ => rfl
    | 28, _ => rfl
    | 29, _ => rfl
    | 30, _ => rfl
    | 31, _ => rfl
    | 32, _ => rfl
    | 33, _ => rfl
    | 34, _ => rfl
    | 35, _ => rfl
    | 36, _ => rfl
    | 37, _ => rfl
    | 38, _ => rfl
    | j + 39, hj => omega) (Nat.le_of_ble_eq_true rfl) (Nat.le_of_ble_eq_true rfl) dL_law_8 (fun am H hP hD hS => ?_)
  have hP : va_P G vwCl ([(v, .inr (8, [.ref (ad 1), .ref (ad 2), .ref (ad 5), .ref (ad 6), .ref (ad 9), .ref (ad 10), .ref (ad 11)])), ((ad 1), .inr (0, [.int 0, .ref tE, .int 0])), ((ad 2), .inr (4, [.ref (ad 3), .ref (ad 4), .int 0, .int 0, .int 0])), ((ad 3), .inl (cI, 48, .inl (fun _ => 0))), ((ad 4), .inl (cI, 20, .inl (fill (-1 : Int32) 20))), ((ad 5), .inr (0, [.int 0, .ref tE, .int 0])), ((ad 6), .inr (2, [.ref (ad 7), .ref (ad 8), .int 0, .int 0, .int 0, .long 0, .long 0])), ((ad 7), .inl (cI, 12, .inl (fill (4 : Int32) 12))), ((ad 8), .inl (cI, 12, .inl (fun _ => 0))), ((ad 9), .inr (3, [.int 300, .int 700, .int 0])), ((ad 10), .inr (0, [.int 0, .ref tE, .int 0])), ((ad 11), .inr (0, [.int 0, .ref tE, .int 0])), (am, .inr (9, [.int 0, .int 0, .null, .null, .null, .null, .null, .null, .null, .int 0, .null, .int 0, .int 0, .int 0, .null, .null, .null, .null, .null, .null, .null, .int 0, .int 0, .int 0, .long 0, .long 0, .int 0, .int 0, .int 0, .int 0, .null, .null, .null, .int 0, .null, .null, .null, .null, .null]))] : va_W) H := hP
  have hD : va_D (fun q : Nat => s.heap.size ≤ q) ([(v, .inr (8, [.ref (ad 1), .ref (ad 2), .ref (ad 5), .ref (ad 6), .ref (ad 9), .ref (ad 10), .ref (ad 11)])), ((ad 1), .inr (0, [.int 0, .ref tE, .int 0])), ((ad 2), .inr (4, [.ref (ad 3), .ref (ad 4), .int 0, .int 0, .int 0])), ((ad 3), .inl (cI, 48, .inl (fun _ => 0))), ((ad 4), .inl (cI, 20, .inl (fill (-1 : Int32) 20))), ((ad 5), .inr (0, [.int 0, .ref tE, .int 0])), ((ad 6), .inr (2, [.ref (ad 7), .ref (ad 8), .int 0, .int 0, .int 0, .long 0, .long 0])), ((ad 7), .inl (cI, 12, .inl (fill (4 : Int32) 12))), ((ad 8), .inl (cI, 12, .inl (fun _ => 0))), ((ad 9), .inr (3, [.int 300, .int 700, .int 0])), ((ad 10), .inr (0, [.int 0, .ref tE, .int 0])), ((ad 11), .inr (0, [.int 0, .ref tE, .int 0])), (am, .inr (9, [.int 0, .int 0, .null, .null, .null, .null, .null, .null, .null, .int 0, .null, .int 0, .int 0, .int 0, .null, .null, .null, .null, .null, .null, .null, .int 0, .int 0, .int 0, .long 0, .long 0, .int 0, .int 0, .int 0, .int 0, .null, .null, .null, .int 0, .null, .null, .null, .null, .null]))] : va_W) := hD
  refine lv_dup hx hb dL_law_11 rfl ?_
  refine va_callv (va_runI (As := []) (rest := [.ref am]) ⟨hx, hb, hml, hown, hts⟩ (metX8_init l G tys htI (v, .inr (8, [.ref (ad 1), .ref (ad 2), .ref (ad 5), .ref (ad 6), .ref (ad 9), .ref (ad 10), .ref (ad 11)])) ((ad 1), .inr (0, [.int 0, .ref tE, .int 0])) ((ad 2), .inr (4, [.ref (ad 3), .ref (ad 4), .int 0, .int 0, .int 0])) ((ad 3), .inl (cI, 48, .inl (fun _ => 0))) ((ad 4), .inl (cI, 20, .inl (fill (-1 : Int32) 20))) ((ad 5), .inr (0, [.int 0, .ref tE, .int 0])) ((ad 6), .inr (2, [.ref (ad 7), .ref (ad 8), .int 0, .int 0, .int 0, .long 0, .long 0])) ((ad 7), .inl (cI, 12, .inl (fill (4 : Int32) 12))) ((ad 8), .inl (cI, 12, .inl (fun _ => 0))) ((ad 9), .inr (3, [.int 300, .int 700, .int 0])) ((ad 10), .inr (0, [.int 0, .ref tE, .int 0])) ((ad 11), .inr (0, [.int 0, .ref tE, .int 0]))) (cwI 0 hts gL_law_X8_init rfl rfl rfl (hts0 (.initialized RX8) (by decide +kernel)) (hts0 (.methodLink RL 97 yX8_init) (by decide +kernel)) (hts0 (.instanceMethod yX8_init) (by decide +kernel)) rfl (by decide +kernel) ⟨Nat.le_of_ble_eq_true rfl, Nat.le_of_ble_eq_true rfl⟩) ⟨pcM_b, pcM_u hP hK hD hS hA⟩ rfl rfl hl.1 rfl (lv_room (Nat.le_of_ble_eq_true rfl)) dL_law_12 ⟨Nat.le_of_ble_eq_true rfl, Nat.le_of_ble_eq_true rfl⟩) hS (fun q _ h => h) (fun q h => h) (fun adm t H locs ht hvm hu hB hsz hk1 hS => ?_)
  rw [ht] at hB
  obtain ⟨hP, hD⟩ := hB
  refine lv_astore_n (lv' := [(2, .ref am), (1, .ref v), (0, .ref b)]) hx hb dL_law_15 rfl hl (by decide) rfl (fun ls hl => ?_)
  refine lv_iconst (v := 1) hx hb dL_law_16 (by decide) ?_
  refine va_newa (atype := .long) (n := 1) (N' := 1) (a0 := (1, .inr (.inl (fun _ => 0)))) hx hb (hts0 (.arrayClass .long) (by decide +kernel)) rfl hK hP hD hS hA (fun _ => rfl) (by decide) (by decide) (by decide) (Nat.le_of_ble_eq_true rfl) (Nat.le_of_ble_eq_true rfl) dL_law_17 (fun oj cA H hK2 hP hD hS => ?_)
  have hz2 : (tys ++ [(cA, FieldType.long)])[tys.length]? = some (cA, .long) := by simp
  have hcA : cA = cJ := Option.some.inj ((va_nm_long (hK2.2 tys.length _ hz2).2).symm.trans (va_nm_long (hK.2 2 _ htJ).2))
  rw [hcA] at hP hD
  refine lv_astore_n (lv' := [(3, .ref oj), (2, .ref am), (1, .ref v), (0, .ref b)]) hx hb dL_law_19 rfl hl (by decide) rfl (fun ls hl => ?_)
  refine lv_iconst (v := 1) hx hb dL_law_20 (by decide) ?_
  refine va_newa (atype := .double) (n := 1) (N' := 1) (a0 := (1, .inr (.inr (.inr (.inl (fun _ => 0)))))) hx hb (hts0 (.arrayClass .double) (by decide +kernel)) rfl hK hP hD hS hA (fun _ => rfl) (by decide) (by decide) (by decide) (Nat.le_of_ble_eq_true rfl) (Nat.le_of_ble_eq_true rfl) dL_law_21 (fun od cA2 H hK3 hP hD hS => ?_)
  have hz3 : (tys ++ [(cA2, FieldType.double)])[tys.length]? = some (cA2, .double) := by simp
  have hcA2 : cA2 = cB := Option.some.inj ((va_nm_double (hK3.2 tys.length _ hz3).2).symm.trans (va_nm_double (hK.2 3 _ htB).2))
  rw [hcA2] at hP hD
  refine lv_astore (lv' := [(4, .ref od), (3, .ref oj), (2, .ref am), (1, .ref v), (0, .ref b)]) hx hb dL_law_23 hl (by decide) rfl (fun ls hl => ?_)
  refine lv_iconst (v := 0) hx hb dL_law_25 (by decide) ?_
  refine lv_istore (lv' := [(5, .int (nI 0)), (4, .ref od), (3, .ref oj), (2, .ref am), (1, .ref v), (0, .ref b)]) hx hb dL_law_26 hl (by decide) rfl (fun ls hl => ?_)
  refine W.widen (k := 100) (n := 1000) (Nat.le_of_ble_eq_true rfl) (Nat.le_of_ble_eq_true rfl) ?_
  have hP : va_P G vwCl (wLaw cI cJ cB tE v am oj od ad adm) H := hP
  have hD : va_D (fun q : Nat => s.heap.size ≤ q) (wLaw cI cJ cB tE v am oj od ad adm) := hD
  exact law_loop hnt htI htO htJ htB hL C0 hK hE (L + 1) 0 (nI 0) 100 1000 _ H _ ls (Nat.zero_le L) (by omega) rfl (by omega) (by omega) (INV_start cI cO cJ cB tE v am oj od ad adm) hP hD hS (lv_sub hl [5, 4, 3, 2, 1, 0] rfl)
