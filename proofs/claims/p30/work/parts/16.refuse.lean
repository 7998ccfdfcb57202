/-- refused: a value out of its bounds; a number that is not there; a row that is full -/
abbrev oR (v lo hi : Int32) : Prop := v < lo ∨ hi < v
abbrev uK (x n : Int32) : Prop := x < 0 ∨ n ≤ x
theorem i32_nle {x y : Int32} (h : ¬ x ≤ y) : y < x := Int32.not_le.mp h
theorem i32_nlt {x y : Int32} (h : ¬ x < y) : y ≤ x := Int32.not_lt.mp h
set_option maxHeartbeats 4000000 in
set_option maxRecDepth 100000 in
theorem metX7_refuseOutside (l : Launch) (hnt : l.stackTraces = false) {A : Nat → Prop} {tE mi : Nat} (v lo hi : Int32) : vx_Met l yX7_refuseOutside wsX7_refuseOutside { frames := 6, cells := 1, slots := 6, locals := 82 } (pcE A tE mi [.int v, .int lo, .int hi]) (va_Qv (fun (_ : Unit) => ¬ oR v lo hi) (fun _ _ => True) (fun _ => False)) (xcT (fun E => oR v lo hi ∧ E = eIA)) 1 6 (fun _ => False) := by
  refine ofE (cc := cX7_refuseOutside) (maxL := 3) (ret := none) (by decide) rfl (Nat.le_of_ble_eq_true rfl) ?_
  intro p e s m below meth c ls hx hb hr hlocks hml hown hts hno hl hA hE
  have hown : s.vm.findClass RX7 = some m.cls := hown
  have hl : lv_has ls 3 [(0, .int v), (1, .int lo), (2, .int hi)] := hl
  refine lv_iload_n hx hb dX7_refuseOutside_0 rfl (lv_at hl 0 rfl) ?_
  refine lv_iload_n hx hb dX7_refuseOutside_1 rfl (lv_at hl 1 rfl) ?_
  refine lv_icmp_lt (tgt := 10) hx hb dX7_refuseOutside_2 (by decide) (fun c2 => ?_) (fun c2 => ?_)
  · obtain ⟨sa, hstr⟩ := hE.2.2.1
    exact vx_throwS (A := A) hx hb hnt hown fitA fitN (hts (.classLink RX7 209 "java/lang/IllegalArgumentException") (List.mem_of_getElem? (i := 1) rfl)) (hts (.initialized "java/lang/IllegalArgumentException") (List.mem_of_getElem? (i := 2) rfl)) hstr (hat_of hE (fun w h => hts w (List.mem_cons_of_mem _ (List.mem_append_right _ h))) envW_A) otA hE.1 hE.2.1 va_S.rf (by rw [hml]; exact hl.1) dX7_refuseOutside_10 dX7_refuseOutside_13 dX7_refuseOutside_14 dX7_refuseOutside_16 dX7_refuseOutside_19 (fun x h9 => absurd h9 (hno x)) (by show (2 : Nat) + 3 < 6; decide) (Nat.le_of_ble_eq_true rfl) (Nat.le_of_ble_eq_true rfl) (Nat.le_of_ble_eq_true rfl) hlocks (fun t _ h1 h2 => xcT.mk ⟨Or.inl c2, rfl⟩ rfl h1 h2) (fun z h => nomatch h) (by decide) (by decide)
  · refine lv_iload_n hx hb dX7_refuseOutside_5 rfl (lv_at hl 0 rfl) ?_
    refine lv_iload_n hx hb dX7_refuseOutside_6 rfl (lv_at hl 2 rfl) ?_
    refine lv_icmp_le (tgt := 20) hx hb dX7_refuseOutside_7 (by decide) (fun c7 => ?_) (fun c7 => ?_)
    · refine W.widen (k := 1) (n := 6) (by decide) (by decide) (vx_ret ?_)
      exact W.vret hx hb hr (fun t ht hW => ⟨⟨(), rfl, fun h => h.elim c2 (fun h2 => Int32.not_lt.mpr c7 h2), trivial⟩, by rw [ht]; exact Nat.le_refl _, fun q _ _ => by rw [ht]⟩) (fun _ h => absurd h List.not_mem_nil) dX7_refuseOutside_20
    · obtain ⟨sa, hstr⟩ := hE.2.2.1
      exact vx_throwS (A := A) hx hb hnt hown fitA fitN (hts (.classLink RX7 209 "java/lang/IllegalArgumentException") (List.mem_of_getElem? (i := 1) rfl)) (hts (.initialized "java/lang/IllegalArgumentException") (List.mem_of_getElem? (i := 2) rfl)) hstr (hat_of hE (fun w h => hts w (List.mem_cons_of_mem _ (List.mem_append_right _ h))) envW_A) otA hE.1 hE.2.1 va_S.rf (by rw [hml]; exact hl.1) dX7_refuseOutside_10 dX7_refuseOutside_13 dX7_refuseOutside_14 dX7_refuseOutside_16 dX7_refuseOutside_19 (fun x h9 => absurd h9 (hno x)) (by show (2 : Nat) + 3 < 6; decide) (Nat.le_of_ble_eq_true rfl) (Nat.le_of_ble_eq_true rfl) (Nat.le_of_ble_eq_true rfl) hlocks (fun t _ h1 h2 => xcT.mk ⟨Or.inr (i32_nle c7), rfl⟩ rfl h1 h2) (fun z h => nomatch h) (by decide) (by decide)
set_option maxHeartbeats 4000000 in
set_option maxRecDepth 100000 in
theorem metX7_refuseUnknown (l : Launch) (hnt : l.stackTraces = false) {A : Nat → Prop} {tE mi : Nat} (x n : Int32) : vx_Met l yX7_refuseUnknown wsX7_refuseUnknown { frames := 6, cells := 1, slots := 6, locals := 82 } (pcE A tE mi [.int x, .int n]) (va_Qv (fun (_ : Unit) => ¬ uK x n) (fun _ _ => True) (fun _ => False)) (xcT (fun E => uK x n ∧ E = eIB)) 1 6 (fun _ => False) := by
  refine ofE (cc := cX7_refuseUnknown) (maxL := 2) (ret := none) (by decide) rfl (Nat.le_of_ble_eq_true rfl) ?_
  intro p e s m below meth c ls hx hb hr hlocks hml hown hts hno hl hA hE
  have hown : s.vm.findClass RX7 = some m.cls := hown
  have hl : lv_has ls 2 [(0, .int x), (1, .int n)] := hl
  refine lv_iload_n hx hb dX7_refuseUnknown_0 rfl (lv_at hl 0 rfl) ?_
  refine lv_if_lt (tgt := 9) hx hb dX7_refuseUnknown_1 (by decide) (fun c1 => ?_) (fun c1 => ?_)
  · obtain ⟨sa, hstr⟩ := hE.2.2.2.1
    exact vx_throwS (A := A) hx hb hnt hown fitB fitN (hts (.classLink RX7 216 "java/lang/IndexOutOfBoundsException") (List.mem_of_getElem? (i := 1) rfl)) (hts (.initialized "java/lang/IndexOutOfBoundsException") (List.mem_of_getElem? (i := 2) rfl)) hstr (hat_of hE (fun w h => hts w (List.mem_cons_of_mem _ (List.mem_append_right _ h))) envW_B) otB hE.1 hE.2.1 va_S.rf (by rw [hml]; exact hl.1) dX7_refuseUnknown_9 dX7_refuseUnknown_12 dX7_refuseUnknown_13 dX7_refuseUnknown_15 dX7_refuseUnknown_18 (fun x h9 => absurd h9 (hno x)) (by show (2 : Nat) + 3 < 6; decide) (Nat.le_of_ble_eq_true rfl) (Nat.le_of_ble_eq_true rfl) (Nat.le_of_ble_eq_true rfl) hlocks (fun t _ h1 h2 => xcT.mk ⟨Or.inl c1, rfl⟩ rfl h1 h2) (fun z h => nomatch h) (by decide) (by decide)
  · refine lv_iload_n hx hb dX7_refuseUnknown_4 rfl (lv_at hl 0 rfl) ?_
    refine lv_iload_n hx hb dX7_refuseUnknown_5 rfl (lv_at hl 1 rfl) ?_
    refine lv_icmp_lt (tgt := 19) hx hb dX7_refuseUnknown_6 (by decide) (fun c6 => ?_) (fun c6 => ?_)
    · refine W.widen (k := 1) (n := 6) (by decide) (by decide) (vx_ret ?_)
      exact W.vret hx hb hr (fun t ht hW => ⟨⟨(), rfl, fun h => h.elim c1 (fun h2 => Int32.not_le.mpr c6 h2), trivial⟩, by rw [ht]; exact Nat.le_refl _, fun q _ _ => by rw [ht]⟩) (fun _ h => absurd h List.not_mem_nil) dX7_refuseUnknown_19
    · obtain ⟨sa, hstr⟩ := hE.2.2.2.1
      exact vx_throwS (A := A) hx hb hnt hown fitB fitN (hts (.classLink RX7 216 "java/lang/IndexOutOfBoundsException") (List.mem_of_getElem? (i := 1) rfl)) (hts (.initialized "java/lang/IndexOutOfBoundsException") (List.mem_of_getElem? (i := 2) rfl)) hstr (hat_of hE (fun w h => hts w (List.mem_cons_of_mem _ (List.mem_append_right _ h))) envW_B) otB hE.1 hE.2.1 va_S.rf (by rw [hml]; exact hl.1) dX7_refuseUnknown_9 dX7_refuseUnknown_12 dX7_refuseUnknown_13 dX7_refuseUnknown_15 dX7_refuseUnknown_18 (fun x h9 => absurd h9 (hno x)) (by show (2 : Nat) + 3 < 6; decide) (Nat.le_of_ble_eq_true rfl) (Nat.le_of_ble_eq_true rfl) (Nat.le_of_ble_eq_true rfl) hlocks (fun t _ h1 h2 => xcT.mk ⟨Or.inr (i32_nlt c6), rfl⟩ rfl h1 h2) (fun z h => nomatch h) (by decide) (by decide)
set_option maxHeartbeats 4000000 in
set_option maxRecDepth 100000 in
theorem metX7_refuseFull (l : Launch) (hnt : l.stackTraces = false) {A : Nat → Prop} {tE mi : Nat} (x n : Int32) : vx_Met l yX7_refuseFull wsX7_refuseFull { frames := 6, cells := 1, slots := 6, locals := 82 } (pcE A tE mi [.int x, .int n]) (va_Qv (fun (_ : Unit) => ¬ n ≤ x) (fun _ _ => True) (fun _ => False)) (xcT (fun E => n ≤ x ∧ E = eIS)) 1 6 (fun _ => False) := by
  refine ofE (cc := cX7_refuseFull) (maxL := 2) (ret := none) (by decide) rfl (Nat.le_of_ble_eq_true rfl) ?_
  intro p e s m below meth c ls hx hb hr hlocks hml hown hts hno hl hA hE
  have hown : s.vm.findClass RX7 = some m.cls := hown
  have hl : lv_has ls 2 [(0, .int x), (1, .int n)] := hl
  refine lv_iload_n hx hb dX7_refuseFull_0 rfl (lv_at hl 0 rfl) ?_
  refine lv_iload_n hx hb dX7_refuseFull_1 rfl (lv_at hl 1 rfl) ?_
  refine lv_icmp_lt (tgt := 15) hx hb dX7_refuseFull_2 (by decide) (fun c2 => ?_) (fun c2 => ?_)
  · refine W.widen (k := 1) (n := 6) (by decide) (by decide) (vx_ret ?_)
    exact W.vret hx hb hr (fun t ht hW => ⟨⟨(), rfl, fun h => Int32.not_le.mpr c2 h, trivial⟩, by rw [ht]; exact Nat.le_refl _, fun q _ _ => by rw [ht]⟩) (fun _ h => absurd h List.not_mem_nil) dX7_refuseFull_15
  · obtain ⟨sa, hstr⟩ := hE.2.2.2.2.1
    exact vx_throwS (A := A) hx hb hnt hown fitS fitN (hts (.classLink RX7 221 "java/lang/IllegalStateException") (List.mem_of_getElem? (i := 1) rfl)) (hts (.initialized "java/lang/IllegalStateException") (List.mem_of_getElem? (i := 2) rfl)) hstr (hat_of hE (fun w h => hts w (List.mem_cons_of_mem _ (List.mem_append_right _ h))) envW_S) otS hE.1 hE.2.1 va_S.rf (by rw [hml]; exact hl.1) dX7_refuseFull_5 dX7_refuseFull_8 dX7_refuseFull_9 dX7_refuseFull_11 dX7_refuseFull_14 (fun x h9 => absurd h9 (hno x)) (by show (2 : Nat) + 3 < 6; decide) (Nat.le_of_ble_eq_true rfl) (Nat.le_of_ble_eq_true rfl) (Nat.le_of_ble_eq_true rfl) hlocks (fun t _ h1 h2 => xcT.mk ⟨i32_nlt c2, rfl⟩ rfl h1 h2) (fun z h => nomatch h) (by decide) (by decide)

