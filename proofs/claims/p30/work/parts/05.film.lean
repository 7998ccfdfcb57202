def fDep (dep : Nat → Int32) (x : Int32) : Int32 := if x < 0 then 0 else if 48 ≤ x then 0 else dep x.toNatClampNeg
def fCell (cel : Nat → Int32) (x : Int32) : Int32 := if x < 0 then -1 else if 20 ≤ x then -1 else cel x.toNatClampNeg
theorem vp_of {x : Int32} {n : Nat} {N : Int32} (h0 : ¬ x < 0) (h1 : ¬ N ≤ x) (hN : N.toInt = n := by decide) : vp_in x n := by
  refine vp_in_iff.mpr ⟨?_, ?_⟩
  · rw [Int32.lt_iff_toInt_lt] at h0
    exact Int.not_lt.mp h0
  · rw [Int32.le_iff_toInt_le] at h1
    omega
def fFar (a b : Int32) : Int32 := jabs (jrem a 8 - jrem b 8) + jabs (a / 8 - b / 8)
def fRep (a b : Int32) : Int32 := if fFar a b = 1 then 12 else if fFar a b = 2 then 6 else if fFar a b = 3 then 2 else 0
def fBes (x w : Int32) : Int32 := if w = 0 then (if x / 8 ≤ 0 then -1 else x - 8) else if w = 1 then (if 7 ≤ jrem x 8 then -1 else x + 1) else if w = 2 then (if 5 ≤ x / 8 then -1 else x + 8) else (if jrem x 8 ≤ 0 then -1 else x - 1)
def fHas (cel : Nat → Int32) (x : Int32) : Nat → Bool
  | 0 => false
  | k + 1 => fHas cel x k || decide (cel k = x)
theorem fHas_iff (cel : Nat → Int32) (x : Int32) : ∀ n, fHas cel x n = true ↔ ∃ k, k < n ∧ cel k = x
  | 0 => ⟨fun h => (nomatch h), fun ⟨_, h, _⟩ => absurd h (Nat.not_lt_zero _)⟩
  | n + 1 => by
    unfold fHas
    rw [Bool.or_eq_true, fHas_iff cel x n, decide_eq_true_eq]
    constructor
    · rintro (⟨k, h1, h2⟩ | h)
      · exact ⟨k, by omega, h2⟩
      · exact ⟨n, by omega, h⟩
    · rintro ⟨k, h1, h2⟩
      by_cases q : k = n
      · subst q; exact Or.inr h2
      · exact Or.inl ⟨k, by omega, h2⟩
def fFree (cel : Nat → Int32) (x : Int32) : Int32 := if fHas cel x 20 = true then 0 else 1
def fSum (cel : Nat → Int32) (w x : Int32) : Nat → Int32
  | 0 => 0
  | k + 1 => if nI k = w then fSum cel w x k else if cel k = -1 then fSum cel w x k else fSum cel w x k + fRep x (cel k)
def fEn (cel dep : Nat → Int32) (dr w x : Int32) : Int32 := fSum cel w x 20 - fDep dep x - dr * jrem x 8
def fLeave (dep : Nat → Int32) (dr he x : Int32) : Int32 := if dr = 0 then 0 else if jrem x 8 = (if dr ≤ 0 then 0 else 7) then (if jabs dr + he ≤ fDep dep x then 0 else 1) else 0
def fCb (cel dep : Nat → Int32) (dr w x own : Int32) : Nat → Int32 × Int32
  | 0 => (-1, own)
  | k + 1 => if fBes x (nI k) = -1 then fCb cel dep dr w x own k else if fFree cel (fBes x (nI k)) = 0 then fCb cel dep dr w x own k else if (fCb cel dep dr w x own k).2 ≤ fEn cel dep dr w (fBes x (nI k)) then fCb cel dep dr w x own k else (fBes x (nI k), fEn cel dep dr w (fBes x (nI k)))
def fCreep (cel dep : Nat → Int32) (dr he w x own : Int32) : Int32 := if dr = 0 then -1 else if fBes x (if dr ≤ 0 then 3 else 1) = -1 then -1 else if fFree cel (fBes x (if dr ≤ 0 then 3 else 1)) = 0 then -1 else if he < fEn cel dep dr w (fBes x (if dr ≤ 0 then 3 else 1)) - own then -1 else fBes x (if dr ≤ 0 then 3 else 1)
def fGoal (cel dep : Nat → Int32) (dr he w x : Int32) : Int32 := if (fCb cel dep dr w x (fEn cel dep dr w x) 4).1 = -1 then fCreep cel dep dr he w x (fEn cel dep dr w x) else (fCb cel dep dr w x (fEn cel dep dr w x) 4).1
def fCe (cel dep : Nat → Int32) (dr w : Int32) : Nat → Int32 × Int32
  | 0 => (-1, 0)
  | k + 1 => if fFree cel (nI k * 8) = 0 then fCe cel dep dr w k else if (fCe cel dep dr w k).1 = -1 then (nI k * 8, fEn cel dep dr w (nI k * 8)) else if (fCe cel dep dr w k).2 ≤ fEn cel dep dr w (nI k * 8) then fCe cel dep dr w k else (nI k * 8, fEn cel dep dr w (nI k * 8))
def fStep (cel dep : Nat → Int32) (dr he : Int32) : Nat → (Nat → Int32) × Int32
  | 0 => (cel, 0)
  | k + 1 => if (fStep cel dep dr he k).1 k = -1 then fStep cel dep dr he k else if fLeave dep dr he ((fStep cel dep dr he k).1 k) = 0 then (if fGoal (fStep cel dep dr he k).1 dep dr he (nI k) ((fStep cel dep dr he k).1 k) = -1 then fStep cel dep dr he k else (upd (fStep cel dep dr he k).1 k (fGoal (fStep cel dep dr he k).1 dep dr he (nI k) ((fStep cel dep dr he k).1 k)), (fStep cel dep dr he k).2 + 1)) else (upd (fStep cel dep dr he k).1 k (-1), (fStep cel dep dr he k).2 + 1)
theorem va_self {ws : va_W} {k : Nat} {x : Nat × va_E} (h : ws[k]? = some x) : ws.set k x = ws := by
  obtain ⟨hl, he⟩ := List.getElem?_eq_some_iff.mp h
  rw [← he]
  exact List.set_getElem_self hl
set_option maxHeartbeats 4000000 in
set_option maxRecDepth 100000 in
theorem metX3_depthOf (l : Launch) (G : va_G) (tys : List (ClassId × FieldType)) (cI : ClassId) (htI : tI tys cI) (ws : va_W) {pf pd pk af ad ac : Nat} {en dr he : Int32} {dep cel : Nat → Int32} (hf : ws[pf]? = some (af, .inr (4, [.ref ad, .ref ac, .int en, .int dr, .int he]))) (hd : ws[pd]? = some (ad, .inl (cI, 48, .inl dep))) (hk : ws[pk]? = some (ac, .inl (cI, 20, .inl cel))) (x : Int32) : Met l yX3_depthOf wsX3_depthOf ({ frames := 0, cells := 0, slots := 0, locals := 0 }) (pcR G tys ws [.ref af, .int x]) (vp_Si (fun r => r = fDep dep x)) 0 0 (fun _ => False) := by
  refine ofR (cc := cX3_depthOf) (maxL := 2) (ret := some .int) (by decide) rfl (Nat.le_of_ble_eq_true rfl) ?_
  intro p e s m below meth c ls hx hb hr hlocks hml hown hts hl hP hK
  have hown : s.vm.findClass RX3 = some m.cls := hown
  have hiX3 : ∀ w ∈ u_ws RX3 TX3 5, w ∈ wsX3_depthOf := fun _ h => List.mem_cons_of_mem _ (List.mem_append_right _ h)
  have hl : lv_has ls 2 [(0, .ref af), (1, .int x)] := hl
  refine lv_iload_n hx hb dX3_depthOf_0 rfl (lv_at hl 1 rfl) ?_
  refine lv_if_lt (tgt := 22) hx hb dX3_depthOf_1 (by decide) (fun c1 => ?_) (fun c1 => ?_)
  · refine lv_iconst (v := 0) hx hb dX3_depthOf_22 (by decide) ?_
    exact W.iret (v := (0 : Int32)) hx hb hr (fun t ht hW => ⟨(0 : Int32), rfl, (by simp only [fDep, c1, ↓reduceIte, not_true_eq_false, not_false_eq_true]), ht⟩) (fun _ h => absurd h List.not_mem_nil) dX3_depthOf_23
  · refine lv_iload_n hx hb dX3_depthOf_4 rfl (lv_at hl 1 rfl) ?_
    refine lv_aload_n hx hb dX3_depthOf_5 rfl (lv_at hl 0 rfl) ?_
    refine va_get (D := G) (ci := 4) (v := .ref ad) (C := RX3) (T := TX3) (N := 5) hx hb hts hiX3 hown hK hP pf hf rfl 0 (by decide) (hts (.fieldLink RX3 11 "Vortexpin$Film" "depths" "[I") (List.mem_of_getElem? (i := 1) rfl)) (fun _ h9 => h9) rfl dX3_depthOf_6 ?_
    refine va_alen hx hb hK hP pd 0 hd htI (v := (48 : Int32)) rfl dX3_depthOf_9 ?_
    refine lv_icmp_ge (tgt := 22) hx hb dX3_depthOf_10 (by decide) (fun c10 => ?_) (fun c10 => ?_)
    · refine lv_iconst (v := 0) hx hb dX3_depthOf_22 (by decide) ?_
      exact W.iret (v := (0 : Int32)) hx hb hr (fun t ht hW => ⟨(0 : Int32), rfl, (by simp only [fDep, c1, c10, ↓reduceIte, not_true_eq_false, not_false_eq_true]), ht⟩) (fun _ h => absurd h List.not_mem_nil) dX3_depthOf_23
    · refine lv_aload_n hx hb dX3_depthOf_13 rfl (lv_at hl 0 rfl) ?_
      refine va_get (D := G) (ci := 4) (v := .ref ad) (C := RX3) (T := TX3) (N := 5) hx hb hts hiX3 hown hK hP pf hf rfl 0 (by decide) (hts (.fieldLink RX3 11 "Vortexpin$Film" "depths" "[I") (List.mem_of_getElem? (i := 1) rfl)) (fun _ h9 => h9) rfl dX3_depthOf_14 ?_
      refine lv_iload_n hx hb dX3_depthOf_17 rfl (lv_at hl 1 rfl) ?_
      refine va_iald hx hb hK hP pd 0 hd htI (vp_of c1 c10) dX3_depthOf_18 ?_
      refine lv_goto (tgt := 23) hx hb dX3_depthOf_19 (by decide) ?_
      exact W.iret (v := dep x.toNatClampNeg) hx hb hr (fun t ht hW => ⟨dep x.toNatClampNeg, rfl, (by simp only [fDep, c1, c10, ↓reduceIte, not_true_eq_false, not_false_eq_true]), ht⟩) (fun _ h => absurd h List.not_mem_nil) dX3_depthOf_23
set_option maxHeartbeats 4000000 in
set_option maxRecDepth 100000 in
theorem metX3_cellOf (l : Launch) (G : va_G) (tys : List (ClassId × FieldType)) (cI : ClassId) (htI : tI tys cI) (ws : va_W) {pf pd pk af ad ac : Nat} {en dr he : Int32} {dep cel : Nat → Int32} (hf : ws[pf]? = some (af, .inr (4, [.ref ad, .ref ac, .int en, .int dr, .int he]))) (hd : ws[pd]? = some (ad, .inl (cI, 48, .inl dep))) (hk : ws[pk]? = some (ac, .inl (cI, 20, .inl cel))) (x : Int32) : Met l yX3_cellOf wsX3_cellOf ({ frames := 0, cells := 0, slots := 0, locals := 0 }) (pcR G tys ws [.ref af, .int x]) (vp_Si (fun r => r = fCell cel x)) 0 0 (fun _ => False) := by
  refine ofR (cc := cX3_cellOf) (maxL := 2) (ret := some .int) (by decide) rfl (Nat.le_of_ble_eq_true rfl) ?_
  intro p e s m below meth c ls hx hb hr hlocks hml hown hts hl hP hK
  have hown : s.vm.findClass RX3 = some m.cls := hown
  have hiX3 : ∀ w ∈ u_ws RX3 TX3 5, w ∈ wsX3_cellOf := fun _ h => List.mem_cons_of_mem _ (List.mem_append_right _ h)
  have hl : lv_has ls 2 [(0, .ref af), (1, .int x)] := hl
  refine lv_iload_n hx hb dX3_cellOf_0 rfl (lv_at hl 1 rfl) ?_
  refine lv_if_lt (tgt := 22) hx hb dX3_cellOf_1 (by decide) (fun c1 => ?_) (fun c1 => ?_)
  · refine lv_iconst (v := -1) hx hb dX3_cellOf_22 (by decide) ?_
    exact W.iret (v := (-1 : Int32)) hx hb hr (fun t ht hW => ⟨(-1 : Int32), rfl, (by simp only [fCell, c1, ↓reduceIte, not_true_eq_false, not_false_eq_true]), ht⟩) (fun _ h => absurd h List.not_mem_nil) dX3_cellOf_23
  · refine lv_iload_n hx hb dX3_cellOf_4 rfl (lv_at hl 1 rfl) ?_
    refine lv_aload_n hx hb dX3_cellOf_5 rfl (lv_at hl 0 rfl) ?_
    refine va_get (D := G) (ci := 4) (v := .ref ac) (C := RX3) (T := TX3) (N := 5) hx hb hts hiX3 hown hK hP pf hf rfl 1 (by decide) (hts (.fieldLink RX3 15 "Vortexpin$Film" "cells" "[I") (List.mem_of_getElem? (i := 1) rfl)) (fun _ h9 => h9) rfl dX3_cellOf_6 ?_
    refine va_alen hx hb hK hP pk 0 hk htI (v := (20 : Int32)) rfl dX3_cellOf_9 ?_
    refine lv_icmp_ge (tgt := 22) hx hb dX3_cellOf_10 (by decide) (fun c10 => ?_) (fun c10 => ?_)
    · refine lv_iconst (v := -1) hx hb dX3_cellOf_22 (by decide) ?_
      exact W.iret (v := (-1 : Int32)) hx hb hr (fun t ht hW => ⟨(-1 : Int32), rfl, (by simp only [fCell, c1, c10, ↓reduceIte, not_true_eq_false, not_false_eq_true]), ht⟩) (fun _ h => absurd h List.not_mem_nil) dX3_cellOf_23
    · refine lv_aload_n hx hb dX3_cellOf_13 rfl (lv_at hl 0 rfl) ?_
      refine va_get (D := G) (ci := 4) (v := .ref ac) (C := RX3) (T := TX3) (N := 5) hx hb hts hiX3 hown hK hP pf hf rfl 1 (by decide) (hts (.fieldLink RX3 15 "Vortexpin$Film" "cells" "[I") (List.mem_of_getElem? (i := 1) rfl)) (fun _ h9 => h9) rfl dX3_cellOf_14 ?_
      refine lv_iload_n hx hb dX3_cellOf_17 rfl (lv_at hl 1 rfl) ?_
      refine va_iald hx hb hK hP pk 0 hk htI (vp_of c1 c10) dX3_cellOf_18 ?_
      refine lv_goto (tgt := 23) hx hb dX3_cellOf_19 (by decide) ?_
      exact W.iret (v := cel x.toNatClampNeg) hx hb hr (fun t ht hW => ⟨cel x.toNatClampNeg, rfl, (by simp only [fCell, c1, c10, ↓reduceIte, not_true_eq_false, not_false_eq_true]), ht⟩) (fun _ h => absurd h List.not_mem_nil) dX3_cellOf_23
set_option maxHeartbeats 4000000 in
set_option maxRecDepth 100000 in
theorem metX3_repulsion (l : Launch) (a b : Int32) : Met l yX3_repulsion wsX3_repulsion ({ frames := 1, cells := 0, slots := 0, locals := 21 }) (pc0 [.int a, .int b]) (vp_Si (fun r => r = fRep a b)) 0 0 (fun _ => False) := by
  refine of0 (cc := cX3_repulsion) (maxL := 4) (ret := some .int) (by decide) rfl (Nat.le_of_ble_eq_true rfl) ?_
  intro p e s m below meth c ls hx hb hr hlocks hml hown hts hl
  have hown : s.vm.findClass RX3 = some m.cls := hown
  have hl : lv_has ls 4 [(0, .int a), (1, .int b)] := hl
  refine lv_iload_n hx hb dX3_repulsion_0 rfl (lv_at hl 0 rfl) ?_
  refine lv_bipush (v := 8) hx hb dX3_repulsion_1 (by decide) ?_
  refine lv_irem hx hb dX3_repulsion_3 (by decide) ?_
  refine fold_rem ?_
  refine lv_iload_n hx hb dX3_repulsion_4 rfl (lv_at hl 1 rfl) ?_
  refine lv_bipush (v := 8) hx hb dX3_repulsion_5 (by decide) ?_
  refine lv_irem hx hb dX3_repulsion_7 (by decide) ?_
  refine fold_rem ?_
  refine lv_isub hx hb dX3_repulsion_8 ?_
  refine va_mabs hx hb (hml.trans hl.1.symm) hown (hts (.methodLink RX3 34 Lib.Math.abs.name) (List.mem_of_getElem? (i := 1) rfl)) (hts (.static Lib.Math.abs.name) (List.mem_of_getElem? (i := 2) rfl)) (hts (.initialized "java/lang/Math") (List.mem_of_getElem? (i := 3) rfl)) (hts (.code Lib.Math.abs.name Lib.Math.abs.code 1 (some .int)) (List.mem_of_getElem? (i := 4) rfl)) (Nat.le_of_ble_eq_true rfl) (Nat.le_of_ble_eq_true rfl) (Nat.le_of_ble_eq_true rfl) (Nat.le_of_ble_eq_true rfl) dX3_repulsion_9 ?_
  refine fold_abs ?_
  refine lv_istore_n (lv' := [(2, .int (jabs ((jrem a (8 : Int32)) - (jrem b (8 : Int32))))), (0, .int a), (1, .int b)]) hx hb dX3_repulsion_12 rfl hl (by decide) rfl (fun ls hl => ?_)
  refine lv_iload_n hx hb dX3_repulsion_13 rfl (lv_at hl 1 rfl) ?_
  refine lv_bipush (v := 8) hx hb dX3_repulsion_14 (by decide) ?_
  refine lv_idiv hx hb dX3_repulsion_16 (by decide) ?_
  refine lv_iload_n hx hb dX3_repulsion_17 rfl (lv_at hl 2 rfl) ?_
  refine lv_bipush (v := 8) hx hb dX3_repulsion_18 (by decide) ?_
  refine lv_idiv hx hb dX3_repulsion_20 (by decide) ?_
  refine lv_isub hx hb dX3_repulsion_21 ?_
  refine va_mabs hx hb (hml.trans hl.1.symm) hown (hts (.methodLink RX3 34 Lib.Math.abs.name) (List.mem_of_getElem? (i := 1) rfl)) (hts (.static Lib.Math.abs.name) (List.mem_of_getElem? (i := 2) rfl)) (hts (.initialized "java/lang/Math") (List.mem_of_getElem? (i := 3) rfl)) (hts (.code Lib.Math.abs.name Lib.Math.abs.code 1 (some .int)) (List.mem_of_getElem? (i := 4) rfl)) (Nat.le_of_ble_eq_true rfl) (Nat.le_of_ble_eq_true rfl) (Nat.le_of_ble_eq_true rfl) (Nat.le_of_ble_eq_true rfl) dX3_repulsion_22 ?_
  refine fold_abs ?_
  refine lv_istore_n (lv' := [(3, .int (jabs ((a / (8 : Int32)) - (b / (8 : Int32))))), (2, .int (jabs ((jrem a (8 : Int32)) - (jrem b (8 : Int32))))), (0, .int a), (1, .int b)]) hx hb dX3_repulsion_25 rfl hl (by decide) rfl (fun ls hl => ?_)
  refine lv_iload_n hx hb dX3_repulsion_26 rfl (lv_at hl 1 rfl) ?_
  refine lv_iload_n hx hb dX3_repulsion_27 rfl (lv_at hl 0 rfl) ?_
  refine lv_iadd hx hb dX3_repulsion_28 ?_
  by_cases c29_0 : (jabs ((jrem a (8 : Int32)) - (jrem b (8 : Int32)))) + (jabs ((a / (8 : Int32)) - (b / (8 : Int32)))) = (1 : Int32)
  · refine lv_tableIn (tgt := 56) hx hb dX3_repulsion_29 (by rw [c29_0]; decide) (by rw [c29_0]; decide) (by rw [c29_0]; rfl) (by decide) ?_
    refine lv_bipush (v := 12) hx hb dX3_repulsion_56 (by decide) ?_
    exact W.iret (v := (12 : Int32)) hx hb hr (fun t ht hW => ⟨(12 : Int32), rfl, (by simp only [fRep, fFar, (eq_true c29_0), ↓reduceIte, not_true_eq_false, not_false_eq_true]), ht⟩) (fun _ h => absurd h List.not_mem_nil) dX3_repulsion_58
  by_cases c29_1 : (jabs ((jrem a (8 : Int32)) - (jrem b (8 : Int32)))) + (jabs ((a / (8 : Int32)) - (b / (8 : Int32)))) = (2 : Int32)
  · refine lv_tableIn (tgt := 59) hx hb dX3_repulsion_29 (by rw [c29_1]; decide) (by rw [c29_1]; decide) (by rw [c29_1]; rfl) (by decide) ?_
    refine lv_bipush (v := 6) hx hb dX3_repulsion_59 (by decide) ?_
    exact W.iret (v := (6 : Int32)) hx hb hr (fun t ht hW => ⟨(6 : Int32), rfl, (by simp only [fRep, fFar, c29_0, (eq_true c29_1), ↓reduceIte, not_true_eq_false, not_false_eq_true]), ht⟩) (fun _ h => absurd h List.not_mem_nil) dX3_repulsion_61
  by_cases c29_2 : (jabs ((jrem a (8 : Int32)) - (jrem b (8 : Int32)))) + (jabs ((a / (8 : Int32)) - (b / (8 : Int32)))) = (3 : Int32)
  · refine lv_tableIn (tgt := 62) hx hb dX3_repulsion_29 (by rw [c29_2]; decide) (by rw [c29_2]; decide) (by rw [c29_2]; rfl) (by decide) ?_
    refine lv_iconst (v := 2) hx hb dX3_repulsion_62 (by decide) ?_
    exact W.iret (v := (2 : Int32)) hx hb hr (fun t ht hW => ⟨(2 : Int32), rfl, (by simp only [fRep, fFar, c29_0, c29_1, (eq_true c29_2), ↓reduceIte, not_true_eq_false, not_false_eq_true]), ht⟩) (fun _ h => absurd h List.not_mem_nil) dX3_repulsion_63
  have tc29_0 : ¬ ((jabs ((jrem a (8 : Int32)) - (jrem b (8 : Int32)))) + (jabs ((a / (8 : Int32)) - (b / (8 : Int32))))).toInt = 1 := fun q => c29_0 (Int32.toInt_inj.mp (q.trans (by decide : (1 : Int) = (1 : Int32).toInt)))
  have tc29_1 : ¬ ((jabs ((jrem a (8 : Int32)) - (jrem b (8 : Int32)))) + (jabs ((a / (8 : Int32)) - (b / (8 : Int32))))).toInt = 2 := fun q => c29_1 (Int32.toInt_inj.mp (q.trans (by decide : (2 : Int) = (2 : Int32).toInt)))
  have tc29_2 : ¬ ((jabs ((jrem a (8 : Int32)) - (jrem b (8 : Int32)))) + (jabs ((a / (8 : Int32)) - (b / (8 : Int32))))).toInt = 3 := fun q => c29_2 (Int32.toInt_inj.mp (q.trans (by decide : (3 : Int) = (3 : Int32).toInt)))
  refine lv_tableOut (tgt := 64) hx hb dX3_repulsion_29 (by omega) (by decide) ?_
  refine lv_iconst (v := 0) hx hb dX3_repulsion_64 (by decide) ?_
  exact W.iret (v := (0 : Int32)) hx hb hr (fun t ht hW => ⟨(0 : Int32), rfl, (by simp only [fRep, fFar, c29_0, c29_1, c29_2, ↓reduceIte, not_true_eq_false, not_false_eq_true]), ht⟩) (fun _ h => absurd h List.not_mem_nil) dX3_repulsion_65
set_option maxHeartbeats 4000000 in
set_option maxRecDepth 100000 in
theorem metX3_beside (l : Launch) (x w : Int32) : Met l yX3_beside wsX3_beside ({ frames := 0, cells := 0, slots := 0, locals := 0 }) (pc0 [.int x, .int w]) (vp_Si (fun r => r = fBes x w)) 0 0 (fun _ => False) := by
  refine of0 (cc := cX3_beside) (maxL := 4) (ret := some .int) (by decide) rfl (Nat.le_of_ble_eq_true rfl) ?_
  intro p e s m below meth c ls hx hb hr hlocks hml hown hts hl
  have hown : s.vm.findClass RX3 = some m.cls := hown
  have hl : lv_has ls 4 [(0, .int x), (1, .int w)] := hl
  refine lv_iload_n hx hb dX3_beside_0 rfl (lv_at hl 0 rfl) ?_
  refine lv_bipush (v := 8) hx hb dX3_beside_1 (by decide) ?_
  refine lv_irem hx hb dX3_beside_3 (by decide) ?_
  refine fold_rem ?_
  refine lv_istore_n (lv' := [(2, .int (jrem x (8 : Int32))), (0, .int x), (1, .int w)]) hx hb dX3_beside_4 rfl hl (by decide) rfl (fun ls hl => ?_)
  refine lv_iload_n hx hb dX3_beside_5 rfl (lv_at hl 1 rfl) ?_
  refine lv_bipush (v := 8) hx hb dX3_beside_6 (by decide) ?_
  refine lv_idiv hx hb dX3_beside_8 (by decide) ?_
  refine lv_istore_n (lv' := [(3, .int (x / (8 : Int32))), (2, .int (jrem x (8 : Int32))), (0, .int x), (1, .int w)]) hx hb dX3_beside_9 rfl hl (by decide) rfl (fun ls hl => ?_)
  refine lv_iload_n hx hb dX3_beside_10 rfl (lv_at hl 3 rfl) ?_
  by_cases c11_0 : w = (0 : Int32)
  · refine lv_tableIn (tgt := 36) hx hb dX3_beside_11 (by rw [c11_0]; decide) (by rw [c11_0]; decide) (by rw [c11_0]; rfl) (by decide) ?_
    refine lv_iload_n hx hb dX3_beside_36 rfl (lv_at hl 0 rfl) ?_
    refine lv_if_le (tgt := 47) hx hb dX3_beside_37 (by decide) (fun c37 => ?_) (fun c37 => ?_)
    · refine lv_iconst (v := -1) hx hb dX3_beside_47 (by decide) ?_
      exact W.iret (v := (-1 : Int32)) hx hb hr (fun t ht hW => ⟨(-1 : Int32), rfl, (by simp only [fBes, (eq_true c11_0), c37, ↓reduceIte, not_true_eq_false, not_false_eq_true]), ht⟩) (fun _ h => absurd h List.not_mem_nil) dX3_beside_48
    · refine lv_iload_n hx hb dX3_beside_40 rfl (lv_at hl 2 rfl) ?_
      refine lv_bipush (v := 8) hx hb dX3_beside_41 (by decide) ?_
      refine lv_isub hx hb dX3_beside_43 ?_
      refine lv_goto (tgt := 48) hx hb dX3_beside_44 (by decide) ?_
      exact W.iret (v := x - (8 : Int32)) hx hb hr (fun t ht hW => ⟨x - (8 : Int32), rfl, (by simp only [fBes, (eq_true c11_0), c37, ↓reduceIte, not_true_eq_false, not_false_eq_true]), ht⟩) (fun _ h => absurd h List.not_mem_nil) dX3_beside_48
  by_cases c11_1 : w = (1 : Int32)
  · refine lv_tableIn (tgt := 49) hx hb dX3_beside_11 (by rw [c11_1]; decide) (by rw [c11_1]; decide) (by rw [c11_1]; rfl) (by decide) ?_
    refine lv_iload_n hx hb dX3_beside_49 rfl (lv_at hl 1 rfl) ?_
    refine lv_bipush (v := 7) hx hb dX3_beside_50 (by decide) ?_
    refine lv_icmp_ge (tgt := 61) hx hb dX3_beside_52 (by decide) (fun c52 => ?_) (fun c52 => ?_)
    · refine lv_iconst (v := -1) hx hb dX3_beside_61 (by decide) ?_
      exact W.iret (v := (-1 : Int32)) hx hb hr (fun t ht hW => ⟨(-1 : Int32), rfl, (by simp only [fBes, c11_0, (eq_true c11_1), c52, ↓reduceIte, not_true_eq_false, not_false_eq_true]), ht⟩) (fun _ h => absurd h List.not_mem_nil) dX3_beside_62
    · refine lv_iload_n hx hb dX3_beside_55 rfl (lv_at hl 2 rfl) ?_
      refine lv_iconst (v := 1) hx hb dX3_beside_56 (by decide) ?_
      refine lv_iadd hx hb dX3_beside_57 ?_
      refine lv_goto (tgt := 62) hx hb dX3_beside_58 (by decide) ?_
      exact W.iret (v := x + (1 : Int32)) hx hb hr (fun t ht hW => ⟨x + (1 : Int32), rfl, (by simp only [fBes, c11_0, (eq_true c11_1), c52, ↓reduceIte, not_true_eq_false, not_false_eq_true]), ht⟩) (fun _ h => absurd h List.not_mem_nil) dX3_beside_62
  by_cases c11_2 : w = (2 : Int32)
  · refine lv_tableIn (tgt := 63) hx hb dX3_beside_11 (by rw [c11_2]; decide) (by rw [c11_2]; decide) (by rw [c11_2]; rfl) (by decide) ?_
    refine lv_iload_n hx hb dX3_beside_63 rfl (lv_at hl 0 rfl) ?_
    refine lv_iconst (v := 5) hx hb dX3_beside_64 (by decide) ?_
    refine lv_icmp_ge (tgt := 75) hx hb dX3_beside_65 (by decide) (fun c65 => ?_) (fun c65 => ?_)
    · refine lv_iconst (v := -1) hx hb dX3_beside_75 (by decide) ?_
      exact W.iret (v := (-1 : Int32)) hx hb hr (fun t ht hW => ⟨(-1 : Int32), rfl, (by simp only [fBes, c11_0, c11_1, (eq_true c11_2), c65, ↓reduceIte, not_true_eq_false, not_false_eq_true]), ht⟩) (fun _ h => absurd h List.not_mem_nil) dX3_beside_76
    · refine lv_iload_n hx hb dX3_beside_68 rfl (lv_at hl 2 rfl) ?_
      refine lv_bipush (v := 8) hx hb dX3_beside_69 (by decide) ?_
      refine lv_iadd hx hb dX3_beside_71 ?_
      refine lv_goto (tgt := 76) hx hb dX3_beside_72 (by decide) ?_
      exact W.iret (v := x + (8 : Int32)) hx hb hr (fun t ht hW => ⟨x + (8 : Int32), rfl, (by simp only [fBes, c11_0, c11_1, (eq_true c11_2), c65, ↓reduceIte, not_true_eq_false, not_false_eq_true]), ht⟩) (fun _ h => absurd h List.not_mem_nil) dX3_beside_76
  have tc11_0 : ¬ w.toInt = 0 := fun q => c11_0 (Int32.toInt_inj.mp (q.trans (by decide : (0 : Int) = (0 : Int32).toInt)))
  have tc11_1 : ¬ w.toInt = 1 := fun q => c11_1 (Int32.toInt_inj.mp (q.trans (by decide : (1 : Int) = (1 : Int32).toInt)))
  have tc11_2 : ¬ w.toInt = 2 := fun q => c11_2 (Int32.toInt_inj.mp (q.trans (by decide : (2 : Int) = (2 : Int32).toInt)))
  refine lv_tableOut (tgt := 77) hx hb dX3_beside_11 (by omega) (by decide) ?_
  refine lv_iload_n hx hb dX3_beside_77 rfl (lv_at hl 1 rfl) ?_
  refine lv_if_le (tgt := 87) hx hb dX3_beside_78 (by decide) (fun c78 => ?_) (fun c78 => ?_)
  · refine lv_iconst (v := -1) hx hb dX3_beside_87 (by decide) ?_
    exact W.iret (v := (-1 : Int32)) hx hb hr (fun t ht hW => ⟨(-1 : Int32), rfl, (by simp only [fBes, c11_0, c11_1, c11_2, c78, ↓reduceIte, not_true_eq_false, not_false_eq_true]), ht⟩) (fun _ h => absurd h List.not_mem_nil) dX3_beside_88
  · refine lv_iload_n hx hb dX3_beside_81 rfl (lv_at hl 2 rfl) ?_
    refine lv_iconst (v := 1) hx hb dX3_beside_82 (by decide) ?_
    refine lv_isub hx hb dX3_beside_83 ?_
    refine lv_goto (tgt := 88) hx hb dX3_beside_84 (by decide) ?_
    exact W.iret (v := x - (1 : Int32)) hx hb hr (fun t ht hW => ⟨x - (1 : Int32), rfl, (by simp only [fBes, c11_0, c11_1, c11_2, c78, ↓reduceIte, not_true_eq_false, not_false_eq_true]), ht⟩) (fun _ h => absurd h List.not_mem_nil) dX3_beside_88
set_option maxHeartbeats 4000000 in
set_option maxRecDepth 100000 in
theorem metX3_isFree (l : Launch) (G : va_G) (tys : List (ClassId × FieldType)) (cI : ClassId) (htI : tI tys cI) (ws : va_W) {pf pd pk af ad ac : Nat} {en dr he : Int32} {dep cel : Nat → Int32} (hf : ws[pf]? = some (af, .inr (4, [.ref ad, .ref ac, .int en, .int dr, .int he]))) (hd : ws[pd]? = some (ad, .inl (cI, 48, .inl dep))) (hk : ws[pk]? = some (ac, .inl (cI, 20, .inl cel))) (x : Int32) : Met l yX3_isFree wsX3_isFree ({ frames := 0, cells := 0, slots := 0, locals := 0 }) (pcR G tys ws [.ref af, .int x]) (vp_Si (fun r => r = fFree cel x)) 0 0 (fun _ => False) := by
  refine ofR (cc := cX3_isFree) (maxL := 3) (ret := some .boolean) (by decide) rfl (Nat.le_of_ble_eq_true rfl) ?_
  intro p e s m below meth c ls hx hb hr hlocks hml hown hts hl hP hK
  have hown : s.vm.findClass RX3 = some m.cls := hown
  have hiX3 : ∀ w ∈ u_ws RX3 TX3 5, w ∈ wsX3_isFree := fun _ h => List.mem_cons_of_mem _ (List.mem_append_right _ h)
  have hl : lv_has ls 3 [(0, .ref af), (1, .int x)] := hl
  refine lv_iconst (v := 0) hx hb dX3_isFree_0 (by decide) ?_
  refine lv_istore_n (lv' := [(2, .int (0 : Int32)), (0, .ref af), (1, .int x)]) hx hb dX3_isFree_1 rfl hl (by decide) rfl (fun ls hl => ?_)
  refine loopR 20 2 3 (fun i => [(0, .ref af), (1, .int x), (2, .int (nI i))]) (fun i => fHas cel x i = false) (fun i hNi hKi ihi ls hl => ?_) (i0 := 0) (by omega) (rfl) (lv_sub hl [1, 2, 0] rfl)
  have hl : lv_has ls 3 [(0, .ref af), (1, .int x), (2, .int (nI i))] := hl
  refine lv_iload_n hx hb dX3_isFree_2 rfl (lv_at hl 2 rfl) ?_
  refine lv_aload_n hx hb dX3_isFree_3 rfl (lv_at hl 0 rfl) ?_
  refine va_get (D := G) (ci := 4) (v := .ref ac) (C := RX3) (T := TX3) (N := 5) hx hb hts hiX3 hown hK hP pf hf rfl 1 (by decide) (hts (.fieldLink RX3 15 "Vortexpin$Film" "cells" "[I") (List.mem_of_getElem? (i := 1) rfl)) (fun _ h9 => h9) rfl dX3_isFree_4 ?_
  refine va_alen hx hb hK hP pk 0 hk htI (v := (20 : Int32)) rfl dX3_isFree_7 ?_
  refine lv_icmp_ge (tgt := 29) hx hb dX3_isFree_8 (by decide) (fun c8 => ?_) (fun c8 => ?_)
  · have heqi : i = 20 := Nat.le_antisymm hNi ((nI_leI (by omega) (by omega)).mp c8)
    refine lv_iconst (v := 1) hx hb dX3_isFree_29 (by decide) ?_
    exact W.zret (v := (1 : Int32)) hx hb hr (rfl) (fun t ht hW => ⟨(1 : Int32), rfl, (by unfold fFree; subst heqi; rw [hKi]; rfl), ht⟩) (fun _ h => absurd h List.not_mem_nil) dX3_isFree_30
  · have hlti : i < 20 := Nat.lt_of_not_le (mt (nI_leI (by omega) (by omega)).mpr c8)
    refine lv_aload_n hx hb dX3_isFree_11 rfl (lv_at hl 0 rfl) ?_
    refine va_get (D := G) (ci := 4) (v := .ref ac) (C := RX3) (T := TX3) (N := 5) hx hb hts hiX3 hown hK hP pf hf rfl 1 (by decide) (hts (.fieldLink RX3 15 "Vortexpin$Film" "cells" "[I") (List.mem_of_getElem? (i := 1) rfl)) (fun _ h9 => h9) rfl dX3_isFree_12 ?_
    refine lv_iload_n hx hb dX3_isFree_15 rfl (lv_at hl 2 rfl) ?_
    refine va_iald hx hb hK hP pk 0 hk htI (by first | exact vp_in_nI (by omega) (by omega) | assumption) dX3_isFree_16 ?_
    refine rd_i (j := i) (nI_clamp (by omega)) ?_
    refine lv_iload_n hx hb dX3_isFree_17 rfl (lv_at hl 1 rfl) ?_
    refine lv_icmp_ne (tgt := 23) hx hb dX3_isFree_18 (by decide) (fun c18 => ?_) (fun c18 => ?_)
    · refine lv_iinc (v := nI (i + 1)) (lv' := [(2, .int (nI (i + 1))), (0, .ref af), (1, .int x)]) hx hb dX3_isFree_23 hl (k := 2) rfl (nI_1 i) (by decide) rfl (fun ls hl => ?_)
      refine lv_goto (tgt := 2) hx hb dX3_isFree_26 (by decide) ?_
      exact ihi ls hlti (by simp only [fHas, hKi, c18, decide_false, Bool.or_false]) (lv_sub hl [1, 2, 0] rfl)
    · refine lv_iconst (v := 0) hx hb dX3_isFree_21 (by decide) ?_
      exact W.zret (v := (0 : Int32)) hx hb hr (rfl) (fun t ht hW => ⟨(0 : Int32), rfl, (by unfold fFree; rw [if_pos ((fHas_iff cel x 20).mpr ⟨i, hlti, c18⟩)]), ht⟩) (fun _ h => absurd h List.not_mem_nil) dX3_isFree_22
set_option maxHeartbeats 4000000 in
set_option maxRecDepth 100000 in
theorem metX3_energyAt (l : Launch) (G : va_G) (tys : List (ClassId × FieldType)) (cI : ClassId) (htI : tI tys cI) (ws : va_W) {pf pd pk af ad ac : Nat} {en dr he : Int32} {dep cel : Nat → Int32} (hf : ws[pf]? = some (af, .inr (4, [.ref ad, .ref ac, .int en, .int dr, .int he]))) (hd : ws[pd]? = some (ad, .inl (cI, 48, .inl dep))) (hk : ws[pk]? = some (ac, .inl (cI, 20, .inl cel))) (w x : Int32) : Met l yX3_energyAt wsX3_energyAt ({ frames := 2, cells := 0, slots := 0, locals := 44 }) (pcR G tys ws [.ref af, .int w, .int x]) (vp_Si (fun r => r = fEn cel dep dr w x)) 0 0 (fun _ => False) := by
  refine ofR (cc := cX3_energyAt) (maxL := 5) (ret := some .int) (by decide) rfl (Nat.le_of_ble_eq_true rfl) ?_
  intro p e s m below meth c ls hx hb hr hlocks hml hown hts hl hP hK
  have hown : s.vm.findClass RX3 = some m.cls := hown
  have hiX3 : ∀ w ∈ u_ws RX3 TX3 5, w ∈ wsX3_energyAt := fun _ h => List.mem_cons_of_mem _ (List.mem_append_right _ h)
  have hl : lv_has ls 5 [(0, .ref af), (1, .int w), (2, .int x)] := hl
  refine lv_iconst (v := 0) hx hb dX3_energyAt_0 (by decide) ?_
  refine lv_istore_n (lv' := [(3, .int (0 : Int32)), (0, .ref af), (1, .int w), (2, .int x)]) hx hb dX3_energyAt_1 rfl hl (by decide) rfl (fun ls hl => ?_)
  refine lv_iconst (v := 0) hx hb dX3_energyAt_2 (by decide) ?_
  refine lv_istore (lv' := [(4, .int (0 : Int32)), (3, .int (0 : Int32)), (0, .ref af), (1, .int w), (2, .int x)]) hx hb dX3_energyAt_3 hl (by decide) rfl (fun ls hl => ?_)
  refine loopR 20 5 5 (fun i => [(0, .ref af), (1, .int w), (2, .int x), (3, .int (fSum cel w x i)), (4, .int (nI i))]) (fun i => True) (fun i hNi hKi ihi ls hl => ?_) (i0 := 0) (by omega) (trivial) (lv_sub hl [2, 3, 4, 1, 0] rfl)
  have hl : lv_has ls 5 [(0, .ref af), (1, .int w), (2, .int x), (3, .int (fSum cel w x i)), (4, .int (nI i))] := hl
  refine lv_iload hx hb dX3_energyAt_5 (lv_at hl 4 rfl) ?_
  refine lv_aload_n hx hb dX3_energyAt_7 rfl (lv_at hl 0 rfl) ?_
  refine va_get (D := G) (ci := 4) (v := .ref ac) (C := RX3) (T := TX3) (N := 5) hx hb hts hiX3 hown hK hP pf hf rfl 1 (by decide) (hts (.fieldLink RX3 15 "Vortexpin$Film" "cells" "[I") (List.mem_of_getElem? (i := 1) rfl)) (fun _ h9 => h9) rfl dX3_energyAt_8 ?_
  refine va_alen hx hb hK hP pk 0 hk htI (v := (20 : Int32)) rfl dX3_energyAt_11 ?_
  refine lv_icmp_ge (tgt := 52) hx hb dX3_energyAt_12 (by decide) (fun c12 => ?_) (fun c12 => ?_)
  · have heqi : i = 20 := Nat.le_antisymm hNi ((nI_leI (by omega) (by omega)).mp c12)
    refine lv_iload_n hx hb dX3_energyAt_52 rfl (lv_at hl 3 rfl) ?_
    refine lv_aload_n hx hb dX3_energyAt_53 rfl (lv_at hl 0 rfl) ?_
    refine lv_iload_n hx hb dX3_energyAt_54 rfl (lv_at hl 2 rfl) ?_
    refine vp_callSi (va_Run.run (va_runV (As := [.int x]) (rest := [.int (fSum cel w x i)]) ⟨hx, hb, hml, hown, hts⟩ (metX3_depthOf l G tys cI htI _ hf hd hk x) (cwV 1 hts gX3_energyAt_X3_depthOf rfl rfl rfl (by decide +kernel) ⟨Nat.le_of_ble_eq_true rfl, Nat.le_of_ble_eq_true rfl⟩) ⟨pcR_b, va_recv hK hP (ci := 4) (q0 := pf) rfl hf, pcR_u hP hK⟩ rfl rfl hl.1 rfl (lv_room (Nat.le_of_ble_eq_true rfl)) dX3_energyAt_55 ⟨Nat.le_of_ble_eq_true rfl, Nat.le_of_ble_eq_true rfl⟩)) (fun r55 h55 => ?_)
    refine lv_isub hx hb dX3_energyAt_58 ?_
    refine lv_aload_n hx hb dX3_energyAt_59 rfl (lv_at hl 0 rfl) ?_
    refine va_get (D := G) (ci := 4) (v := .int dr) (C := RX3) (T := TX3) (N := 5) hx hb hts hiX3 hown hK hP pf hf rfl 3 (by decide) (hts (.fieldLink RX3 26 "Vortexpin$Film" "drive" "I") (List.mem_of_getElem? (i := 2) rfl)) (fun _ h9 => h9) rfl dX3_energyAt_60 ?_
    refine lv_iload_n hx hb dX3_energyAt_63 rfl (lv_at hl 2 rfl) ?_
    refine lv_bipush (v := 8) hx hb dX3_energyAt_64 (by decide) ?_
    refine lv_irem hx hb dX3_energyAt_66 (by decide) ?_
    refine fold_rem ?_
    refine lv_imul hx hb dX3_energyAt_67 ?_
    refine lv_isub hx hb dX3_energyAt_68 ?_
    exact W.iret (v := ((fSum cel w x i) - r55) - (dr * (jrem x (8 : Int32)))) hx hb hr (fun t ht hW => ⟨((fSum cel w x i) - r55) - (dr * (jrem x (8 : Int32))), rfl, (by subst heqi; rw [h55]; rfl), ht⟩) (fun _ h => absurd h List.not_mem_nil) dX3_energyAt_69
  · have hlti : i < 20 := Nat.lt_of_not_le (mt (nI_leI (by omega) (by omega)).mpr c12)
    refine lv_iload hx hb dX3_energyAt_15 (lv_at hl 4 rfl) ?_
    refine lv_iload_n hx hb dX3_energyAt_17 rfl (lv_at hl 1 rfl) ?_
    refine lv_icmp_eq (tgt := 46) hx hb dX3_energyAt_18 (by decide) (fun c18 => ?_) (fun c18 => ?_)
    · refine lv_iinc (v := nI (i + 1)) (lv' := [(4, .int (nI (i + 1))), (0, .ref af), (1, .int w), (2, .int x), (3, .int (fSum cel w x i))]) hx hb dX3_energyAt_46 hl (k := 4) rfl (nI_1 i) (by decide) rfl (fun ls hl => ?_)
      refine lv_goto (tgt := 5) hx hb dX3_energyAt_49 (by decide) ?_
      have ea3 : fSum cel w x i = fSum cel w x (i + 1) := by simp only [fSum, c12, (eq_true c18), ↓reduceIte, not_true_eq_false, not_false_eq_true]
      rw [ea3] at hl
      exact ihi ls hlti (trivial) (lv_sub hl [1, 2, 3, 4, 0] rfl)
    · refine lv_aload_n hx hb dX3_energyAt_21 rfl (lv_at hl 0 rfl) ?_
      refine va_get (D := G) (ci := 4) (v := .ref ac) (C := RX3) (T := TX3) (N := 5) hx hb hts hiX3 hown hK hP pf hf rfl 1 (by decide) (hts (.fieldLink RX3 15 "Vortexpin$Film" "cells" "[I") (List.mem_of_getElem? (i := 1) rfl)) (fun _ h9 => h9) rfl dX3_energyAt_22 ?_
      refine lv_iload hx hb dX3_energyAt_25 (lv_at hl 4 rfl) ?_
      refine va_iald hx hb hK hP pk 0 hk htI (by first | exact vp_in_nI (by omega) (by omega) | assumption) dX3_energyAt_27 ?_
      refine rd_i (j := i) (nI_clamp (by omega)) ?_
      refine lv_iconst (v := -1) hx hb dX3_energyAt_28 (by decide) ?_
      refine lv_icmp_eq (tgt := 46) hx hb dX3_energyAt_29 (by decide) (fun c29 => ?_) (fun c29 => ?_)
      · refine lv_iinc (v := nI (i + 1)) (lv' := [(4, .int (nI (i + 1))), (0, .ref af), (1, .int w), (2, .int x), (3, .int (fSum cel w x i))]) hx hb dX3_energyAt_46 hl (k := 4) rfl (nI_1 i) (by decide) rfl (fun ls hl => ?_)
        refine lv_goto (tgt := 5) hx hb dX3_energyAt_49 (by decide) ?_
        have ea3 : fSum cel w x i = fSum cel w x (i + 1) := by simp only [fSum, c12, c18, (eq_true c29), ↓reduceIte, not_true_eq_false, not_false_eq_true]
        rw [ea3] at hl
        exact ihi ls hlti (trivial) (lv_sub hl [1, 2, 3, 4, 0] rfl)
      · refine lv_iload_n hx hb dX3_energyAt_32 rfl (lv_at hl 3 rfl) ?_
        refine lv_iload_n hx hb dX3_energyAt_33 rfl (lv_at hl 2 rfl) ?_
        refine lv_aload_n hx hb dX3_energyAt_34 rfl (lv_at hl 0 rfl) ?_
        refine va_get (D := G) (ci := 4) (v := .ref ac) (C := RX3) (T := TX3) (N := 5) hx hb hts hiX3 hown hK hP pf hf rfl 1 (by decide) (hts (.fieldLink RX3 15 "Vortexpin$Film" "cells" "[I") (List.mem_of_getElem? (i := 1) rfl)) (fun _ h9 => h9) rfl dX3_energyAt_35 ?_
        refine lv_iload hx hb dX3_energyAt_38 (lv_at hl 4 rfl) ?_
        refine va_iald hx hb hK hP pk 0 hk htI (by first | exact vp_in_nI (by omega) (by omega) | assumption) dX3_energyAt_40 ?_
        refine rd_i (j := i) (nI_clamp (by omega)) ?_
        refine vp_callSi (va_Run.run (va_runS (As := [.int x, .int (cel i)]) (rest := [.int (fSum cel w x i)]) ⟨hx, hb, hml, hown, hts⟩ (metX3_repulsion l x (cel i)) (va_cwS 2 hts gX3_energyAt_X3_repulsion rfl rfl rfl (by decide +kernel) ⟨Nat.le_of_ble_eq_true rfl, Nat.le_of_ble_eq_true rfl⟩) ⟨pc0_b, pc0_u⟩ rfl rfl hl.1 rfl (lv_room (Nat.le_of_ble_eq_true rfl)) dX3_energyAt_41 ⟨Nat.le_of_ble_eq_true rfl, Nat.le_of_ble_eq_true rfl⟩)) (fun r41 h41 => ?_)
        refine lv_iadd hx hb dX3_energyAt_44 ?_
        refine lv_istore_n (lv' := [(3, .int ((fSum cel w x i) + r41)), (0, .ref af), (1, .int w), (2, .int x), (4, .int (nI i))]) hx hb dX3_energyAt_45 rfl hl (by decide) rfl (fun ls hl => ?_)
        refine lv_iinc (v := nI (i + 1)) (lv' := [(4, .int (nI (i + 1))), (3, .int ((fSum cel w x i) + r41)), (0, .ref af), (1, .int w), (2, .int x)]) hx hb dX3_energyAt_46 hl (k := 4) rfl (nI_1 i) (by decide) rfl (fun ls hl => ?_)
        refine lv_goto (tgt := 5) hx hb dX3_energyAt_49 (by decide) ?_
        have ea3 : (fSum cel w x i) + r41 = fSum cel w x (i + 1) := by subst h41; simp only [fSum, c12, c18, c29, ↓reduceIte, not_true_eq_false, not_false_eq_true]
        rw [ea3] at hl
        exact ihi ls hlti (trivial) (lv_sub hl [2, 3, 4, 1, 0] rfl)
set_option maxHeartbeats 4000000 in
set_option maxRecDepth 100000 in
theorem metX3_leavesFrom (l : Launch) (G : va_G) (tys : List (ClassId × FieldType)) (cI : ClassId) (htI : tI tys cI) (ws : va_W) {pf pd pk af ad ac : Nat} {en dr he : Int32} {dep cel : Nat → Int32} (hf : ws[pf]? = some (af, .inr (4, [.ref ad, .ref ac, .int en, .int dr, .int he]))) (hd : ws[pd]? = some (ad, .inl (cI, 48, .inl dep))) (hk : ws[pk]? = some (ac, .inl (cI, 20, .inl cel))) (x : Int32) : Met l yX3_leavesFrom wsX3_leavesFrom ({ frames := 1, cells := 0, slots := 0, locals := 21 }) (pcR G tys ws [.ref af, .int x]) (vp_Si (fun r => r = fLeave dep dr he x)) 0 0 (fun _ => False) := by
  refine ofR (cc := cX3_leavesFrom) (maxL := 3) (ret := some .boolean) (by decide) rfl (Nat.le_of_ble_eq_true rfl) ?_
  intro p e s m below meth c ls hx hb hr hlocks hml hown hts hl hP hK
  have hown : s.vm.findClass RX3 = some m.cls := hown
  have hiX3 : ∀ w ∈ u_ws RX3 TX3 5, w ∈ wsX3_leavesFrom := fun _ h => List.mem_cons_of_mem _ (List.mem_append_right _ h)
  have hl : lv_has ls 3 [(0, .ref af), (1, .int x)] := hl
  refine lv_aload_n hx hb dX3_leavesFrom_0 rfl (lv_at hl 0 rfl) ?_
  refine va_get (D := G) (ci := 4) (v := .int dr) (C := RX3) (T := TX3) (N := 5) hx hb hts hiX3 hown hK hP pf hf rfl 3 (by decide) (hts (.fieldLink RX3 26 "Vortexpin$Film" "drive" "I") (List.mem_of_getElem? (i := 1) rfl)) (fun _ h9 => h9) rfl dX3_leavesFrom_1 ?_
  refine lv_if_le (tgt := 12) hx hb dX3_leavesFrom_4 (by decide) (fun c4 => ?_) (fun c4 => ?_)
  · refine lv_iconst (v := 0) hx hb dX3_leavesFrom_12 (by decide) ?_
    refine lv_istore_n (lv' := [(2, .int (0 : Int32)), (0, .ref af), (1, .int x)]) hx hb dX3_leavesFrom_13 rfl hl (by decide) rfl (fun ls hl => ?_)
    refine lv_aload_n hx hb dX3_leavesFrom_14 rfl (lv_at hl 1 rfl) ?_
    refine va_get (D := G) (ci := 4) (v := .int dr) (C := RX3) (T := TX3) (N := 5) hx hb hts hiX3 hown hK hP pf hf rfl 3 (by decide) (hts (.fieldLink RX3 26 "Vortexpin$Film" "drive" "I") (List.mem_of_getElem? (i := 1) rfl)) (fun _ h9 => h9) rfl dX3_leavesFrom_15 ?_
    refine lv_if_eq (tgt := 53) hx hb dX3_leavesFrom_18 (by decide) (fun c18 => ?_) (fun c18 => ?_)
    · refine lv_iconst (v := 0) hx hb dX3_leavesFrom_53 (by decide) ?_
      exact W.zret (v := (0 : Int32)) hx hb hr (rfl) (fun t ht hW => ⟨(0 : Int32), rfl, (by simp only [fLeave, c4, (eq_true c18), ↓reduceIte, not_true_eq_false, not_false_eq_true]), ht⟩) (fun _ h => absurd h List.not_mem_nil) dX3_leavesFrom_54
    · refine lv_iload_n hx hb dX3_leavesFrom_21 rfl (lv_at hl 2 rfl) ?_
      refine lv_bipush (v := 8) hx hb dX3_leavesFrom_22 (by decide) ?_
      refine lv_irem hx hb dX3_leavesFrom_24 (by decide) ?_
      refine fold_rem ?_
      refine lv_iload_n hx hb dX3_leavesFrom_25 rfl (lv_at hl 0 rfl) ?_
      refine lv_icmp_ne (tgt := 53) hx hb dX3_leavesFrom_26 (by decide) (fun c26 => ?_) (fun c26 => ?_)
      · refine lv_iconst (v := 0) hx hb dX3_leavesFrom_53 (by decide) ?_
        exact W.zret (v := (0 : Int32)) hx hb hr (rfl) (fun t ht hW => ⟨(0 : Int32), rfl, (by simp only [fLeave, c4, c18, c26, ↓reduceIte, not_true_eq_false, not_false_eq_true]), ht⟩) (fun _ h => absurd h List.not_mem_nil) dX3_leavesFrom_54
      · refine lv_aload_n hx hb dX3_leavesFrom_29 rfl (lv_at hl 1 rfl) ?_
        refine lv_iload_n hx hb dX3_leavesFrom_30 rfl (lv_at hl 2 rfl) ?_
        refine vp_callSi (va_Run.run (va_runV (As := [.int x]) (rest := []) ⟨hx, hb, hml, hown, hts⟩ (metX3_depthOf l G tys cI htI _ hf hd hk x) (cwV 1 hts gX3_leavesFrom_X3_depthOf rfl rfl rfl (by decide +kernel) ⟨Nat.le_of_ble_eq_true rfl, Nat.le_of_ble_eq_true rfl⟩) ⟨pcR_b, va_recv hK hP (ci := 4) (q0 := pf) rfl hf, pcR_u hP hK⟩ rfl rfl hl.1 rfl (lv_room (Nat.le_of_ble_eq_true rfl)) dX3_leavesFrom_31 ⟨Nat.le_of_ble_eq_true rfl, Nat.le_of_ble_eq_true rfl⟩)) (fun r31 h31 => ?_)
        refine lv_aload_n hx hb dX3_leavesFrom_34 rfl (lv_at hl 1 rfl) ?_
        refine va_get (D := G) (ci := 4) (v := .int dr) (C := RX3) (T := TX3) (N := 5) hx hb hts hiX3 hown hK hP pf hf rfl 3 (by decide) (hts (.fieldLink RX3 26 "Vortexpin$Film" "drive" "I") (List.mem_of_getElem? (i := 1) rfl)) (fun _ h9 => h9) rfl dX3_leavesFrom_35 ?_
        refine va_mabs hx hb (hml.trans hl.1.symm) hown (hts (.methodLink RX3 34 Lib.Math.abs.name) (List.mem_of_getElem? (i := 2) rfl)) (hts (.static Lib.Math.abs.name) (List.mem_of_getElem? (i := 3) rfl)) (hts (.initialized "java/lang/Math") (List.mem_of_getElem? (i := 4) rfl)) (hts (.code Lib.Math.abs.name Lib.Math.abs.code 1 (some .int)) (List.mem_of_getElem? (i := 5) rfl)) (Nat.le_of_ble_eq_true rfl) (Nat.le_of_ble_eq_true rfl) (Nat.le_of_ble_eq_true rfl) (Nat.le_of_ble_eq_true rfl) dX3_leavesFrom_38 ?_
        refine fold_abs ?_
        refine lv_aload_n hx hb dX3_leavesFrom_41 rfl (lv_at hl 1 rfl) ?_
        refine va_get (D := G) (ci := 4) (v := .int he) (C := RX3) (T := TX3) (N := 5) hx hb hts hiX3 hown hK hP pf hf rfl 4 (by decide) (hts (.fieldLink RX3 39 "Vortexpin$Film" "heat" "I") (List.mem_of_getElem? (i := 6) rfl)) (fun _ h9 => h9) rfl dX3_leavesFrom_42 ?_
        refine lv_iadd hx hb dX3_leavesFrom_45 ?_
        refine lv_icmp_ge (tgt := 53) hx hb dX3_leavesFrom_46 (by decide) (fun c46 => ?_) (fun c46 => ?_)
        · refine lv_iconst (v := 0) hx hb dX3_leavesFrom_53 (by decide) ?_
          exact W.zret (v := (0 : Int32)) hx hb hr (rfl) (fun t ht hW => ⟨(0 : Int32), rfl, (by subst h31; simp only [fLeave, c4, c18, (eq_true c26), c46, ↓reduceIte, not_true_eq_false, not_false_eq_true]), ht⟩) (fun _ h => absurd h List.not_mem_nil) dX3_leavesFrom_54
        · refine lv_iconst (v := 1) hx hb dX3_leavesFrom_49 (by decide) ?_
          refine lv_goto (tgt := 54) hx hb dX3_leavesFrom_50 (by decide) ?_
          exact W.zret (v := (1 : Int32)) hx hb hr (rfl) (fun t ht hW => ⟨(1 : Int32), rfl, (by subst h31; simp only [fLeave, c4, c18, (eq_true c26), c46, ↓reduceIte, not_true_eq_false, not_false_eq_true]), ht⟩) (fun _ h => absurd h List.not_mem_nil) dX3_leavesFrom_54
  · refine lv_bipush (v := 7) hx hb dX3_leavesFrom_7 (by decide) ?_
    refine lv_goto (tgt := 13) hx hb dX3_leavesFrom_9 (by decide) ?_
    refine lv_istore_n (lv' := [(2, .int (7 : Int32)), (0, .ref af), (1, .int x)]) hx hb dX3_leavesFrom_13 rfl hl (by decide) rfl (fun ls hl => ?_)
    refine lv_aload_n hx hb dX3_leavesFrom_14 rfl (lv_at hl 1 rfl) ?_
    refine va_get (D := G) (ci := 4) (v := .int dr) (C := RX3) (T := TX3) (N := 5) hx hb hts hiX3 hown hK hP pf hf rfl 3 (by decide) (hts (.fieldLink RX3 26 "Vortexpin$Film" "drive" "I") (List.mem_of_getElem? (i := 1) rfl)) (fun _ h9 => h9) rfl dX3_leavesFrom_15 ?_
    refine lv_if_eq (tgt := 53) hx hb dX3_leavesFrom_18 (by decide) (fun c18 => ?_) (fun c18 => ?_)
    · refine lv_iconst (v := 0) hx hb dX3_leavesFrom_53 (by decide) ?_
      exact W.zret (v := (0 : Int32)) hx hb hr (rfl) (fun t ht hW => ⟨(0 : Int32), rfl, (by simp only [fLeave, c4, (eq_true c18), ↓reduceIte, not_true_eq_false, not_false_eq_true]), ht⟩) (fun _ h => absurd h List.not_mem_nil) dX3_leavesFrom_54
    · refine lv_iload_n hx hb dX3_leavesFrom_21 rfl (lv_at hl 2 rfl) ?_
      refine lv_bipush (v := 8) hx hb dX3_leavesFrom_22 (by decide) ?_
      refine lv_irem hx hb dX3_leavesFrom_24 (by decide) ?_
      refine fold_rem ?_
      refine lv_iload_n hx hb dX3_leavesFrom_25 rfl (lv_at hl 0 rfl) ?_
      refine lv_icmp_ne (tgt := 53) hx hb dX3_leavesFrom_26 (by decide) (fun c26 => ?_) (fun c26 => ?_)
      · refine lv_iconst (v := 0) hx hb dX3_leavesFrom_53 (by decide) ?_
        exact W.zret (v := (0 : Int32)) hx hb hr (rfl) (fun t ht hW => ⟨(0 : Int32), rfl, (by simp only [fLeave, c4, c18, c26, ↓reduceIte, not_true_eq_false, not_false_eq_true]), ht⟩) (fun _ h => absurd h List.not_mem_nil) dX3_leavesFrom_54
      · refine lv_aload_n hx hb dX3_leavesFrom_29 rfl (lv_at hl 1 rfl) ?_
        refine lv_iload_n hx hb dX3_leavesFrom_30 rfl (lv_at hl 2 rfl) ?_
        refine vp_callSi (va_Run.run (va_runV (As := [.int x]) (rest := []) ⟨hx, hb, hml, hown, hts⟩ (metX3_depthOf l G tys cI htI _ hf hd hk x) (cwV 1 hts gX3_leavesFrom_X3_depthOf rfl rfl rfl (by decide +kernel) ⟨Nat.le_of_ble_eq_true rfl, Nat.le_of_ble_eq_true rfl⟩) ⟨pcR_b, va_recv hK hP (ci := 4) (q0 := pf) rfl hf, pcR_u hP hK⟩ rfl rfl hl.1 rfl (lv_room (Nat.le_of_ble_eq_true rfl)) dX3_leavesFrom_31 ⟨Nat.le_of_ble_eq_true rfl, Nat.le_of_ble_eq_true rfl⟩)) (fun r31 h31 => ?_)
        refine lv_aload_n hx hb dX3_leavesFrom_34 rfl (lv_at hl 1 rfl) ?_
        refine va_get (D := G) (ci := 4) (v := .int dr) (C := RX3) (T := TX3) (N := 5) hx hb hts hiX3 hown hK hP pf hf rfl 3 (by decide) (hts (.fieldLink RX3 26 "Vortexpin$Film" "drive" "I") (List.mem_of_getElem? (i := 1) rfl)) (fun _ h9 => h9) rfl dX3_leavesFrom_35 ?_
        refine va_mabs hx hb (hml.trans hl.1.symm) hown (hts (.methodLink RX3 34 Lib.Math.abs.name) (List.mem_of_getElem? (i := 2) rfl)) (hts (.static Lib.Math.abs.name) (List.mem_of_getElem? (i := 3) rfl)) (hts (.initialized "java/lang/Math") (List.mem_of_getElem? (i := 4) rfl)) (hts (.code Lib.Math.abs.name Lib.Math.abs.code 1 (some .int)) (List.mem_of_getElem? (i := 5) rfl)) (Nat.le_of_ble_eq_true rfl) (Nat.le_of_ble_eq_true rfl) (Nat.le_of_ble_eq_true rfl) (Nat.le_of_ble_eq_true rfl) dX3_leavesFrom_38 ?_
        refine fold_abs ?_
        refine lv_aload_n hx hb dX3_leavesFrom_41 rfl (lv_at hl 1 rfl) ?_
        refine va_get (D := G) (ci := 4) (v := .int he) (C := RX3) (T := TX3) (N := 5) hx hb hts hiX3 hown hK hP pf hf rfl 4 (by decide) (hts (.fieldLink RX3 39 "Vortexpin$Film" "heat" "I") (List.mem_of_getElem? (i := 6) rfl)) (fun _ h9 => h9) rfl dX3_leavesFrom_42 ?_
        refine lv_iadd hx hb dX3_leavesFrom_45 ?_
        refine lv_icmp_ge (tgt := 53) hx hb dX3_leavesFrom_46 (by decide) (fun c46 => ?_) (fun c46 => ?_)
        · refine lv_iconst (v := 0) hx hb dX3_leavesFrom_53 (by decide) ?_
          exact W.zret (v := (0 : Int32)) hx hb hr (rfl) (fun t ht hW => ⟨(0 : Int32), rfl, (by subst h31; simp only [fLeave, c4, c18, (eq_true c26), c46, ↓reduceIte, not_true_eq_false, not_false_eq_true]), ht⟩) (fun _ h => absurd h List.not_mem_nil) dX3_leavesFrom_54
        · refine lv_iconst (v := 1) hx hb dX3_leavesFrom_49 (by decide) ?_
          refine lv_goto (tgt := 54) hx hb dX3_leavesFrom_50 (by decide) ?_
          exact W.zret (v := (1 : Int32)) hx hb hr (rfl) (fun t ht hW => ⟨(1 : Int32), rfl, (by subst h31; simp only [fLeave, c4, c18, (eq_true c26), c46, ↓reduceIte, not_true_eq_false, not_false_eq_true]), ht⟩) (fun _ h => absurd h List.not_mem_nil) dX3_leavesFrom_54
set_option maxHeartbeats 4000000 in
set_option maxRecDepth 100000 in
theorem metX3_calmestBeside (l : Launch) (G : va_G) (tys : List (ClassId × FieldType)) (cI : ClassId) (htI : tI tys cI) (ws : va_W) {pf pd pk af ad ac : Nat} {en dr he : Int32} {dep cel : Nat → Int32} (hf : ws[pf]? = some (af, .inr (4, [.ref ad, .ref ac, .int en, .int dr, .int he]))) (hd : ws[pd]? = some (ad, .inl (cI, 48, .inl dep))) (hk : ws[pk]? = some (ac, .inl (cI, 20, .inl cel))) (w x own : Int32) : Met l yX3_calmestBeside wsX3_calmestBeside ({ frames := 3, cells := 0, slots := 0, locals := 68 }) (pcR G tys ws [.ref af, .int w, .int x, .int own]) (vp_Si (fun r => r = (fCb cel dep dr w x own 4).1)) 0 0 (fun _ => False) := by
  refine ofR (cc := cX3_calmestBeside) (maxL := 9) (ret := some .int) (by decide) rfl (Nat.le_of_ble_eq_true rfl) ?_
  intro p e s m below meth c ls hx hb hr hlocks hml hown hts hl hP hK
  have hown : s.vm.findClass RX3 = some m.cls := hown
  have hl : lv_has ls 9 [(0, .ref af), (1, .int w), (2, .int x), (3, .int own)] := hl
  refine lv_iconst (v := -1) hx hb dX3_calmestBeside_0 (by decide) ?_
  refine lv_istore (lv' := [(4, .int (-1 : Int32)), (0, .ref af), (1, .int w), (2, .int x), (3, .int own)]) hx hb dX3_calmestBeside_1 hl (by decide) rfl (fun ls hl => ?_)
  refine lv_iload_n hx hb dX3_calmestBeside_3 rfl (lv_at hl 4 rfl) ?_
  refine lv_istore (lv' := [(5, .int own), (4, .int (-1 : Int32)), (0, .ref af), (1, .int w), (2, .int x), (3, .int own)]) hx hb dX3_calmestBeside_4 hl (by decide) rfl (fun ls hl => ?_)
  refine lv_iconst (v := 0) hx hb dX3_calmestBeside_6 (by decide) ?_
  refine lv_istore (lv' := [(6, .int (0 : Int32)), (5, .int own), (4, .int (-1 : Int32)), (0, .ref af), (1, .int w), (2, .int x), (3, .int own)]) hx hb dX3_calmestBeside_7 hl (by decide) rfl (fun ls hl => ?_)
  refine loopR 4 9 9 (fun i => [(0, .ref af), (1, .int w), (2, .int x), (3, .int own), (4, .int ((fCb cel dep dr w x own i).1)), (5, .int ((fCb cel dep dr w x own i).2)), (6, .int (nI i))]) (fun i => True) (fun i hNi hKi ihi ls hl => ?_) (i0 := 0) (by omega) (trivial) (lv_sub hl [3, 4, 5, 6, 2, 1, 0] rfl)
  have hl : lv_has ls 9 [(0, .ref af), (1, .int w), (2, .int x), (3, .int own), (4, .int ((fCb cel dep dr w x own i).1)), (5, .int ((fCb cel dep dr w x own i).2)), (6, .int (nI i))] := hl
  refine lv_iload hx hb dX3_calmestBeside_9 (lv_at hl 6 rfl) ?_
  refine lv_iconst (v := 4) hx hb dX3_calmestBeside_11 (by decide) ?_
  refine lv_icmp_ge (tgt := 68) hx hb dX3_calmestBeside_12 (by decide) (fun c12 => ?_) (fun c12 => ?_)
  · have heqi : i = 4 := Nat.le_antisymm hNi ((nI_leI (by omega) (by omega)).mp c12)
    refine lv_iload hx hb dX3_calmestBeside_68 (lv_at hl 4 rfl) ?_
    exact W.iret (v := (fCb cel dep dr w x own i).1) hx hb hr (fun t ht hW => ⟨(fCb cel dep dr w x own i).1, rfl, (by rw [heqi]), ht⟩) (fun _ h => absurd h List.not_mem_nil) dX3_calmestBeside_70
  · have hlti : i < 4 := Nat.lt_of_not_le (mt (nI_leI (by omega) (by omega)).mpr c12)
    refine lv_iload_n hx hb dX3_calmestBeside_15 rfl (lv_at hl 2 rfl) ?_
    refine lv_iload hx hb dX3_calmestBeside_16 (lv_at hl 6 rfl) ?_
    refine vp_callSi (va_Run.run (va_runS (As := [.int x, .int (nI i)]) (rest := []) ⟨hx, hb, hml, hown, hts⟩ (metX3_beside l x (nI i)) (va_cwS 2 hts gX3_calmestBeside_X3_beside rfl rfl rfl (by decide +kernel) ⟨Nat.le_of_ble_eq_true rfl, Nat.le_of_ble_eq_true rfl⟩) ⟨pc0_b, pc0_u⟩ rfl rfl hl.1 rfl (lv_room (Nat.le_of_ble_eq_true rfl)) dX3_calmestBeside_18 ⟨Nat.le_of_ble_eq_true rfl, Nat.le_of_ble_eq_true rfl⟩)) (fun r18 h18 => ?_)
    refine lv_istore (lv' := [(7, .int r18), (0, .ref af), (1, .int w), (2, .int x), (3, .int own), (4, .int ((fCb cel dep dr w x own i).1)), (5, .int ((fCb cel dep dr w x own i).2)), (6, .int (nI i))]) hx hb dX3_calmestBeside_21 hl (by decide) rfl (fun ls hl => ?_)
    refine lv_iload hx hb dX3_calmestBeside_23 (lv_at hl 0 rfl) ?_
    refine lv_iconst (v := -1) hx hb dX3_calmestBeside_25 (by decide) ?_
    refine lv_icmp_eq (tgt := 62) hx hb dX3_calmestBeside_26 (by decide) (fun c26 => ?_) (fun c26 => ?_)
    · refine lv_iinc (v := nI (i + 1)) (lv' := [(6, .int (nI (i + 1))), (7, .int r18), (0, .ref af), (1, .int w), (2, .int x), (3, .int own), (4, .int ((fCb cel dep dr w x own i).1)), (5, .int ((fCb cel dep dr w x own i).2))]) hx hb dX3_calmestBeside_62 hl (k := 7) rfl (nI_1 i) (by decide) rfl (fun ls hl => ?_)
      refine lv_goto (tgt := 9) hx hb dX3_calmestBeside_65 (by decide) ?_
      have ea4 : (fCb cel dep dr w x own i).1 = (fCb cel dep dr w x own (i + 1)).1 := by subst h18; simp only [fCb, c12, (eq_true c26), ↓reduceIte, not_true_eq_false, not_false_eq_true]
      rw [ea4] at hl
      have ea5 : (fCb cel dep dr w x own i).2 = (fCb cel dep dr w x own (i + 1)).2 := by subst h18; simp only [fCb, c12, (eq_true c26), ↓reduceIte, not_true_eq_false, not_false_eq_true]
      rw [ea5] at hl
      exact ihi ls hlti (trivial) (lv_sub hl [2, 3, 4, 5, 6, 7, 0] rfl)
    · refine lv_aload_n hx hb dX3_calmestBeside_29 rfl (lv_at hl 1 rfl) ?_
      refine lv_iload hx hb dX3_calmestBeside_30 (lv_at hl 0 rfl) ?_
      refine vp_callSi (va_Run.run (va_runV (As := [.int r18]) (rest := []) ⟨hx, hb, hml, hown, hts⟩ (metX3_isFree l G tys cI htI _ hf hd hk r18) (cwV 1 hts gX3_calmestBeside_X3_isFree rfl rfl rfl (by decide +kernel) ⟨Nat.le_of_ble_eq_true rfl, Nat.le_of_ble_eq_true rfl⟩) ⟨pcR_b, va_recv hK hP (ci := 4) (q0 := pf) rfl hf, pcR_u hP hK⟩ rfl rfl hl.1 rfl (lv_room (Nat.le_of_ble_eq_true rfl)) dX3_calmestBeside_32 ⟨Nat.le_of_ble_eq_true rfl, Nat.le_of_ble_eq_true rfl⟩)) (fun r32 h32 => ?_)
      refine lv_if_eq (tgt := 62) hx hb dX3_calmestBeside_35 (by decide) (fun c35 => ?_) (fun c35 => ?_)
      · refine lv_iinc (v := nI (i + 1)) (lv' := [(6, .int (nI (i + 1))), (7, .int r18), (0, .ref af), (1, .int w), (2, .int x), (3, .int own), (4, .int ((fCb cel dep dr w x own i).1)), (5, .int ((fCb cel dep dr w x own i).2))]) hx hb dX3_calmestBeside_62 hl (k := 7) rfl (nI_1 i) (by decide) rfl (fun ls hl => ?_)
        refine lv_goto (tgt := 9) hx hb dX3_calmestBeside_65 (by decide) ?_
        have ea4 : (fCb cel dep dr w x own i).1 = (fCb cel dep dr w x own (i + 1)).1 := by subst h18; subst h32; simp only [fCb, c12, c26, (eq_true c35), ↓reduceIte, not_true_eq_false, not_false_eq_true]
        rw [ea4] at hl
        have ea5 : (fCb cel dep dr w x own i).2 = (fCb cel dep dr w x own (i + 1)).2 := by subst h18; subst h32; simp only [fCb, c12, c26, (eq_true c35), ↓reduceIte, not_true_eq_false, not_false_eq_true]
        rw [ea5] at hl
        exact ihi ls hlti (trivial) (lv_sub hl [2, 3, 4, 5, 6, 7, 0] rfl)
      · refine lv_aload_n hx hb dX3_calmestBeside_38 rfl (lv_at hl 1 rfl) ?_
        refine lv_iload_n hx hb dX3_calmestBeside_39 rfl (lv_at hl 2 rfl) ?_
        refine lv_iload hx hb dX3_calmestBeside_40 (lv_at hl 0 rfl) ?_
        refine vp_callSi (va_Run.run (va_runV (As := [.int w, .int r18]) (rest := []) ⟨hx, hb, hml, hown, hts⟩ (metX3_energyAt l G tys cI htI _ hf hd hk w r18) (cwV 2 hts gX3_calmestBeside_X3_energyAt rfl rfl rfl (by decide +kernel) ⟨Nat.le_of_ble_eq_true rfl, Nat.le_of_ble_eq_true rfl⟩) ⟨pcR_b, va_recv hK hP (ci := 4) (q0 := pf) rfl hf, pcR_u hP hK⟩ rfl rfl hl.1 rfl (lv_room (Nat.le_of_ble_eq_true rfl)) dX3_calmestBeside_42 ⟨Nat.le_of_ble_eq_true rfl, Nat.le_of_ble_eq_true rfl⟩)) (fun r42 h42 => ?_)
        refine lv_istore (lv' := [(8, .int r42), (7, .int r18), (0, .ref af), (1, .int w), (2, .int x), (3, .int own), (4, .int ((fCb cel dep dr w x own i).1)), (5, .int ((fCb cel dep dr w x own i).2)), (6, .int (nI i))]) hx hb dX3_calmestBeside_45 hl (by decide) rfl (fun ls hl => ?_)
        refine lv_iload hx hb dX3_calmestBeside_47 (lv_at hl 0 rfl) ?_
        refine lv_iload hx hb dX3_calmestBeside_49 (lv_at hl 7 rfl) ?_
        refine lv_icmp_ge (tgt := 62) hx hb dX3_calmestBeside_51 (by decide) (fun c51 => ?_) (fun c51 => ?_)
        · refine lv_iinc (v := nI (i + 1)) (lv' := [(6, .int (nI (i + 1))), (8, .int r42), (7, .int r18), (0, .ref af), (1, .int w), (2, .int x), (3, .int own), (4, .int ((fCb cel dep dr w x own i).1)), (5, .int ((fCb cel dep dr w x own i).2))]) hx hb dX3_calmestBeside_62 hl (k := 8) rfl (nI_1 i) (by decide) rfl (fun ls hl => ?_)
          refine lv_goto (tgt := 9) hx hb dX3_calmestBeside_65 (by decide) ?_
          have ea4 : (fCb cel dep dr w x own i).1 = (fCb cel dep dr w x own (i + 1)).1 := by subst h18; subst h32; subst h42; simp only [fCb, c12, c26, c35, c51, ↓reduceIte, not_true_eq_false, not_false_eq_true]
          rw [ea4] at hl
          have ea5 : (fCb cel dep dr w x own i).2 = (fCb cel dep dr w x own (i + 1)).2 := by subst h18; subst h32; subst h42; simp only [fCb, c12, c26, c35, c51, ↓reduceIte, not_true_eq_false, not_false_eq_true]
          rw [ea5] at hl
          exact ihi ls hlti (trivial) (lv_sub hl [3, 4, 5, 6, 7, 8, 0] rfl)
        · refine lv_iload hx hb dX3_calmestBeside_54 (lv_at hl 0 rfl) ?_
          refine lv_istore (lv' := [(5, .int r42), (8, .int r42), (7, .int r18), (0, .ref af), (1, .int w), (2, .int x), (3, .int own), (4, .int ((fCb cel dep dr w x own i).1)), (6, .int (nI i))]) hx hb dX3_calmestBeside_56 hl (by decide) rfl (fun ls hl => ?_)
          refine lv_iload hx hb dX3_calmestBeside_58 (lv_at hl 2 rfl) ?_
          refine lv_istore (lv' := [(4, .int r18), (5, .int r42), (8, .int r42), (7, .int r18), (0, .ref af), (1, .int w), (2, .int x), (3, .int own), (6, .int (nI i))]) hx hb dX3_calmestBeside_60 hl (by decide) rfl (fun ls hl => ?_)
          refine lv_iinc (v := nI (i + 1)) (lv' := [(6, .int (nI (i + 1))), (4, .int r18), (5, .int r42), (8, .int r42), (7, .int r18), (0, .ref af), (1, .int w), (2, .int x), (3, .int own)]) hx hb dX3_calmestBeside_62 hl (k := 8) rfl (nI_1 i) (by decide) rfl (fun ls hl => ?_)
          refine lv_goto (tgt := 9) hx hb dX3_calmestBeside_65 (by decide) ?_
          have ea4 : r18 = (fCb cel dep dr w x own (i + 1)).1 := by subst h18; subst h32; subst h42; simp only [fCb, c12, c26, c35, c51, ↓reduceIte, not_true_eq_false, not_false_eq_true]
          rw [ea4] at hl
          have ea5 : r42 = (fCb cel dep dr w x own (i + 1)).2 := by subst h18; subst h32; subst h42; simp only [fCb, c12, c26, c35, c51, ↓reduceIte, not_true_eq_false, not_false_eq_true]
          rw [ea5] at hl
          exact ihi ls hlti (trivial) (lv_sub hl [5, 6, 7, 8, 1, 2, 0] rfl)
set_option maxHeartbeats 4000000 in
set_option maxRecDepth 100000 in
theorem metX3_creepGoal (l : Launch) (G : va_G) (tys : List (ClassId × FieldType)) (cI : ClassId) (htI : tI tys cI) (ws : va_W) {pf pd pk af ad ac : Nat} {en dr he : Int32} {dep cel : Nat → Int32} (hf : ws[pf]? = some (af, .inr (4, [.ref ad, .ref ac, .int en, .int dr, .int he]))) (hd : ws[pd]? = some (ad, .inl (cI, 48, .inl dep))) (hk : ws[pk]? = some (ac, .inl (cI, 20, .inl cel))) (w x own : Int32) : Met l yX3_creepGoal wsX3_creepGoal ({ frames := 3, cells := 0, slots := 0, locals := 68 }) (pcR G tys ws [.ref af, .int w, .int x, .int own]) (vp_Si (fun r => r = fCreep cel dep dr he w x own)) 0 0 (fun _ => False) := by
  refine ofR (cc := cX3_creepGoal) (maxL := 5) (ret := some .int) (by decide) rfl (Nat.le_of_ble_eq_true rfl) ?_
  intro p e s m below meth c ls hx hb hr hlocks hml hown hts hl hP hK
  have hown : s.vm.findClass RX3 = some m.cls := hown
  have hiX3 : ∀ w ∈ u_ws RX3 TX3 5, w ∈ wsX3_creepGoal := fun _ h => List.mem_cons_of_mem _ (List.mem_append_right _ h)
  have hl : lv_has ls 5 [(0, .ref af), (1, .int w), (2, .int x), (3, .int own)] := hl
  refine lv_aload_n hx hb dX3_creepGoal_0 rfl (lv_at hl 0 rfl) ?_
  refine va_get (D := G) (ci := 4) (v := .int dr) (C := RX3) (T := TX3) (N := 5) hx hb hts hiX3 hown hK hP pf hf rfl 3 (by decide) (hts (.fieldLink RX3 26 "Vortexpin$Film" "drive" "I") (List.mem_of_getElem? (i := 1) rfl)) (fun _ h9 => h9) rfl dX3_creepGoal_1 ?_
  refine lv_if_ne (tgt := 9) hx hb dX3_creepGoal_4 (by decide) (fun c4 => ?_) (fun c4 => ?_)
  · refine lv_iload_n hx hb dX3_creepGoal_9 rfl (lv_at hl 2 rfl) ?_
    refine lv_aload_n hx hb dX3_creepGoal_10 rfl (lv_at hl 0 rfl) ?_
    refine va_get (D := G) (ci := 4) (v := .int dr) (C := RX3) (T := TX3) (N := 5) hx hb hts hiX3 hown hK hP pf hf rfl 3 (by decide) (hts (.fieldLink RX3 26 "Vortexpin$Film" "drive" "I") (List.mem_of_getElem? (i := 1) rfl)) (fun _ h9 => h9) rfl dX3_creepGoal_11 ?_
    refine lv_if_le (tgt := 21) hx hb dX3_creepGoal_14 (by decide) (fun c14 => ?_) (fun c14 => ?_)
    · refine lv_iconst (v := 3) hx hb dX3_creepGoal_21 (by decide) ?_
      refine vp_callSi (va_Run.run (va_runS (As := [.int x, .int (3 : Int32)]) (rest := []) ⟨hx, hb, hml, hown, hts⟩ (metX3_beside l x (3 : Int32)) (va_cwS 2 hts gX3_creepGoal_X3_beside rfl rfl rfl (by decide +kernel) ⟨Nat.le_of_ble_eq_true rfl, Nat.le_of_ble_eq_true rfl⟩) ⟨pc0_b, pc0_u⟩ rfl rfl hl.1 rfl (lv_room (Nat.le_of_ble_eq_true rfl)) dX3_creepGoal_22 ⟨Nat.le_of_ble_eq_true rfl, Nat.le_of_ble_eq_true rfl⟩)) (fun r22 h22 => ?_)
      refine lv_istore (lv' := [(4, .int r22), (0, .ref af), (1, .int w), (2, .int x), (3, .int own)]) hx hb dX3_creepGoal_25 hl (by decide) rfl (fun ls hl => ?_)
      refine lv_iload hx hb dX3_creepGoal_27 (lv_at hl 0 rfl) ?_
      refine lv_iconst (v := -1) hx hb dX3_creepGoal_29 (by decide) ?_
      refine lv_icmp_eq (tgt := 42) hx hb dX3_creepGoal_30 (by decide) (fun c30 => ?_) (fun c30 => ?_)
      · refine lv_iconst (v := -1) hx hb dX3_creepGoal_42 (by decide) ?_
        exact W.iret (v := (-1 : Int32)) hx hb hr (fun t ht hW => ⟨(-1 : Int32), rfl, (by subst h22; simp only [fCreep, c4, c14, (eq_true c30), ↓reduceIte, not_true_eq_false, not_false_eq_true]), ht⟩) (fun _ h => absurd h List.not_mem_nil) dX3_creepGoal_43
      · refine lv_aload_n hx hb dX3_creepGoal_33 rfl (lv_at hl 1 rfl) ?_
        refine lv_iload hx hb dX3_creepGoal_34 (lv_at hl 0 rfl) ?_
        refine vp_callSi (va_Run.run (va_runV (As := [.int r22]) (rest := []) ⟨hx, hb, hml, hown, hts⟩ (metX3_isFree l G tys cI htI _ hf hd hk r22) (cwV 1 hts gX3_creepGoal_X3_isFree rfl rfl rfl (by decide +kernel) ⟨Nat.le_of_ble_eq_true rfl, Nat.le_of_ble_eq_true rfl⟩) ⟨pcR_b, va_recv hK hP (ci := 4) (q0 := pf) rfl hf, pcR_u hP hK⟩ rfl rfl hl.1 rfl (lv_room (Nat.le_of_ble_eq_true rfl)) dX3_creepGoal_36 ⟨Nat.le_of_ble_eq_true rfl, Nat.le_of_ble_eq_true rfl⟩)) (fun r36 h36 => ?_)
        refine lv_if_ne (tgt := 44) hx hb dX3_creepGoal_39 (by decide) (fun c39 => ?_) (fun c39 => ?_)
        · refine lv_aload_n hx hb dX3_creepGoal_44 rfl (lv_at hl 1 rfl) ?_
          refine lv_iload_n hx hb dX3_creepGoal_45 rfl (lv_at hl 2 rfl) ?_
          refine lv_iload hx hb dX3_creepGoal_46 (lv_at hl 0 rfl) ?_
          refine vp_callSi (va_Run.run (va_runV (As := [.int w, .int r22]) (rest := []) ⟨hx, hb, hml, hown, hts⟩ (metX3_energyAt l G tys cI htI _ hf hd hk w r22) (cwV 2 hts gX3_creepGoal_X3_energyAt rfl rfl rfl (by decide +kernel) ⟨Nat.le_of_ble_eq_true rfl, Nat.le_of_ble_eq_true rfl⟩) ⟨pcR_b, va_recv hK hP (ci := 4) (q0 := pf) rfl hf, pcR_u hP hK⟩ rfl rfl hl.1 rfl (lv_room (Nat.le_of_ble_eq_true rfl)) dX3_creepGoal_48 ⟨Nat.le_of_ble_eq_true rfl, Nat.le_of_ble_eq_true rfl⟩)) (fun r48 h48 => ?_)
          refine lv_iload_n hx hb dX3_creepGoal_51 rfl (lv_at hl 4 rfl) ?_
          refine lv_isub hx hb dX3_creepGoal_52 ?_
          refine lv_aload_n hx hb dX3_creepGoal_53 rfl (lv_at hl 1 rfl) ?_
          refine va_get (D := G) (ci := 4) (v := .int he) (C := RX3) (T := TX3) (N := 5) hx hb hts hiX3 hown hK hP pf hf rfl 4 (by decide) (hts (.fieldLink RX3 39 "Vortexpin$Film" "heat" "I") (List.mem_of_getElem? (i := 2) rfl)) (fun _ h9 => h9) rfl dX3_creepGoal_54 ?_
          refine lv_icmp_gt (tgt := 65) hx hb dX3_creepGoal_57 (by decide) (fun c57 => ?_) (fun c57 => ?_)
          · refine lv_iconst (v := -1) hx hb dX3_creepGoal_65 (by decide) ?_
            exact W.iret (v := (-1 : Int32)) hx hb hr (fun t ht hW => ⟨(-1 : Int32), rfl, (by subst h22; subst h36; subst h48; simp only [fCreep, c4, c14, c30, c39, c57, ↓reduceIte, not_true_eq_false, not_false_eq_true]), ht⟩) (fun _ h => absurd h List.not_mem_nil) dX3_creepGoal_66
          · refine lv_iload hx hb dX3_creepGoal_60 (lv_at hl 0 rfl) ?_
            refine lv_goto (tgt := 66) hx hb dX3_creepGoal_62 (by decide) ?_
            exact W.iret (v := r22) hx hb hr (fun t ht hW => ⟨r22, rfl, (by subst h22; subst h36; subst h48; simp only [fCreep, c4, c14, c30, c39, c57, ↓reduceIte, not_true_eq_false, not_false_eq_true]), ht⟩) (fun _ h => absurd h List.not_mem_nil) dX3_creepGoal_66
        · refine lv_iconst (v := -1) hx hb dX3_creepGoal_42 (by decide) ?_
          exact W.iret (v := (-1 : Int32)) hx hb hr (fun t ht hW => ⟨(-1 : Int32), rfl, (by subst h22; subst h36; simp only [fCreep, c4, c14, c30, (eq_true c39), ↓reduceIte, not_true_eq_false, not_false_eq_true]), ht⟩) (fun _ h => absurd h List.not_mem_nil) dX3_creepGoal_43
    · refine lv_iconst (v := 1) hx hb dX3_creepGoal_17 (by decide) ?_
      refine lv_goto (tgt := 22) hx hb dX3_creepGoal_18 (by decide) ?_
      refine vp_callSi (va_Run.run (va_runS (As := [.int x, .int (1 : Int32)]) (rest := []) ⟨hx, hb, hml, hown, hts⟩ (metX3_beside l x (1 : Int32)) (va_cwS 2 hts gX3_creepGoal_X3_beside rfl rfl rfl (by decide +kernel) ⟨Nat.le_of_ble_eq_true rfl, Nat.le_of_ble_eq_true rfl⟩) ⟨pc0_b, pc0_u⟩ rfl rfl hl.1 rfl (lv_room (Nat.le_of_ble_eq_true rfl)) dX3_creepGoal_22 ⟨Nat.le_of_ble_eq_true rfl, Nat.le_of_ble_eq_true rfl⟩)) (fun r22 h22 => ?_)
      refine lv_istore (lv' := [(4, .int r22), (0, .ref af), (1, .int w), (2, .int x), (3, .int own)]) hx hb dX3_creepGoal_25 hl (by decide) rfl (fun ls hl => ?_)
      refine lv_iload hx hb dX3_creepGoal_27 (lv_at hl 0 rfl) ?_
      refine lv_iconst (v := -1) hx hb dX3_creepGoal_29 (by decide) ?_
      refine lv_icmp_eq (tgt := 42) hx hb dX3_creepGoal_30 (by decide) (fun c30 => ?_) (fun c30 => ?_)
      · refine lv_iconst (v := -1) hx hb dX3_creepGoal_42 (by decide) ?_
        exact W.iret (v := (-1 : Int32)) hx hb hr (fun t ht hW => ⟨(-1 : Int32), rfl, (by subst h22; simp only [fCreep, c4, c14, (eq_true c30), ↓reduceIte, not_true_eq_false, not_false_eq_true]), ht⟩) (fun _ h => absurd h List.not_mem_nil) dX3_creepGoal_43
      · refine lv_aload_n hx hb dX3_creepGoal_33 rfl (lv_at hl 1 rfl) ?_
        refine lv_iload hx hb dX3_creepGoal_34 (lv_at hl 0 rfl) ?_
        refine vp_callSi (va_Run.run (va_runV (As := [.int r22]) (rest := []) ⟨hx, hb, hml, hown, hts⟩ (metX3_isFree l G tys cI htI _ hf hd hk r22) (cwV 1 hts gX3_creepGoal_X3_isFree rfl rfl rfl (by decide +kernel) ⟨Nat.le_of_ble_eq_true rfl, Nat.le_of_ble_eq_true rfl⟩) ⟨pcR_b, va_recv hK hP (ci := 4) (q0 := pf) rfl hf, pcR_u hP hK⟩ rfl rfl hl.1 rfl (lv_room (Nat.le_of_ble_eq_true rfl)) dX3_creepGoal_36 ⟨Nat.le_of_ble_eq_true rfl, Nat.le_of_ble_eq_true rfl⟩)) (fun r36 h36 => ?_)
        refine lv_if_ne (tgt := 44) hx hb dX3_creepGoal_39 (by decide) (fun c39 => ?_) (fun c39 => ?_)
        · refine lv_aload_n hx hb dX3_creepGoal_44 rfl (lv_at hl 1 rfl) ?_
          refine lv_iload_n hx hb dX3_creepGoal_45 rfl (lv_at hl 2 rfl) ?_
          refine lv_iload hx hb dX3_creepGoal_46 (lv_at hl 0 rfl) ?_
          refine vp_callSi (va_Run.run (va_runV (As := [.int w, .int r22]) (rest := []) ⟨hx, hb, hml, hown, hts⟩ (metX3_energyAt l G tys cI htI _ hf hd hk w r22) (cwV 2 hts gX3_creepGoal_X3_energyAt rfl rfl rfl (by decide +kernel) ⟨Nat.le_of_ble_eq_true rfl, Nat.le_of_ble_eq_true rfl⟩) ⟨pcR_b, va_recv hK hP (ci := 4) (q0 := pf) rfl hf, pcR_u hP hK⟩ rfl rfl hl.1 rfl (lv_room (Nat.le_of_ble_eq_true rfl)) dX3_creepGoal_48 ⟨Nat.le_of_ble_eq_true rfl, Nat.le_of_ble_eq_true rfl⟩)) (fun r48 h48 => ?_)
          refine lv_iload_n hx hb dX3_creepGoal_51 rfl (lv_at hl 4 rfl) ?_
          refine lv_isub hx hb dX3_creepGoal_52 ?_
          refine lv_aload_n hx hb dX3_creepGoal_53 rfl (lv_at hl 1 rfl) ?_
          refine va_get (D := G) (ci := 4) (v := .int he) (C := RX3) (T := TX3) (N := 5) hx hb hts hiX3 hown hK hP pf hf rfl 4 (by decide) (hts (.fieldLink RX3 39 "Vortexpin$Film" "heat" "I") (List.mem_of_getElem? (i := 2) rfl)) (fun _ h9 => h9) rfl dX3_creepGoal_54 ?_
          refine lv_icmp_gt (tgt := 65) hx hb dX3_creepGoal_57 (by decide) (fun c57 => ?_) (fun c57 => ?_)
          · refine lv_iconst (v := -1) hx hb dX3_creepGoal_65 (by decide) ?_
            exact W.iret (v := (-1 : Int32)) hx hb hr (fun t ht hW => ⟨(-1 : Int32), rfl, (by subst h22; subst h36; subst h48; simp only [fCreep, c4, c14, c30, c39, c57, ↓reduceIte, not_true_eq_false, not_false_eq_true]), ht⟩) (fun _ h => absurd h List.not_mem_nil) dX3_creepGoal_66
          · refine lv_iload hx hb dX3_creepGoal_60 (lv_at hl 0 rfl) ?_
            refine lv_goto (tgt := 66) hx hb dX3_creepGoal_62 (by decide) ?_
            exact W.iret (v := r22) hx hb hr (fun t ht hW => ⟨r22, rfl, (by subst h22; subst h36; subst h48; simp only [fCreep, c4, c14, c30, c39, c57, ↓reduceIte, not_true_eq_false, not_false_eq_true]), ht⟩) (fun _ h => absurd h List.not_mem_nil) dX3_creepGoal_66
        · refine lv_iconst (v := -1) hx hb dX3_creepGoal_42 (by decide) ?_
          exact W.iret (v := (-1 : Int32)) hx hb hr (fun t ht hW => ⟨(-1 : Int32), rfl, (by subst h22; subst h36; simp only [fCreep, c4, c14, c30, (eq_true c39), ↓reduceIte, not_true_eq_false, not_false_eq_true]), ht⟩) (fun _ h => absurd h List.not_mem_nil) dX3_creepGoal_43
  · refine lv_iconst (v := -1) hx hb dX3_creepGoal_7 (by decide) ?_
    exact W.iret (v := (-1 : Int32)) hx hb hr (fun t ht hW => ⟨(-1 : Int32), rfl, (by simp only [fCreep, (eq_true c4), ↓reduceIte, not_true_eq_false, not_false_eq_true]), ht⟩) (fun _ h => absurd h List.not_mem_nil) dX3_creepGoal_8
set_option maxHeartbeats 4000000 in
set_option maxRecDepth 100000 in
theorem metX3_goalFrom (l : Launch) (G : va_G) (tys : List (ClassId × FieldType)) (cI : ClassId) (htI : tI tys cI) (ws : va_W) {pf pd pk af ad ac : Nat} {en dr he : Int32} {dep cel : Nat → Int32} (hf : ws[pf]? = some (af, .inr (4, [.ref ad, .ref ac, .int en, .int dr, .int he]))) (hd : ws[pd]? = some (ad, .inl (cI, 48, .inl dep))) (hk : ws[pk]? = some (ac, .inl (cI, 20, .inl cel))) (w x : Int32) : Met l yX3_goalFrom wsX3_goalFrom ({ frames := 4, cells := 0, slots := 0, locals := 96 }) (pcR G tys ws [.ref af, .int w, .int x]) (vp_Si (fun r => r = fGoal cel dep dr he w x)) 0 0 (fun _ => False) := by
  refine ofR (cc := cX3_goalFrom) (maxL := 5) (ret := some .int) (by decide) rfl (Nat.le_of_ble_eq_true rfl) ?_
  intro p e s m below meth c ls hx hb hr hlocks hml hown hts hl hP hK
  have hown : s.vm.findClass RX3 = some m.cls := hown
  have hl : lv_has ls 5 [(0, .ref af), (1, .int w), (2, .int x)] := hl
  refine lv_aload_n hx hb dX3_goalFrom_0 rfl (lv_at hl 0 rfl) ?_
  refine lv_iload_n hx hb dX3_goalFrom_1 rfl (lv_at hl 1 rfl) ?_
  refine lv_iload_n hx hb dX3_goalFrom_2 rfl (lv_at hl 2 rfl) ?_
  refine vp_callSi (va_Run.run (va_runV (As := [.int w, .int x]) (rest := []) ⟨hx, hb, hml, hown, hts⟩ (metX3_energyAt l G tys cI htI _ hf hd hk w x) (cwV 2 hts gX3_goalFrom_X3_energyAt rfl rfl rfl (by decide +kernel) ⟨Nat.le_of_ble_eq_true rfl, Nat.le_of_ble_eq_true rfl⟩) ⟨pcR_b, va_recv hK hP (ci := 4) (q0 := pf) rfl hf, pcR_u hP hK⟩ rfl rfl hl.1 rfl (lv_room (Nat.le_of_ble_eq_true rfl)) dX3_goalFrom_3 ⟨Nat.le_of_ble_eq_true rfl, Nat.le_of_ble_eq_true rfl⟩)) (fun r3 h3 => ?_)
  refine lv_istore_n (lv' := [(3, .int r3), (0, .ref af), (1, .int w), (2, .int x)]) hx hb dX3_goalFrom_6 rfl hl (by decide) rfl (fun ls hl => ?_)
  refine lv_aload_n hx hb dX3_goalFrom_7 rfl (lv_at hl 1 rfl) ?_
  refine lv_iload_n hx hb dX3_goalFrom_8 rfl (lv_at hl 2 rfl) ?_
  refine lv_iload_n hx hb dX3_goalFrom_9 rfl (lv_at hl 3 rfl) ?_
  refine lv_iload_n hx hb dX3_goalFrom_10 rfl (lv_at hl 0 rfl) ?_
  refine vp_callSi (va_Run.run (va_runV (As := [.int w, .int x, .int r3]) (rest := []) ⟨hx, hb, hml, hown, hts⟩ (metX3_calmestBeside l G tys cI htI _ hf hd hk w x r3) (cwV 3 hts gX3_goalFrom_X3_calmestBeside rfl rfl rfl (by decide +kernel) ⟨Nat.le_of_ble_eq_true rfl, Nat.le_of_ble_eq_true rfl⟩) ⟨pcR_b, va_recv hK hP (ci := 4) (q0 := pf) rfl hf, pcR_u hP hK⟩ rfl rfl hl.1 rfl (lv_room (Nat.le_of_ble_eq_true rfl)) dX3_goalFrom_11 ⟨Nat.le_of_ble_eq_true rfl, Nat.le_of_ble_eq_true rfl⟩)) (fun r11 h11 => ?_)
  refine lv_istore (lv' := [(4, .int r11), (3, .int r3), (0, .ref af), (1, .int w), (2, .int x)]) hx hb dX3_goalFrom_14 hl (by decide) rfl (fun ls hl => ?_)
  refine lv_iload hx hb dX3_goalFrom_16 (lv_at hl 0 rfl) ?_
  refine lv_iconst (v := -1) hx hb dX3_goalFrom_18 (by decide) ?_
  refine lv_icmp_eq (tgt := 27) hx hb dX3_goalFrom_19 (by decide) (fun c19 => ?_) (fun c19 => ?_)
  · refine lv_aload_n hx hb dX3_goalFrom_27 rfl (lv_at hl 2 rfl) ?_
    refine lv_iload_n hx hb dX3_goalFrom_28 rfl (lv_at hl 3 rfl) ?_
    refine lv_iload_n hx hb dX3_goalFrom_29 rfl (lv_at hl 4 rfl) ?_
    refine lv_iload_n hx hb dX3_goalFrom_30 rfl (lv_at hl 1 rfl) ?_
    refine vp_callSi (va_Run.run (va_runV (As := [.int w, .int x, .int r3]) (rest := []) ⟨hx, hb, hml, hown, hts⟩ (metX3_creepGoal l G tys cI htI _ hf hd hk w x r3) (cwV 3 hts gX3_goalFrom_X3_creepGoal rfl rfl rfl (by decide +kernel) ⟨Nat.le_of_ble_eq_true rfl, Nat.le_of_ble_eq_true rfl⟩) ⟨pcR_b, va_recv hK hP (ci := 4) (q0 := pf) rfl hf, pcR_u hP hK⟩ rfl rfl hl.1 rfl (lv_room (Nat.le_of_ble_eq_true rfl)) dX3_goalFrom_31 ⟨Nat.le_of_ble_eq_true rfl, Nat.le_of_ble_eq_true rfl⟩)) (fun r31 h31 => ?_)
    exact W.iret (v := r31) hx hb hr (fun t ht hW => ⟨r31, rfl, (by subst h3; subst h11; subst h31; simp only [fGoal, (eq_true c19), ↓reduceIte, not_true_eq_false, not_false_eq_true]), ht⟩) (fun _ h => absurd h List.not_mem_nil) dX3_goalFrom_34
  · refine lv_iload hx hb dX3_goalFrom_22 (lv_at hl 0 rfl) ?_
    refine lv_goto (tgt := 34) hx hb dX3_goalFrom_24 (by decide) ?_
    exact W.iret (v := r11) hx hb hr (fun t ht hW => ⟨r11, rfl, (by subst h3; subst h11; simp only [fGoal, c19, ↓reduceIte, not_true_eq_false, not_false_eq_true]), ht⟩) (fun _ h => absurd h List.not_mem_nil) dX3_goalFrom_34
set_option maxHeartbeats 4000000 in
set_option maxRecDepth 100000 in
theorem metX3_calmestEntry (l : Launch) (G : va_G) (tys : List (ClassId × FieldType)) (cI : ClassId) (htI : tI tys cI) (ws : va_W) {pf pd pk af ad ac : Nat} {en dr he : Int32} {dep cel : Nat → Int32} (hf : ws[pf]? = some (af, .inr (4, [.ref ad, .ref ac, .int en, .int dr, .int he]))) (hd : ws[pd]? = some (ad, .inl (cI, 48, .inl dep))) (hk : ws[pk]? = some (ac, .inl (cI, 20, .inl cel))) (w : Int32) : Met l yX3_calmestEntry wsX3_calmestEntry ({ frames := 3, cells := 0, slots := 0, locals := 68 }) (pcR G tys ws [.ref af, .int w]) (vp_Si (fun r => r = (fCe cel dep dr w 6).1)) 0 0 (fun _ => False) := by
  refine ofR (cc := cX3_calmestEntry) (maxL := 7) (ret := some .int) (by decide) rfl (Nat.le_of_ble_eq_true rfl) ?_
  intro p e s m below meth c ls hx hb hr hlocks hml hown hts hl hP hK
  have hown : s.vm.findClass RX3 = some m.cls := hown
  have hl : lv_has ls 7 [(0, .ref af), (1, .int w)] := hl
  refine lv_iconst (v := -1) hx hb dX3_calmestEntry_0 (by decide) ?_
  refine lv_istore_n (lv' := [(2, .int (-1 : Int32)), (0, .ref af), (1, .int w)]) hx hb dX3_calmestEntry_1 rfl hl (by decide) rfl (fun ls hl => ?_)
  refine lv_iconst (v := 0) hx hb dX3_calmestEntry_2 (by decide) ?_
  refine lv_istore_n (lv' := [(3, .int (0 : Int32)), (2, .int (-1 : Int32)), (0, .ref af), (1, .int w)]) hx hb dX3_calmestEntry_3 rfl hl (by decide) rfl (fun ls hl => ?_)
  refine lv_iconst (v := 0) hx hb dX3_calmestEntry_4 (by decide) ?_
  refine lv_istore (lv' := [(4, .int (0 : Int32)), (3, .int (0 : Int32)), (2, .int (-1 : Int32)), (0, .ref af), (1, .int w)]) hx hb dX3_calmestEntry_5 hl (by decide) rfl (fun ls hl => ?_)
  refine loopR 6 7 7 (fun i => [(0, .ref af), (1, .int w), (2, .int ((fCe cel dep dr w i).1)), (3, .int ((fCe cel dep dr w i).2)), (4, .int (nI i))]) (fun i => True) (fun i hNi hKi ihi ls hl => ?_) (i0 := 0) (by omega) (trivial) (lv_sub hl [3, 4, 2, 1, 0] rfl)
  have hl : lv_has ls 7 [(0, .ref af), (1, .int w), (2, .int ((fCe cel dep dr w i).1)), (3, .int ((fCe cel dep dr w i).2)), (4, .int (nI i))] := hl
  refine lv_iload hx hb dX3_calmestEntry_7 (lv_at hl 4 rfl) ?_
  refine lv_bipush (v := 6) hx hb dX3_calmestEntry_9 (by decide) ?_
  refine lv_icmp_ge (tgt := 62) hx hb dX3_calmestEntry_11 (by decide) (fun c11 => ?_) (fun c11 => ?_)
  · have heqi : i = 6 := Nat.le_antisymm hNi ((nI_leI (by omega) (by omega)).mp c11)
    refine lv_iload_n hx hb dX3_calmestEntry_62 rfl (lv_at hl 2 rfl) ?_
    exact W.iret (v := (fCe cel dep dr w i).1) hx hb hr (fun t ht hW => ⟨(fCe cel dep dr w i).1, rfl, (by rw [heqi]), ht⟩) (fun _ h => absurd h List.not_mem_nil) dX3_calmestEntry_63
  · have hlti : i < 6 := Nat.lt_of_not_le (mt (nI_leI (by omega) (by omega)).mpr c11)
    refine lv_iload hx hb dX3_calmestEntry_14 (lv_at hl 4 rfl) ?_
    refine lv_bipush (v := 8) hx hb dX3_calmestEntry_16 (by decide) ?_
    refine lv_imul hx hb dX3_calmestEntry_18 ?_
    refine lv_istore (lv' := [(5, .int ((nI i) * (8 : Int32))), (0, .ref af), (1, .int w), (2, .int ((fCe cel dep dr w i).1)), (3, .int ((fCe cel dep dr w i).2)), (4, .int (nI i))]) hx hb dX3_calmestEntry_19 hl (by decide) rfl (fun ls hl => ?_)
    refine lv_aload_n hx hb dX3_calmestEntry_21 rfl (lv_at hl 1 rfl) ?_
    refine lv_iload hx hb dX3_calmestEntry_22 (lv_at hl 0 rfl) ?_
    refine vp_callSi (va_Run.run (va_runV (As := [.int ((nI i) * (8 : Int32))]) (rest := []) ⟨hx, hb, hml, hown, hts⟩ (metX3_isFree l G tys cI htI _ hf hd hk ((nI i) * (8 : Int32))) (cwV 1 hts gX3_calmestEntry_X3_isFree rfl rfl rfl (by decide +kernel) ⟨Nat.le_of_ble_eq_true rfl, Nat.le_of_ble_eq_true rfl⟩) ⟨pcR_b, va_recv hK hP (ci := 4) (q0 := pf) rfl hf, pcR_u hP hK⟩ rfl rfl hl.1 rfl (lv_room (Nat.le_of_ble_eq_true rfl)) dX3_calmestEntry_24 ⟨Nat.le_of_ble_eq_true rfl, Nat.le_of_ble_eq_true rfl⟩)) (fun r24 h24 => ?_)
    refine lv_if_eq (tgt := 56) hx hb dX3_calmestEntry_27 (by decide) (fun c27 => ?_) (fun c27 => ?_)
    · refine lv_iinc (v := nI (i + 1)) (lv' := [(4, .int (nI (i + 1))), (5, .int ((nI i) * (8 : Int32))), (0, .ref af), (1, .int w), (2, .int ((fCe cel dep dr w i).1)), (3, .int ((fCe cel dep dr w i).2))]) hx hb dX3_calmestEntry_56 hl (k := 5) rfl (nI_1 i) (by decide) rfl (fun ls hl => ?_)
      refine lv_goto (tgt := 7) hx hb dX3_calmestEntry_59 (by decide) ?_
      have ea2 : (fCe cel dep dr w i).1 = (fCe cel dep dr w (i + 1)).1 := by subst h24; simp only [fCe, c11, (eq_true c27), ↓reduceIte, not_true_eq_false, not_false_eq_true]
      rw [ea2] at hl
      have ea3 : (fCe cel dep dr w i).2 = (fCe cel dep dr w (i + 1)).2 := by subst h24; simp only [fCe, c11, (eq_true c27), ↓reduceIte, not_true_eq_false, not_false_eq_true]
      rw [ea3] at hl
      exact ihi ls hlti (trivial) (lv_sub hl [2, 3, 4, 5, 0] rfl)
    · refine lv_aload_n hx hb dX3_calmestEntry_30 rfl (lv_at hl 1 rfl) ?_
      refine lv_iload_n hx hb dX3_calmestEntry_31 rfl (lv_at hl 2 rfl) ?_
      refine lv_iload hx hb dX3_calmestEntry_32 (lv_at hl 0 rfl) ?_
      refine vp_callSi (va_Run.run (va_runV (As := [.int w, .int ((nI i) * (8 : Int32))]) (rest := []) ⟨hx, hb, hml, hown, hts⟩ (metX3_energyAt l G tys cI htI _ hf hd hk w ((nI i) * (8 : Int32))) (cwV 2 hts gX3_calmestEntry_X3_energyAt rfl rfl rfl (by decide +kernel) ⟨Nat.le_of_ble_eq_true rfl, Nat.le_of_ble_eq_true rfl⟩) ⟨pcR_b, va_recv hK hP (ci := 4) (q0 := pf) rfl hf, pcR_u hP hK⟩ rfl rfl hl.1 rfl (lv_room (Nat.le_of_ble_eq_true rfl)) dX3_calmestEntry_34 ⟨Nat.le_of_ble_eq_true rfl, Nat.le_of_ble_eq_true rfl⟩)) (fun r34 h34 => ?_)
      refine lv_istore (lv' := [(6, .int r34), (5, .int ((nI i) * (8 : Int32))), (0, .ref af), (1, .int w), (2, .int ((fCe cel dep dr w i).1)), (3, .int ((fCe cel dep dr w i).2)), (4, .int (nI i))]) hx hb dX3_calmestEntry_37 hl (by decide) rfl (fun ls hl => ?_)
      refine lv_iload_n hx hb dX3_calmestEntry_39 rfl (lv_at hl 4 rfl) ?_
      refine lv_iconst (v := -1) hx hb dX3_calmestEntry_40 (by decide) ?_
      refine lv_icmp_eq (tgt := 50) hx hb dX3_calmestEntry_41 (by decide) (fun c41 => ?_) (fun c41 => ?_)
      · refine lv_iload hx hb dX3_calmestEntry_50 (lv_at hl 0 rfl) ?_
        refine lv_istore_n (lv' := [(3, .int r34), (6, .int r34), (5, .int ((nI i) * (8 : Int32))), (0, .ref af), (1, .int w), (2, .int ((fCe cel dep dr w i).1)), (4, .int (nI i))]) hx hb dX3_calmestEntry_52 rfl hl (by decide) rfl (fun ls hl => ?_)
        refine lv_iload hx hb dX3_calmestEntry_53 (lv_at hl 2 rfl) ?_
        refine lv_istore_n (lv' := [(2, .int ((nI i) * (8 : Int32))), (3, .int r34), (6, .int r34), (5, .int ((nI i) * (8 : Int32))), (0, .ref af), (1, .int w), (4, .int (nI i))]) hx hb dX3_calmestEntry_55 rfl hl (by decide) rfl (fun ls hl => ?_)
        refine lv_iinc (v := nI (i + 1)) (lv' := [(4, .int (nI (i + 1))), (2, .int ((nI i) * (8 : Int32))), (3, .int r34), (6, .int r34), (5, .int ((nI i) * (8 : Int32))), (0, .ref af), (1, .int w)]) hx hb dX3_calmestEntry_56 hl (k := 6) rfl (nI_1 i) (by decide) rfl (fun ls hl => ?_)
        refine lv_goto (tgt := 7) hx hb dX3_calmestEntry_59 (by decide) ?_
        have ea2 : (nI i) * (8 : Int32) = (fCe cel dep dr w (i + 1)).1 := by subst h24; subst h34; simp only [fCe, c11, c27, (eq_true c41), ↓reduceIte, not_true_eq_false, not_false_eq_true]
        rw [ea2] at hl
        have ea3 : r34 = (fCe cel dep dr w (i + 1)).2 := by subst h24; subst h34; simp only [fCe, c11, c27, (eq_true c41), ↓reduceIte, not_true_eq_false, not_false_eq_true]
        rw [ea3] at hl
        exact ihi ls hlti (trivial) (lv_sub hl [5, 6, 1, 2, 0] rfl)
      · refine lv_iload hx hb dX3_calmestEntry_44 (lv_at hl 0 rfl) ?_
        refine lv_iload_n hx hb dX3_calmestEntry_46 rfl (lv_at hl 5 rfl) ?_
        refine lv_icmp_ge (tgt := 56) hx hb dX3_calmestEntry_47 (by decide) (fun c47 => ?_) (fun c47 => ?_)
        · refine lv_iinc (v := nI (i + 1)) (lv' := [(4, .int (nI (i + 1))), (6, .int r34), (5, .int ((nI i) * (8 : Int32))), (0, .ref af), (1, .int w), (2, .int ((fCe cel dep dr w i).1)), (3, .int ((fCe cel dep dr w i).2))]) hx hb dX3_calmestEntry_56 hl (k := 6) rfl (nI_1 i) (by decide) rfl (fun ls hl => ?_)
          refine lv_goto (tgt := 7) hx hb dX3_calmestEntry_59 (by decide) ?_
          have ea2 : (fCe cel dep dr w i).1 = (fCe cel dep dr w (i + 1)).1 := by subst h24; subst h34; simp only [fCe, c11, c27, c41, c47, ↓reduceIte, not_true_eq_false, not_false_eq_true]
          rw [ea2] at hl
          have ea3 : (fCe cel dep dr w i).2 = (fCe cel dep dr w (i + 1)).2 := by subst h24; subst h34; simp only [fCe, c11, c27, c41, c47, ↓reduceIte, not_true_eq_false, not_false_eq_true]
          rw [ea3] at hl
          exact ihi ls hlti (trivial) (lv_sub hl [3, 4, 5, 6, 0] rfl)
        · refine lv_iload hx hb dX3_calmestEntry_50 (lv_at hl 0 rfl) ?_
          refine lv_istore_n (lv' := [(3, .int r34), (6, .int r34), (5, .int ((nI i) * (8 : Int32))), (0, .ref af), (1, .int w), (2, .int ((fCe cel dep dr w i).1)), (4, .int (nI i))]) hx hb dX3_calmestEntry_52 rfl hl (by decide) rfl (fun ls hl => ?_)
          refine lv_iload hx hb dX3_calmestEntry_53 (lv_at hl 2 rfl) ?_
          refine lv_istore_n (lv' := [(2, .int ((nI i) * (8 : Int32))), (3, .int r34), (6, .int r34), (5, .int ((nI i) * (8 : Int32))), (0, .ref af), (1, .int w), (4, .int (nI i))]) hx hb dX3_calmestEntry_55 rfl hl (by decide) rfl (fun ls hl => ?_)
          refine lv_iinc (v := nI (i + 1)) (lv' := [(4, .int (nI (i + 1))), (2, .int ((nI i) * (8 : Int32))), (3, .int r34), (6, .int r34), (5, .int ((nI i) * (8 : Int32))), (0, .ref af), (1, .int w)]) hx hb dX3_calmestEntry_56 hl (k := 6) rfl (nI_1 i) (by decide) rfl (fun ls hl => ?_)
          refine lv_goto (tgt := 7) hx hb dX3_calmestEntry_59 (by decide) ?_
          have ea2 : (nI i) * (8 : Int32) = (fCe cel dep dr w (i + 1)).1 := by subst h24; subst h34; simp only [fCe, c11, c27, c41, c47, ↓reduceIte, not_true_eq_false, not_false_eq_true]
          rw [ea2] at hl
          have ea3 : r34 = (fCe cel dep dr w (i + 1)).2 := by subst h24; subst h34; simp only [fCe, c11, c27, c41, c47, ↓reduceIte, not_true_eq_false, not_false_eq_true]
          rw [ea3] at hl
          exact ihi ls hlti (trivial) (lv_sub hl [5, 6, 1, 2, 0] rfl)
set_option maxHeartbeats 4000000 in
set_option maxRecDepth 100000 in
theorem metX3_runStep (l : Launch) (G : va_G) (tys : List (ClassId × FieldType)) (cI : ClassId) (htI : tI tys cI) {A : Nat → Prop} (ws : va_W) {pf pd pk af ad ac : Nat} {en dr he : Int32} {dep cel : Nat → Int32} (hf : ws[pf]? = some (af, .inr (4, [.ref ad, .ref ac, .int en, .int dr, .int he]))) (hd : ws[pd]? = some (ad, .inl (cI, 48, .inl dep))) (hk : ws[pk]? = some (ac, .inl (cI, 20, .inl cel))) (nfk : pf ≠ pk) (ndk : pd ≠ pk) : Met l yX3_runStep wsX3_runStep ({ frames := 5, cells := 0, slots := 0, locals := 120 }) (pcM G tys ws A [.ref af]) (qMi G (ws.set pk (ac, .inl (cI, 20, .inl (fStep cel dep dr he 20).1))) A (fun r => r = (fStep cel dep dr he 20).2)) 0 0 A := by
  refine ofM (cc := cX3_runStep) (maxL := 5) (ret := some .int) (by decide) rfl (Nat.le_of_ble_eq_true rfl) ?_
  intro p e s m below meth c ls hx hb hr hlocks hml hown hts hin hl hP hK hD hA hS
  have hown : s.vm.findClass RX3 = some m.cls := hown
  have hiX3 : ∀ w ∈ u_ws RX3 TX3 5, w ∈ wsX3_runStep := fun _ h => List.mem_cons_of_mem _ (List.mem_append_right _ h)
  have hl : lv_has ls 5 [(0, .ref af)] := hl
  refine lv_iconst (v := 0) hx hb dX3_runStep_0 (by decide) ?_
  refine lv_istore_n (lv' := [(1, .int (0 : Int32)), (0, .ref af)]) hx hb dX3_runStep_1 rfl hl (by decide) rfl (fun ls hl => ?_)
  refine lv_iconst (v := 0) hx hb dX3_runStep_2 (by decide) ?_
  refine lv_istore_n (lv' := [(2, .int (0 : Int32)), (1, .int (0 : Int32)), (0, .ref af)]) hx hb dX3_runStep_3 rfl hl (by decide) rfl (fun ls hl => ?_)
  refine loopM 20 4 5 (fun i => [(0, .ref af), (1, .int ((fStep cel dep dr he i).2)), (2, .int (nI i))]) (fun i => ws.set pk (ac, .inl (cI, 20, .inl (fStep cel dep dr he i).1))) (fun i => True) (fun i hNi hKi ihi H locs ls hP hD hS hl => ?_) (i0 := 0) (by omega) (trivial) (by show va_P G vwCl (ws.set pk (ac, .inl (cI, 20, .inl cel))) _; rw [va_self hk]; exact hP) (by show va_D A (ws.set pk (ac, .inl (cI, 20, .inl cel))); rw [va_self hk]; exact hD) hS (lv_sub hl [2, 1, 0] rfl)
  have hl : lv_has ls 5 [(0, .ref af), (1, .int ((fStep cel dep dr he i).2)), (2, .int (nI i))] := hl
  have hP : va_P G vwCl (ws.set pk (ac, .inl (cI, 20, .inl (fStep cel dep dr he i).1))) H := hP
  have hD : va_D A (ws.set pk (ac, .inl (cI, 20, .inl (fStep cel dep dr he i).1))) := hD
  have hf := va_gs (k := pk) (e := (ac, .inl (cI, 20, .inl (fStep cel dep dr he i).1))) nfk hf
  have hd := va_gs (k := pk) (e := (ac, .inl (cI, 20, .inl (fStep cel dep dr he i).1))) ndk hd
  have hk := va_ge (e := (ac, .inl (cI, 20, .inl (fStep cel dep dr he i).1))) hk
  refine lv_iload_n hx hb dX3_runStep_4 rfl (lv_at hl 2 rfl) ?_
  refine lv_aload_n hx hb dX3_runStep_5 rfl (lv_at hl 0 rfl) ?_
  refine va_get (D := G) (ci := 4) (v := .ref ac) (C := RX3) (T := TX3) (N := 5) hx hb hts hiX3 hown hK hP pf hf rfl 1 (by decide) (hts (.fieldLink RX3 15 "Vortexpin$Film" "cells" "[I") (List.mem_of_getElem? (i := 1) rfl)) (fun _ h9 => h9) rfl dX3_runStep_6 ?_
  refine va_alen hx hb hK hP pk 0 hk htI (v := (20 : Int32)) rfl dX3_runStep_9 ?_
  refine lv_icmp_ge (tgt := 80) hx hb dX3_runStep_10 (by decide) (fun c10 => ?_) (fun c10 => ?_)
  · have heqi : i = 20 := Nat.le_antisymm hNi ((nI_leI (by omega) (by omega)).mp c10)
    refine lv_iload_n hx hb dX3_runStep_80 rfl (lv_at hl 1 rfl) ?_
    exact W.iret (v := (fStep cel dep dr he i).2) hx hb hr (fun t ht hW => ⟨⟨(fStep cel dep dr he i).2, (), rfl, (by rw [heqi]), by show va_P G vwCl _ t.heap; rw [ht]; rw [heqi] at hP; exact hP⟩, hS.F ht⟩) hS.2.2 dX3_runStep_81
  · have hlti : i < 20 := Nat.lt_of_not_le (mt (nI_leI (by omega) (by omega)).mpr c10)
    refine lv_aload_n hx hb dX3_runStep_13 rfl (lv_at hl 0 rfl) ?_
    refine va_get (D := G) (ci := 4) (v := .ref ac) (C := RX3) (T := TX3) (N := 5) hx hb hts hiX3 hown hK hP pf hf rfl 1 (by decide) (hts (.fieldLink RX3 15 "Vortexpin$Film" "cells" "[I") (List.mem_of_getElem? (i := 1) rfl)) (fun _ h9 => h9) rfl dX3_runStep_14 ?_
    refine lv_iload_n hx hb dX3_runStep_17 rfl (lv_at hl 2 rfl) ?_
    refine va_iald hx hb hK hP pk 0 hk htI (by first | exact vp_in_nI (by omega) (by omega) | assumption) dX3_runStep_18 ?_
    refine rd_i (j := i) (nI_clamp (by omega)) ?_
    refine lv_istore_n (lv' := [(3, .int (((fStep cel dep dr he i).1) i)), (0, .ref af), (1, .int ((fStep cel dep dr he i).2)), (2, .int (nI i))]) hx hb dX3_runStep_19 rfl hl (by decide) rfl (fun ls hl => ?_)
    refine lv_iload_n hx hb dX3_runStep_20 rfl (lv_at hl 0 rfl) ?_
    refine lv_iconst (v := -1) hx hb dX3_runStep_21 (by decide) ?_
    refine lv_icmp_ne (tgt := 28) hx hb dX3_runStep_22 (by decide) (fun c22 => ?_) (fun c22 => ?_)
    · refine lv_aload_n hx hb dX3_runStep_28 rfl (lv_at hl 1 rfl) ?_
      refine lv_iload_n hx hb dX3_runStep_29 rfl (lv_at hl 0 rfl) ?_
      refine vp_callSi (va_Run.run (va_runV (As := [.int (((fStep cel dep dr he i).1) i)]) (rest := []) ⟨hx, hb, hml, hown, hts⟩ (metX3_leavesFrom l G tys cI htI _ hf hd hk (((fStep cel dep dr he i).1) i)) (cwV 1 hts gX3_runStep_X3_leavesFrom rfl rfl rfl (by decide +kernel) ⟨Nat.le_of_ble_eq_true rfl, Nat.le_of_ble_eq_true rfl⟩) ⟨pcR_b, va_recv hK hP (ci := 4) (q0 := pf) rfl hf, pcR_u hP hK⟩ rfl rfl hl.1 rfl (lv_room (Nat.le_of_ble_eq_true rfl)) dX3_runStep_30 ⟨Nat.le_of_ble_eq_true rfl, Nat.le_of_ble_eq_true rfl⟩)) (fun r30 h30 => ?_)
      refine lv_if_eq (tgt := 49) hx hb dX3_runStep_33 (by decide) (fun c33 => ?_) (fun c33 => ?_)
      · refine lv_aload_n hx hb dX3_runStep_49 rfl (lv_at hl 1 rfl) ?_
        refine lv_iload_n hx hb dX3_runStep_50 rfl (lv_at hl 3 rfl) ?_
        refine lv_iload_n hx hb dX3_runStep_51 rfl (lv_at hl 0 rfl) ?_
        refine vp_callSi (va_Run.run (va_runV (As := [.int (nI i), .int (((fStep cel dep dr he i).1) i)]) (rest := []) ⟨hx, hb, hml, hown, hts⟩ (metX3_goalFrom l G tys cI htI _ hf hd hk (nI i) (((fStep cel dep dr he i).1) i)) (cwV 2 hts gX3_runStep_X3_goalFrom rfl rfl rfl (by decide +kernel) ⟨Nat.le_of_ble_eq_true rfl, Nat.le_of_ble_eq_true rfl⟩) ⟨pcR_b, va_recv hK hP (ci := 4) (q0 := pf) rfl hf, pcR_u hP hK⟩ rfl rfl hl.1 rfl (lv_room (Nat.le_of_ble_eq_true rfl)) dX3_runStep_52 ⟨Nat.le_of_ble_eq_true rfl, Nat.le_of_ble_eq_true rfl⟩)) (fun r52 h52 => ?_)
        refine lv_istore (lv' := [(4, .int r52), (3, .int (((fStep cel dep dr he i).1) i)), (0, .ref af), (1, .int ((fStep cel dep dr he i).2)), (2, .int (nI i))]) hx hb dX3_runStep_55 hl (by decide) rfl (fun ls hl => ?_)
        refine lv_iload hx hb dX3_runStep_57 (lv_at hl 0 rfl) ?_
        refine lv_iconst (v := -1) hx hb dX3_runStep_59 (by decide) ?_
        refine lv_icmp_eq (tgt := 74) hx hb dX3_runStep_60 (by decide) (fun c60 => ?_) (fun c60 => ?_)
        · refine lv_iinc (v := nI (i + 1)) (lv' := [(2, .int (nI (i + 1))), (4, .int r52), (3, .int (((fStep cel dep dr he i).1) i)), (0, .ref af), (1, .int ((fStep cel dep dr he i).2))]) hx hb dX3_runStep_74 hl (k := 4) rfl (nI_1 i) (by decide) rfl (fun ls hl => ?_)
          refine lv_goto (tgt := 4) hx hb dX3_runStep_77 (by decide) ?_
          have ea1 : (fStep cel dep dr he i).2 = (fStep cel dep dr he (i + 1)).2 := by subst h30; subst h52; simp only [fStep, c10, c22, (eq_true c33), (eq_true c60), ↓reduceIte, not_true_eq_false, not_false_eq_true]
          rw [ea1] at hl
          have ew : ws.set pk (ac, .inl (cI, 20, .inl (fStep cel dep dr he i).1)) = ws.set pk (ac, .inl (cI, 20, .inl (fStep cel dep dr he (i + 1)).1)) := by subst h30; subst h52; simp only [fStep, nI_clamp (show i < 2 ^ 31 by omega), List.set_set, c10, c22, (eq_true c33), (eq_true c60), ↓reduceIte, not_true_eq_false, not_false_eq_true]
          have hP : va_P G vwCl (ws.set pk (ac, .inl (cI, 20, .inl (fStep cel dep dr he i).1))) H := hP
          have hD : va_D A (ws.set pk (ac, .inl (cI, 20, .inl (fStep cel dep dr he i).1))) := hD
          rw [ew] at hP hD
          exact ihi H _ ls hlti (trivial) hP hD hS (lv_sub hl [3, 4, 0] rfl)
        · refine lv_aload_n hx hb dX3_runStep_63 rfl (lv_at hl 2 rfl) ?_
          refine va_get (D := G) (ci := 4) (v := .ref ac) (C := RX3) (T := TX3) (N := 5) hx hb hts hiX3 hown hK hP pf hf rfl 1 (by decide) (hts (.fieldLink RX3 15 "Vortexpin$Film" "cells" "[I") (List.mem_of_getElem? (i := 1) rfl)) (fun _ h9 => h9) rfl dX3_runStep_64 ?_
          refine lv_iload_n hx hb dX3_runStep_67 rfl (lv_at hl 4 rfl) ?_
          refine lv_iload hx hb dX3_runStep_68 (lv_at hl 0 rfl) ?_
          refine va_iast hx hb hK hP hD hS pk 0 hk htI (by first | exact vp_in_nI (by omega) (by omega) | assumption) dX3_runStep_70 (fun H locs hP hD hS => ?_)
          have hf := va_gs (k := pk) (e := (ac, .inl (cI, 20, .inl (upd ((fStep cel dep dr he i).1) (nI i).toNatClampNeg r52)))) (nfk) hf
          have hd := va_gs (k := pk) (e := (ac, .inl (cI, 20, .inl (upd ((fStep cel dep dr he i).1) (nI i).toNatClampNeg r52)))) (ndk) hd
          have hk := va_ge (e := (ac, .inl (cI, 20, .inl (upd ((fStep cel dep dr he i).1) (nI i).toNatClampNeg r52)))) hk
          refine lv_iinc (v := ((fStep cel dep dr he i).2) + 1) (lv' := [(1, .int (((fStep cel dep dr he i).2) + 1)), (4, .int r52), (3, .int (((fStep cel dep dr he i).1) i)), (0, .ref af), (2, .int (nI i))]) hx hb dX3_runStep_71 hl (k := 3) rfl (rfl) (by decide) rfl (fun ls hl => ?_)
          refine lv_iinc (v := nI (i + 1)) (lv' := [(2, .int (nI (i + 1))), (1, .int (((fStep cel dep dr he i).2) + 1)), (4, .int r52), (3, .int (((fStep cel dep dr he i).1) i)), (0, .ref af)]) hx hb dX3_runStep_74 hl (k := 4) rfl (nI_1 i) (by decide) rfl (fun ls hl => ?_)
          refine lv_goto (tgt := 4) hx hb dX3_runStep_77 (by decide) ?_
          have ea1 : ((fStep cel dep dr he i).2) + 1 = (fStep cel dep dr he (i + 1)).2 := by subst h30; subst h52; simp only [fStep, c10, c22, (eq_true c33), c60, ↓reduceIte, not_true_eq_false, not_false_eq_true]
          rw [ea1] at hl
          have ew : (ws.set pk (ac, .inl (cI, 20, .inl (fStep cel dep dr he i).1))).set pk (ac, .inl (cI, 20, .inl (upd ((fStep cel dep dr he i).1) (nI i).toNatClampNeg r52))) = ws.set pk (ac, .inl (cI, 20, .inl (fStep cel dep dr he (i + 1)).1)) := by subst h30; subst h52; simp only [fStep, nI_clamp (show i < 2 ^ 31 by omega), List.set_set, c10, c22, (eq_true c33), c60, ↓reduceIte, not_true_eq_false, not_false_eq_true]
          have hP : va_P G vwCl ((ws.set pk (ac, .inl (cI, 20, .inl (fStep cel dep dr he i).1))).set pk (ac, .inl (cI, 20, .inl (upd ((fStep cel dep dr he i).1) (nI i).toNatClampNeg r52)))) H := hP
          have hD : va_D A ((ws.set pk (ac, .inl (cI, 20, .inl (fStep cel dep dr he i).1))).set pk (ac, .inl (cI, 20, .inl (upd ((fStep cel dep dr he i).1) (nI i).toNatClampNeg r52)))) := hD
          rw [ew] at hP hD
          exact ihi H _ ls hlti (trivial) hP hD hS (lv_sub hl [4, 1, 0] rfl)
      · refine lv_aload_n hx hb dX3_runStep_36 rfl (lv_at hl 1 rfl) ?_
        refine va_get (D := G) (ci := 4) (v := .ref ac) (C := RX3) (T := TX3) (N := 5) hx hb hts hiX3 hown hK hP pf hf rfl 1 (by decide) (hts (.fieldLink RX3 15 "Vortexpin$Film" "cells" "[I") (List.mem_of_getElem? (i := 1) rfl)) (fun _ h9 => h9) rfl dX3_runStep_37 ?_
        refine lv_iload_n hx hb dX3_runStep_40 rfl (lv_at hl 3 rfl) ?_
        refine lv_iconst (v := -1) hx hb dX3_runStep_41 (by decide) ?_
        refine va_iast hx hb hK hP hD hS pk 0 hk htI (by first | exact vp_in_nI (by omega) (by omega) | assumption) dX3_runStep_42 (fun H locs hP hD hS => ?_)
        have hf := va_gs (k := pk) (e := (ac, .inl (cI, 20, .inl (upd ((fStep cel dep dr he i).1) (nI i).toNatClampNeg (-1 : Int32))))) (nfk) hf
        have hd := va_gs (k := pk) (e := (ac, .inl (cI, 20, .inl (upd ((fStep cel dep dr he i).1) (nI i).toNatClampNeg (-1 : Int32))))) (ndk) hd
        have hk := va_ge (e := (ac, .inl (cI, 20, .inl (upd ((fStep cel dep dr he i).1) (nI i).toNatClampNeg (-1 : Int32))))) hk
        refine lv_iinc (v := ((fStep cel dep dr he i).2) + 1) (lv' := [(1, .int (((fStep cel dep dr he i).2) + 1)), (3, .int (((fStep cel dep dr he i).1) i)), (0, .ref af), (2, .int (nI i))]) hx hb dX3_runStep_43 hl (k := 2) rfl (rfl) (by decide) rfl (fun ls hl => ?_)
        refine lv_goto (tgt := 74) hx hb dX3_runStep_46 (by decide) ?_
        refine lv_iinc (v := nI (i + 1)) (lv' := [(2, .int (nI (i + 1))), (1, .int (((fStep cel dep dr he i).2) + 1)), (3, .int (((fStep cel dep dr he i).1) i)), (0, .ref af)]) hx hb dX3_runStep_74 hl (k := 3) rfl (nI_1 i) (by decide) rfl (fun ls hl => ?_)
        refine lv_goto (tgt := 4) hx hb dX3_runStep_77 (by decide) ?_
        have ea1 : ((fStep cel dep dr he i).2) + 1 = (fStep cel dep dr he (i + 1)).2 := by subst h30; simp only [fStep, c10, c22, c33, ↓reduceIte, not_true_eq_false, not_false_eq_true]
        rw [ea1] at hl
        have ew : (ws.set pk (ac, .inl (cI, 20, .inl (fStep cel dep dr he i).1))).set pk (ac, .inl (cI, 20, .inl (upd ((fStep cel dep dr he i).1) (nI i).toNatClampNeg (-1 : Int32)))) = ws.set pk (ac, .inl (cI, 20, .inl (fStep cel dep dr he (i + 1)).1)) := by subst h30; simp only [fStep, nI_clamp (show i < 2 ^ 31 by omega), List.set_set, c10, c22, c33, ↓reduceIte, not_true_eq_false, not_false_eq_true]
        have hP : va_P G vwCl ((ws.set pk (ac, .inl (cI, 20, .inl (fStep cel dep dr he i).1))).set pk (ac, .inl (cI, 20, .inl (upd ((fStep cel dep dr he i).1) (nI i).toNatClampNeg (-1 : Int32))))) H := hP
        have hD : va_D A ((ws.set pk (ac, .inl (cI, 20, .inl (fStep cel dep dr he i).1))).set pk (ac, .inl (cI, 20, .inl (upd ((fStep cel dep dr he i).1) (nI i).toNatClampNeg (-1 : Int32))))) := hD
        rw [ew] at hP hD
        exact ihi H _ ls hlti (trivial) hP hD hS (lv_sub hl [3, 1, 0] rfl)
    · refine lv_goto (tgt := 74) hx hb dX3_runStep_25 (by decide) ?_
      refine lv_iinc (v := nI (i + 1)) (lv' := [(2, .int (nI (i + 1))), (3, .int (((fStep cel dep dr he i).1) i)), (0, .ref af), (1, .int ((fStep cel dep dr he i).2))]) hx hb dX3_runStep_74 hl (k := 3) rfl (nI_1 i) (by decide) rfl (fun ls hl => ?_)
      refine lv_goto (tgt := 4) hx hb dX3_runStep_77 (by decide) ?_
      have ea1 : (fStep cel dep dr he i).2 = (fStep cel dep dr he (i + 1)).2 := by simp only [fStep, c10, (eq_true c22), ↓reduceIte, not_true_eq_false, not_false_eq_true]
      rw [ea1] at hl
      have ew : ws.set pk (ac, .inl (cI, 20, .inl (fStep cel dep dr he i).1)) = ws.set pk (ac, .inl (cI, 20, .inl (fStep cel dep dr he (i + 1)).1)) := by simp only [fStep, nI_clamp (show i < 2 ^ 31 by omega), List.set_set, c10, (eq_true c22), ↓reduceIte, not_true_eq_false, not_false_eq_true]
      have hP : va_P G vwCl (ws.set pk (ac, .inl (cI, 20, .inl (fStep cel dep dr he i).1))) H := hP
      have hD : va_D A (ws.set pk (ac, .inl (cI, 20, .inl (fStep cel dep dr he i).1))) := hD
      rw [ew] at hP hD
      exact ihi H _ ls hlti (trivial) hP hD hS (lv_sub hl [2, 3, 0] rfl)

