def mIn (v lo hi : Int32) : Int32 := if v < lo then 0 else if hi < v then 0 else 1
theorem mIn_0 {v lo hi : Int32} : mIn v lo hi = 0 ↔ oR v lo hi := by
  unfold mIn
  by_cases h1 : v < lo
  · rw [if_pos h1]; exact ⟨fun _ => Or.inl h1, fun _ => rfl⟩
  · rw [if_neg h1]
    by_cases h2 : hi < v
    · rw [if_pos h2]; exact ⟨fun _ => Or.inr h2, fun _ => rfl⟩
    · rw [if_neg h2]; exact ⟨fun h => absurd h (by decide), fun h => h.elim (fun q => absurd q h1) (fun q => absurd q h2)⟩
def mBes (x w : Int32) : Int32 := if w = 0 then (if x < 8 then -1 else x - 8) else if w = 1 then (if 7 ≤ jrem x 8 then -1 else x + 1) else if w = 2 then (if 40 ≤ x then -1 else x + 8) else (if jrem x 8 ≤ 0 then -1 else x - 1)
def mSum (cel : Nat → Int32) (w x s0 : Int32) : Nat → Int32
  | 0 => s0
  | k + 1 => if nI k = w then mSum cel w x s0 k else if cel k = -1 then mSum cel w x s0 k else mSum cel w x s0 k + fRep (cel k) x
def mEn (cel dep : Nat → Int32) (dr w : Int32) (n : Nat) (x : Int32) : Int32 := mSum cel w x (-(dep x.toNatClampNeg) - dr * jrem x 8) n
def mLeave (cel dep : Nat → Int32) (dr he w : Int32) : Int32 := if dr ≤ 0 then (if 0 ≤ dr then 0 else if jrem (cel w.toNatClampNeg) 8 = 0 then (if jabs dr + he ≤ dep (cel w.toNatClampNeg).toNatClampNeg then 0 else 1) else 0) else if jrem (cel w.toNatClampNeg) 8 = 7 then (if jabs dr + he ≤ dep (cel w.toNatClampNeg).toNatClampNeg then 0 else 1) else 0
def mGb (cel dep win : Nat → Int32) (dr w : Int32) (n : Nat) (x : Int32) : Nat → Int32
  | 0 => -1
  | k + 1 => if mBes x (nI k) = -1 then mGb cel dep win dr w n x k else if win (mBes x (nI k)).toNatClampNeg = -1 then (if mGb cel dep win dr w n x k = -1 then mBes x (nI k) else if mEn cel dep dr w n (mGb cel dep win dr w n x k) ≤ mEn cel dep dr w n (mBes x (nI k)) then mGb cel dep win dr w n x k else mBes x (nI k)) else mGb cel dep win dr w n x k
def mCt (dr x : Int32) : Int32 := if dr ≤ 0 then (if 0 ≤ dr then -1 else mBes x 3) else mBes x 1
def mCr (cel dep win : Nat → Int32) (dr he w : Int32) (n : Nat) (x : Int32) : Int32 := if mCt dr x = -1 then -1 else if win (mCt dr x).toNatClampNeg = -1 then (if he < mEn cel dep dr w n (mCt dr x) - mEn cel dep dr w n x then -1 else mCt dr x) else -1
def mGoal (cel dep win : Nat → Int32) (dr he w : Int32) (n : Nat) (x : Int32) : Int32 := if mGb cel dep win dr w n x 4 = -1 then mCr cel dep win dr he w n x else if mEn cel dep dr w n x ≤ mEn cel dep dr w n (mGb cel dep win dr w n x 4) then mCr cel dep win dr he w n x else mGb cel dep win dr w n x 4
theorem mBes_in0 : ∀ k, k < 48 → ∀ w, w < 4 → mBes (nI k) (nI w) = -1 ∨ ¬ uK (mBes (nI k) (nI w)) 48 := by decide +kernel
theorem mBes_3 {x w : Int32} (h0 : ¬ w = 0) (h1 : ¬ w = 1) (h2 : ¬ w = 2) : mBes x w = mBes x (nI 3) := by
  unfold mBes
  rw [if_neg h0, if_neg h1, if_neg h2]
  rfl
theorem mBes_in {x w : Int32} (hX : ¬ uK x 48) : mBes x w = -1 ∨ ¬ uK (mBes x w) 48 := by
  obtain ⟨e1, e2⟩ := uK_ix (n := 48) hX
  rw [e1]
  by_cases h0 : w = 0
  · rw [h0]; exact mBes_in0 _ e2 0 (by decide)
  · by_cases h1 : w = 1
    · rw [h1]; exact mBes_in0 _ e2 1 (by decide)
    · by_cases h2 : w = 2
      · rw [h2]; exact mBes_in0 _ e2 2 (by decide)
      · rw [mBes_3 h0 h1 h2]; exact mBes_in0 _ e2 3 (by decide)
theorem mBes_ok {x w : Int32} (hX : ¬ uK x 48) (h : ¬ mBes x w = -1) : ¬ uK (mBes x w) 48 := (mBes_in hX).resolve_left h
theorem mGb_ok {cel dep win : Nat → Int32} {dr w : Int32} {n : Nat} {x : Int32} (hX : ¬ uK x 48) : ∀ k, ¬ mGb cel dep win dr w n x k = -1 → ¬ uK (mGb cel dep win dr w n x k) 48 := by
  intro k
  induction k with
  | zero => exact fun h => absurd rfl h
  | succ k ih =>
    unfold mGb
    by_cases h1 : mBes x (nI k) = -1
    · rw [if_pos h1]; exact ih
    · rw [if_neg h1]
      by_cases h2 : win (mBes x (nI k)).toNatClampNeg = -1
      · rw [if_pos h2]
        by_cases h3 : mGb cel dep win dr w n x k = -1
        · rw [if_pos h3]; exact fun _ => mBes_ok hX h1
        · rw [if_neg h3]
          by_cases h4 : mEn cel dep dr w n (mGb cel dep win dr w n x k) ≤ mEn cel dep dr w n (mBes x (nI k))
          · rw [if_pos h4]; exact ih
          · rw [if_neg h4]; exact fun _ => mBes_ok hX h1
      · rw [if_neg h2]; exact ih
theorem mCt_ok {dr x : Int32} (hX : ¬ uK x 48) (h : ¬ mCt dr x = -1) : ¬ uK (mCt dr x) 48 := by
  unfold mCt at h ⊢
  by_cases h1 : dr ≤ 0
  · rw [if_pos h1] at h ⊢
    by_cases h2 : 0 ≤ dr
    · rw [if_pos h2] at h; exact absurd rfl h
    · rw [if_neg h2] at h ⊢; exact mBes_ok hX h
  · rw [if_neg h1] at h ⊢; exact mBes_ok hX h
def mCnt (cur : Int32) (wm : Nat → Int32) (a : Nat) : Nat → Int32
  | 0 => 0
  | k + 1 => mCnt cur wm a k + (if cNorm cur (wm (a + k)) = 0 then 0 else 1)
def mHou (hs : Nat → Int32) (b : Nat) (w : Int32) : Nat → Int32
  | 0 => 0
  | k + 1 => mHou hs b w k + (if hs (b + k) = w then 1 else 0)
theorem mh_ix {x : Int32} {j : Nat} (h : ¬ uK x (nI 8)) (hj : j < 7) : 7 * x + nI j = nI (7 * x.toNatClampNeg + j) ∧ 7 * x.toNatClampNeg + j < 56 := by
  obtain ⟨e1, e2⟩ := uK_ix h
  refine ⟨?_, by omega⟩
  have : 7 * nI x.toNatClampNeg + nI j = nI (7 * x.toNatClampNeg + j) := by
    rw [show (7 : Int32) = nI 7 from rfl, pk_mul, nI_add]
  rw [← e1] at this
  exact this
theorem jabs_n {x : Int32} (h : ¬ 0 ≤ x) : -x = jabs x := by unfold jabs; rw [if_neg h, Int32.zero_sub]
set_option maxHeartbeats 4000000 in
set_option maxRecDepth 100000 in
theorem metX8_in (l : Launch) (v lo hi : Int32) : Met l yX8_in wsX8_in ({ frames := 0, cells := 0, slots := 0, locals := 0 }) (pc0 [.int v, .int lo, .int hi]) (vp_Si (fun r => r = mIn v lo hi)) 0 0 (fun _ => False) := by
  refine of0 (cc := cX8_in) (maxL := 3) (ret := some .boolean) (by decide) rfl (Nat.le_of_ble_eq_true rfl) ?_
  intro p e s m below meth c ls hx hb hr hlocks hml hown hts hl
  have hown : s.vm.findClass RX8 = some m.cls := hown
  have hl : lv_has ls 3 [(0, .int v), (1, .int lo), (2, .int hi)] := hl
  refine lv_iload_n hx hb dX8_in_0 rfl (lv_at hl 0 rfl) ?_
  refine lv_iload_n hx hb dX8_in_1 rfl (lv_at hl 1 rfl) ?_
  refine lv_icmp_lt (tgt := 14) hx hb dX8_in_2 (by decide) (fun c2 => ?_) (fun c2 => ?_)
  · refine lv_iconst (v := 0) hx hb dX8_in_14 (by decide) ?_
    exact W.zret (v := (0 : Int32)) hx hb hr (rfl) (fun t ht hW => ⟨(0 : Int32), rfl, (by simp only [mIn, c2, ↓reduceIte, not_true_eq_false, not_false_eq_true]), ht⟩) (fun _ h => absurd h List.not_mem_nil) dX8_in_15
  · refine lv_iload_n hx hb dX8_in_5 rfl (lv_at hl 0 rfl) ?_
    refine lv_iload_n hx hb dX8_in_6 rfl (lv_at hl 2 rfl) ?_
    refine lv_icmp_gt (tgt := 14) hx hb dX8_in_7 (by decide) (fun c7 => ?_) (fun c7 => ?_)
    · refine lv_iconst (v := 0) hx hb dX8_in_14 (by decide) ?_
      exact W.zret (v := (0 : Int32)) hx hb hr (rfl) (fun t ht hW => ⟨(0 : Int32), rfl, (by simp only [mIn, c2, c7, ↓reduceIte, not_true_eq_false, not_false_eq_true]), ht⟩) (fun _ h => absurd h List.not_mem_nil) dX8_in_15
    · refine lv_iconst (v := 1) hx hb dX8_in_10 (by decide) ?_
      refine lv_goto (tgt := 15) hx hb dX8_in_11 (by decide) ?_
      exact W.zret (v := (1 : Int32)) hx hb hr (rfl) (fun t ht hW => ⟨(1 : Int32), rfl, (by simp only [mIn, c2, c7, ↓reduceIte, not_true_eq_false, not_false_eq_true]), ht⟩) (fun _ h => absurd h List.not_mem_nil) dX8_in_15
set_option maxHeartbeats 4000000 in
set_option maxRecDepth 100000 in
theorem metX8_size (l : Launch) (v : Int32) : Met l yX8_size wsX8_size ({ frames := 0, cells := 0, slots := 0, locals := 0 }) (pc0 [.int v]) (vp_Si (fun r => r = jabs v)) 0 0 (fun _ => False) := by
  refine of0 (cc := cX8_size) (maxL := 1) (ret := some .int) (by decide) rfl (Nat.le_of_ble_eq_true rfl) ?_
  intro p e s m below meth c ls hx hb hr hlocks hml hown hts hl
  have hown : s.vm.findClass RX8 = some m.cls := hown
  have hl : lv_has ls 1 [(0, .int v)] := hl
  refine lv_iload_n hx hb dX8_size_0 rfl (lv_at hl 0 rfl) ?_
  refine lv_if_ge (tgt := 9) hx hb dX8_size_1 (by decide) (fun c1 => ?_) (fun c1 => ?_)
  · refine lv_iload_n hx hb dX8_size_9 rfl (lv_at hl 0 rfl) ?_
    exact W.iret (v := v) hx hb hr (fun t ht hW => ⟨v, rfl, (by unfold jabs; rw [if_pos c1]), ht⟩) (fun _ h => absurd h List.not_mem_nil) dX8_size_10
  · refine lv_iload_n hx hb dX8_size_4 rfl (lv_at hl 0 rfl) ?_
    refine lv_ineg hx hb dX8_size_5 ?_
    refine lv_goto (tgt := 10) hx hb dX8_size_6 (by decide) ?_
    exact W.iret (v := -v) hx hb hr (fun t ht hW => ⟨-v, rfl, (jabs_n c1), ht⟩) (fun _ h => absurd h List.not_mem_nil) dX8_size_10
set_option maxHeartbeats 4000000 in
set_option maxRecDepth 100000 in
theorem metX8_beside (l : Launch) (x w : Int32) : Met l yX8_beside wsX8_beside ({ frames := 0, cells := 0, slots := 0, locals := 0 }) (pc0 [.int x, .int w]) (vp_Si (fun r => r = mBes x w)) 0 0 (fun _ => False) := by
  refine of0 (cc := cX8_beside) (maxL := 2) (ret := some .int) (by decide) rfl (Nat.le_of_ble_eq_true rfl) ?_
  intro p e s m below meth c ls hx hb hr hlocks hml hown hts hl
  have hown : s.vm.findClass RX8 = some m.cls := hown
  have hl : lv_has ls 2 [(0, .int x), (1, .int w)] := hl
  refine lv_iload_n hx hb dX8_beside_0 rfl (lv_at hl 1 rfl) ?_
  by_cases c1_0 : w = (0 : Int32)
  · refine lv_tableIn (tgt := 28) hx hb dX8_beside_1 (by rw [c1_0]; decide) (by rw [c1_0]; decide) (by rw [c1_0]; rfl) (by decide) ?_
    refine lv_iload_n hx hb dX8_beside_28 rfl (lv_at hl 0 rfl) ?_
    refine lv_bipush (v := 8) hx hb dX8_beside_29 (by decide) ?_
    refine lv_icmp_lt (tgt := 41) hx hb dX8_beside_31 (by decide) (fun c31 => ?_) (fun c31 => ?_)
    · refine lv_iconst (v := -1) hx hb dX8_beside_41 (by decide) ?_
      exact W.iret (v := (-1 : Int32)) hx hb hr (fun t ht hW => ⟨(-1 : Int32), rfl, (by simp only [mBes, (eq_true c1_0), c31, ↓reduceIte, not_true_eq_false, not_false_eq_true]), ht⟩) (fun _ h => absurd h List.not_mem_nil) dX8_beside_42
    · refine lv_iload_n hx hb dX8_beside_34 rfl (lv_at hl 0 rfl) ?_
      refine lv_bipush (v := 8) hx hb dX8_beside_35 (by decide) ?_
      refine lv_isub hx hb dX8_beside_37 ?_
      refine lv_goto (tgt := 42) hx hb dX8_beside_38 (by decide) ?_
      exact W.iret (v := x - (8 : Int32)) hx hb hr (fun t ht hW => ⟨x - (8 : Int32), rfl, (by simp only [mBes, (eq_true c1_0), c31, ↓reduceIte, not_true_eq_false, not_false_eq_true]), ht⟩) (fun _ h => absurd h List.not_mem_nil) dX8_beside_42
  by_cases c1_1 : w = (1 : Int32)
  · refine lv_tableIn (tgt := 43) hx hb dX8_beside_1 (by rw [c1_1]; decide) (by rw [c1_1]; decide) (by rw [c1_1]; rfl) (by decide) ?_
    refine lv_iload_n hx hb dX8_beside_43 rfl (lv_at hl 0 rfl) ?_
    refine lv_bipush (v := 8) hx hb dX8_beside_44 (by decide) ?_
    refine lv_irem hx hb dX8_beside_46 (by decide) ?_
    refine fold_rem ?_
    refine lv_bipush (v := 7) hx hb dX8_beside_47 (by decide) ?_
    refine lv_icmp_ge (tgt := 58) hx hb dX8_beside_49 (by decide) (fun c49 => ?_) (fun c49 => ?_)
    · refine lv_iconst (v := -1) hx hb dX8_beside_58 (by decide) ?_
      exact W.iret (v := (-1 : Int32)) hx hb hr (fun t ht hW => ⟨(-1 : Int32), rfl, (by simp only [mBes, c1_0, (eq_true c1_1), c49, ↓reduceIte, not_true_eq_false, not_false_eq_true]), ht⟩) (fun _ h => absurd h List.not_mem_nil) dX8_beside_59
    · refine lv_iload_n hx hb dX8_beside_52 rfl (lv_at hl 0 rfl) ?_
      refine lv_iconst (v := 1) hx hb dX8_beside_53 (by decide) ?_
      refine lv_iadd hx hb dX8_beside_54 ?_
      refine lv_goto (tgt := 59) hx hb dX8_beside_55 (by decide) ?_
      exact W.iret (v := x + (1 : Int32)) hx hb hr (fun t ht hW => ⟨x + (1 : Int32), rfl, (by simp only [mBes, c1_0, (eq_true c1_1), c49, ↓reduceIte, not_true_eq_false, not_false_eq_true]), ht⟩) (fun _ h => absurd h List.not_mem_nil) dX8_beside_59
  by_cases c1_2 : w = (2 : Int32)
  · refine lv_tableIn (tgt := 60) hx hb dX8_beside_1 (by rw [c1_2]; decide) (by rw [c1_2]; decide) (by rw [c1_2]; rfl) (by decide) ?_
    refine lv_iload_n hx hb dX8_beside_60 rfl (lv_at hl 0 rfl) ?_
    refine lv_bipush (v := 40) hx hb dX8_beside_61 (by decide) ?_
    refine lv_icmp_ge (tgt := 73) hx hb dX8_beside_63 (by decide) (fun c63 => ?_) (fun c63 => ?_)
    · refine lv_iconst (v := -1) hx hb dX8_beside_73 (by decide) ?_
      exact W.iret (v := (-1 : Int32)) hx hb hr (fun t ht hW => ⟨(-1 : Int32), rfl, (by simp only [mBes, c1_0, c1_1, (eq_true c1_2), c63, ↓reduceIte, not_true_eq_false, not_false_eq_true]), ht⟩) (fun _ h => absurd h List.not_mem_nil) dX8_beside_74
    · refine lv_iload_n hx hb dX8_beside_66 rfl (lv_at hl 0 rfl) ?_
      refine lv_bipush (v := 8) hx hb dX8_beside_67 (by decide) ?_
      refine lv_iadd hx hb dX8_beside_69 ?_
      refine lv_goto (tgt := 74) hx hb dX8_beside_70 (by decide) ?_
      exact W.iret (v := x + (8 : Int32)) hx hb hr (fun t ht hW => ⟨x + (8 : Int32), rfl, (by simp only [mBes, c1_0, c1_1, (eq_true c1_2), c63, ↓reduceIte, not_true_eq_false, not_false_eq_true]), ht⟩) (fun _ h => absurd h List.not_mem_nil) dX8_beside_74
  have tc1_0 : ¬ w.toInt = 0 := fun q => c1_0 (Int32.toInt_inj.mp (q.trans (by decide : (0 : Int) = (0 : Int32).toInt)))
  have tc1_1 : ¬ w.toInt = 1 := fun q => c1_1 (Int32.toInt_inj.mp (q.trans (by decide : (1 : Int) = (1 : Int32).toInt)))
  have tc1_2 : ¬ w.toInt = 2 := fun q => c1_2 (Int32.toInt_inj.mp (q.trans (by decide : (2 : Int) = (2 : Int32).toInt)))
  refine lv_tableOut (tgt := 75) hx hb dX8_beside_1 (by omega) (by decide) ?_
  refine lv_iload_n hx hb dX8_beside_75 rfl (lv_at hl 0 rfl) ?_
  refine lv_bipush (v := 8) hx hb dX8_beside_76 (by decide) ?_
  refine lv_irem hx hb dX8_beside_78 (by decide) ?_
  refine fold_rem ?_
  refine lv_if_le (tgt := 88) hx hb dX8_beside_79 (by decide) (fun c79 => ?_) (fun c79 => ?_)
  · refine lv_iconst (v := -1) hx hb dX8_beside_88 (by decide) ?_
    exact W.iret (v := (-1 : Int32)) hx hb hr (fun t ht hW => ⟨(-1 : Int32), rfl, (by simp only [mBes, c1_0, c1_1, c1_2, c79, ↓reduceIte, not_true_eq_false, not_false_eq_true]), ht⟩) (fun _ h => absurd h List.not_mem_nil) dX8_beside_89
  · refine lv_iload_n hx hb dX8_beside_82 rfl (lv_at hl 0 rfl) ?_
    refine lv_iconst (v := 1) hx hb dX8_beside_83 (by decide) ?_
    refine lv_isub hx hb dX8_beside_84 ?_
    refine lv_goto (tgt := 89) hx hb dX8_beside_85 (by decide) ?_
    exact W.iret (v := x - (1 : Int32)) hx hb hr (fun t ht hW => ⟨x - (1 : Int32), rfl, (by simp only [mBes, c1_0, c1_1, c1_2, c79, ↓reduceIte, not_true_eq_false, not_false_eq_true]), ht⟩) (fun _ h => absurd h List.not_mem_nil) dX8_beside_89
set_option maxHeartbeats 4000000 in
set_option maxRecDepth 100000 in
theorem metX8_thrown (l : Launch) (G : va_G) (tys : List (ClassId × FieldType)) (ws : va_W) {am : Nat} {ad : Nat → Nat} {z : Nat → Int32} {wi dm : Int64} {F : Nat → Nat → Int32} (hm : ws[12]? = some (am, .inr (9, mF ad z wi dm))) : Met l yX8_thrown wsX8_thrown ({ frames := 0, cells := 0, slots := 0, locals := 0 }) (pcR G tys ws [.ref am]) (vp_Si (fun r => r = z 0)) 0 0 (fun _ => False) := by
  refine ofR (cc := cX8_thrown) (maxL := 1) (ret := some .int) (by decide) rfl (Nat.le_of_ble_eq_true rfl) ?_
  intro p e s m below meth c ls hx hb hr hlocks hml hown hts hl hP hK
  have hown : s.vm.findClass RX8 = some m.cls := hown
  have hiX8 : ∀ w ∈ u_ws RX8 TX8 39, w ∈ wsX8_thrown := fun _ h => List.mem_cons_of_mem _ (List.mem_append_right _ h)
  have hl : lv_has ls 1 [(0, .ref am)] := hl
  refine lv_aload_n hx hb dX8_thrown_0 rfl (lv_at hl 0 rfl) ?_
  refine va_get (D := G) (ci := 9) (v := .int (z 0)) (C := RX8) (T := TX8) (N := 39) hx hb hts hiX8 hown hK hP 12 hm rfl 0 (by decide) (hts (.fieldLink RX8 86 "VortexpinModel" "thrown" "I") (List.mem_of_getElem? (i := 1) rfl)) (fun _ h9 => h9) rfl dX8_thrown_1 ?_
  exact W.iret (v := z 0) hx hb hr (fun t ht hW => ⟨z 0, rfl, (rfl), ht⟩) (fun _ h => absurd h List.not_mem_nil) dX8_thrown_4
set_option maxHeartbeats 4000000 in
set_option maxRecDepth 100000 in
theorem metX8_bound (l : Launch) (G : va_G) (tys : List (ClassId × FieldType)) {cI : ClassId} (htI : tI tys cI) (ws : va_W) {am : Nat} {ad : Nat → Nat} {z : Nat → Int32} {wi dm : Int64} {F : Nat → Nat → Int32} (hm : ws[12]? = some (am, .inr (9, mF ad z wi dm))) (hA13 : ws[13]? = some (ad 13, .inl (cI, 8, .inl (F 13)))) (hA16 : ws[16]? = some (ad 16, .inl (cI, 8, .inl (F 16)))) (x b : Int32) (hX : ¬ uK x (nI 8)) (hc : ¬ F 13 x.toNatClampNeg * F 13 x.toNatClampNeg = 0) : Met l yX8_bound wsX8_bound ({ frames := 0, cells := 0, slots := 0, locals := 0 }) (pcR G tys ws [.ref am, .int x, .int b]) (vp_Si (fun r => r = sBd (F 13 x.toNatClampNeg) (F 16 x.toNatClampNeg) b)) 0 0 (fun _ => False) := by
  refine ofR (cc := cX8_bound) (maxL := 4) (ret := some .int) (by decide) rfl (Nat.le_of_ble_eq_true rfl) ?_
  intro p e s m below meth c ls hx hb hr hlocks hml hown hts hl hP hK
  have hown : s.vm.findClass RX8 = some m.cls := hown
  have hiX8 : ∀ w ∈ u_ws RX8 TX8 39, w ∈ wsX8_bound := fun _ h => List.mem_cons_of_mem _ (List.mem_append_right _ h)
  have hl : lv_has ls 4 [(0, .ref am), (1, .int x), (2, .int b)] := hl
  refine lv_aload_n hx hb dX8_bound_0 rfl (lv_at hl 0 rfl) ?_
  refine va_get (D := G) (ci := 9) (v := .ref (ad 13)) (C := RX8) (T := TX8) (N := 39) hx hb hts hiX8 hown hK hP 12 hm rfl 2 (by decide) (hts (.fieldLink RX8 7 "VortexpinModel" "critical" "[I") (List.mem_of_getElem? (i := 1) rfl)) (fun _ h9 => h9) rfl dX8_bound_1 ?_
  refine lv_iload_n hx hb dX8_bound_4 rfl (lv_at hl 1 rfl) ?_
  refine va_iald hx hb hK hP 13 0 hA13 htI (vp_uK hX) dX8_bound_5 ?_
  refine lv_aload_n hx hb dX8_bound_6 rfl (lv_at hl 0 rfl) ?_
  refine va_get (D := G) (ci := 9) (v := .ref (ad 13)) (C := RX8) (T := TX8) (N := 39) hx hb hts hiX8 hown hK hP 12 hm rfl 2 (by decide) (hts (.fieldLink RX8 7 "VortexpinModel" "critical" "[I") (List.mem_of_getElem? (i := 1) rfl)) (fun _ h9 => h9) rfl dX8_bound_7 ?_
  refine lv_iload_n hx hb dX8_bound_10 rfl (lv_at hl 1 rfl) ?_
  refine va_iald hx hb hK hP 13 0 hA13 htI (vp_uK hX) dX8_bound_11 ?_
  refine lv_imul hx hb dX8_bound_12 ?_
  refine lv_istore_n (lv' := [(3, .int (((F 13) x.toNatClampNeg) * ((F 13) x.toNatClampNeg))), (0, .ref am), (1, .int x), (2, .int b)]) hx hb dX8_bound_13 rfl hl (by decide) rfl (fun ls hl => ?_)
  refine lv_iload_n hx hb dX8_bound_14 rfl (lv_at hl 3 rfl) ?_
  refine lv_iload_n hx hb dX8_bound_15 rfl (lv_at hl 0 rfl) ?_
  refine lv_aload_n hx hb dX8_bound_16 rfl (lv_at hl 1 rfl) ?_
  refine va_get (D := G) (ci := 9) (v := .ref (ad 16)) (C := RX8) (T := TX8) (N := 39) hx hb hts hiX8 hown hK hP 12 hm rfl 5 (by decide) (hts (.fieldLink RX8 19 "VortexpinModel" "warmthOf" "[I") (List.mem_of_getElem? (i := 2) rfl)) (fun _ h9 => h9) rfl dX8_bound_17 ?_
  refine lv_iload_n hx hb dX8_bound_20 rfl (lv_at hl 2 rfl) ?_
  refine va_iald hx hb hK hP 16 0 hA16 htI (vp_uK hX) dX8_bound_21 ?_
  refine lv_aload_n hx hb dX8_bound_22 rfl (lv_at hl 1 rfl) ?_
  refine va_get (D := G) (ci := 9) (v := .ref (ad 16)) (C := RX8) (T := TX8) (N := 39) hx hb hts hiX8 hown hK hP 12 hm rfl 5 (by decide) (hts (.fieldLink RX8 19 "VortexpinModel" "warmthOf" "[I") (List.mem_of_getElem? (i := 2) rfl)) (fun _ h9 => h9) rfl dX8_bound_23 ?_
  refine lv_iload_n hx hb dX8_bound_26 rfl (lv_at hl 2 rfl) ?_
  refine va_iald hx hb hK hP 16 0 hA16 htI (vp_uK hX) dX8_bound_27 ?_
  refine lv_imul hx hb dX8_bound_28 ?_
  refine lv_isub hx hb dX8_bound_29 ?_
  refine lv_imul hx hb dX8_bound_30 ?_
  refine lv_iload_n hx hb dX8_bound_31 rfl (lv_at hl 0 rfl) ?_
  refine lv_idiv hx hb dX8_bound_32 (hc) ?_
  exact W.iret (v := (b * ((((F 13) x.toNatClampNeg) * ((F 13) x.toNatClampNeg)) - (((F 16) x.toNatClampNeg) * ((F 16) x.toNatClampNeg)))) / (((F 13) x.toNatClampNeg) * ((F 13) x.toNatClampNeg))) hx hb hr (fun t ht hW => ⟨(b * ((((F 13) x.toNatClampNeg) * ((F 13) x.toNatClampNeg)) - (((F 16) x.toNatClampNeg) * ((F 16) x.toNatClampNeg)))) / (((F 13) x.toNatClampNeg) * ((F 13) x.toNatClampNeg)), rfl, (by unfold sBd; rw [if_neg hc]), ht⟩) (fun _ h => absurd h List.not_mem_nil) dX8_bound_33
set_option maxHeartbeats 4000000 in
set_option maxRecDepth 100000 in
theorem metX8_energyAt (l : Launch) (G : va_G) (tys : List (ClassId × FieldType)) {cI : ClassId} (htI : tI tys cI) (ws : va_W) {am : Nat} {ad : Nat → Nat} {z : Nat → Int32} {wi dm : Int64} {F : Nat → Nat → Int32} (hm : ws[12]? = some (am, .inr (9, mF ad z wi dm))) (hA18 : ws[18]? = some (ad 18, .inl (cI, 48, .inl (F 18)))) (hA20 : ws[20]? = some (ad 20, .inl (cI, 20, .inl (F 20)))) {nW : Nat} (hnW : z 9 = nI nW) (hW20 : nW ≤ 20) (w x : Int32) (hX : ¬ uK x 48) : Met l yX8_energyAt wsX8_energyAt ({ frames := 1, cells := 0, slots := 0, locals := 20 }) (pcR G tys ws [.ref am, .int w, .int x]) (vp_Si (fun r => r = mEn (F 20) (F 18) (z 11) w nW x)) 0 0 (fun _ => False) := by
  refine ofR (cc := cX8_energyAt) (maxL := 6) (ret := some .int) (by decide) rfl (Nat.le_of_ble_eq_true rfl) ?_
  intro p e s m below meth c ls hx hb hr hlocks hml hown hts hl hP hK
  have hown : s.vm.findClass RX8 = some m.cls := hown
  have hiX8 : ∀ w ∈ u_ws RX8 TX8 39, w ∈ wsX8_energyAt := fun _ h => List.mem_cons_of_mem _ (List.mem_append_right _ h)
  have hl : lv_has ls 6 [(0, .ref am), (1, .int w), (2, .int x)] := hl
  refine lv_aload_n hx hb dX8_energyAt_0 rfl (lv_at hl 0 rfl) ?_
  refine va_get (D := G) (ci := 9) (v := .ref (ad 18)) (C := RX8) (T := TX8) (N := 39) hx hb hts hiX8 hown hK hP 12 hm rfl 7 (by decide) (hts (.fieldLink RX8 25 "VortexpinModel" "depth" "[I") (List.mem_of_getElem? (i := 1) rfl)) (fun _ h9 => h9) rfl dX8_energyAt_1 ?_
  refine lv_iload_n hx hb dX8_energyAt_4 rfl (lv_at hl 2 rfl) ?_
  refine va_iald hx hb hK hP 18 0 hA18 htI (vp_uK hX) dX8_energyAt_5 ?_
  refine lv_ineg hx hb dX8_energyAt_6 ?_
  refine lv_aload_n hx hb dX8_energyAt_7 rfl (lv_at hl 0 rfl) ?_
  refine va_get (D := G) (ci := 9) (v := .int (z 11)) (C := RX8) (T := TX8) (N := 39) hx hb hts hiX8 hown hK hP 12 hm rfl 11 (by decide) (hts (.fieldLink RX8 109 "VortexpinModel" "drive" "I") (List.mem_of_getElem? (i := 2) rfl)) (fun _ h9 => h9) rfl dX8_energyAt_8 ?_
  refine lv_iload_n hx hb dX8_energyAt_11 rfl (lv_at hl 2 rfl) ?_
  refine lv_bipush (v := 8) hx hb dX8_energyAt_12 (by decide) ?_
  refine lv_irem hx hb dX8_energyAt_14 (by decide) ?_
  refine fold_rem ?_
  refine lv_imul hx hb dX8_energyAt_15 ?_
  refine lv_isub hx hb dX8_energyAt_16 ?_
  refine lv_istore_n (lv' := [(3, .int ((-((F 18) x.toNatClampNeg)) - ((z 11) * (jrem x (8 : Int32))))), (0, .ref am), (1, .int w), (2, .int x)]) hx hb dX8_energyAt_17 rfl hl (by decide) rfl (fun ls hl => ?_)
  refine lv_iconst (v := 0) hx hb dX8_energyAt_18 (by decide) ?_
  refine lv_istore (lv' := [(4, .int (0 : Int32)), (3, .int ((-((F 18) x.toNatClampNeg)) - ((z 11) * (jrem x (8 : Int32))))), (0, .ref am), (1, .int w), (2, .int x)]) hx hb dX8_energyAt_19 hl (by decide) rfl (fun ls hl => ?_)
  refine loopR nW 21 6 (fun i => [(0, .ref am), (1, .int w), (2, .int x), (3, .int (mSum (F 20) w x (-(F 18 x.toNatClampNeg) - z 11 * jrem x 8) i)), (4, .int (nI i))]) (fun i => True) (fun i hNi hKi ihi ls hl => ?_) (i0 := 0) (by omega) (trivial) (lv_sub hl [2, 3, 4, 1, 0] rfl)
  have hl : lv_has ls 6 [(0, .ref am), (1, .int w), (2, .int x), (3, .int (mSum (F 20) w x (-(F 18 x.toNatClampNeg) - z 11 * jrem x 8) i)), (4, .int (nI i))] := hl
  refine lv_iload hx hb dX8_energyAt_21 (lv_at hl 4 rfl) ?_
  refine lv_aload_n hx hb dX8_energyAt_23 rfl (lv_at hl 0 rfl) ?_
  refine va_get (D := G) (ci := 9) (v := .int (z 9)) (C := RX8) (T := TX8) (N := 39) hx hb hts hiX8 hown hK hP 12 hm rfl 9 (by decide) (hts (.fieldLink RX8 115 "VortexpinModel" "whirls" "I") (List.mem_of_getElem? (i := 3) rfl)) (fun _ h9 => h9) rfl dX8_energyAt_24 ?_
  refine lv_icmp_ge (tgt := 128) hx hb dX8_energyAt_27 (by decide) (fun c27 => ?_) (fun c27 => ?_)
  · have heqi : i = nW := by rw [hnW] at c27; exact Nat.le_antisymm hNi ((nI_leI (by omega) (by omega)).mp c27)
    refine lv_iload_n hx hb dX8_energyAt_128 rfl (lv_at hl 3 rfl) ?_
    exact W.iret (v := mSum (F 20) w x (-(F 18 x.toNatClampNeg) - z 11 * jrem x 8) i) hx hb hr (fun t ht hW => ⟨mSum (F 20) w x (-(F 18 x.toNatClampNeg) - z 11 * jrem x 8) i, rfl, (by rw [heqi]; rfl), ht⟩) (fun _ h => absurd h List.not_mem_nil) dX8_energyAt_129
  · have hlti : i < nW := by rw [hnW] at c27; exact Nat.lt_of_not_le (mt (nI_leI (by omega) (by omega)).mpr c27)
    refine lv_iload hx hb dX8_energyAt_30 (lv_at hl 4 rfl) ?_
    refine lv_iload_n hx hb dX8_energyAt_32 rfl (lv_at hl 1 rfl) ?_
    refine lv_icmp_eq (tgt := 122) hx hb dX8_energyAt_33 (by decide) (fun c33 => ?_) (fun c33 => ?_)
    · refine lv_iinc (v := nI (i + 1)) (lv' := [(4, .int (nI (i + 1))), (0, .ref am), (1, .int w), (2, .int x), (3, .int (mSum (F 20) w x (-(F 18 x.toNatClampNeg) - z 11 * jrem x 8) i))]) hx hb dX8_energyAt_122 hl (k := 4) rfl (nI_1 i) (by decide) rfl (fun ls hl => ?_)
      refine lv_goto (tgt := 21) hx hb dX8_energyAt_125 (by decide) ?_
      have ea3 : mSum (F 20) w x (-(F 18 x.toNatClampNeg) - z 11 * jrem x 8) i = mSum (F 20) w x (-(F 18 x.toNatClampNeg) - z 11 * jrem x 8) (i + 1) := by simp only [mSum, fRep, fFar, Int32.add_zero, c27, (eq_true c33), ↓reduceIte, not_true_eq_false, not_false_eq_true]
      rw [ea3] at hl
      exact ihi ls hlti (trivial) (lv_sub hl [1, 2, 3, 4, 0] rfl)
    · refine lv_aload_n hx hb dX8_energyAt_36 rfl (lv_at hl 0 rfl) ?_
      refine va_get (D := G) (ci := 9) (v := .ref (ad 20)) (C := RX8) (T := TX8) (N := 39) hx hb hts hiX8 hown hK hP 12 hm rfl 10 (by decide) (hts (.fieldLink RX8 31 "VortexpinModel" "cellOf" "[I") (List.mem_of_getElem? (i := 4) rfl)) (fun _ h9 => h9) rfl dX8_energyAt_37 ?_
      refine lv_iload hx hb dX8_energyAt_40 (lv_at hl 4 rfl) ?_
      refine va_iald hx hb hK hP 20 0 hA20 htI (by first | exact vp_in_nI (by omega) (by omega) | assumption) dX8_energyAt_42 ?_
      refine rd_i (j := i) (nI_clamp (by omega)) ?_
      refine lv_iconst (v := -1) hx hb dX8_energyAt_43 (by decide) ?_
      refine lv_icmp_eq (tgt := 122) hx hb dX8_energyAt_44 (by decide) (fun c44 => ?_) (fun c44 => ?_)
      · refine lv_iinc (v := nI (i + 1)) (lv' := [(4, .int (nI (i + 1))), (0, .ref am), (1, .int w), (2, .int x), (3, .int (mSum (F 20) w x (-(F 18 x.toNatClampNeg) - z 11 * jrem x 8) i))]) hx hb dX8_energyAt_122 hl (k := 4) rfl (nI_1 i) (by decide) rfl (fun ls hl => ?_)
        refine lv_goto (tgt := 21) hx hb dX8_energyAt_125 (by decide) ?_
        have ea3 : mSum (F 20) w x (-(F 18 x.toNatClampNeg) - z 11 * jrem x 8) i = mSum (F 20) w x (-(F 18 x.toNatClampNeg) - z 11 * jrem x 8) (i + 1) := by simp only [mSum, fRep, fFar, Int32.add_zero, c27, c33, (eq_true c44), ↓reduceIte, not_true_eq_false, not_false_eq_true]
        rw [ea3] at hl
        exact ihi ls hlti (trivial) (lv_sub hl [1, 2, 3, 4, 0] rfl)
      · refine lv_aload_n hx hb dX8_energyAt_47 rfl (lv_at hl 0 rfl) ?_
        refine va_get (D := G) (ci := 9) (v := .ref (ad 20)) (C := RX8) (T := TX8) (N := 39) hx hb hts hiX8 hown hK hP 12 hm rfl 10 (by decide) (hts (.fieldLink RX8 31 "VortexpinModel" "cellOf" "[I") (List.mem_of_getElem? (i := 4) rfl)) (fun _ h9 => h9) rfl dX8_energyAt_48 ?_
        refine lv_iload hx hb dX8_energyAt_51 (lv_at hl 4 rfl) ?_
        refine va_iald hx hb hK hP 20 0 hA20 htI (by first | exact vp_in_nI (by omega) (by omega) | assumption) dX8_energyAt_53 ?_
        refine rd_i (j := i) (nI_clamp (by omega)) ?_
        refine lv_bipush (v := 8) hx hb dX8_energyAt_54 (by decide) ?_
        refine lv_irem hx hb dX8_energyAt_56 (by decide) ?_
        refine fold_rem ?_
        refine lv_iload_n hx hb dX8_energyAt_57 rfl (lv_at hl 2 rfl) ?_
        refine lv_bipush (v := 8) hx hb dX8_energyAt_58 (by decide) ?_
        refine lv_irem hx hb dX8_energyAt_60 (by decide) ?_
        refine fold_rem ?_
        refine lv_isub hx hb dX8_energyAt_61 ?_
        refine vp_callSi (va_Run.run (va_runS (As := [.int ((jrem ((F 20) i) (8 : Int32)) - (jrem x (8 : Int32)))]) (rest := []) ⟨hx, hb, hml, hown, hts⟩ (metX8_size l ((jrem ((F 20) i) (8 : Int32)) - (jrem x (8 : Int32)))) (va_cwS 1 hts gX8_energyAt_X8_size rfl rfl rfl (by decide +kernel) ⟨Nat.le_of_ble_eq_true rfl, Nat.le_of_ble_eq_true rfl⟩) ⟨pc0_b, pc0_u⟩ rfl rfl hl.1 rfl (lv_room (Nat.le_of_ble_eq_true rfl)) dX8_energyAt_62 ⟨Nat.le_of_ble_eq_true rfl, Nat.le_of_ble_eq_true rfl⟩)) (fun r62 h62 => ?_)
        refine lv_aload_n hx hb dX8_energyAt_65 rfl (lv_at hl 0 rfl) ?_
        refine va_get (D := G) (ci := 9) (v := .ref (ad 20)) (C := RX8) (T := TX8) (N := 39) hx hb hts hiX8 hown hK hP 12 hm rfl 10 (by decide) (hts (.fieldLink RX8 31 "VortexpinModel" "cellOf" "[I") (List.mem_of_getElem? (i := 4) rfl)) (fun _ h9 => h9) rfl dX8_energyAt_66 ?_
        refine lv_iload hx hb dX8_energyAt_69 (lv_at hl 4 rfl) ?_
        refine va_iald hx hb hK hP 20 0 hA20 htI (by first | exact vp_in_nI (by omega) (by omega) | assumption) dX8_energyAt_71 ?_
        refine rd_i (j := i) (nI_clamp (by omega)) ?_
        refine lv_bipush (v := 8) hx hb dX8_energyAt_72 (by decide) ?_
        refine lv_idiv hx hb dX8_energyAt_74 (by decide) ?_
        refine lv_iload_n hx hb dX8_energyAt_75 rfl (lv_at hl 2 rfl) ?_
        refine lv_bipush (v := 8) hx hb dX8_energyAt_76 (by decide) ?_
        refine lv_idiv hx hb dX8_energyAt_78 (by decide) ?_
        refine lv_isub hx hb dX8_energyAt_79 ?_
        refine vp_callSi (va_Run.run (va_runS (As := [.int ((((F 20) i) / (8 : Int32)) - (x / (8 : Int32)))]) (rest := [.int r62]) ⟨hx, hb, hml, hown, hts⟩ (metX8_size l ((((F 20) i) / (8 : Int32)) - (x / (8 : Int32)))) (va_cwS 1 hts gX8_energyAt_X8_size rfl rfl rfl (by decide +kernel) ⟨Nat.le_of_ble_eq_true rfl, Nat.le_of_ble_eq_true rfl⟩) ⟨pc0_b, pc0_u⟩ rfl rfl hl.1 rfl (lv_room (Nat.le_of_ble_eq_true rfl)) dX8_energyAt_80 ⟨Nat.le_of_ble_eq_true rfl, Nat.le_of_ble_eq_true rfl⟩)) (fun r80 h80 => ?_)
        refine lv_iadd hx hb dX8_energyAt_83 ?_
        refine lv_istore (lv' := [(5, .int (r62 + r80)), (0, .ref am), (1, .int w), (2, .int x), (3, .int (mSum (F 20) w x (-(F 18 x.toNatClampNeg) - z 11 * jrem x 8) i)), (4, .int (nI i))]) hx hb dX8_energyAt_84 hl (by decide) rfl (fun ls hl => ?_)
        refine lv_iload_n hx hb dX8_energyAt_86 rfl (lv_at hl 4 rfl) ?_
        refine lv_iload hx hb dX8_energyAt_87 (lv_at hl 0 rfl) ?_
        refine lv_iconst (v := 1) hx hb dX8_energyAt_89 (by decide) ?_
        refine lv_icmp_ne (tgt := 98) hx hb dX8_energyAt_90 (by decide) (fun c90 => ?_) (fun c90 => ?_)
        · refine lv_iload hx hb dX8_energyAt_98 (lv_at hl 0 rfl) ?_
          refine lv_iconst (v := 2) hx hb dX8_energyAt_100 (by decide) ?_
          refine lv_icmp_ne (tgt := 109) hx hb dX8_energyAt_101 (by decide) (fun c101 => ?_) (fun c101 => ?_)
          · refine lv_iload hx hb dX8_energyAt_109 (lv_at hl 0 rfl) ?_
            refine lv_iconst (v := 3) hx hb dX8_energyAt_111 (by decide) ?_
            refine lv_icmp_ne (tgt := 119) hx hb dX8_energyAt_112 (by decide) (fun c112 => ?_) (fun c112 => ?_)
            · refine lv_iconst (v := 0) hx hb dX8_energyAt_119 (by decide) ?_
              refine lv_iadd hx hb dX8_energyAt_120 ?_
              refine lv_istore_n (lv' := [(3, .int ((mSum (F 20) w x (-(F 18 x.toNatClampNeg) - z 11 * jrem x 8) i) + (0 : Int32))), (5, .int (r62 + r80)), (0, .ref am), (1, .int w), (2, .int x), (4, .int (nI i))]) hx hb dX8_energyAt_121 rfl hl (by decide) rfl (fun ls hl => ?_)
              refine lv_iinc (v := nI (i + 1)) (lv' := [(4, .int (nI (i + 1))), (3, .int ((mSum (F 20) w x (-(F 18 x.toNatClampNeg) - z 11 * jrem x 8) i) + (0 : Int32))), (5, .int (r62 + r80)), (0, .ref am), (1, .int w), (2, .int x)]) hx hb dX8_energyAt_122 hl (k := 5) rfl (nI_1 i) (by decide) rfl (fun ls hl => ?_)
              refine lv_goto (tgt := 21) hx hb dX8_energyAt_125 (by decide) ?_
              have ea3 : (mSum (F 20) w x (-(F 18 x.toNatClampNeg) - z 11 * jrem x 8) i) + (0 : Int32) = mSum (F 20) w x (-(F 18 x.toNatClampNeg) - z 11 * jrem x 8) (i + 1) := by subst h62; subst h80; simp only [mSum, fRep, fFar, Int32.add_zero, c27, c33, c44, c90, c101, c112, ↓reduceIte, not_true_eq_false, not_false_eq_true]
              rw [ea3] at hl
              exact ihi ls hlti (trivial) (lv_sub hl [3, 4, 5, 1, 0] rfl)
            · refine lv_iconst (v := 2) hx hb dX8_energyAt_115 (by decide) ?_
              refine lv_goto (tgt := 120) hx hb dX8_energyAt_116 (by decide) ?_
              refine lv_iadd hx hb dX8_energyAt_120 ?_
              refine lv_istore_n (lv' := [(3, .int ((mSum (F 20) w x (-(F 18 x.toNatClampNeg) - z 11 * jrem x 8) i) + (2 : Int32))), (5, .int (r62 + r80)), (0, .ref am), (1, .int w), (2, .int x), (4, .int (nI i))]) hx hb dX8_energyAt_121 rfl hl (by decide) rfl (fun ls hl => ?_)
              refine lv_iinc (v := nI (i + 1)) (lv' := [(4, .int (nI (i + 1))), (3, .int ((mSum (F 20) w x (-(F 18 x.toNatClampNeg) - z 11 * jrem x 8) i) + (2 : Int32))), (5, .int (r62 + r80)), (0, .ref am), (1, .int w), (2, .int x)]) hx hb dX8_energyAt_122 hl (k := 5) rfl (nI_1 i) (by decide) rfl (fun ls hl => ?_)
              refine lv_goto (tgt := 21) hx hb dX8_energyAt_125 (by decide) ?_
              have ea3 : (mSum (F 20) w x (-(F 18 x.toNatClampNeg) - z 11 * jrem x 8) i) + (2 : Int32) = mSum (F 20) w x (-(F 18 x.toNatClampNeg) - z 11 * jrem x 8) (i + 1) := by subst h62; subst h80; simp only [mSum, fRep, fFar, Int32.add_zero, c27, c33, c44, c90, c101, (eq_true c112), ↓reduceIte, not_true_eq_false, not_false_eq_true]
              rw [ea3] at hl
              exact ihi ls hlti (trivial) (lv_sub hl [3, 4, 5, 1, 0] rfl)
          · refine lv_bipush (v := 6) hx hb dX8_energyAt_104 (by decide) ?_
            refine lv_goto (tgt := 120) hx hb dX8_energyAt_106 (by decide) ?_
            refine lv_iadd hx hb dX8_energyAt_120 ?_
            refine lv_istore_n (lv' := [(3, .int ((mSum (F 20) w x (-(F 18 x.toNatClampNeg) - z 11 * jrem x 8) i) + (6 : Int32))), (5, .int (r62 + r80)), (0, .ref am), (1, .int w), (2, .int x), (4, .int (nI i))]) hx hb dX8_energyAt_121 rfl hl (by decide) rfl (fun ls hl => ?_)
            refine lv_iinc (v := nI (i + 1)) (lv' := [(4, .int (nI (i + 1))), (3, .int ((mSum (F 20) w x (-(F 18 x.toNatClampNeg) - z 11 * jrem x 8) i) + (6 : Int32))), (5, .int (r62 + r80)), (0, .ref am), (1, .int w), (2, .int x)]) hx hb dX8_energyAt_122 hl (k := 5) rfl (nI_1 i) (by decide) rfl (fun ls hl => ?_)
            refine lv_goto (tgt := 21) hx hb dX8_energyAt_125 (by decide) ?_
            have ea3 : (mSum (F 20) w x (-(F 18 x.toNatClampNeg) - z 11 * jrem x 8) i) + (6 : Int32) = mSum (F 20) w x (-(F 18 x.toNatClampNeg) - z 11 * jrem x 8) (i + 1) := by subst h62; subst h80; simp only [mSum, fRep, fFar, Int32.add_zero, c27, c33, c44, c90, (eq_true c101), ↓reduceIte, not_true_eq_false, not_false_eq_true]
            rw [ea3] at hl
            exact ihi ls hlti (trivial) (lv_sub hl [3, 4, 5, 1, 0] rfl)
        · refine lv_bipush (v := 12) hx hb dX8_energyAt_93 (by decide) ?_
          refine lv_goto (tgt := 120) hx hb dX8_energyAt_95 (by decide) ?_
          refine lv_iadd hx hb dX8_energyAt_120 ?_
          refine lv_istore_n (lv' := [(3, .int ((mSum (F 20) w x (-(F 18 x.toNatClampNeg) - z 11 * jrem x 8) i) + (12 : Int32))), (5, .int (r62 + r80)), (0, .ref am), (1, .int w), (2, .int x), (4, .int (nI i))]) hx hb dX8_energyAt_121 rfl hl (by decide) rfl (fun ls hl => ?_)
          refine lv_iinc (v := nI (i + 1)) (lv' := [(4, .int (nI (i + 1))), (3, .int ((mSum (F 20) w x (-(F 18 x.toNatClampNeg) - z 11 * jrem x 8) i) + (12 : Int32))), (5, .int (r62 + r80)), (0, .ref am), (1, .int w), (2, .int x)]) hx hb dX8_energyAt_122 hl (k := 5) rfl (nI_1 i) (by decide) rfl (fun ls hl => ?_)
          refine lv_goto (tgt := 21) hx hb dX8_energyAt_125 (by decide) ?_
          have ea3 : (mSum (F 20) w x (-(F 18 x.toNatClampNeg) - z 11 * jrem x 8) i) + (12 : Int32) = mSum (F 20) w x (-(F 18 x.toNatClampNeg) - z 11 * jrem x 8) (i + 1) := by subst h62; subst h80; simp only [mSum, fRep, fFar, Int32.add_zero, c27, c33, c44, (eq_true c90), ↓reduceIte, not_true_eq_false, not_false_eq_true]
          rw [ea3] at hl
          exact ihi ls hlti (trivial) (lv_sub hl [3, 4, 5, 1, 0] rfl)
set_option maxHeartbeats 4000000 in
set_option maxRecDepth 100000 in
theorem metX8_leaves (l : Launch) (G : va_G) (tys : List (ClassId × FieldType)) {cI : ClassId} (htI : tI tys cI) (ws : va_W) {am : Nat} {ad : Nat → Nat} {z : Nat → Int32} {wi dm : Int64} {F : Nat → Nat → Int32} (hm : ws[12]? = some (am, .inr (9, mF ad z wi dm))) (hA18 : ws[18]? = some (ad 18, .inl (cI, 48, .inl (F 18)))) (hA20 : ws[20]? = some (ad 20, .inl (cI, 20, .inl (F 20)))) (w : Int32) (hw : ¬ uK w 20) (hX : ¬ uK (F 20 w.toNatClampNeg) 48) : Met l yX8_leaves wsX8_leaves ({ frames := 1, cells := 0, slots := 0, locals := 20 }) (pcR G tys ws [.ref am, .int w]) (vp_Si (fun r => r = mLeave (F 20) (F 18) (z 11) (z 12) w)) 0 0 (fun _ => False) := by
  refine ofR (cc := cX8_leaves) (maxL := 4) (ret := some .boolean) (by decide) rfl (Nat.le_of_ble_eq_true rfl) ?_
  intro p e s m below meth c ls hx hb hr hlocks hml hown hts hl hP hK
  have hown : s.vm.findClass RX8 = some m.cls := hown
  have hiX8 : ∀ w ∈ u_ws RX8 TX8 39, w ∈ wsX8_leaves := fun _ h => List.mem_cons_of_mem _ (List.mem_append_right _ h)
  have hl : lv_has ls 4 [(0, .ref am), (1, .int w)] := hl
  refine lv_aload_n hx hb dX8_leaves_0 rfl (lv_at hl 0 rfl) ?_
  refine va_get (D := G) (ci := 9) (v := .ref (ad 20)) (C := RX8) (T := TX8) (N := 39) hx hb hts hiX8 hown hK hP 12 hm rfl 10 (by decide) (hts (.fieldLink RX8 31 "VortexpinModel" "cellOf" "[I") (List.mem_of_getElem? (i := 1) rfl)) (fun _ h9 => h9) rfl dX8_leaves_1 ?_
  refine lv_iload_n hx hb dX8_leaves_4 rfl (lv_at hl 1 rfl) ?_
  refine va_iald hx hb hK hP 20 0 hA20 htI (vp_uK hw) dX8_leaves_5 ?_
  refine lv_bipush (v := 8) hx hb dX8_leaves_6 (by decide) ?_
  refine lv_irem hx hb dX8_leaves_8 (by decide) ?_
  refine fold_rem ?_
  refine lv_istore_n (lv' := [(2, .int (jrem ((F 20) w.toNatClampNeg) (8 : Int32))), (0, .ref am), (1, .int w)]) hx hb dX8_leaves_9 rfl hl (by decide) rfl (fun ls hl => ?_)
  refine lv_aload_n hx hb dX8_leaves_10 rfl (lv_at hl 1 rfl) ?_
  refine va_get (D := G) (ci := 9) (v := .int (z 11)) (C := RX8) (T := TX8) (N := 39) hx hb hts hiX8 hown hK hP 12 hm rfl 11 (by decide) (hts (.fieldLink RX8 109 "VortexpinModel" "drive" "I") (List.mem_of_getElem? (i := 2) rfl)) (fun _ h9 => h9) rfl dX8_leaves_11 ?_
  refine lv_if_le (tgt := 23) hx hb dX8_leaves_14 (by decide) (fun c14 => ?_) (fun c14 => ?_)
  · refine lv_aload_n hx hb dX8_leaves_23 rfl (lv_at hl 1 rfl) ?_
    refine va_get (D := G) (ci := 9) (v := .int (z 11)) (C := RX8) (T := TX8) (N := 39) hx hb hts hiX8 hown hK hP 12 hm rfl 11 (by decide) (hts (.fieldLink RX8 109 "VortexpinModel" "drive" "I") (List.mem_of_getElem? (i := 2) rfl)) (fun _ h9 => h9) rfl dX8_leaves_24 ?_
    refine lv_if_ge (tgt := 38) hx hb dX8_leaves_27 (by decide) (fun c27 => ?_) (fun c27 => ?_)
    · refine lv_iconst (v := 0) hx hb dX8_leaves_38 (by decide) ?_
      refine lv_istore_n (lv' := [(3, .int (0 : Int32)), (2, .int (jrem ((F 20) w.toNatClampNeg) (8 : Int32))), (0, .ref am), (1, .int w)]) hx hb dX8_leaves_39 rfl hl (by decide) rfl (fun ls hl => ?_)
      refine lv_iload_n hx hb dX8_leaves_40 rfl (lv_at hl 0 rfl) ?_
      refine lv_if_eq (tgt := 74) hx hb dX8_leaves_41 (by decide) (fun c41 => ?_) (fun c41 => absurd (by decide) c41)
      refine lv_iconst (v := 0) hx hb dX8_leaves_74 (by decide) ?_
      exact W.zret (v := (0 : Int32)) hx hb hr (rfl) (fun t ht hW => ⟨(0 : Int32), rfl, (by simp only [mLeave, c14, c27, (eq_true c41), ↓reduceIte, not_true_eq_false, not_false_eq_true]), ht⟩) (fun _ h => absurd h List.not_mem_nil) dX8_leaves_75
    · refine lv_iload_n hx hb dX8_leaves_30 rfl (lv_at hl 0 rfl) ?_
      refine lv_if_ne (tgt := 38) hx hb dX8_leaves_31 (by decide) (fun c31 => ?_) (fun c31 => ?_)
      · refine lv_iconst (v := 0) hx hb dX8_leaves_38 (by decide) ?_
        refine lv_istore_n (lv' := [(3, .int (0 : Int32)), (2, .int (jrem ((F 20) w.toNatClampNeg) (8 : Int32))), (0, .ref am), (1, .int w)]) hx hb dX8_leaves_39 rfl hl (by decide) rfl (fun ls hl => ?_)
        refine lv_iload_n hx hb dX8_leaves_40 rfl (lv_at hl 0 rfl) ?_
        refine lv_if_eq (tgt := 74) hx hb dX8_leaves_41 (by decide) (fun c41 => ?_) (fun c41 => absurd (by decide) c41)
        refine lv_iconst (v := 0) hx hb dX8_leaves_74 (by decide) ?_
        exact W.zret (v := (0 : Int32)) hx hb hr (rfl) (fun t ht hW => ⟨(0 : Int32), rfl, (by simp only [mLeave, c14, c27, c31, (eq_true c41), ↓reduceIte, not_true_eq_false, not_false_eq_true]), ht⟩) (fun _ h => absurd h List.not_mem_nil) dX8_leaves_75
      · refine lv_iconst (v := 1) hx hb dX8_leaves_34 (by decide) ?_
        refine lv_goto (tgt := 39) hx hb dX8_leaves_35 (by decide) ?_
        refine lv_istore_n (lv' := [(3, .int (1 : Int32)), (2, .int (jrem ((F 20) w.toNatClampNeg) (8 : Int32))), (0, .ref am), (1, .int w)]) hx hb dX8_leaves_39 rfl hl (by decide) rfl (fun ls hl => ?_)
        refine lv_iload_n hx hb dX8_leaves_40 rfl (lv_at hl 0 rfl) ?_
        refine lv_if_eq (tgt := 74) hx hb dX8_leaves_41 (by decide) (fun c41 => absurd c41 (by decide)) (fun c41 => ?_)
        refine lv_aload_n hx hb dX8_leaves_44 rfl (lv_at hl 2 rfl) ?_
        refine va_get (D := G) (ci := 9) (v := .ref (ad 18)) (C := RX8) (T := TX8) (N := 39) hx hb hts hiX8 hown hK hP 12 hm rfl 7 (by decide) (hts (.fieldLink RX8 25 "VortexpinModel" "depth" "[I") (List.mem_of_getElem? (i := 3) rfl)) (fun _ h9 => h9) rfl dX8_leaves_45 ?_
        refine lv_aload_n hx hb dX8_leaves_48 rfl (lv_at hl 2 rfl) ?_
        refine va_get (D := G) (ci := 9) (v := .ref (ad 20)) (C := RX8) (T := TX8) (N := 39) hx hb hts hiX8 hown hK hP 12 hm rfl 10 (by decide) (hts (.fieldLink RX8 31 "VortexpinModel" "cellOf" "[I") (List.mem_of_getElem? (i := 1) rfl)) (fun _ h9 => h9) rfl dX8_leaves_49 ?_
        refine lv_iload_n hx hb dX8_leaves_52 rfl (lv_at hl 3 rfl) ?_
        refine va_iald hx hb hK hP 20 0 hA20 htI (vp_uK hw) dX8_leaves_53 ?_
        refine va_iald hx hb hK hP 18 0 hA18 htI (vp_uK hX) dX8_leaves_54 ?_
        refine lv_aload_n hx hb dX8_leaves_55 rfl (lv_at hl 2 rfl) ?_
        refine va_get (D := G) (ci := 9) (v := .int (z 11)) (C := RX8) (T := TX8) (N := 39) hx hb hts hiX8 hown hK hP 12 hm rfl 11 (by decide) (hts (.fieldLink RX8 109 "VortexpinModel" "drive" "I") (List.mem_of_getElem? (i := 2) rfl)) (fun _ h9 => h9) rfl dX8_leaves_56 ?_
        refine vp_callSi (va_Run.run (va_runS (As := [.int (z 11)]) (rest := [.int ((F 18) ((F 20) w.toNatClampNeg).toNatClampNeg)]) ⟨hx, hb, hml, hown, hts⟩ (metX8_size l (z 11)) (va_cwS 1 hts gX8_leaves_X8_size rfl rfl rfl (by decide +kernel) ⟨Nat.le_of_ble_eq_true rfl, Nat.le_of_ble_eq_true rfl⟩) ⟨pc0_b, pc0_u⟩ rfl rfl hl.1 rfl (lv_room (Nat.le_of_ble_eq_true rfl)) dX8_leaves_59 ⟨Nat.le_of_ble_eq_true rfl, Nat.le_of_ble_eq_true rfl⟩)) (fun r59 h59 => ?_)
        refine lv_aload_n hx hb dX8_leaves_62 rfl (lv_at hl 2 rfl) ?_
        refine va_get (D := G) (ci := 9) (v := .int (z 12)) (C := RX8) (T := TX8) (N := 39) hx hb hts hiX8 hown hK hP 12 hm rfl 12 (by decide) (hts (.fieldLink RX8 112 "VortexpinModel" "heat" "I") (List.mem_of_getElem? (i := 4) rfl)) (fun _ h9 => h9) rfl dX8_leaves_63 ?_
        refine lv_iadd hx hb dX8_leaves_66 ?_
        refine lv_icmp_ge (tgt := 74) hx hb dX8_leaves_67 (by decide) (fun c67 => ?_) (fun c67 => ?_)
        · refine lv_iconst (v := 0) hx hb dX8_leaves_74 (by decide) ?_
          exact W.zret (v := (0 : Int32)) hx hb hr (rfl) (fun t ht hW => ⟨(0 : Int32), rfl, (by subst h59; simp only [mLeave, c14, c27, (eq_true c31), c41, c67, ↓reduceIte, not_true_eq_false, not_false_eq_true]), ht⟩) (fun _ h => absurd h List.not_mem_nil) dX8_leaves_75
        · refine lv_iconst (v := 1) hx hb dX8_leaves_70 (by decide) ?_
          refine lv_goto (tgt := 75) hx hb dX8_leaves_71 (by decide) ?_
          exact W.zret (v := (1 : Int32)) hx hb hr (rfl) (fun t ht hW => ⟨(1 : Int32), rfl, (by subst h59; simp only [mLeave, c14, c27, (eq_true c31), c41, c67, ↓reduceIte, not_true_eq_false, not_false_eq_true]), ht⟩) (fun _ h => absurd h List.not_mem_nil) dX8_leaves_75
  · refine lv_iload_n hx hb dX8_leaves_17 rfl (lv_at hl 0 rfl) ?_
    refine lv_bipush (v := 7) hx hb dX8_leaves_18 (by decide) ?_
    refine lv_icmp_eq (tgt := 34) hx hb dX8_leaves_20 (by decide) (fun c20 => ?_) (fun c20 => ?_)
    · refine lv_iconst (v := 1) hx hb dX8_leaves_34 (by decide) ?_
      refine lv_goto (tgt := 39) hx hb dX8_leaves_35 (by decide) ?_
      refine lv_istore_n (lv' := [(3, .int (1 : Int32)), (2, .int (jrem ((F 20) w.toNatClampNeg) (8 : Int32))), (0, .ref am), (1, .int w)]) hx hb dX8_leaves_39 rfl hl (by decide) rfl (fun ls hl => ?_)
      refine lv_iload_n hx hb dX8_leaves_40 rfl (lv_at hl 0 rfl) ?_
      refine lv_if_eq (tgt := 74) hx hb dX8_leaves_41 (by decide) (fun c41 => absurd c41 (by decide)) (fun c41 => ?_)
      refine lv_aload_n hx hb dX8_leaves_44 rfl (lv_at hl 2 rfl) ?_
      refine va_get (D := G) (ci := 9) (v := .ref (ad 18)) (C := RX8) (T := TX8) (N := 39) hx hb hts hiX8 hown hK hP 12 hm rfl 7 (by decide) (hts (.fieldLink RX8 25 "VortexpinModel" "depth" "[I") (List.mem_of_getElem? (i := 3) rfl)) (fun _ h9 => h9) rfl dX8_leaves_45 ?_
      refine lv_aload_n hx hb dX8_leaves_48 rfl (lv_at hl 2 rfl) ?_
      refine va_get (D := G) (ci := 9) (v := .ref (ad 20)) (C := RX8) (T := TX8) (N := 39) hx hb hts hiX8 hown hK hP 12 hm rfl 10 (by decide) (hts (.fieldLink RX8 31 "VortexpinModel" "cellOf" "[I") (List.mem_of_getElem? (i := 1) rfl)) (fun _ h9 => h9) rfl dX8_leaves_49 ?_
      refine lv_iload_n hx hb dX8_leaves_52 rfl (lv_at hl 3 rfl) ?_
      refine va_iald hx hb hK hP 20 0 hA20 htI (vp_uK hw) dX8_leaves_53 ?_
      refine va_iald hx hb hK hP 18 0 hA18 htI (vp_uK hX) dX8_leaves_54 ?_
      refine lv_aload_n hx hb dX8_leaves_55 rfl (lv_at hl 2 rfl) ?_
      refine va_get (D := G) (ci := 9) (v := .int (z 11)) (C := RX8) (T := TX8) (N := 39) hx hb hts hiX8 hown hK hP 12 hm rfl 11 (by decide) (hts (.fieldLink RX8 109 "VortexpinModel" "drive" "I") (List.mem_of_getElem? (i := 2) rfl)) (fun _ h9 => h9) rfl dX8_leaves_56 ?_
      refine vp_callSi (va_Run.run (va_runS (As := [.int (z 11)]) (rest := [.int ((F 18) ((F 20) w.toNatClampNeg).toNatClampNeg)]) ⟨hx, hb, hml, hown, hts⟩ (metX8_size l (z 11)) (va_cwS 1 hts gX8_leaves_X8_size rfl rfl rfl (by decide +kernel) ⟨Nat.le_of_ble_eq_true rfl, Nat.le_of_ble_eq_true rfl⟩) ⟨pc0_b, pc0_u⟩ rfl rfl hl.1 rfl (lv_room (Nat.le_of_ble_eq_true rfl)) dX8_leaves_59 ⟨Nat.le_of_ble_eq_true rfl, Nat.le_of_ble_eq_true rfl⟩)) (fun r59 h59 => ?_)
      refine lv_aload_n hx hb dX8_leaves_62 rfl (lv_at hl 2 rfl) ?_
      refine va_get (D := G) (ci := 9) (v := .int (z 12)) (C := RX8) (T := TX8) (N := 39) hx hb hts hiX8 hown hK hP 12 hm rfl 12 (by decide) (hts (.fieldLink RX8 112 "VortexpinModel" "heat" "I") (List.mem_of_getElem? (i := 4) rfl)) (fun _ h9 => h9) rfl dX8_leaves_63 ?_
      refine lv_iadd hx hb dX8_leaves_66 ?_
      refine lv_icmp_ge (tgt := 74) hx hb dX8_leaves_67 (by decide) (fun c67 => ?_) (fun c67 => ?_)
      · refine lv_iconst (v := 0) hx hb dX8_leaves_74 (by decide) ?_
        exact W.zret (v := (0 : Int32)) hx hb hr (rfl) (fun t ht hW => ⟨(0 : Int32), rfl, (by subst h59; simp only [mLeave, c14, (eq_true c20), c41, c67, ↓reduceIte, not_true_eq_false, not_false_eq_true]), ht⟩) (fun _ h => absurd h List.not_mem_nil) dX8_leaves_75
      · refine lv_iconst (v := 1) hx hb dX8_leaves_70 (by decide) ?_
        refine lv_goto (tgt := 75) hx hb dX8_leaves_71 (by decide) ?_
        exact W.zret (v := (1 : Int32)) hx hb hr (rfl) (fun t ht hW => ⟨(1 : Int32), rfl, (by subst h59; simp only [mLeave, c14, (eq_true c20), c41, c67, ↓reduceIte, not_true_eq_false, not_false_eq_true]), ht⟩) (fun _ h => absurd h List.not_mem_nil) dX8_leaves_75
    · refine lv_aload_n hx hb dX8_leaves_23 rfl (lv_at hl 1 rfl) ?_
      refine va_get (D := G) (ci := 9) (v := .int (z 11)) (C := RX8) (T := TX8) (N := 39) hx hb hts hiX8 hown hK hP 12 hm rfl 11 (by decide) (hts (.fieldLink RX8 109 "VortexpinModel" "drive" "I") (List.mem_of_getElem? (i := 2) rfl)) (fun _ h9 => h9) rfl dX8_leaves_24 ?_
      refine lv_if_ge (tgt := 38) hx hb dX8_leaves_27 (by decide) (fun c27 => ?_) (fun c27 => ?_)
      · refine lv_iconst (v := 0) hx hb dX8_leaves_38 (by decide) ?_
        refine lv_istore_n (lv' := [(3, .int (0 : Int32)), (2, .int (jrem ((F 20) w.toNatClampNeg) (8 : Int32))), (0, .ref am), (1, .int w)]) hx hb dX8_leaves_39 rfl hl (by decide) rfl (fun ls hl => ?_)
        refine lv_iload_n hx hb dX8_leaves_40 rfl (lv_at hl 0 rfl) ?_
        refine lv_if_eq (tgt := 74) hx hb dX8_leaves_41 (by decide) (fun c41 => ?_) (fun c41 => absurd (by decide) c41)
        refine lv_iconst (v := 0) hx hb dX8_leaves_74 (by decide) ?_
        exact W.zret (v := (0 : Int32)) hx hb hr (rfl) (fun t ht hW => ⟨(0 : Int32), rfl, (by simp only [mLeave, c14, c20, c27, (eq_true c41), ↓reduceIte, not_true_eq_false, not_false_eq_true]), ht⟩) (fun _ h => absurd h List.not_mem_nil) dX8_leaves_75
      · refine lv_iload_n hx hb dX8_leaves_30 rfl (lv_at hl 0 rfl) ?_
        refine lv_if_ne (tgt := 38) hx hb dX8_leaves_31 (by decide) (fun c31 => ?_) (fun c31 => ?_)
        · refine lv_iconst (v := 0) hx hb dX8_leaves_38 (by decide) ?_
          refine lv_istore_n (lv' := [(3, .int (0 : Int32)), (2, .int (jrem ((F 20) w.toNatClampNeg) (8 : Int32))), (0, .ref am), (1, .int w)]) hx hb dX8_leaves_39 rfl hl (by decide) rfl (fun ls hl => ?_)
          refine lv_iload_n hx hb dX8_leaves_40 rfl (lv_at hl 0 rfl) ?_
          refine lv_if_eq (tgt := 74) hx hb dX8_leaves_41 (by decide) (fun c41 => ?_) (fun c41 => absurd (by decide) c41)
          refine lv_iconst (v := 0) hx hb dX8_leaves_74 (by decide) ?_
          exact W.zret (v := (0 : Int32)) hx hb hr (rfl) (fun t ht hW => ⟨(0 : Int32), rfl, (absurd (Int32.le_of_lt (i32_nle c14)) c27), ht⟩) (fun _ h => absurd h List.not_mem_nil) dX8_leaves_75
        · refine lv_iconst (v := 1) hx hb dX8_leaves_34 (by decide) ?_
          refine lv_goto (tgt := 39) hx hb dX8_leaves_35 (by decide) ?_
          refine lv_istore_n (lv' := [(3, .int (1 : Int32)), (2, .int (jrem ((F 20) w.toNatClampNeg) (8 : Int32))), (0, .ref am), (1, .int w)]) hx hb dX8_leaves_39 rfl hl (by decide) rfl (fun ls hl => ?_)
          refine lv_iload_n hx hb dX8_leaves_40 rfl (lv_at hl 0 rfl) ?_
          refine lv_if_eq (tgt := 74) hx hb dX8_leaves_41 (by decide) (fun c41 => absurd c41 (by decide)) (fun c41 => ?_)
          refine lv_aload_n hx hb dX8_leaves_44 rfl (lv_at hl 2 rfl) ?_
          refine va_get (D := G) (ci := 9) (v := .ref (ad 18)) (C := RX8) (T := TX8) (N := 39) hx hb hts hiX8 hown hK hP 12 hm rfl 7 (by decide) (hts (.fieldLink RX8 25 "VortexpinModel" "depth" "[I") (List.mem_of_getElem? (i := 3) rfl)) (fun _ h9 => h9) rfl dX8_leaves_45 ?_
          refine lv_aload_n hx hb dX8_leaves_48 rfl (lv_at hl 2 rfl) ?_
          refine va_get (D := G) (ci := 9) (v := .ref (ad 20)) (C := RX8) (T := TX8) (N := 39) hx hb hts hiX8 hown hK hP 12 hm rfl 10 (by decide) (hts (.fieldLink RX8 31 "VortexpinModel" "cellOf" "[I") (List.mem_of_getElem? (i := 1) rfl)) (fun _ h9 => h9) rfl dX8_leaves_49 ?_
          refine lv_iload_n hx hb dX8_leaves_52 rfl (lv_at hl 3 rfl) ?_
          refine va_iald hx hb hK hP 20 0 hA20 htI (vp_uK hw) dX8_leaves_53 ?_
          refine va_iald hx hb hK hP 18 0 hA18 htI (vp_uK hX) dX8_leaves_54 ?_
          refine lv_aload_n hx hb dX8_leaves_55 rfl (lv_at hl 2 rfl) ?_
          refine va_get (D := G) (ci := 9) (v := .int (z 11)) (C := RX8) (T := TX8) (N := 39) hx hb hts hiX8 hown hK hP 12 hm rfl 11 (by decide) (hts (.fieldLink RX8 109 "VortexpinModel" "drive" "I") (List.mem_of_getElem? (i := 2) rfl)) (fun _ h9 => h9) rfl dX8_leaves_56 ?_
          refine vp_callSi (va_Run.run (va_runS (As := [.int (z 11)]) (rest := [.int ((F 18) ((F 20) w.toNatClampNeg).toNatClampNeg)]) ⟨hx, hb, hml, hown, hts⟩ (metX8_size l (z 11)) (va_cwS 1 hts gX8_leaves_X8_size rfl rfl rfl (by decide +kernel) ⟨Nat.le_of_ble_eq_true rfl, Nat.le_of_ble_eq_true rfl⟩) ⟨pc0_b, pc0_u⟩ rfl rfl hl.1 rfl (lv_room (Nat.le_of_ble_eq_true rfl)) dX8_leaves_59 ⟨Nat.le_of_ble_eq_true rfl, Nat.le_of_ble_eq_true rfl⟩)) (fun r59 h59 => ?_)
          refine lv_aload_n hx hb dX8_leaves_62 rfl (lv_at hl 2 rfl) ?_
          refine va_get (D := G) (ci := 9) (v := .int (z 12)) (C := RX8) (T := TX8) (N := 39) hx hb hts hiX8 hown hK hP 12 hm rfl 12 (by decide) (hts (.fieldLink RX8 112 "VortexpinModel" "heat" "I") (List.mem_of_getElem? (i := 4) rfl)) (fun _ h9 => h9) rfl dX8_leaves_63 ?_
          refine lv_iadd hx hb dX8_leaves_66 ?_
          refine lv_icmp_ge (tgt := 74) hx hb dX8_leaves_67 (by decide) (fun c67 => ?_) (fun c67 => ?_)
          · refine lv_iconst (v := 0) hx hb dX8_leaves_74 (by decide) ?_
            exact W.zret (v := (0 : Int32)) hx hb hr (rfl) (fun t ht hW => ⟨(0 : Int32), rfl, (absurd (Int32.le_of_lt (i32_nle c14)) c27), ht⟩) (fun _ h => absurd h List.not_mem_nil) dX8_leaves_75
          · refine lv_iconst (v := 1) hx hb dX8_leaves_70 (by decide) ?_
            refine lv_goto (tgt := 75) hx hb dX8_leaves_71 (by decide) ?_
            exact W.zret (v := (1 : Int32)) hx hb hr (rfl) (fun t ht hW => ⟨(1 : Int32), rfl, (absurd (Int32.le_of_lt (i32_nle c14)) c27), ht⟩) (fun _ h => absurd h List.not_mem_nil) dX8_leaves_75
set_option maxHeartbeats 4000000 in
set_option maxRecDepth 100000 in
theorem metX8_houses (l : Launch) (G : va_G) (tys : List (ClassId × FieldType)) {cI : ClassId} (htI : tI tys cI) (ws : va_W) {am : Nat} {ad : Nat → Nat} {z : Nat → Int32} {wi dm : Int64} {F : Nat → Nat → Int32} (hm : ws[12]? = some (am, .inr (9, mF ad z wi dm))) (hA35 : ws[35]? = some (ad 35, .inl (cI, 56, .inl (F 35)))) (x w : Int32) (hX : ¬ uK x (nI 8)) : Met l yX8_houses wsX8_houses ({ frames := 0, cells := 0, slots := 0, locals := 0 }) (pcR G tys ws [.ref am, .int x, .int w]) (vp_Si (fun r => r = mHou (F 35) (7 * x.toNatClampNeg) w 7)) 0 0 (fun _ => False) := by
  refine ofR (cc := cX8_houses) (maxL := 5) (ret := some .int) (by decide) rfl (Nat.le_of_ble_eq_true rfl) ?_
  intro p e s m below meth c ls hx hb hr hlocks hml hown hts hl hP hK
  have hown : s.vm.findClass RX8 = some m.cls := hown
  have hiX8 : ∀ w ∈ u_ws RX8 TX8 39, w ∈ wsX8_houses := fun _ h => List.mem_cons_of_mem _ (List.mem_append_right _ h)
  have hl : lv_has ls 5 [(0, .ref am), (1, .int x), (2, .int w)] := hl
  refine lv_iconst (v := 0) hx hb dX8_houses_0 (by decide) ?_
  refine lv_istore_n (lv' := [(3, .int (0 : Int32)), (0, .ref am), (1, .int x), (2, .int w)]) hx hb dX8_houses_1 rfl hl (by decide) rfl (fun ls hl => ?_)
  refine lv_iconst (v := 0) hx hb dX8_houses_2 (by decide) ?_
  refine lv_istore (lv' := [(4, .int (0 : Int32)), (3, .int (0 : Int32)), (0, .ref am), (1, .int x), (2, .int w)]) hx hb dX8_houses_3 hl (by decide) rfl (fun ls hl => ?_)
  refine loopR 7 5 5 (fun i => [(0, .ref am), (1, .int x), (2, .int w), (3, .int (mHou (F 35) (7 * x.toNatClampNeg) w i)), (4, .int (nI i))]) (fun i => True) (fun i hNi hKi ihi ls hl => ?_) (i0 := 0) (by omega) (trivial) (lv_sub hl [2, 3, 4, 1, 0] rfl)
  have hl : lv_has ls 5 [(0, .ref am), (1, .int x), (2, .int w), (3, .int (mHou (F 35) (7 * x.toNatClampNeg) w i)), (4, .int (nI i))] := hl
  refine lv_iload hx hb dX8_houses_5 (lv_at hl 4 rfl) ?_
  refine lv_bipush (v := 7) hx hb dX8_houses_7 (by decide) ?_
  refine lv_icmp_ge (tgt := 42) hx hb dX8_houses_9 (by decide) (fun c9 => ?_) (fun c9 => ?_)
  · have heqi : i = 7 := Nat.le_antisymm hNi ((nI_leI (by omega) (by omega)).mp c9)
    refine lv_iload_n hx hb dX8_houses_42 rfl (lv_at hl 3 rfl) ?_
    exact W.iret (v := mHou (F 35) (7 * x.toNatClampNeg) w i) hx hb hr (fun t ht hW => ⟨mHou (F 35) (7 * x.toNatClampNeg) w i, rfl, (by rw [heqi]), ht⟩) (fun _ h => absurd h List.not_mem_nil) dX8_houses_43
  · have hlti : i < 7 := Nat.lt_of_not_le (mt (nI_leI (by omega) (by omega)).mpr c9)
    refine lv_iload_n hx hb dX8_houses_12 rfl (lv_at hl 3 rfl) ?_
    refine lv_aload_n hx hb dX8_houses_13 rfl (lv_at hl 0 rfl) ?_
    refine va_get (D := G) (ci := 9) (v := .ref (ad 35)) (C := RX8) (T := TX8) (N := 39) hx hb hts hiX8 hown hK hP 12 hm rfl 38 (by decide) (hts (.fieldLink RX8 83 "VortexpinModel" "house" "[I") (List.mem_of_getElem? (i := 1) rfl)) (fun _ h9 => h9) rfl dX8_houses_14 ?_
    refine lv_bipush (v := 7) hx hb dX8_houses_17 (by decide) ?_
    refine lv_iload_n hx hb dX8_houses_19 rfl (lv_at hl 1 rfl) ?_
    refine lv_imul hx hb dX8_houses_20 ?_
    refine lv_iload hx hb dX8_houses_21 (lv_at hl 4 rfl) ?_
    refine lv_iadd hx hb dX8_houses_23 ?_
    refine va_iald hx hb hK hP 35 0 hA35 htI (by rw [(mh_ix hX hlti).1]; exact vp_in_nI (mh_ix hX hlti).2 (by have := (mh_ix hX hlti).2; omega)) dX8_houses_24 ?_
    refine rd_i (j := 7 * x.toNatClampNeg + i) (by rw [(mh_ix hX hlti).1]; exact nI_clamp (by have := (mh_ix hX hlti).2; omega)) ?_
    refine lv_iload_n hx hb dX8_houses_25 rfl (lv_at hl 2 rfl) ?_
    refine lv_icmp_ne (tgt := 33) hx hb dX8_houses_26 (by decide) (fun c26 => ?_) (fun c26 => ?_)
    · refine lv_iconst (v := 0) hx hb dX8_houses_33 (by decide) ?_
      refine lv_iadd hx hb dX8_houses_34 ?_
      refine lv_topi (fun x3_35 ex3_35 => ?_)
      refine lv_istore_n (lv' := [(3, .int x3_35), (0, .ref am), (1, .int x), (2, .int w), (4, .int (nI i))]) hx hb dX8_houses_35 rfl hl (by decide) rfl (fun ls hl => ?_)
      refine lv_iinc (v := nI (i + 1)) (lv' := [(4, .int (nI (i + 1))), (3, .int x3_35), (0, .ref am), (1, .int x), (2, .int w)]) hx hb dX8_houses_36 hl (k := 4) rfl (nI_1 i) (by decide) rfl (fun ls hl => ?_)
      refine lv_goto (tgt := 5) hx hb dX8_houses_39 (by decide) ?_
      have ea3 : x3_35 = mHou (F 35) (7 * x.toNatClampNeg) w (i + 1) := by subst ex3_35; simp only [mHou, Int32.add_zero, c9, c26, ↓reduceIte, not_true_eq_false, not_false_eq_true]
      rw [ea3] at hl
      exact ihi ls hlti (trivial) (lv_sub hl [2, 3, 4, 1, 0] rfl)
    · refine lv_iconst (v := 1) hx hb dX8_houses_29 (by decide) ?_
      refine lv_goto (tgt := 34) hx hb dX8_houses_30 (by decide) ?_
      refine lv_iadd hx hb dX8_houses_34 ?_
      refine lv_topi (fun x3_35 ex3_35 => ?_)
      refine lv_istore_n (lv' := [(3, .int x3_35), (0, .ref am), (1, .int x), (2, .int w), (4, .int (nI i))]) hx hb dX8_houses_35 rfl hl (by decide) rfl (fun ls hl => ?_)
      refine lv_iinc (v := nI (i + 1)) (lv' := [(4, .int (nI (i + 1))), (3, .int x3_35), (0, .ref am), (1, .int x), (2, .int w)]) hx hb dX8_houses_36 hl (k := 4) rfl (nI_1 i) (by decide) rfl (fun ls hl => ?_)
      refine lv_goto (tgt := 5) hx hb dX8_houses_39 (by decide) ?_
      have ea3 : x3_35 = mHou (F 35) (7 * x.toNatClampNeg) w (i + 1) := by subst ex3_35; simp only [mHou, Int32.add_zero, c9, (eq_true c26), ↓reduceIte, not_true_eq_false, not_false_eq_true]
      rw [ea3] at hl
      exact ihi ls hlti (trivial) (lv_sub hl [2, 3, 4, 1, 0] rfl)
set_option maxHeartbeats 4000000 in
set_option maxRecDepth 100000 in
theorem metX8_isNormal (l : Launch) (G : va_G) (tys : List (ClassId × FieldType)) {cI : ClassId} (htI : tI tys cI) (ws : va_W) {am : Nat} {ad : Nat → Nat} {z : Nat → Int32} {wi dm : Int64} {F : Nat → Nat → Int32} (hm : ws[12]? = some (am, .inr (9, mF ad z wi dm))) (hA26 : ws[26]? = some (ad 26, .inl (cI, 12, .inl (F 26)))) (x : Int32) (hX : ¬ uK x 12) : Met l yX8_isNormal wsX8_isNormal ({ frames := 0, cells := 0, slots := 0, locals := 0 }) (pcR G tys ws [.ref am, .int x]) (vp_Si (fun r => r = cNorm (z 21) (F 26 x.toNatClampNeg))) 0 0 (fun _ => False) := by
  refine ofR (cc := cX8_isNormal) (maxL := 2) (ret := some .boolean) (by decide) rfl (Nat.le_of_ble_eq_true rfl) ?_
  intro p e s m below meth c ls hx hb hr hlocks hml hown hts hl hP hK
  have hown : s.vm.findClass RX8 = some m.cls := hown
  have hiX8 : ∀ w ∈ u_ws RX8 TX8 39, w ∈ wsX8_isNormal := fun _ h => List.mem_cons_of_mem _ (List.mem_append_right _ h)
  have hl : lv_has ls 2 [(0, .ref am), (1, .int x)] := hl
  refine lv_aload_n hx hb dX8_isNormal_0 rfl (lv_at hl 0 rfl) ?_
  refine va_get (D := G) (ci := 9) (v := .ref (ad 26)) (C := RX8) (T := TX8) (N := 39) hx hb hts hiX8 hown hK hP 12 hm rfl 19 (by decide) (hts (.fieldLink RX8 49 "VortexpinModel" "part" "[I") (List.mem_of_getElem? (i := 1) rfl)) (fun _ h9 => h9) rfl dX8_isNormal_1 ?_
  refine lv_iload_n hx hb dX8_isNormal_4 rfl (lv_at hl 1 rfl) ?_
  refine va_iald hx hb hK hP 26 0 hA26 htI (vp_uK hX) dX8_isNormal_5 ?_
  refine lv_bipush (v := 90) hx hb dX8_isNormal_6 (by decide) ?_
  refine lv_sipush (v := 1000) hx hb dX8_isNormal_8 (by decide) ?_
  refine lv_aload_n hx hb dX8_isNormal_11 rfl (lv_at hl 0 rfl) ?_
  refine va_get (D := G) (ci := 9) (v := .int (z 21)) (C := RX8) (T := TX8) (N := 39) hx hb hts hiX8 hown hK hP 12 hm rfl 21 (by decide) (hts (.fieldLink RX8 147 "VortexpinModel" "current" "I") (List.mem_of_getElem? (i := 2) rfl)) (fun _ h9 => h9) rfl dX8_isNormal_12 ?_
  refine lv_isub hx hb dX8_isNormal_15 ?_
  refine lv_imul hx hb dX8_isNormal_16 ?_
  refine lv_sipush (v := 1000) hx hb dX8_isNormal_17 (by decide) ?_
  refine lv_idiv hx hb dX8_isNormal_20 (by decide) ?_
  refine lv_icmp_lt (tgt := 28) hx hb dX8_isNormal_21 (by decide) (fun c21 => ?_) (fun c21 => ?_)
  · refine lv_iconst (v := 0) hx hb dX8_isNormal_28 (by decide) ?_
    exact W.zret (v := (0 : Int32)) hx hb hr (rfl) (fun t ht hW => ⟨(0 : Int32), rfl, (by simp only [cNorm, c21, ↓reduceIte, not_true_eq_false, not_false_eq_true]), ht⟩) (fun _ h => absurd h List.not_mem_nil) dX8_isNormal_29
  · refine lv_iconst (v := 1) hx hb dX8_isNormal_24 (by decide) ?_
    refine lv_goto (tgt := 29) hx hb dX8_isNormal_25 (by decide) ?_
    exact W.zret (v := (1 : Int32)) hx hb hr (rfl) (fun t ht hW => ⟨(1 : Int32), rfl, (by simp only [cNorm, c21, ↓reduceIte, not_true_eq_false, not_false_eq_true]), ht⟩) (fun _ h => absurd h List.not_mem_nil) dX8_isNormal_29
set_option maxHeartbeats 4000000 in
set_option maxRecDepth 100000 in
theorem metX8_normals (l : Launch) (G : va_G) (tys : List (ClassId × FieldType)) {cI : ClassId} (htI : tI tys cI) (ws : va_W) {am : Nat} {ad : Nat → Nat} {z : Nat → Int32} {wi dm : Int64} {F : Nat → Nat → Int32} (hm : ws[12]? = some (am, .inr (9, mF ad z wi dm))) (hA26 : ws[26]? = some (ad 26, .inl (cI, 12, .inl (F 26)))) (a b : Nat) (hab : a ≤ b) (hb12 : b < 12) : Met l yX8_normals wsX8_normals ({ frames := 1, cells := 0, slots := 0, locals := 21 }) (pcR G tys ws [.ref am, .int (nI a), .int (nI b)]) (vp_Si (fun r => r = mCnt (z 21) (F 26) a (b + 1 - a))) 0 0 (fun _ => False) := by
  refine ofR (cc := cX8_normals) (maxL := 5) (ret := some .int) (by decide) rfl (Nat.le_of_ble_eq_true rfl) ?_
  intro p e s m below meth c ls hx hb hr hlocks hml hown hts hl hP hK
  have hown : s.vm.findClass RX8 = some m.cls := hown
  have hl : lv_has ls 5 [(0, .ref am), (1, .int (nI a)), (2, .int (nI b))] := hl
  refine lv_iconst (v := 0) hx hb dX8_normals_0 (by decide) ?_
  refine lv_istore_n (lv' := [(3, .int (0 : Int32)), (0, .ref am), (1, .int (nI a)), (2, .int (nI b))]) hx hb dX8_normals_1 rfl hl (by decide) rfl (fun ls hl => ?_)
  refine lv_iload_n hx hb dX8_normals_2 rfl (lv_at hl 2 rfl) ?_
  refine lv_istore (lv' := [(4, .int (nI a)), (3, .int (0 : Int32)), (0, .ref am), (1, .int (nI a)), (2, .int (nI b))]) hx hb dX8_normals_3 hl (by decide) rfl (fun ls hl => ?_)
  have hl : lv_has ls 5 [(4, .int (nI (a + 0))), (3, .int (mCnt (z 21) (F 26) a 0)), (0, .ref am), (1, .int (nI a)), (2, .int (nI b))] := hl
  refine loopR (b + 1 - a) 5 5 (fun i => [(0, .ref am), (1, .int (nI a)), (2, .int (nI b)), (3, .int (mCnt (z 21) (F 26) a i)), (4, .int (nI (a + i)))]) (fun i => True) (fun i hNi hKi ihi ls hl => ?_) (i0 := 0) (by omega) (trivial) (lv_sub hl [2, 3, 4, 1, 0] rfl)
  have hl : lv_has ls 5 [(0, .ref am), (1, .int (nI a)), (2, .int (nI b)), (3, .int (mCnt (z 21) (F 26) a i)), (4, .int (nI (a + i)))] := hl
  refine lv_iload hx hb dX8_normals_5 (lv_at hl 4 rfl) ?_
  refine lv_iload_n hx hb dX8_normals_7 rfl (lv_at hl 2 rfl) ?_
  refine lv_icmp_gt (tgt := 34) hx hb dX8_normals_8 (by decide) (fun c8 => ?_) (fun c8 => ?_)
  · have heqi : i = (b + 1 - a) := by have h9 : b < a + i := Nat.lt_of_not_le (fun q => nI_nlt q (by omega) c8); omega
    refine lv_iload_n hx hb dX8_normals_34 rfl (lv_at hl 3 rfl) ?_
    exact W.iret (v := mCnt (z 21) (F 26) a i) hx hb hr (fun t ht hW => ⟨mCnt (z 21) (F 26) a i, rfl, (by rw [heqi]), ht⟩) (fun _ h => absurd h List.not_mem_nil) dX8_normals_35
  · have hlti : i < (b + 1 - a) := by have := mt (nI_lt (a := b) (b := a + i)) (fun q => c8 (q (by omega))); omega
    refine lv_iload_n hx hb dX8_normals_11 rfl (lv_at hl 3 rfl) ?_
    refine lv_aload_n hx hb dX8_normals_12 rfl (lv_at hl 0 rfl) ?_
    refine lv_iload hx hb dX8_normals_13 (lv_at hl 4 rfl) ?_
    refine vp_callSi (va_Run.run (va_runV (As := [.int (nI (a + i))]) (rest := [.int (mCnt (z 21) (F 26) a i)]) ⟨hx, hb, hml, hown, hts⟩ (metX8_isNormal l G tys htI _ hm hA26 (nI (a + i)) (uK_of (n := 12) (by omega) (by decide))) (cwV 1 hts gX8_normals_X8_isNormal rfl rfl rfl (by decide +kernel) ⟨Nat.le_of_ble_eq_true rfl, Nat.le_of_ble_eq_true rfl⟩) ⟨pcR_b, va_recv hK hP (ci := 9) (q0 := 12) rfl hm, pcR_u hP hK⟩ rfl rfl hl.1 rfl (lv_room (Nat.le_of_ble_eq_true rfl)) dX8_normals_15 ⟨Nat.le_of_ble_eq_true rfl, Nat.le_of_ble_eq_true rfl⟩)) (fun r15 h15 => ?_)
    rw [nI_clamp (show a + i < 2 ^ 31 by omega)] at h15
    refine lv_if_eq (tgt := 25) hx hb dX8_normals_18 (by decide) (fun c18 => ?_) (fun c18 => ?_)
    · refine lv_iconst (v := 0) hx hb dX8_normals_25 (by decide) ?_
      refine lv_iadd hx hb dX8_normals_26 ?_
      refine lv_istore_n (lv' := [(3, .int ((mCnt (z 21) (F 26) a i) + (0 : Int32))), (0, .ref am), (1, .int (nI a)), (2, .int (nI b)), (4, .int (nI (a + i)))]) hx hb dX8_normals_27 rfl hl (by decide) rfl (fun ls hl => ?_)
      refine lv_iinc (v := nI (a + i + 1)) (lv' := [(4, .int (nI (a + i + 1))), (3, .int ((mCnt (z 21) (F 26) a i) + (0 : Int32))), (0, .ref am), (1, .int (nI a)), (2, .int (nI b))]) hx hb dX8_normals_28 hl (k := 4) rfl (nI_1 (a + i)) (by decide) rfl (fun ls hl => ?_)
      refine lv_goto (tgt := 5) hx hb dX8_normals_31 (by decide) ?_
      have ea3 : (mCnt (z 21) (F 26) a i) + (0 : Int32) = mCnt (z 21) (F 26) a (i + 1) := by subst h15; simp only [mCnt, Int32.add_zero, c8, (eq_true c18), ↓reduceIte, not_true_eq_false, not_false_eq_true]
      rw [ea3] at hl
      have ea4 : nI (a + i + 1) = nI (a + (i + 1)) := by rw [Nat.add_assoc]
      rw [ea4] at hl
      exact ihi ls hlti (trivial) (lv_sub hl [2, 3, 4, 1, 0] rfl)
    · refine lv_iconst (v := 1) hx hb dX8_normals_21 (by decide) ?_
      refine lv_goto (tgt := 26) hx hb dX8_normals_22 (by decide) ?_
      refine lv_iadd hx hb dX8_normals_26 ?_
      refine lv_istore_n (lv' := [(3, .int ((mCnt (z 21) (F 26) a i) + (1 : Int32))), (0, .ref am), (1, .int (nI a)), (2, .int (nI b)), (4, .int (nI (a + i)))]) hx hb dX8_normals_27 rfl hl (by decide) rfl (fun ls hl => ?_)
      refine lv_iinc (v := nI (a + i + 1)) (lv' := [(4, .int (nI (a + i + 1))), (3, .int ((mCnt (z 21) (F 26) a i) + (1 : Int32))), (0, .ref am), (1, .int (nI a)), (2, .int (nI b))]) hx hb dX8_normals_28 hl (k := 4) rfl (nI_1 (a + i)) (by decide) rfl (fun ls hl => ?_)
      refine lv_goto (tgt := 5) hx hb dX8_normals_31 (by decide) ?_
      have ea3 : (mCnt (z 21) (F 26) a i) + (1 : Int32) = mCnt (z 21) (F 26) a (i + 1) := by subst h15; simp only [mCnt, Int32.add_zero, c8, c18, ↓reduceIte, not_true_eq_false, not_false_eq_true]
      rw [ea3] at hl
      have ea4 : nI (a + i + 1) = nI (a + (i + 1)) := by rw [Nat.add_assoc]
      rw [ea4] at hl
      exact ihi ls hlti (trivial) (lv_sub hl [2, 3, 4, 1, 0] rfl)
set_option maxHeartbeats 4000000 in
set_option maxRecDepth 100000 in
theorem metX8_doubt (l : Launch) (G : va_G) (tys : List (ClassId × FieldType)) {cI : ClassId} (htI : tI tys cI) (ws : va_W) {am : Nat} {ad : Nat → Nat} {z : Nat → Int32} {wi dm : Int64} {F : Nat → Nat → Int32} (hm : ws[12]? = some (am, .inr (9, mF ad z wi dm))) (hA26 : ws[26]? = some (ad 26, .inl (cI, 12, .inl (F 26)))) : Met l yX8_doubt wsX8_doubt ({ frames := 2, cells := 0, slots := 0, locals := 45 }) (pcR G tys ws [.ref am]) (vp_Si (fun r => r = mCnt (z 21) (F 26) 0 6 - mCnt (z 21) (F 26) 6 6)) 0 0 (fun _ => False) := by
  refine ofR (cc := cX8_doubt) (maxL := 1) (ret := some .int) (by decide) rfl (Nat.le_of_ble_eq_true rfl) ?_
  intro p e s m below meth c ls hx hb hr hlocks hml hown hts hl hP hK
  have hown : s.vm.findClass RX8 = some m.cls := hown
  have hl : lv_has ls 1 [(0, .ref am)] := hl
  refine lv_aload_n hx hb dX8_doubt_0 rfl (lv_at hl 0 rfl) ?_
  refine lv_iconst (v := 0) hx hb dX8_doubt_1 (by decide) ?_
  refine lv_iconst (v := 5) hx hb dX8_doubt_2 (by decide) ?_
  refine vp_callSi (va_Run.run (va_runV (As := [.int (0 : Int32), .int (5 : Int32)]) (rest := []) ⟨hx, hb, hml, hown, hts⟩ (metX8_normals l G tys htI _ hm hA26 0 5 (by decide) (by decide)) (cwV 2 hts gX8_doubt_X8_normals rfl rfl rfl (by decide +kernel) ⟨Nat.le_of_ble_eq_true rfl, Nat.le_of_ble_eq_true rfl⟩) ⟨pcR_b, va_recv hK hP (ci := 9) (q0 := 12) rfl hm, pcR_u hP hK⟩ rfl rfl hl.1 rfl (lv_room (Nat.le_of_ble_eq_true rfl)) dX8_doubt_3 ⟨Nat.le_of_ble_eq_true rfl, Nat.le_of_ble_eq_true rfl⟩)) (fun r3 h3 => ?_)
  refine lv_aload_n hx hb dX8_doubt_6 rfl (lv_at hl 0 rfl) ?_
  refine lv_bipush (v := 6) hx hb dX8_doubt_7 (by decide) ?_
  refine lv_bipush (v := 11) hx hb dX8_doubt_9 (by decide) ?_
  refine vp_callSi (va_Run.run (va_runV (As := [.int (6 : Int32), .int (11 : Int32)]) (rest := [.int r3]) ⟨hx, hb, hml, hown, hts⟩ (metX8_normals l G tys htI _ hm hA26 6 11 (by decide) (by decide)) (cwV 2 hts gX8_doubt_X8_normals rfl rfl rfl (by decide +kernel) ⟨Nat.le_of_ble_eq_true rfl, Nat.le_of_ble_eq_true rfl⟩) ⟨pcR_b, va_recv hK hP (ci := 9) (q0 := 12) rfl hm, pcR_u hP hK⟩ rfl rfl hl.1 rfl (lv_room (Nat.le_of_ble_eq_true rfl)) dX8_doubt_11 ⟨Nat.le_of_ble_eq_true rfl, Nat.le_of_ble_eq_true rfl⟩)) (fun r11 h11 => ?_)
  refine lv_isub hx hb dX8_doubt_14 ?_
  exact W.iret (v := r3 - r11) hx hb hr (fun t ht hW => ⟨r3 - r11, rfl, (by rw [h3, h11]), ht⟩) (fun _ h => absurd h List.not_mem_nil) dX8_doubt_15
set_option maxHeartbeats 4000000 in
set_option maxRecDepth 100000 in
theorem metX8_energyOfCoil (l : Launch) (G : va_G) (tys : List (ClassId × FieldType)) (ws : va_W) {am : Nat} {ad : Nat → Nat} {z : Nat → Int32} {wi dm : Int64} {F : Nat → Nat → Int32} (hm : ws[12]? = some (am, .inr (9, mF ad z wi dm))) : Met l yX8_energyOfCoil wsX8_energyOfCoil ({ frames := 0, cells := 0, slots := 0, locals := 0 }) (pcR G tys ws [.ref am]) (vp_Sl (fun r => r = cSto (z 21))) 0 0 (fun _ => False) := by
  refine ofR (cc := cX8_energyOfCoil) (maxL := 1) (ret := some .long) (by decide) rfl (Nat.le_of_ble_eq_true rfl) ?_
  intro p e s m below meth c ls hx hb hr hlocks hml hown hts hl hP hK
  have hown : s.vm.findClass RX8 = some m.cls := hown
  have hiX8 : ∀ w ∈ u_ws RX8 TX8 39, w ∈ wsX8_energyOfCoil := fun _ h => List.mem_cons_of_mem _ (List.mem_append_right _ h)
  have hl : lv_has ls 1 [(0, .ref am)] := hl
  refine lv_ldc2 (v := 50) hx hb hown (hts (.constantLong RX8 163 (50)) (List.mem_of_getElem? (i := 1) rfl)) dX8_energyOfCoil_0 ?_
  refine lv_aload_n hx hb dX8_energyOfCoil_3 rfl (lv_at hl 0 rfl) ?_
  refine va_get (D := G) (ci := 9) (v := .int (z 21)) (C := RX8) (T := TX8) (N := 39) hx hb hts hiX8 hown hK hP 12 hm rfl 21 (by decide) (hts (.fieldLink RX8 147 "VortexpinModel" "current" "I") (List.mem_of_getElem? (i := 2) rfl)) (fun _ h9 => h9) rfl dX8_energyOfCoil_4 ?_
  refine lv_i2l hx hb dX8_energyOfCoil_7 rfl ?_
  refine lv_lmul hx hb dX8_energyOfCoil_8 ?_
  refine lv_aload_n hx hb dX8_energyOfCoil_9 rfl (lv_at hl 0 rfl) ?_
  refine va_get (D := G) (ci := 9) (v := .int (z 21)) (C := RX8) (T := TX8) (N := 39) hx hb hts hiX8 hown hK hP 12 hm rfl 21 (by decide) (hts (.fieldLink RX8 147 "VortexpinModel" "current" "I") (List.mem_of_getElem? (i := 2) rfl)) (fun _ h9 => h9) rfl dX8_energyOfCoil_10 ?_
  refine lv_i2l hx hb dX8_energyOfCoil_13 rfl ?_
  refine lv_lmul hx hb dX8_energyOfCoil_14 ?_
  exact W.lret (v := (50 * ((z 21).toInt64)) * ((z 21).toInt64)) hx hb hr (fun t ht hW => ⟨(50 * ((z 21).toInt64)) * ((z 21).toInt64), rfl, (rfl), ht⟩) (fun _ h => absurd h List.not_mem_nil) dX8_energyOfCoil_15
set_option maxHeartbeats 4000000 in
set_option maxRecDepth 100000 in
theorem metX8_currentBy (l : Launch) (G : va_G) (tys : List (ClassId × FieldType)) {cI : ClassId} (htI : tI tys cI) (ws : va_W) {am : Nat} {ad : Nat → Nat} {z : Nat → Int32} {wi dm : Int64} {F : Nat → Nat → Int32} (hm : ws[12]? = some (am, .inr (9, mF ad z wi dm))) (hA23 : ws[23]? = some (ad 23, .inl (cI, 6, .inl (F 23)))) (hA21 : ws[21]? = some (ad 21, .inl (cI, 6, .inl (F 21)))) (x n : Int32) (hX : ¬ uK x (nI 6)) (hi : ¬ F 21 x.toNatClampNeg = 0) : Met l yX8_currentBy wsX8_currentBy ({ frames := 0, cells := 0, slots := 0, locals := 0 }) (pcR G tys ws [.ref am, .int x, .int n]) (vp_Si (fun r => r = rCur (F 21 x.toNatClampNeg) (F 23 x.toNatClampNeg) n)) 0 0 (fun _ => False) := by
  refine ofR (cc := cX8_currentBy) (maxL := 3) (ret := some .int) (by decide) rfl (Nat.le_of_ble_eq_true rfl) ?_
  intro p e s m below meth c ls hx hb hr hlocks hml hown hts hl hP hK
  have hown : s.vm.findClass RX8 = some m.cls := hown
  have hiX8 : ∀ w ∈ u_ws RX8 TX8 39, w ∈ wsX8_currentBy := fun _ h => List.mem_cons_of_mem _ (List.mem_append_right _ h)
  have hl : lv_has ls 3 [(0, .ref am), (1, .int x), (2, .int n)] := hl
  refine lv_sipush (v := 1000) hx hb dX8_currentBy_0 (by decide) ?_
  refine lv_iload_n hx hb dX8_currentBy_3 rfl (lv_at hl 2 rfl) ?_
  refine lv_imul hx hb dX8_currentBy_4 ?_
  refine lv_aload_n hx hb dX8_currentBy_5 rfl (lv_at hl 0 rfl) ?_
  refine va_get (D := G) (ci := 9) (v := .ref (ad 23)) (C := RX8) (T := TX8) (N := 39) hx hb hts hiX8 hown hK hP 12 hm rfl 16 (by decide) (hts (.fieldLink RX8 40 "VortexpinModel" "fluxOf" "[I") (List.mem_of_getElem? (i := 1) rfl)) (fun _ h9 => h9) rfl dX8_currentBy_6 ?_
  refine lv_iload_n hx hb dX8_currentBy_9 rfl (lv_at hl 1 rfl) ?_
  refine va_iald hx hb hK hP 23 0 hA23 htI (vp_uK hX) dX8_currentBy_10 ?_
  refine lv_isub hx hb dX8_currentBy_11 ?_
  refine lv_aload_n hx hb dX8_currentBy_12 rfl (lv_at hl 0 rfl) ?_
  refine va_get (D := G) (ci := 9) (v := .ref (ad 21)) (C := RX8) (T := TX8) (N := 39) hx hb hts hiX8 hown hK hP 12 hm rfl 14 (by decide) (hts (.fieldLink RX8 34 "VortexpinModel" "inductance" "[I") (List.mem_of_getElem? (i := 2) rfl)) (fun _ h9 => h9) rfl dX8_currentBy_13 ?_
  refine lv_iload_n hx hb dX8_currentBy_16 rfl (lv_at hl 1 rfl) ?_
  refine va_iald hx hb hK hP 21 0 hA21 htI (vp_uK hX) dX8_currentBy_17 ?_
  refine lv_idiv hx hb dX8_currentBy_18 (hi) ?_
  exact W.iret (v := (((1000 : Int32) * n) - ((F 23) x.toNatClampNeg)) / ((F 21) x.toNatClampNeg)) hx hb hr (fun t ht hW => ⟨(((1000 : Int32) * n) - ((F 23) x.toNatClampNeg)) / ((F 21) x.toNatClampNeg), rfl, (by unfold rCur; rw [if_neg hi]), ht⟩) (fun _ h => absurd h List.not_mem_nil) dX8_currentBy_19
set_option maxHeartbeats 4000000 in
set_option maxRecDepth 100000 in
theorem metX8_arePair (l : Launch) (G : va_G) (tys : List (ClassId × FieldType)) {cI : ClassId} (htI : tI tys cI) (ws : va_W) {am : Nat} {ad : Nat → Nat} {z : Nat → Int32} {wi dm : Int64} {F : Nat → Nat → Int32} (hm : ws[12]? = some (am, .inr (9, mF ad z wi dm))) (hA28 : ws[28]? = some (ad 28, .inl (cI, 60, .inl (F 28)))) (hA29 : ws[29]? = some (ad 29, .inl (cI, 60, .inl (F 29)))) (hA31 : ws[31]? = some (ad 31, .inl (cI, 8, .inl (F 31)))) (x a b : Int32) (hX : ¬ uK x (nI 8)) (ha : ¬ uK a (nI 60)) (hb9 : ¬ uK b (nI 60)) : Met l yX8_arePair wsX8_arePair ({ frames := 0, cells := 0, slots := 0, locals := 0 }) (pcR G tys ws [.ref am, .int x, .int a, .int b]) (vp_Si (fun r => r = (if F 28 a.toNatClampNeg = F 28 b.toNatClampNeg then (if F 29 a.toNatClampNeg ≤ 0 then 0 else if F 29 b.toNatClampNeg = -(F 29 a.toNatClampNeg) then (if F 31 x.toNatClampNeg ≤ F 28 a.toNatClampNeg then 0 else 1) else 0) else 0))) 0 0 (fun _ => False) := by
  refine ofR (cc := cX8_arePair) (maxL := 5) (ret := some .boolean) (by decide) rfl (Nat.le_of_ble_eq_true rfl) ?_
  intro p e s m below meth c ls hx hb hr hlocks hml hown hts hl hP hK
  have hown : s.vm.findClass RX8 = some m.cls := hown
  have hiX8 : ∀ w ∈ u_ws RX8 TX8 39, w ∈ wsX8_arePair := fun _ h => List.mem_cons_of_mem _ (List.mem_append_right _ h)
  have hl : lv_has ls 5 [(0, .ref am), (1, .int x), (2, .int a), (3, .int b)] := hl
  refine lv_aload_n hx hb dX8_arePair_0 rfl (lv_at hl 0 rfl) ?_
  refine va_get (D := G) (ci := 9) (v := .ref (ad 28)) (C := RX8) (T := TX8) (N := 39) hx hb hts hiX8 hown hK hP 12 hm rfl 30 (by decide) (hts (.fieldLink RX8 62 "VortexpinModel" "pointWarmth" "[I") (List.mem_of_getElem? (i := 1) rfl)) (fun _ h9 => h9) rfl dX8_arePair_1 ?_
  refine lv_iload_n hx hb dX8_arePair_4 rfl (lv_at hl 2 rfl) ?_
  refine va_iald hx hb hK hP 28 0 hA28 htI (vp_uK ha) dX8_arePair_5 ?_
  refine lv_aload_n hx hb dX8_arePair_6 rfl (lv_at hl 0 rfl) ?_
  refine va_get (D := G) (ci := 9) (v := .ref (ad 28)) (C := RX8) (T := TX8) (N := 39) hx hb hts hiX8 hown hK hP 12 hm rfl 30 (by decide) (hts (.fieldLink RX8 62 "VortexpinModel" "pointWarmth" "[I") (List.mem_of_getElem? (i := 1) rfl)) (fun _ h9 => h9) rfl dX8_arePair_7 ?_
  refine lv_iload_n hx hb dX8_arePair_10 rfl (lv_at hl 3 rfl) ?_
  refine va_iald hx hb hK hP 28 0 hA28 htI (vp_uK hb9) dX8_arePair_11 ?_
  refine lv_icmp_ne (tgt := 44) hx hb dX8_arePair_12 (by decide) (fun c12 => ?_) (fun c12 => ?_)
  · refine lv_iconst (v := 0) hx hb dX8_arePair_44 (by decide) ?_
    refine lv_istore (lv' := [(4, .int (0 : Int32)), (0, .ref am), (1, .int x), (2, .int a), (3, .int b)]) hx hb dX8_arePair_45 hl (by decide) rfl (fun ls hl => ?_)
    refine lv_iload hx hb dX8_arePair_47 (lv_at hl 0 rfl) ?_
    refine lv_if_eq (tgt := 71) hx hb dX8_arePair_49 (by decide) (fun c49 => ?_) (fun c49 => absurd (by decide) c49)
    refine lv_iconst (v := 0) hx hb dX8_arePair_71 (by decide) ?_
    exact W.zret (v := (0 : Int32)) hx hb hr (rfl) (fun t ht hW => ⟨(0 : Int32), rfl, (by simp only [c12, (eq_true c49), ↓reduceIte, not_true_eq_false, not_false_eq_true]), ht⟩) (fun _ h => absurd h List.not_mem_nil) dX8_arePair_72
  · refine lv_aload_n hx hb dX8_arePair_15 rfl (lv_at hl 0 rfl) ?_
    refine va_get (D := G) (ci := 9) (v := .ref (ad 29)) (C := RX8) (T := TX8) (N := 39) hx hb hts hiX8 hown hK hP 12 hm rfl 31 (by decide) (hts (.fieldLink RX8 65 "VortexpinModel" "pointCurrent" "[I") (List.mem_of_getElem? (i := 2) rfl)) (fun _ h9 => h9) rfl dX8_arePair_16 ?_
    refine lv_iload_n hx hb dX8_arePair_19 rfl (lv_at hl 2 rfl) ?_
    refine va_iald hx hb hK hP 29 0 hA29 htI (vp_uK ha) dX8_arePair_20 ?_
    refine lv_if_le (tgt := 44) hx hb dX8_arePair_21 (by decide) (fun c21 => ?_) (fun c21 => ?_)
    · refine lv_iconst (v := 0) hx hb dX8_arePair_44 (by decide) ?_
      refine lv_istore (lv' := [(4, .int (0 : Int32)), (0, .ref am), (1, .int x), (2, .int a), (3, .int b)]) hx hb dX8_arePair_45 hl (by decide) rfl (fun ls hl => ?_)
      refine lv_iload hx hb dX8_arePair_47 (lv_at hl 0 rfl) ?_
      refine lv_if_eq (tgt := 71) hx hb dX8_arePair_49 (by decide) (fun c49 => ?_) (fun c49 => absurd (by decide) c49)
      refine lv_iconst (v := 0) hx hb dX8_arePair_71 (by decide) ?_
      exact W.zret (v := (0 : Int32)) hx hb hr (rfl) (fun t ht hW => ⟨(0 : Int32), rfl, (by simp only [(eq_true c12), c21, (eq_true c49), ↓reduceIte, not_true_eq_false, not_false_eq_true]), ht⟩) (fun _ h => absurd h List.not_mem_nil) dX8_arePair_72
    · refine lv_aload_n hx hb dX8_arePair_24 rfl (lv_at hl 0 rfl) ?_
      refine va_get (D := G) (ci := 9) (v := .ref (ad 29)) (C := RX8) (T := TX8) (N := 39) hx hb hts hiX8 hown hK hP 12 hm rfl 31 (by decide) (hts (.fieldLink RX8 65 "VortexpinModel" "pointCurrent" "[I") (List.mem_of_getElem? (i := 2) rfl)) (fun _ h9 => h9) rfl dX8_arePair_25 ?_
      refine lv_iload_n hx hb dX8_arePair_28 rfl (lv_at hl 3 rfl) ?_
      refine va_iald hx hb hK hP 29 0 hA29 htI (vp_uK hb9) dX8_arePair_29 ?_
      refine lv_aload_n hx hb dX8_arePair_30 rfl (lv_at hl 0 rfl) ?_
      refine va_get (D := G) (ci := 9) (v := .ref (ad 29)) (C := RX8) (T := TX8) (N := 39) hx hb hts hiX8 hown hK hP 12 hm rfl 31 (by decide) (hts (.fieldLink RX8 65 "VortexpinModel" "pointCurrent" "[I") (List.mem_of_getElem? (i := 2) rfl)) (fun _ h9 => h9) rfl dX8_arePair_31 ?_
      refine lv_iload_n hx hb dX8_arePair_34 rfl (lv_at hl 2 rfl) ?_
      refine va_iald hx hb hK hP 29 0 hA29 htI (vp_uK ha) dX8_arePair_35 ?_
      refine lv_ineg hx hb dX8_arePair_36 ?_
      refine lv_icmp_ne (tgt := 44) hx hb dX8_arePair_37 (by decide) (fun c37 => ?_) (fun c37 => ?_)
      · refine lv_iconst (v := 0) hx hb dX8_arePair_44 (by decide) ?_
        refine lv_istore (lv' := [(4, .int (0 : Int32)), (0, .ref am), (1, .int x), (2, .int a), (3, .int b)]) hx hb dX8_arePair_45 hl (by decide) rfl (fun ls hl => ?_)
        refine lv_iload hx hb dX8_arePair_47 (lv_at hl 0 rfl) ?_
        refine lv_if_eq (tgt := 71) hx hb dX8_arePair_49 (by decide) (fun c49 => ?_) (fun c49 => absurd (by decide) c49)
        refine lv_iconst (v := 0) hx hb dX8_arePair_71 (by decide) ?_
        exact W.zret (v := (0 : Int32)) hx hb hr (rfl) (fun t ht hW => ⟨(0 : Int32), rfl, (by simp only [(eq_true c12), c21, c37, (eq_true c49), ↓reduceIte, not_true_eq_false, not_false_eq_true]), ht⟩) (fun _ h => absurd h List.not_mem_nil) dX8_arePair_72
      · refine lv_iconst (v := 1) hx hb dX8_arePair_40 (by decide) ?_
        refine lv_goto (tgt := 45) hx hb dX8_arePair_41 (by decide) ?_
        refine lv_istore (lv' := [(4, .int (1 : Int32)), (0, .ref am), (1, .int x), (2, .int a), (3, .int b)]) hx hb dX8_arePair_45 hl (by decide) rfl (fun ls hl => ?_)
        refine lv_iload hx hb dX8_arePair_47 (lv_at hl 0 rfl) ?_
        refine lv_if_eq (tgt := 71) hx hb dX8_arePair_49 (by decide) (fun c49 => absurd c49 (by decide)) (fun c49 => ?_)
        refine lv_aload_n hx hb dX8_arePair_52 rfl (lv_at hl 1 rfl) ?_
        refine va_get (D := G) (ci := 9) (v := .ref (ad 28)) (C := RX8) (T := TX8) (N := 39) hx hb hts hiX8 hown hK hP 12 hm rfl 30 (by decide) (hts (.fieldLink RX8 62 "VortexpinModel" "pointWarmth" "[I") (List.mem_of_getElem? (i := 1) rfl)) (fun _ h9 => h9) rfl dX8_arePair_53 ?_
        refine lv_iload_n hx hb dX8_arePair_56 rfl (lv_at hl 3 rfl) ?_
        refine va_iald hx hb hK hP 28 0 hA28 htI (vp_uK ha) dX8_arePair_57 ?_
        refine lv_aload_n hx hb dX8_arePair_58 rfl (lv_at hl 1 rfl) ?_
        refine va_get (D := G) (ci := 9) (v := .ref (ad 31)) (C := RX8) (T := TX8) (N := 39) hx hb hts hiX8 hown hK hP 12 hm rfl 34 (by decide) (hts (.fieldLink RX8 71 "VortexpinModel" "claimWarmth" "[I") (List.mem_of_getElem? (i := 3) rfl)) (fun _ h9 => h9) rfl dX8_arePair_59 ?_
        refine lv_iload_n hx hb dX8_arePair_62 rfl (lv_at hl 2 rfl) ?_
        refine va_iald hx hb hK hP 31 0 hA31 htI (vp_uK hX) dX8_arePair_63 ?_
        refine lv_icmp_ge (tgt := 71) hx hb dX8_arePair_64 (by decide) (fun c64 => ?_) (fun c64 => ?_)
        · refine lv_iconst (v := 0) hx hb dX8_arePair_71 (by decide) ?_
          exact W.zret (v := (0 : Int32)) hx hb hr (rfl) (fun t ht hW => ⟨(0 : Int32), rfl, (by simp only [(eq_true c12), c21, (eq_true c37), c49, c64, ↓reduceIte, not_true_eq_false, not_false_eq_true]), ht⟩) (fun _ h => absurd h List.not_mem_nil) dX8_arePair_72
        · refine lv_iconst (v := 1) hx hb dX8_arePair_67 (by decide) ?_
          refine lv_goto (tgt := 72) hx hb dX8_arePair_68 (by decide) ?_
          exact W.zret (v := (1 : Int32)) hx hb hr (rfl) (fun t ht hW => ⟨(1 : Int32), rfl, (by simp only [(eq_true c12), c21, (eq_true c37), c49, c64, ↓reduceIte, not_true_eq_false, not_false_eq_true]), ht⟩) (fun _ h => absurd h List.not_mem_nil) dX8_arePair_72
