/-- which of the three refusals it was -/
def xC (k : Int32) (e1 e2 e3 E : String) : Prop := (k = 1 ∧ E = e1) ∨ (k = 2 ∧ E = e2) ∨ (k = 3 ∧ E = e3)
def okO (s : State) (H : Heap) : Prop := s.heap.size ≤ H.size ∧ ∀ q : Nat, q < s.heap.size → H[q]? = s.heap[q]?
theorem uK_ix {x : Int32} {n : Nat} (h : ¬ uK x (nI n)) : x = nI x.toNatClampNeg ∧ x.toNatClampNeg < n := by
  have h1 : ¬ x < 0 := fun q => h (Or.inl q)
  have h2 : x < nI n := Int32.not_le.mp (fun q => h (Or.inr q))
  obtain ⟨j, hj, rfl⟩ := nI_of h1
  rw [nI_clamp hj]
  exact ⟨rfl, Nat.lt_of_not_le (fun q => nI_nlt q hj h2)⟩
theorem vp_uK {x : Int32} {n : Nat} (h : ¬ uK x (nI n)) : vp_in x n := by
  obtain ⟨h1, h2⟩ := uK_ix h
  exact fun q => q.elim (fun z => h (Or.inl z)) (fun z => by omega)
theorem vp_in20 {x : Int32} (h0 : 0 ≤ x) (h : ¬ 20 ≤ x) : vp_in x 20 := vp_uK (n := 20) (fun q => q.elim (fun z => Int32.not_le.mpr z h0) h)
section RefStep
variable {p : Program} {l : Launch} {e : Env} {R : Room} {s : State} {m : MethodId} {args : Array Value} {below : List Frame} {meth : Method} {c : Code} {H : Heap} {locs : List Loc} {cells slots mc ms : Nat} {G : va_G} {A : Nat → Prop} {ws : va_W} {pc : Nat} {ls : Array Slot} {rest st0 : List Value} {a : Array Value}
theorem ref_step {ok bad : Prop} {e0 : String} {C : String → Prop} {Qc : Array Value → State → Outcome → State → Prop}
    (hr : vx_Run p l e R s m args below meth c H locs cells slots 1 6 (F0 m pc ls st0) rest (va_Qv (fun (_ : Unit) => ok) (fun _ _ => True) (fun _ => False) a) (xcT (fun E => bad ∧ E = e0)) (fun _ => False)) (hno : ∀ x ∈ c.exceptionTable.toList, False) (hlocks : meth.locks = false) (hS : va_S A s.heap H locs) (hO : okO s H) (hP : va_P G vwCl ws H) (hbad : bad → C e0) (hc : cells + 1 ≤ mc) (hs : slots + 6 ≤ ms)
    (kk : ok → ∀ (H1 : Heap) (locs1 : List Loc), va_S A s.heap H1 locs1 → okO s H1 → va_P G vwCl ws H1 → W p l e R s m args below meth c H1 locs1 (cells + 1) (slots + 6) (vx_MQ below Qc (xcT C) args s mc ms A) (F0 m (pc + 3) ls rest)) : W p l e R s m args below meth c H locs cells slots (vx_MQ below Qc (xcT C) args s mc ms A) (F0 m pc ls st0) := by
  refine vx_callv hr hS (fun q _ h => h.elim) (fun q h => h.elim) (fun q _ h => h.elim) (fun E ce q9 u t H1 locs1 ht hvm _ hu hsz hk1 hS1 hce hcv hcl => ?_) (fun u t H1 locs1 ht hvm k5 _ hsz hk1 hS1 => ?_)
  · refine vx_out (fun x h9 => absurd h9 (hno x)) hlocks hce hcv hcl (fun t2 ht2 _ => ⟨(), trivial, by rw [hu.2]; exact hbad hu.1, by rw [ht2]; exact Nat.le_trans hO.1 hsz, fun q hq _ => by rw [ht2]; exact (hk1 q (Nat.lt_of_lt_of_le hq hO.1) id).trans (hO.2 q hq)⟩) hS1.2.2 hc hs
  · exact kk k5 H1 locs1 hS1 ⟨Nat.le_trans hO.1 hsz, fun q hq => (hk1 q (Nat.lt_of_lt_of_le hq hO.1) id).trans (hO.2 q hq)⟩ (hP.kept (fun k x hx => hk1 x.1 ((hP k x hx).lt) id))
theorem rf_q {x : Option Nat} {y : Nat} {Q : State → Prop} (h : x = some y) (k : W p l e R s m args below meth c H locs cells slots Q (F0 m pc ls (.ref y :: rest))) : W p l e R s m args below meth c H locs cells slots Q (F0 m pc ls (va_rf x :: rest)) := by subst h; exact k
end RefStep
def cdOne (x n : Int32) : Int32 := if uK x n then 1 else 0
def cdPin (x y : Int32) : Int32 := if uK x 48 then 1 else if oR y 0 50 then 2 else 0
def cdDrive (d h : Int32) : Int32 := if oR d (-9) 9 then 1 else if oR h 0 30 then 1 else 0
def cdEnter (pr n : Int32) : Int32 := if oR pr (-100) 1000 then 1 else if 20 ≤ n then 2 else 0
def cdRing (i c n : Int32) : Int32 := if oR i 1 100 then 1 else if oR c 50 1000 then 1 else if 6 ≤ n then 2 else 0
def cdFlux (x f n : Int32) : Int32 := if uK x n then 1 else if oR f (-1000000) 1000000 then 2 else 0
def cdOfRing (x w n : Int32) : Int32 := if uK x n then 1 else if oR w 0 2 then 2 else 0
def cdCurrent (c : Int32) : Int32 := if oR c 0 1000 then 1 else 0
def cdHeat (x y : Int32) : Int32 := if uK x 12 then 1 else if oR y 1 500 then 2 else 0
def cdPass (n : Int32) : Int32 := if oR n 1 50 then 1 else 0
def cdOfCoil (w : Int32) : Int32 := if oR w 0 5 then 1 else 0
def cdPoint (t c v n : Int32) : Int32 := if oR t 0 300 then 1 else if oR c (-1000) 1000 then 1 else if oR v (-1000000) 1000000 then 1 else if 60 ≤ n then 2 else 0
def cdClaim (t fr to np nc : Int32) : Int32 := if uK fr np then 1 else if uK to np then 1 else if oR t 1 300 then 2 else if oR to fr (np - 1) then 2 else if 8 ≤ nc then 3 else 0
def cdRepeats (x h n : Int32) : Int32 := if uK x n then 1 else if uK h 7 then 1 else 0
def cdJudge (x no n : Int32) : Int32 := if uK x n then 1 else if oR no 0 1000000 then 2 else 0

set_option maxHeartbeats 4000000 in
set_option maxRecDepth 100000 in
theorem metX7_pin (l : Launch) (hnt : l.stackTraces = false) (G : va_G) (tys : List (ClassId × FieldType)) {A : Nat → Prop} {tE mi : Nat} {cI : ClassId} (htI : tI tys cI) (ws : va_W) {pv v aS af aR ao ak aP aC : Nat} (hv : ws[pv]? = some (v, .inr (7, [.ref aS, .ref af, .ref aR, .ref ao, .ref ak, .ref aP, .ref aC]))) {pf pd pk ad ac : Nat} {en dr he : Int32} {dep cel : Nat → Int32} (hf : ws[pf]? = some (af, .inr (4, [.ref ad, .ref ac, .int en, .int dr, .int he]))) (hd : ws[pd]? = some (ad, .inl (cI, 48, .inl dep))) (hk : ws[pk]? = some (ac, .inl (cI, 20, .inl cel))) (ndk : pd ≠ pk) (x y : Int32) : vx_Met l yX7_pin wsX7_pin { frames := 7, cells := 2, slots := 12, locals := 104 } (pcX G tys ws A tE mi [.ref v, .int x, .int y]) (va_Qi (fun (r : Int32) (_ : Unit) => cdPin x y = 0 ∧ r = dep x.toNatClampNeg) (fun _ t => va_P G vwCl (ws.set pd (ad, .inl (cI, 48, .inl (upd dep x.toNatClampNeg y)))) t.heap ∧ va_D A (ws.set pd (ad, .inl (cI, 48, .inl (upd dep x.toNatClampNeg y))))) A) (xcT (fun E => xC (cdPin x y) eIB eIA "" E)) 2 12 A := by
  refine ofX (cc := cX7_pin) (maxL := 4) (ret := some .int) (by decide) rfl (Nat.le_of_ble_eq_true rfl) ?_
  intro p e s m below meth c ls hx hb hr hlocks hml hown hts hno hl hP hK hD hA hS hE
  have hown : s.vm.findClass RX7 = some m.cls := hown
  have hiX3 : ∀ w ∈ u_ws RX3 TX3 5, w ∈ wsX7_pin := fun _ h => List.mem_cons_of_mem _ (List.mem_append_left _ (List.mem_append_left _ (List.mem_append_right _ h)))
  have hiX7 : ∀ w ∈ u_ws RX7 TX7 7, w ∈ wsX7_pin := fun _ h => List.mem_cons_of_mem _ (List.mem_append_left _ (List.mem_append_left _ (List.mem_append_left _ (List.mem_append_right _ h))))
  have hl : lv_has ls 4 [(0, .ref v), (1, .int x), (2, .int y)] := hl
  have hO : okO s s.heap := ⟨Nat.le_refl _, fun _ _ => rfl⟩
  refine lv_iload_n hx hb dX7_pin_0 rfl (lv_at hl 1 rfl) ?_
  refine lv_bipush (v := 48) hx hb dX7_pin_1 (by decide) ?_
  refine ref_step (vx_runS (As := [.int x, .int (48 : Int32)]) (rest := []) ⟨hx, hb, hml, hown, hts⟩ (metX7_refuseUnknown l hnt x (48 : Int32)) (va_cwS 2 hts gX7_pin_X7_refuseUnknown rfl rfl rfl (by decide +kernel) ⟨Nat.le_of_ble_eq_true rfl, Nat.le_of_ble_eq_true rfl⟩) ⟨pcE_b, pcE_u hE hS hA⟩ rfl rfl hl.1 rfl (lv_room (Nat.le_of_ble_eq_true rfl)) dX7_pin_3 ⟨Nat.le_of_ble_eq_true rfl, Nat.le_of_ble_eq_true rfl⟩) hno hlocks hS hO hP (fun hbd => Or.inl ⟨by unfold cdPin; rw [if_pos hbd], rfl⟩) (Nat.le_of_ble_eq_true rfl) (Nat.le_of_ble_eq_true rfl) (fun k0 H locs hS hO hP => ?_)
  refine lv_iload_n hx hb dX7_pin_6 rfl (lv_at hl 2 rfl) ?_
  refine lv_iconst (v := 0) hx hb dX7_pin_7 (by decide) ?_
  refine lv_bipush (v := 50) hx hb dX7_pin_8 (by decide) ?_
  refine ref_step (vx_runS (As := [.int y, .int (0 : Int32), .int (50 : Int32)]) (rest := []) ⟨hx, hb, hml, hown, hts⟩ (metX7_refuseOutside l hnt y (0 : Int32) (50 : Int32)) (va_cwS 3 hts gX7_pin_X7_refuseOutside rfl rfl rfl (by decide +kernel) ⟨Nat.le_of_ble_eq_true rfl, Nat.le_of_ble_eq_true rfl⟩) ⟨pcE_b, pcE_u hE hS hA⟩ rfl rfl hl.1 rfl (lv_room (Nat.le_of_ble_eq_true rfl)) dX7_pin_10 ⟨Nat.le_of_ble_eq_true rfl, Nat.le_of_ble_eq_true rfl⟩) hno hlocks hS hO hP (fun hbd => Or.inr (Or.inl ⟨by unfold cdPin; rw [if_neg k0, if_pos hbd], rfl⟩)) (Nat.le_of_ble_eq_true rfl) (Nat.le_of_ble_eq_true rfl) (fun k1 H locs hS hO hP => ?_)
  refine lv_aload_n hx hb dX7_pin_13 rfl (lv_at hl 0 rfl) ?_
  refine va_get (D := G) (ci := 7) (v := .ref af) (C := RX7) (T := TX7) (N := 7) hx hb hts hiX7 hown hK hP pv hv rfl 1 (by decide) (hts (.fieldLink RX7 19 "Vortexpin" "film" "LVortexpin$Film;") (List.mem_of_getElem? (i := 1) rfl)) (fun _ h9 => h9) rfl dX7_pin_14 ?_
  refine va_get (D := G) (ci := 4) (v := .ref ad) (C := RX3) (T := TX3) (N := 5) hx hb hts hiX3 hown hK hP pf hf rfl 0 (by decide) (hts (.fieldLink RX7 87 "Vortexpin$Film" "depths" "[I") (List.mem_of_getElem? (i := 2) rfl)) (fun _ h9 => h9) rfl dX7_pin_17 ?_
  refine lv_iload_n hx hb dX7_pin_20 rfl (lv_at hl 1 rfl) ?_
  refine va_iald hx hb hK hP pd 0 hd htI (vp_uK k0) dX7_pin_21 ?_
  refine lv_istore_n (lv' := [(3, .int (dep x.toNatClampNeg)), (0, .ref v), (1, .int x), (2, .int y)]) hx hb dX7_pin_22 rfl hl (by decide) rfl (fun ls hl => ?_)
  refine lv_aload_n hx hb dX7_pin_23 rfl (lv_at hl 1 rfl) ?_
  refine va_get (D := G) (ci := 7) (v := .ref af) (C := RX7) (T := TX7) (N := 7) hx hb hts hiX7 hown hK hP pv hv rfl 1 (by decide) (hts (.fieldLink RX7 19 "Vortexpin" "film" "LVortexpin$Film;") (List.mem_of_getElem? (i := 1) rfl)) (fun _ h9 => h9) rfl dX7_pin_24 ?_
  refine va_get (D := G) (ci := 4) (v := .ref ad) (C := RX3) (T := TX3) (N := 5) hx hb hts hiX3 hown hK hP pf hf rfl 0 (by decide) (hts (.fieldLink RX7 87 "Vortexpin$Film" "depths" "[I") (List.mem_of_getElem? (i := 2) rfl)) (fun _ h9 => h9) rfl dX7_pin_27 ?_
  refine lv_iload_n hx hb dX7_pin_30 rfl (lv_at hl 2 rfl) ?_
  refine lv_iload_n hx hb dX7_pin_31 rfl (lv_at hl 3 rfl) ?_
  refine va_iast hx hb hK hP hD hS pd 0 hd htI (vp_uK k0) dX7_pin_32 (fun H locs hP hD hS => ?_)
  have hv := va_gs (k := pd) (e := (ad, .inl (cI, 48, .inl (upd dep x.toNatClampNeg y)))) ((ne_lr hd hv).symm) hv
  have hf := va_gs (k := pd) (e := (ad, .inl (cI, 48, .inl (upd dep x.toNatClampNeg y)))) ((ne_lr hd hf).symm) hf
  have hk := va_gs (k := pd) (e := (ad, .inl (cI, 48, .inl (upd dep x.toNatClampNeg y)))) (ndk.symm) hk
  have hd := va_ge (e := (ad, .inl (cI, 48, .inl (upd dep x.toNatClampNeg y)))) hd
  refine lv_iload_n hx hb dX7_pin_33 rfl (lv_at hl 0 rfl) ?_
  refine W.widen (k := 2) (n := 12) (Nat.le_of_ble_eq_true rfl) (Nat.le_of_ble_eq_true rfl) (vx_ret ?_)
  have ew : (ws).set pd (ad, .inl (cI, 48, .inl (upd dep x.toNatClampNeg y))) = ws.set pd (ad, .inl (cI, 48, .inl (upd dep x.toNatClampNeg y))) := by simp only [List.set_set, ↓reduceIte, not_true_eq_false, not_false_eq_true]
  have hP : va_P G vwCl ((ws).set pd (ad, .inl (cI, 48, .inl (upd dep x.toNatClampNeg y)))) H := hP
  have hD : va_D A ((ws).set pd (ad, .inl (cI, 48, .inl (upd dep x.toNatClampNeg y)))) := hD
  rw [ew] at hP hD
  exact W.iret (v := dep x.toNatClampNeg) hx hb hr (fun t ht hW => ⟨⟨dep x.toNatClampNeg, (), rfl, ⟨by unfold cdPin; rw [if_neg k0, if_neg k1], rfl⟩, by show va_P G vwCl _ t.heap ∧ va_D A _; rw [ht]; exact ⟨hP, hD⟩⟩, hS.F ht⟩) hS.2.2 dX7_pin_34
set_option maxHeartbeats 4000000 in
set_option maxRecDepth 100000 in
theorem metX7_drive (l : Launch) (hnt : l.stackTraces = false) (G : va_G) (tys : List (ClassId × FieldType)) {A : Nat → Prop} {tE mi : Nat} {cI : ClassId} (htI : tI tys cI) (ws : va_W) {pv v aS af aR ao ak aP aC : Nat} (hv : ws[pv]? = some (v, .inr (7, [.ref aS, .ref af, .ref aR, .ref ao, .ref ak, .ref aP, .ref aC]))) {pf pd pk ad ac : Nat} {en dr he : Int32} {dep cel : Nat → Int32} (hf : ws[pf]? = some (af, .inr (4, [.ref ad, .ref ac, .int en, .int dr, .int he]))) (hd : ws[pd]? = some (ad, .inl (cI, 48, .inl dep))) (hk : ws[pk]? = some (ac, .inl (cI, 20, .inl cel))) (ndk : pd ≠ pk) (d h : Int32) : vx_Met l yX7_drive wsX7_drive { frames := 7, cells := 2, slots := 12, locals := 104 } (pcX G tys ws A tE mi [.ref v, .int d, .int h]) (va_Qv (fun (_ : Unit) => cdDrive d h = 0 ∧ True) (fun _ t => va_P G vwCl (ws.set pf (af, .inr (4, [.ref ad, .ref ac, .int en, .int d, .int h]))) t.heap ∧ va_D A (ws.set pf (af, .inr (4, [.ref ad, .ref ac, .int en, .int d, .int h])))) A) (xcT (fun E => xC (cdDrive d h) eIA "" "" E)) 2 12 A := by
  refine ofX (cc := cX7_drive) (maxL := 3) (ret := none) (by decide) rfl (Nat.le_of_ble_eq_true rfl) ?_
  intro p e s m below meth c ls hx hb hr hlocks hml hown hts hno hl hP hK hD hA hS hE
  have hown : s.vm.findClass RX7 = some m.cls := hown
  have hiX3 : ∀ w ∈ u_ws RX3 TX3 5, w ∈ wsX7_drive := fun _ h => List.mem_cons_of_mem _ (List.mem_append_left _ (List.mem_append_right _ h))
  have hiX7 : ∀ w ∈ u_ws RX7 TX7 7, w ∈ wsX7_drive := fun _ h => List.mem_cons_of_mem _ (List.mem_append_left _ (List.mem_append_left _ (List.mem_append_right _ h)))
  have hl : lv_has ls 3 [(0, .ref v), (1, .int d), (2, .int h)] := hl
  have hO : okO s s.heap := ⟨Nat.le_refl _, fun _ _ => rfl⟩
  refine lv_iload_n hx hb dX7_drive_0 rfl (lv_at hl 1 rfl) ?_
  refine lv_bipush (v := -9) hx hb dX7_drive_1 (by decide) ?_
  refine lv_bipush (v := 9) hx hb dX7_drive_3 (by decide) ?_
  refine ref_step (vx_runS (As := [.int d, .int (-9 : Int32), .int (9 : Int32)]) (rest := []) ⟨hx, hb, hml, hown, hts⟩ (metX7_refuseOutside l hnt d (-9 : Int32) (9 : Int32)) (va_cwS 3 hts gX7_drive_X7_refuseOutside rfl rfl rfl (by decide +kernel) ⟨Nat.le_of_ble_eq_true rfl, Nat.le_of_ble_eq_true rfl⟩) ⟨pcE_b, pcE_u hE hS hA⟩ rfl rfl hl.1 rfl (lv_room (Nat.le_of_ble_eq_true rfl)) dX7_drive_5 ⟨Nat.le_of_ble_eq_true rfl, Nat.le_of_ble_eq_true rfl⟩) hno hlocks hS hO hP (fun hbd => Or.inl ⟨by unfold cdDrive; rw [if_pos hbd], rfl⟩) (Nat.le_of_ble_eq_true rfl) (Nat.le_of_ble_eq_true rfl) (fun k0 H locs hS hO hP => ?_)
  refine lv_iload_n hx hb dX7_drive_8 rfl (lv_at hl 2 rfl) ?_
  refine lv_iconst (v := 0) hx hb dX7_drive_9 (by decide) ?_
  refine lv_bipush (v := 30) hx hb dX7_drive_10 (by decide) ?_
  refine ref_step (vx_runS (As := [.int h, .int (0 : Int32), .int (30 : Int32)]) (rest := []) ⟨hx, hb, hml, hown, hts⟩ (metX7_refuseOutside l hnt h (0 : Int32) (30 : Int32)) (va_cwS 3 hts gX7_drive_X7_refuseOutside rfl rfl rfl (by decide +kernel) ⟨Nat.le_of_ble_eq_true rfl, Nat.le_of_ble_eq_true rfl⟩) ⟨pcE_b, pcE_u hE hS hA⟩ rfl rfl hl.1 rfl (lv_room (Nat.le_of_ble_eq_true rfl)) dX7_drive_12 ⟨Nat.le_of_ble_eq_true rfl, Nat.le_of_ble_eq_true rfl⟩) hno hlocks hS hO hP (fun hbd => Or.inl ⟨by unfold cdDrive; rw [if_neg k0, if_pos hbd], rfl⟩) (Nat.le_of_ble_eq_true rfl) (Nat.le_of_ble_eq_true rfl) (fun k1 H locs hS hO hP => ?_)
  refine lv_aload_n hx hb dX7_drive_15 rfl (lv_at hl 0 rfl) ?_
  refine va_get (D := G) (ci := 7) (v := .ref af) (C := RX7) (T := TX7) (N := 7) hx hb hts hiX7 hown hK hP pv hv rfl 1 (by decide) (hts (.fieldLink RX7 19 "Vortexpin" "film" "LVortexpin$Film;") (List.mem_of_getElem? (i := 1) rfl)) (fun _ h9 => h9) rfl dX7_drive_16 ?_
  refine lv_iload_n hx hb dX7_drive_19 rfl (lv_at hl 1 rfl) ?_
  refine va_put (D := G) (ci := 4) (v := .int d) (ty := .int) (C := RX3) (T := TX3) (N := 5) hx hb hts hiX3 tyX3 tyX3_ok nmX3 hown hK hP hD hS pf hf rfl 3 (by decide) (hts (.fieldLink RX7 91 "Vortexpin$Film" "drive" "I") (List.mem_of_getElem? (i := 2) rfl)) (fun _ h9 => h9) rfl (by decide +kernel) (rfl) (rfl) (Nat.le_of_ble_eq_true rfl) dX7_drive_20 (fun H locs hP hD hS => ?_)
  have hv := va_gs (k := pf) (e := (af, .inr (4, [.ref ad, .ref ac, .int en, .int d, .int he]))) (ne_oo hv hf (by decide)) hv
  have hd := va_gs (k := pf) (e := (af, .inr (4, [.ref ad, .ref ac, .int en, .int d, .int he]))) (ne_lr hd hf) hd
  have hk := va_gs (k := pf) (e := (af, .inr (4, [.ref ad, .ref ac, .int en, .int d, .int he]))) (ne_lr hk hf) hk
  have hf := va_ge (e := (af, .inr (4, [.ref ad, .ref ac, .int en, .int d, .int he]))) hf
  refine lv_aload_n hx hb dX7_drive_23 rfl (lv_at hl 0 rfl) ?_
  refine va_get (D := G) (ci := 7) (v := .ref af) (C := RX7) (T := TX7) (N := 7) hx hb hts hiX7 hown hK hP pv hv rfl 1 (by decide) (hts (.fieldLink RX7 19 "Vortexpin" "film" "LVortexpin$Film;") (List.mem_of_getElem? (i := 1) rfl)) (fun _ h9 => h9) rfl dX7_drive_24 ?_
  refine lv_iload_n hx hb dX7_drive_27 rfl (lv_at hl 2 rfl) ?_
  refine va_put (D := G) (ci := 4) (v := .int h) (ty := .int) (C := RX3) (T := TX3) (N := 5) hx hb hts hiX3 tyX3 tyX3_ok nmX3 hown hK hP hD hS pf hf rfl 4 (by decide) (hts (.fieldLink RX7 94 "Vortexpin$Film" "heat" "I") (List.mem_of_getElem? (i := 3) rfl)) (fun _ h9 => h9) rfl (by decide +kernel) (rfl) (rfl) (Nat.le_of_ble_eq_true rfl) dX7_drive_28 (fun H locs hP hD hS => ?_)
  have hv := va_gs (k := pf) (e := (af, .inr (4, [.ref ad, .ref ac, .int en, .int d, .int h]))) (ne_oo hv hf (by decide)) hv
  have hd := va_gs (k := pf) (e := (af, .inr (4, [.ref ad, .ref ac, .int en, .int d, .int h]))) (ne_lr hd hf) hd
  have hk := va_gs (k := pf) (e := (af, .inr (4, [.ref ad, .ref ac, .int en, .int d, .int h]))) (ne_lr hk hf) hk
  have hf := va_ge (e := (af, .inr (4, [.ref ad, .ref ac, .int en, .int d, .int h]))) hf
  refine W.widen (k := 2) (n := 12) (Nat.le_of_ble_eq_true rfl) (Nat.le_of_ble_eq_true rfl) (vx_ret ?_)
  have ew : ((ws).set pf (af, .inr (4, [.ref ad, .ref ac, .int en, .int d, .int he]))).set pf (af, .inr (4, [.ref ad, .ref ac, .int en, .int d, .int h])) = ws.set pf (af, .inr (4, [.ref ad, .ref ac, .int en, .int d, .int h])) := by simp only [List.set_set, ↓reduceIte, not_true_eq_false, not_false_eq_true]
  have hP : va_P G vwCl (((ws).set pf (af, .inr (4, [.ref ad, .ref ac, .int en, .int d, .int he]))).set pf (af, .inr (4, [.ref ad, .ref ac, .int en, .int d, .int h]))) H := hP
  have hD : va_D A (((ws).set pf (af, .inr (4, [.ref ad, .ref ac, .int en, .int d, .int he]))).set pf (af, .inr (4, [.ref ad, .ref ac, .int en, .int d, .int h]))) := hD
  rw [ew] at hP hD
  exact W.vret hx hb hr (fun t ht hW => ⟨⟨(), rfl, ⟨by unfold cdDrive; rw [if_neg k0, if_neg k1], trivial⟩, by show va_P G vwCl _ t.heap ∧ va_D A _; rw [ht]; exact ⟨hP, hD⟩⟩, hS.F ht⟩) hS.2.2 dX7_drive_31
set_option maxHeartbeats 4000000 in
set_option maxRecDepth 100000 in
theorem metX7_whirlAt (l : Launch) (hnt : l.stackTraces = false) (G : va_G) (tys : List (ClassId × FieldType)) {A : Nat → Prop} {tE mi : Nat} {cI : ClassId} (htI : tI tys cI) (ws : va_W) {pv v aS af aR ao ak aP aC : Nat} (hv : ws[pv]? = some (v, .inr (7, [.ref aS, .ref af, .ref aR, .ref ao, .ref ak, .ref aP, .ref aC]))) {pf pd pk ad ac : Nat} {en dr he : Int32} {dep cel : Nat → Int32} (hf : ws[pf]? = some (af, .inr (4, [.ref ad, .ref ac, .int en, .int dr, .int he]))) (hd : ws[pd]? = some (ad, .inl (cI, 48, .inl dep))) (hk : ws[pk]? = some (ac, .inl (cI, 20, .inl cel))) (x : Int32) : vx_Met l yX7_whirlAt wsX7_whirlAt { frames := 7, cells := 1, slots := 6, locals := 103 } (pcX G tys ws A tE mi [.ref v, .int x]) (va_Qi (fun (r : Int32) (_ : Unit) => cdOne x en = 0 ∧ r = fCell cel x) (fun _ t => va_P G vwCl (ws) t.heap ∧ va_D A (ws)) A) (xcT (fun E => xC (cdOne x en) eIB "" "" E)) 1 6 A := by
  refine ofX (cc := cX7_whirlAt) (maxL := 2) (ret := some .int) (by decide) rfl (Nat.le_of_ble_eq_true rfl) ?_
  intro p e s m below meth c ls hx hb hr hlocks hml hown hts hno hl hP hK hD hA hS hE
  have hown : s.vm.findClass RX7 = some m.cls := hown
  have hiX3 : ∀ w ∈ u_ws RX3 TX3 5, w ∈ wsX7_whirlAt := fun _ h => List.mem_cons_of_mem _ (List.mem_append_left _ (List.mem_append_right _ h))
  have hiX7 : ∀ w ∈ u_ws RX7 TX7 7, w ∈ wsX7_whirlAt := fun _ h => List.mem_cons_of_mem _ (List.mem_append_left _ (List.mem_append_left _ (List.mem_append_right _ h)))
  have hl : lv_has ls 2 [(0, .ref v), (1, .int x)] := hl
  have hO : okO s s.heap := ⟨Nat.le_refl _, fun _ _ => rfl⟩
  refine lv_iload_n hx hb dX7_whirlAt_0 rfl (lv_at hl 1 rfl) ?_
  refine lv_aload_n hx hb dX7_whirlAt_1 rfl (lv_at hl 0 rfl) ?_
  refine va_get (D := G) (ci := 7) (v := .ref af) (C := RX7) (T := TX7) (N := 7) hx hb hts hiX7 hown hK hP pv hv rfl 1 (by decide) (hts (.fieldLink RX7 19 "Vortexpin" "film" "LVortexpin$Film;") (List.mem_of_getElem? (i := 1) rfl)) (fun _ h9 => h9) rfl dX7_whirlAt_2 ?_
  refine va_get (D := G) (ci := 4) (v := .int en) (C := RX3) (T := TX3) (N := 5) hx hb hts hiX3 hown hK hP pf hf rfl 2 (by decide) (hts (.fieldLink RX7 97 "Vortexpin$Film" "entered" "I") (List.mem_of_getElem? (i := 2) rfl)) (fun _ h9 => h9) rfl dX7_whirlAt_5 ?_
  refine ref_step (vx_runS (As := [.int x, .int en]) (rest := []) ⟨hx, hb, hml, hown, hts⟩ (metX7_refuseUnknown l hnt x en) (va_cwS 2 hts gX7_whirlAt_X7_refuseUnknown rfl rfl rfl (by decide +kernel) ⟨Nat.le_of_ble_eq_true rfl, Nat.le_of_ble_eq_true rfl⟩) ⟨pcE_b, pcE_u hE hS hA⟩ rfl rfl hl.1 rfl (lv_room (Nat.le_of_ble_eq_true rfl)) dX7_whirlAt_8 ⟨Nat.le_of_ble_eq_true rfl, Nat.le_of_ble_eq_true rfl⟩) hno hlocks hS hO hP (fun hbd => Or.inl ⟨by unfold cdOne; rw [if_pos hbd], rfl⟩) (Nat.le_of_ble_eq_true rfl) (Nat.le_of_ble_eq_true rfl) (fun k0 H locs hS hO hP => ?_)
  refine lv_aload_n hx hb dX7_whirlAt_11 rfl (lv_at hl 0 rfl) ?_
  refine va_get (D := G) (ci := 7) (v := .ref af) (C := RX7) (T := TX7) (N := 7) hx hb hts hiX7 hown hK hP pv hv rfl 1 (by decide) (hts (.fieldLink RX7 19 "Vortexpin" "film" "LVortexpin$Film;") (List.mem_of_getElem? (i := 1) rfl)) (fun _ h9 => h9) rfl dX7_whirlAt_12 ?_
  refine lv_iload_n hx hb dX7_whirlAt_15 rfl (lv_at hl 1 rfl) ?_
  refine vp_callSi (va_Run.run (va_runV (As := [.int x]) (rest := []) ⟨hx, hb, hml, hown, hts⟩ (metX3_cellOf l G tys cI htI _ hf hd hk x) (cwV 1 hts gX7_whirlAt_X3_cellOf rfl rfl rfl (by decide +kernel) ⟨Nat.le_of_ble_eq_true rfl, Nat.le_of_ble_eq_true rfl⟩) ⟨pcR_b, va_recv hK hP (ci := 4) (q0 := pf) rfl hf, pcR_u hP hK⟩ rfl rfl hl.1 rfl (lv_room (Nat.le_of_ble_eq_true rfl)) dX7_whirlAt_16 ⟨Nat.le_of_ble_eq_true rfl, Nat.le_of_ble_eq_true rfl⟩)) (fun r16 h16 => ?_)
  refine W.widen (k := 1) (n := 6) (Nat.le_of_ble_eq_true rfl) (Nat.le_of_ble_eq_true rfl) (vx_ret ?_)
  exact W.iret (v := r16) hx hb hr (fun t ht hW => ⟨⟨r16, (), rfl, ⟨by unfold cdOne; rw [if_neg k0], h16⟩, by show va_P G vwCl _ t.heap ∧ va_D A _; rw [ht]; exact ⟨hP, hD⟩⟩, hS.F ht⟩) hS.2.2 dX7_whirlAt_19
set_option maxHeartbeats 4000000 in
set_option maxRecDepth 100000 in
theorem metX7_enter (l : Launch) (hnt : l.stackTraces = false) (G : va_G) (tys : List (ClassId × FieldType)) {A : Nat → Prop} {tE mi : Nat} {cI : ClassId} (htI : tI tys cI) (ws : va_W) {pv v aS af aR ao ak aP aC : Nat} (hv : ws[pv]? = some (v, .inr (7, [.ref aS, .ref af, .ref aR, .ref ao, .ref ak, .ref aP, .ref aC]))) {pf pd pk ad ac : Nat} {en dr he : Int32} {dep cel : Nat → Int32} (hf : ws[pf]? = some (af, .inr (4, [.ref ad, .ref ac, .int en, .int dr, .int he]))) (hd : ws[pd]? = some (ad, .inl (cI, 48, .inl dep))) (hk : ws[pk]? = some (ac, .inl (cI, 20, .inl cel))) (ndk : pd ≠ pk) (pr : Int32) (he0 : 0 ≤ en) : vx_Met l yX7_enter wsX7_enter { frames := 7, cells := 2, slots := 12, locals := 104 } (pcX G tys ws A tE mi [.ref v, .int pr]) (va_Qi (fun (r : Int32) (_ : Unit) => cdEnter pr en = 0 ∧ r = (if (fCe cel dep dr en 6).1 = -1 then -1 else if fEn cel dep dr en (fCe cel dep dr en 6).1 ≤ pr then en else -1)) (fun _ t => va_P G vwCl (if (fCe cel dep dr en 6).1 = -1 then ws else if fEn cel dep dr en (fCe cel dep dr en 6).1 ≤ pr then (ws.set pk (ac, .inl (cI, 20, .inl (upd cel en.toNatClampNeg (fCe cel dep dr en 6).1)))).set pf (af, .inr (4, [.ref ad, .ref ac, .int (en + 1), .int dr, .int he])) else ws) t.heap ∧ va_D A (if (fCe cel dep dr en 6).1 = -1 then ws else if fEn cel dep dr en (fCe cel dep dr en 6).1 ≤ pr then (ws.set pk (ac, .inl (cI, 20, .inl (upd cel en.toNatClampNeg (fCe cel dep dr en 6).1)))).set pf (af, .inr (4, [.ref ad, .ref ac, .int (en + 1), .int dr, .int he])) else ws)) A) (xcT (fun E => xC (cdEnter pr en) eIA eIS "" E)) 2 12 A := by
  refine ofX (cc := cX7_enter) (maxL := 4) (ret := some .int) (by decide) rfl (Nat.le_of_ble_eq_true rfl) ?_
  intro p e s m below meth c ls hx hb hr hlocks hml hown hts hno hl hP hK hD hA hS hE
  have hown : s.vm.findClass RX7 = some m.cls := hown
  have hiX3 : ∀ w ∈ u_ws RX3 TX3 5, w ∈ wsX7_enter := fun _ h => List.mem_cons_of_mem _ (List.mem_append_left _ (List.mem_append_left _ (List.mem_append_right _ h)))
  have hiX7 : ∀ w ∈ u_ws RX7 TX7 7, w ∈ wsX7_enter := fun _ h => List.mem_cons_of_mem _ (List.mem_append_left _ (List.mem_append_left _ (List.mem_append_left _ (List.mem_append_right _ h))))
  have hl : lv_has ls 4 [(0, .ref v), (1, .int pr)] := hl
  have hO : okO s s.heap := ⟨Nat.le_refl _, fun _ _ => rfl⟩
  refine lv_iload_n hx hb dX7_enter_0 rfl (lv_at hl 1 rfl) ?_
  refine lv_bipush (v := -100) hx hb dX7_enter_1 (by decide) ?_
  refine lv_sipush (v := 1000) hx hb dX7_enter_3 (by decide) ?_
  refine ref_step (vx_runS (As := [.int pr, .int (-100 : Int32), .int (1000 : Int32)]) (rest := []) ⟨hx, hb, hml, hown, hts⟩ (metX7_refuseOutside l hnt pr (-100 : Int32) (1000 : Int32)) (va_cwS 3 hts gX7_enter_X7_refuseOutside rfl rfl rfl (by decide +kernel) ⟨Nat.le_of_ble_eq_true rfl, Nat.le_of_ble_eq_true rfl⟩) ⟨pcE_b, pcE_u hE hS hA⟩ rfl rfl hl.1 rfl (lv_room (Nat.le_of_ble_eq_true rfl)) dX7_enter_6 ⟨Nat.le_of_ble_eq_true rfl, Nat.le_of_ble_eq_true rfl⟩) hno hlocks hS hO hP (fun hbd => Or.inl ⟨by unfold cdEnter; rw [if_pos hbd], rfl⟩) (Nat.le_of_ble_eq_true rfl) (Nat.le_of_ble_eq_true rfl) (fun k0 H locs hS hO hP => ?_)
  refine lv_aload_n hx hb dX7_enter_9 rfl (lv_at hl 0 rfl) ?_
  refine va_get (D := G) (ci := 7) (v := .ref af) (C := RX7) (T := TX7) (N := 7) hx hb hts hiX7 hown hK hP pv hv rfl 1 (by decide) (hts (.fieldLink RX7 19 "Vortexpin" "film" "LVortexpin$Film;") (List.mem_of_getElem? (i := 1) rfl)) (fun _ h9 => h9) rfl dX7_enter_10 ?_
  refine va_get (D := G) (ci := 4) (v := .int en) (C := RX3) (T := TX3) (N := 5) hx hb hts hiX3 hown hK hP pf hf rfl 2 (by decide) (hts (.fieldLink RX7 97 "Vortexpin$Film" "entered" "I") (List.mem_of_getElem? (i := 2) rfl)) (fun _ h9 => h9) rfl dX7_enter_13 ?_
  refine lv_bipush (v := 20) hx hb dX7_enter_16 (by decide) ?_
  refine ref_step (vx_runS (As := [.int en, .int (20 : Int32)]) (rest := []) ⟨hx, hb, hml, hown, hts⟩ (metX7_refuseFull l hnt en (20 : Int32)) (va_cwS 2 hts gX7_enter_X7_refuseFull rfl rfl rfl (by decide +kernel) ⟨Nat.le_of_ble_eq_true rfl, Nat.le_of_ble_eq_true rfl⟩) ⟨pcE_b, pcE_u hE hS hA⟩ rfl rfl hl.1 rfl (lv_room (Nat.le_of_ble_eq_true rfl)) dX7_enter_18 ⟨Nat.le_of_ble_eq_true rfl, Nat.le_of_ble_eq_true rfl⟩) hno hlocks hS hO hP (fun hbd => Or.inr (Or.inl ⟨by unfold cdEnter; rw [if_neg k0, if_pos hbd], rfl⟩)) (Nat.le_of_ble_eq_true rfl) (Nat.le_of_ble_eq_true rfl) (fun k1 H locs hS hO hP => ?_)
  refine lv_aload_n hx hb dX7_enter_21 rfl (lv_at hl 0 rfl) ?_
  refine va_get (D := G) (ci := 7) (v := .ref af) (C := RX7) (T := TX7) (N := 7) hx hb hts hiX7 hown hK hP pv hv rfl 1 (by decide) (hts (.fieldLink RX7 19 "Vortexpin" "film" "LVortexpin$Film;") (List.mem_of_getElem? (i := 1) rfl)) (fun _ h9 => h9) rfl dX7_enter_22 ?_
  refine va_get (D := G) (ci := 4) (v := .int en) (C := RX3) (T := TX3) (N := 5) hx hb hts hiX3 hown hK hP pf hf rfl 2 (by decide) (hts (.fieldLink RX7 97 "Vortexpin$Film" "entered" "I") (List.mem_of_getElem? (i := 2) rfl)) (fun _ h9 => h9) rfl dX7_enter_25 ?_
  refine lv_istore_n (lv' := [(2, .int en), (0, .ref v), (1, .int pr)]) hx hb dX7_enter_28 rfl hl (by decide) rfl (fun ls hl => ?_)
  refine lv_aload_n hx hb dX7_enter_29 rfl (lv_at hl 1 rfl) ?_
  refine va_get (D := G) (ci := 7) (v := .ref af) (C := RX7) (T := TX7) (N := 7) hx hb hts hiX7 hown hK hP pv hv rfl 1 (by decide) (hts (.fieldLink RX7 19 "Vortexpin" "film" "LVortexpin$Film;") (List.mem_of_getElem? (i := 1) rfl)) (fun _ h9 => h9) rfl dX7_enter_30 ?_
  refine lv_iload_n hx hb dX7_enter_33 rfl (lv_at hl 0 rfl) ?_
  refine vp_callSi (va_Run.run (va_runV (As := [.int en]) (rest := []) ⟨hx, hb, hml, hown, hts⟩ (metX3_calmestEntry l G tys cI htI _ hf hd hk en) (cwV 1 hts gX7_enter_X3_calmestEntry rfl rfl rfl (by decide +kernel) ⟨Nat.le_of_ble_eq_true rfl, Nat.le_of_ble_eq_true rfl⟩) ⟨pcR_b, va_recv hK hP (ci := 4) (q0 := pf) rfl hf, pcR_u hP hK⟩ rfl rfl hl.1 rfl (lv_room (Nat.le_of_ble_eq_true rfl)) dX7_enter_34 ⟨Nat.le_of_ble_eq_true rfl, Nat.le_of_ble_eq_true rfl⟩)) (fun r34 h34 => ?_)
  refine lv_istore_n (lv' := [(3, .int r34), (2, .int en), (0, .ref v), (1, .int pr)]) hx hb dX7_enter_37 rfl hl (by decide) rfl (fun ls hl => ?_)
  refine lv_iload_n hx hb dX7_enter_38 rfl (lv_at hl 0 rfl) ?_
  refine lv_iconst (v := -1) hx hb dX7_enter_39 (by decide) ?_
  refine lv_icmp_eq (tgt := 56) hx hb dX7_enter_40 (by decide) (fun c40 => ?_) (fun c40 => ?_)
  · refine lv_iconst (v := -1) hx hb dX7_enter_56 (by decide) ?_
    refine W.widen (k := 2) (n := 12) (Nat.le_of_ble_eq_true rfl) (Nat.le_of_ble_eq_true rfl) (vx_ret ?_)
    have ew : ws = if (fCe cel dep dr en 6).1 = -1 then ws else if fEn cel dep dr en (fCe cel dep dr en 6).1 ≤ pr then (ws.set pk (ac, .inl (cI, 20, .inl (upd cel en.toNatClampNeg (fCe cel dep dr en 6).1)))).set pf (af, .inr (4, [.ref ad, .ref ac, .int (en + 1), .int dr, .int he])) else ws := by subst h34; simp only [List.set_set, (eq_true c40), ↓reduceIte, not_true_eq_false, not_false_eq_true]
    have hP : va_P G vwCl (ws) H := hP
    have hD : va_D A (ws) := hD
    rw [ew] at hP hD
    exact W.iret (v := (-1 : Int32)) hx hb hr (fun t ht hW => ⟨⟨(-1 : Int32), (), rfl, ⟨by unfold cdEnter; rw [if_neg k0, if_neg k1], by subst h34; simp only [(eq_true c40), ↓reduceIte, not_true_eq_false, not_false_eq_true]⟩, by show va_P G vwCl _ t.heap ∧ va_D A _; rw [ht]; exact ⟨hP, hD⟩⟩, hS.F ht⟩) hS.2.2 dX7_enter_57
  · refine lv_aload_n hx hb dX7_enter_43 rfl (lv_at hl 2 rfl) ?_
    refine va_get (D := G) (ci := 7) (v := .ref af) (C := RX7) (T := TX7) (N := 7) hx hb hts hiX7 hown hK hP pv hv rfl 1 (by decide) (hts (.fieldLink RX7 19 "Vortexpin" "film" "LVortexpin$Film;") (List.mem_of_getElem? (i := 1) rfl)) (fun _ h9 => h9) rfl dX7_enter_44 ?_
    refine lv_iload_n hx hb dX7_enter_47 rfl (lv_at hl 1 rfl) ?_
    refine lv_iload_n hx hb dX7_enter_48 rfl (lv_at hl 0 rfl) ?_
    refine vp_callSi (va_Run.run (va_runV (As := [.int en, .int r34]) (rest := []) ⟨hx, hb, hml, hown, hts⟩ (metX3_energyAt l G tys cI htI _ hf hd hk en r34) (cwV 2 hts gX7_enter_X3_energyAt rfl rfl rfl (by decide +kernel) ⟨Nat.le_of_ble_eq_true rfl, Nat.le_of_ble_eq_true rfl⟩) ⟨pcR_b, va_recv hK hP (ci := 4) (q0 := pf) rfl hf, pcR_u hP hK⟩ rfl rfl hl.1 rfl (lv_room (Nat.le_of_ble_eq_true rfl)) dX7_enter_49 ⟨Nat.le_of_ble_eq_true rfl, Nat.le_of_ble_eq_true rfl⟩)) (fun r49 h49 => ?_)
    refine lv_iload_n hx hb dX7_enter_52 rfl (lv_at hl 3 rfl) ?_
    refine lv_icmp_le (tgt := 58) hx hb dX7_enter_53 (by decide) (fun c53 => ?_) (fun c53 => ?_)
    · refine lv_aload_n hx hb dX7_enter_58 rfl (lv_at hl 2 rfl) ?_
      refine va_get (D := G) (ci := 7) (v := .ref af) (C := RX7) (T := TX7) (N := 7) hx hb hts hiX7 hown hK hP pv hv rfl 1 (by decide) (hts (.fieldLink RX7 19 "Vortexpin" "film" "LVortexpin$Film;") (List.mem_of_getElem? (i := 1) rfl)) (fun _ h9 => h9) rfl dX7_enter_59 ?_
      refine va_get (D := G) (ci := 4) (v := .ref ac) (C := RX3) (T := TX3) (N := 5) hx hb hts hiX3 hown hK hP pf hf rfl 1 (by decide) (hts (.fieldLink RX7 108 "Vortexpin$Film" "cells" "[I") (List.mem_of_getElem? (i := 3) rfl)) (fun _ h9 => h9) rfl dX7_enter_62 ?_
      refine lv_iload_n hx hb dX7_enter_65 rfl (lv_at hl 1 rfl) ?_
      refine lv_iload_n hx hb dX7_enter_66 rfl (lv_at hl 0 rfl) ?_
      refine va_iast hx hb hK hP hD hS pk 0 hk htI (vp_in20 he0 k1) dX7_enter_67 (fun H locs hP hD hS => ?_)
      have hv := va_gs (k := pk) (e := (ac, .inl (cI, 20, .inl (upd cel en.toNatClampNeg r34)))) ((ne_lr hk hv).symm) hv
      have hf := va_gs (k := pk) (e := (ac, .inl (cI, 20, .inl (upd cel en.toNatClampNeg r34)))) ((ne_lr hk hf).symm) hf
      have hd := va_gs (k := pk) (e := (ac, .inl (cI, 20, .inl (upd cel en.toNatClampNeg r34)))) (ndk) hd
      have hk := va_ge (e := (ac, .inl (cI, 20, .inl (upd cel en.toNatClampNeg r34)))) hk
      refine lv_aload_n hx hb dX7_enter_68 rfl (lv_at hl 2 rfl) ?_
      refine va_get (D := G) (ci := 7) (v := .ref af) (C := RX7) (T := TX7) (N := 7) hx hb hts hiX7 hown hK hP pv hv rfl 1 (by decide) (hts (.fieldLink RX7 19 "Vortexpin" "film" "LVortexpin$Film;") (List.mem_of_getElem? (i := 1) rfl)) (fun _ h9 => h9) rfl dX7_enter_69 ?_
      refine lv_dup hx hb dX7_enter_72 rfl ?_
      refine va_get (D := G) (ci := 4) (v := .int en) (C := RX3) (T := TX3) (N := 5) hx hb hts hiX3 hown hK hP pf hf rfl 2 (by decide) (hts (.fieldLink RX7 97 "Vortexpin$Film" "entered" "I") (List.mem_of_getElem? (i := 2) rfl)) (fun _ h9 => h9) rfl dX7_enter_73 ?_
      refine lv_iconst (v := 1) hx hb dX7_enter_76 (by decide) ?_
      refine lv_iadd hx hb dX7_enter_77 ?_
      refine va_put (D := G) (ci := 4) (v := .int (en + (1 : Int32))) (ty := .int) (C := RX3) (T := TX3) (N := 5) hx hb hts hiX3 tyX3 tyX3_ok nmX3 hown hK hP hD hS pf hf rfl 2 (by decide) (hts (.fieldLink RX7 97 "Vortexpin$Film" "entered" "I") (List.mem_of_getElem? (i := 2) rfl)) (fun _ h9 => h9) rfl (by decide +kernel) (rfl) (rfl) (Nat.le_of_ble_eq_true rfl) dX7_enter_78 (fun H locs hP hD hS => ?_)
      have hv := va_gs (k := pf) (e := (af, .inr (4, [.ref ad, .ref ac, .int (en + (1 : Int32)), .int dr, .int he]))) (ne_oo hv hf (by decide)) hv
      have hd := va_gs (k := pf) (e := (af, .inr (4, [.ref ad, .ref ac, .int (en + (1 : Int32)), .int dr, .int he]))) (ne_lr hd hf) hd
      have hk := va_gs (k := pf) (e := (af, .inr (4, [.ref ad, .ref ac, .int (en + (1 : Int32)), .int dr, .int he]))) (ne_lr hk hf) hk
      have hf := va_ge (e := (af, .inr (4, [.ref ad, .ref ac, .int (en + (1 : Int32)), .int dr, .int he]))) hf
      refine lv_iload_n hx hb dX7_enter_81 rfl (lv_at hl 1 rfl) ?_
      refine W.widen (k := 2) (n := 12) (Nat.le_of_ble_eq_true rfl) (Nat.le_of_ble_eq_true rfl) (vx_ret ?_)
      have ew : ((ws).set pk (ac, .inl (cI, 20, .inl (upd cel en.toNatClampNeg r34)))).set pf (af, .inr (4, [.ref ad, .ref ac, .int (en + (1 : Int32)), .int dr, .int he])) = if (fCe cel dep dr en 6).1 = -1 then ws else if fEn cel dep dr en (fCe cel dep dr en 6).1 ≤ pr then (ws.set pk (ac, .inl (cI, 20, .inl (upd cel en.toNatClampNeg (fCe cel dep dr en 6).1)))).set pf (af, .inr (4, [.ref ad, .ref ac, .int (en + 1), .int dr, .int he])) else ws := by subst h34; subst h49; simp only [List.set_set, c40, c53, ↓reduceIte, not_true_eq_false, not_false_eq_true]
      have hP : va_P G vwCl (((ws).set pk (ac, .inl (cI, 20, .inl (upd cel en.toNatClampNeg r34)))).set pf (af, .inr (4, [.ref ad, .ref ac, .int (en + (1 : Int32)), .int dr, .int he]))) H := hP
      have hD : va_D A (((ws).set pk (ac, .inl (cI, 20, .inl (upd cel en.toNatClampNeg r34)))).set pf (af, .inr (4, [.ref ad, .ref ac, .int (en + (1 : Int32)), .int dr, .int he]))) := hD
      rw [ew] at hP hD
      exact W.iret (v := en) hx hb hr (fun t ht hW => ⟨⟨en, (), rfl, ⟨by unfold cdEnter; rw [if_neg k0, if_neg k1], by subst h34; subst h49; simp only [c40, c53, ↓reduceIte, not_true_eq_false, not_false_eq_true]⟩, by show va_P G vwCl _ t.heap ∧ va_D A _; rw [ht]; exact ⟨hP, hD⟩⟩, hS.F ht⟩) hS.2.2 dX7_enter_82
    · refine lv_iconst (v := -1) hx hb dX7_enter_56 (by decide) ?_
      refine W.widen (k := 2) (n := 12) (Nat.le_of_ble_eq_true rfl) (Nat.le_of_ble_eq_true rfl) (vx_ret ?_)
      have ew : ws = if (fCe cel dep dr en 6).1 = -1 then ws else if fEn cel dep dr en (fCe cel dep dr en 6).1 ≤ pr then (ws.set pk (ac, .inl (cI, 20, .inl (upd cel en.toNatClampNeg (fCe cel dep dr en 6).1)))).set pf (af, .inr (4, [.ref ad, .ref ac, .int (en + 1), .int dr, .int he])) else ws := by subst h34; subst h49; simp only [List.set_set, c40, c53, ↓reduceIte, not_true_eq_false, not_false_eq_true]
      have hP : va_P G vwCl (ws) H := hP
      have hD : va_D A (ws) := hD
      rw [ew] at hP hD
      exact W.iret (v := (-1 : Int32)) hx hb hr (fun t ht hW => ⟨⟨(-1 : Int32), (), rfl, ⟨by unfold cdEnter; rw [if_neg k0, if_neg k1], by subst h34; subst h49; simp only [c40, c53, ↓reduceIte, not_true_eq_false, not_false_eq_true]⟩, by show va_P G vwCl _ t.heap ∧ va_D A _; rw [ht]; exact ⟨hP, hD⟩⟩, hS.F ht⟩) hS.2.2 dX7_enter_57

