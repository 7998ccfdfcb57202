def fAv (cel dep : Nat → Int32) (dr he : Int32) : Nat → ((Nat → Int32) × Int32) × Bool
  | 0 => ((cel, 0), false)
  | k + 1 => if (fAv cel dep dr he k).2 = true then fAv cel dep dr he k else if (fStep (fAv cel dep dr he k).1.1 dep dr he 20).2 = 0 then (((fStep (fAv cel dep dr he k).1.1 dep dr he 20).1, (fAv cel dep dr he k).1.2), true) else (((fStep (fAv cel dep dr he k).1.1 dep dr he 20).1, (fAv cel dep dr he k).1.2 + (fStep (fAv cel dep dr he k).1.1 dep dr he 20).2), false)
theorem fAv_stop {cel dep : Nat → Int32} {dr he : Int32} {k : Nat} (h : (fAv cel dep dr he k).2 = true) : ∀ j, k ≤ j → fAv cel dep dr he j = fAv cel dep dr he k := by
  intro j hj
  induction j with
  | zero => have : k = 0 := by omega
            subst this; rfl
  | succ j ih =>
    rcases Nat.lt_or_ge j k with q | q
    · have : k = j + 1 := by omega
      subst this; rfl
    · have e := ih q
      show (if (fAv cel dep dr he j).2 = true then _ else _) = _
      rw [e, if_pos h]
theorem fAv_go {cel dep : Nat → Int32} {dr he : Int32} {k : Nat} (h : (fAv cel dep dr he k).2 = false) (h2 : ¬ (fStep (fAv cel dep dr he k).1.1 dep dr he 20).2 = 0) : fAv cel dep dr he (k + 1) = (((fStep (fAv cel dep dr he k).1.1 dep dr he 20).1, (fAv cel dep dr he k).1.2 + (fStep (fAv cel dep dr he k).1.1 dep dr he 20).2), false) := by
  show (if (fAv cel dep dr he k).2 = true then _ else _) = _
  rw [if_neg (by rw [h]; exact Bool.false_ne_true), if_neg h2]
theorem fAv_end {cel dep : Nat → Int32} {dr he : Int32} {k : Nat} (h : (fAv cel dep dr he k).2 = false) (h2 : (fStep (fAv cel dep dr he k).1.1 dep dr he 20).2 = 0) : fAv cel dep dr he (k + 1) = (((fStep (fAv cel dep dr he k).1.1 dep dr he 20).1, (fAv cel dep dr he k).1.2), true) := by
  show (if (fAv cel dep dr he k).2 = true then _ else _) = _
  rw [if_neg (by rw [h]; exact Bool.false_ne_true), if_pos h2]
theorem fAv_g3 {cel dep : Nat → Int32} {dr he : Int32} {k : Nat} (h : (fAv cel dep dr he k).2 = false) (h2 : ¬ (fStep (fAv cel dep dr he k).1.1 dep dr he 20).2 = 0) : (fAv cel dep dr he (k + 1)).2 = false ∧ (fAv cel dep dr he (k + 1)).1.1 = (fStep (fAv cel dep dr he k).1.1 dep dr he 20).1 ∧ (fAv cel dep dr he (k + 1)).1.2 = (fAv cel dep dr he k).1.2 + (fStep (fAv cel dep dr he k).1.1 dep dr he 20).2 := by
  have e := fAv_go h h2
  generalize fAv cel dep dr he (k + 1) = z at e ⊢
  subst e
  refine ⟨?_, ?_, ?_⟩ <;> dsimp only
theorem fAv_e3 {cel dep : Nat → Int32} {dr he : Int32} {k : Nat} (h0 : k < 60) (h : (fAv cel dep dr he k).2 = false) (h2 : (fStep (fAv cel dep dr he k).1.1 dep dr he 20).2 = 0) : (fAv cel dep dr he 60).1.1 = (fStep (fAv cel dep dr he k).1.1 dep dr he 20).1 ∧ (fAv cel dep dr he 60).1.2 = (fAv cel dep dr he k).1.2 := by
  have e := fAv_end h h2
  have e2 := fAv_stop (by rw [e] : (fAv cel dep dr he (k + 1)).2 = true) 60 h0
  rw [e] at e2
  generalize fAv cel dep dr he 60 = z at e2 ⊢
  subst e2
  refine ⟨?_, ?_⟩ <;> dsimp only
set_option maxHeartbeats 1000000 in
set_option maxRecDepth 100000 in
theorem metX7_avalanche_g (l : Launch) (G : va_G) (tys : List (ClassId × FieldType)) {A : Nat → Prop} {cI : ClassId} (htI : tI tys cI) (ws : va_W) {pv v aS af aR ao ak aP aC : Nat} (hv : ws[pv]? = some (v, .inr (7, [.ref aS, .ref af, .ref aR, .ref ao, .ref ak, .ref aP, .ref aC]))) {pf pd pk ad ac : Nat} {en dr he : Int32} {dep cel : Nat → Int32} (hf : ws[pf]? = some (af, .inr (4, [.ref ad, .ref ac, .int en, .int dr, .int he]))) (hd : ws[pd]? = some (ad, .inl (cI, 48, .inl dep))) (hk : ws[pk]? = some (ac, .inl (cI, 20, .inl cel))) (ndk : pd ≠ pk) {stp : (Nat → Int32) → (Nat → Int32) × Int32} (hstp : ∀ c, stp c = fStep c dep dr he 20) {a1 : Nat → Nat → Int32} {m1 : Nat → Int32} {go : Nat → Prop} (ha0 : a1 0 = cel) (hm0 : m1 0 = 0) (hgo0 : go 0) (hgo : ∀ k, go k → ¬ (stp (a1 k)).2 = 0 → go (k + 1) ∧ a1 (k + 1) = (stp (a1 k)).1 ∧ m1 (k + 1) = m1 k + (stp (a1 k)).2) (hen : ∀ k, k < 60 → go k → (stp (a1 k)).2 = 0 → a1 60 = (stp (a1 k)).1 ∧ m1 60 = m1 k) : Met l yX7_avalanche wsX7_avalanche ({ frames := 6, cells := 0, slots := 0, locals := 144 }) (pcM G tys ws A [.ref v]) (qMi G (ws.set pk (ac, .inl (cI, 20, .inl (a1 60)))) A (fun r => r = m1 60)) 0 0 A := by
  refine ofM (cc := cX7_avalanche) (maxL := 4) (ret := some .int) (by decide) rfl (Nat.le_of_ble_eq_true rfl) ?_
  intro p e s m below meth c ls hx hb hr hlocks hml hown hts hin hl hP hK hD hA hS
  have hown : s.vm.findClass RX7 = some m.cls := hown
  have hiX7 : ∀ w ∈ u_ws RX7 TX7 7, w ∈ wsX7_avalanche := fun _ h => List.mem_cons_of_mem _ (List.mem_append_left _ (List.mem_append_right _ h))
  have hl : lv_has ls 4 [(0, .ref v)] := hl
  have hk0 := hk
  have hf0 := hf
  have hv0 := hv
  have hd0 := hd
  refine lv_iconst (v := 0) hx hb dX7_avalanche_0 (by decide) ?_
  refine lv_istore_n (lv' := [(1, .int (0 : Int32)), (0, .ref v)]) hx hb dX7_avalanche_1 rfl hl (by decide) rfl (fun ls hl => ?_)
  refine lv_iconst (v := 0) hx hb dX7_avalanche_2 (by decide) ?_
  refine lv_istore_n (lv' := [(2, .int (0 : Int32)), (1, .int (0 : Int32)), (0, .ref v)]) hx hb dX7_avalanche_3 rfl hl (by decide) rfl (fun ls hl => ?_)
  have hl : lv_has ls 4 [(2, .int (0 : Int32)), (1, .int (m1 0)), (0, .ref v)] := by rw [hm0]; exact hl
  refine loopM 60 4 4 (fun i => [(0, .ref v), (1, .int (m1 i)), (2, .int (nI i))]) (fun i => ws.set pk (ac, .inl (cI, 20, .inl (a1 i)))) (fun i => go i) (fun i hNi hKi ihi H locs ls hP hD hS hl => ?_) (i0 := 0) (by omega) (hgo0) (by rw [ha0, va_self hk]; exact hP) (by rw [ha0, va_self hk]; exact hD) hS (lv_sub hl [2, 1, 0] rfl)
  have hl : lv_has ls 4 [(0, .ref v), (1, .int (m1 i)), (2, .int (nI i))] := hl
  have hP : va_P G vwCl (ws.set pk (ac, .inl (cI, 20, .inl (a1 i)))) H := hP
  have hD : va_D A (ws.set pk (ac, .inl (cI, 20, .inl (a1 i)))) := hD
  have hv := va_gs (k := pk) (e := (ac, .inl (cI, 20, .inl (a1 i)))) (ne_lr hk0 hv0).symm hv0
  have hf := va_gs (k := pk) (e := (ac, .inl (cI, 20, .inl (a1 i)))) (ne_lr hk0 hf0).symm hf0
  have hd := va_gs (k := pk) (e := (ac, .inl (cI, 20, .inl (a1 i)))) ndk hd0
  have hk := va_ge (e := (ac, .inl (cI, 20, .inl (a1 i)))) hk0
  refine lv_iload_n hx hb dX7_avalanche_4 rfl (lv_at hl 2 rfl) ?_
  refine lv_bipush (v := 60) hx hb dX7_avalanche_5 (by decide) ?_
  refine lv_icmp_ge (tgt := 35) hx hb dX7_avalanche_7 (by decide) (fun c7 => ?_) (fun c7 => ?_)
  · have heqi : i = 60 := Nat.le_antisymm hNi ((nI_leI (by omega) (by omega)).mp c7)
    refine lv_iload_n hx hb dX7_avalanche_35 rfl (lv_at hl 1 rfl) ?_
    subst heqi
    exact W.iret (v := m1 60) hx hb hr (fun t ht hW => ⟨⟨m1 60, (), rfl, (rfl), by show va_P G vwCl _ t.heap; rw [ht]; exact hP⟩, hS.F ht⟩) hS.2.2 dX7_avalanche_36
  · have hlti : i < 60 := Nat.lt_of_not_le (mt (nI_leI (by omega) (by omega)).mpr c7)
    refine lv_aload_n hx hb dX7_avalanche_10 rfl (lv_at hl 0 rfl) ?_
    refine va_get (D := G) (ci := 7) (v := .ref af) (C := RX7) (T := TX7) (N := 7) hx hb hts hiX7 hown hK hP pv hv rfl 1 (by decide) (hts (.fieldLink RX7 19 "Vortexpin" "film" "LVortexpin$Film;") (List.mem_of_getElem? (i := 1) rfl)) (fun _ h9 => h9) rfl dX7_avalanche_11 ?_
    have hm := metX3_runStep l G tys cI htI (A := A) _ hf hd hk (ne_lr hk hf).symm ndk
    rw [← hstp] at hm
    refine va_calli (va_runV (As := []) (rest := []) ⟨hx, hb, hml, hown, hts⟩ (hm) (cwV 0 hts gX7_avalanche_X3_runStep rfl rfl rfl (by decide +kernel) ⟨Nat.le_of_ble_eq_true rfl, Nat.le_of_ble_eq_true rfl⟩) ⟨pcM_b, va_recv hK hP (ci := 4) (q0 := pf) rfl hf, pcM_u hP hK hD hS hA⟩ rfl rfl hl.1 rfl (lv_room (Nat.le_of_ble_eq_true rfl)) dX7_avalanche_14 ⟨Nat.le_of_ble_eq_true rfl, Nat.le_of_ble_eq_true rfl⟩) hS (fun q _ h => h) (fun q h => h) (fun r14 u t H locs ht hvm h14 hB hsz hk1 hS => ?_)
    rw [ht] at hB
    have hD := hD.set (e := .inl (cI, 20, .inl ((stp (a1 i)).1))) hk
    have hv := va_gs (k := pk) (e := (ac, .inl (cI, 20, .inl ((stp (a1 i)).1)))) ((ne_lr hk hv).symm) hv
    have hf := va_gs (k := pk) (e := (ac, .inl (cI, 20, .inl ((stp (a1 i)).1)))) ((ne_lr hk hf).symm) hf
    have hd := va_gs (k := pk) (e := (ac, .inl (cI, 20, .inl ((stp (a1 i)).1)))) (ndk) hd
    have hk := va_ge (e := (ac, .inl (cI, 20, .inl ((stp (a1 i)).1)))) hk
    have hP : va_P G vwCl ((ws.set pk (ac, .inl (cI, 20, .inl (a1 i)))).set pk (ac, .inl (cI, 20, .inl ((stp (a1 i)).1)))) H := hB
    have hD : va_D A ((ws.set pk (ac, .inl (cI, 20, .inl (a1 i)))).set pk (ac, .inl (cI, 20, .inl ((stp (a1 i)).1)))) := hD
    refine lv_istore_n (lv' := [(3, .int r14), (0, .ref v), (1, .int (m1 i)), (2, .int (nI i))]) hx hb dX7_avalanche_17 rfl hl (by decide) rfl (fun ls hl => ?_)
    refine lv_iload_n hx hb dX7_avalanche_18 rfl (lv_at hl 0 rfl) ?_
    refine lv_if_ne (tgt := 25) hx hb dX7_avalanche_19 (by decide) (fun c19 => ?_) (fun c19 => ?_)
    · refine lv_iload_n hx hb dX7_avalanche_25 rfl (lv_at hl 2 rfl) ?_
      refine lv_iload_n hx hb dX7_avalanche_26 rfl (lv_at hl 0 rfl) ?_
      refine lv_iadd hx hb dX7_avalanche_27 ?_
      refine lv_istore_n (lv' := [(1, .int ((m1 i) + r14)), (3, .int r14), (0, .ref v), (2, .int (nI i))]) hx hb dX7_avalanche_28 rfl hl (by decide) rfl (fun ls hl => ?_)
      refine lv_iinc (v := nI (i + 1)) (lv' := [(2, .int (nI (i + 1))), (1, .int ((m1 i) + r14)), (3, .int r14), (0, .ref v)]) hx hb dX7_avalanche_29 hl (k := 3) rfl (nI_1 i) (by decide) rfl (fun ls hl => ?_)
      refine lv_goto (tgt := 4) hx hb dX7_avalanche_32 (by decide) ?_
      have ea1 : (m1 i) + r14 = m1 (i + 1) := by subst h14; exact (hgo i hKi c19).2.2.symm
      rw [ea1] at hl
      have ew : (ws.set pk (ac, .inl (cI, 20, .inl (a1 i)))).set pk (ac, .inl (cI, 20, .inl ((stp (a1 i)).1))) = ws.set pk (ac, .inl (cI, 20, .inl (a1 (i + 1)))) := by subst h14; rw [(hgo i hKi c19).2.1, List.set_set]
      have hP : va_P G vwCl ((ws.set pk (ac, .inl (cI, 20, .inl (a1 i)))).set pk (ac, .inl (cI, 20, .inl ((stp (a1 i)).1)))) H := hP
      have hD : va_D A ((ws.set pk (ac, .inl (cI, 20, .inl (a1 i)))).set pk (ac, .inl (cI, 20, .inl ((stp (a1 i)).1)))) := hD
      rw [ew] at hP hD
      exact ihi H _ ls hlti (by subst h14; exact (hgo i hKi c19).1) hP hD hS (lv_sub hl [3, 1, 0] rfl)
    · refine lv_goto (tgt := 35) hx hb dX7_avalanche_22 (by decide) ?_
      refine lv_iload_n hx hb dX7_avalanche_35 rfl (lv_at hl 2 rfl) ?_
      subst h14
      obtain ⟨z1, z2⟩ := hen i hlti hKi c19
      have ew : (ws.set pk (ac, .inl (cI, 20, .inl (a1 i)))).set pk (ac, .inl (cI, 20, .inl ((stp (a1 i)).1))) = ws.set pk (ac, .inl (cI, 20, .inl (a1 60))) := by rw [z1, List.set_set]
      exact W.iret (v := m1 i) hx hb hr (fun t ht hW => ⟨⟨m1 i, (), rfl, z2.symm, by show va_P G vwCl _ t.heap; rw [ht, ← ew]; exact hP⟩, hS.F ht⟩) hS.2.2 dX7_avalanche_36
theorem metX7_avalanche (l : Launch) (G : va_G) (tys : List (ClassId × FieldType)) {A : Nat → Prop} {cI : ClassId} (htI : tI tys cI) (ws : va_W) {pv v aS af aR ao ak aP aC : Nat} (hv : ws[pv]? = some (v, .inr (7, [.ref aS, .ref af, .ref aR, .ref ao, .ref ak, .ref aP, .ref aC]))) {pf pd pk ad ac : Nat} {en dr he : Int32} {dep cel : Nat → Int32} (hf : ws[pf]? = some (af, .inr (4, [.ref ad, .ref ac, .int en, .int dr, .int he]))) (hd : ws[pd]? = some (ad, .inl (cI, 48, .inl dep))) (hk : ws[pk]? = some (ac, .inl (cI, 20, .inl cel))) (ndk : pd ≠ pk) : Met l yX7_avalanche wsX7_avalanche ({ frames := 6, cells := 0, slots := 0, locals := 144 }) (pcM G tys ws A [.ref v]) (qMi G (ws.set pk (ac, .inl (cI, 20, .inl (fAv cel dep dr he 60).1.1))) A (fun r => r = (fAv cel dep dr he 60).1.2)) 0 0 A :=
  metX7_avalanche_g l G tys htI ws hv hf hd hk ndk (stp := fun c => fStep c dep dr he 20) (fun _ => rfl) (a1 := fun k => (fAv cel dep dr he k).1.1) (m1 := fun k => (fAv cel dep dr he k).1.2) (go := fun k => (fAv cel dep dr he k).2 = false) rfl rfl rfl (fun k h1 h2 => fAv_g3 h1 h2) (fun k h0 h1 h2 => fAv_e3 h0 h1 h2)
abbrev cS : Type := (Nat → Int32) × (Nat → Int32) × Int32 × Int32 × Int32 × Int64 × Int64
/-- one pulse: warmths, spare row, current, dumped, doubtful in a row, wire, dump -/
def cPul (σ : cS) : cS :=
  (cSpr (if σ.2.2.2.1 = 0 then σ.2.2.1 else cCur σ.2.2.1) σ.1 σ.2.1 12, σ.1, (if σ.2.2.2.1 = 0 then σ.2.2.1 else cCur σ.2.2.1),
    (if cIr (if σ.2.2.2.1 = 0 then σ.2.2.1 else cCur σ.2.2.1) σ.2.2.2.2.1 (cSpr (if σ.2.2.2.1 = 0 then σ.2.2.1 else cCur σ.2.2.1) σ.1 σ.2.1 12) < 3 then σ.2.2.2.1 else 1),
    cIr (if σ.2.2.2.1 = 0 then σ.2.2.1 else cCur σ.2.2.1) σ.2.2.2.2.1 (cSpr (if σ.2.2.2.1 = 0 then σ.2.2.1 else cCur σ.2.2.1) σ.1 σ.2.1 12),
    (if σ.2.2.2.1 = 0 then σ.2.2.2.2.2.1 else σ.2.2.2.2.2.1 + cWir σ.2.2.1 σ.1), (if σ.2.2.2.1 = 0 then σ.2.2.2.2.2.2 else σ.2.2.2.2.2.2 + (cLost σ.2.2.1 - cWir σ.2.2.1 σ.1)))
def cIt (σ : cS) : Nat → cS
  | 0 => σ
  | k + 1 => cPul (cIt σ k)
def cSw : Nat → Bool
  | 0 => false
  | k + 1 => !cSw k
def cO (σ : cS) (aw az : Nat) (sw : Bool) : va_E := .inr (2, [.ref (bif sw then az else aw), .ref (bif sw then aw else az), .int σ.2.2.1, .int σ.2.2.2.1, .int σ.2.2.2.2.1, .long σ.2.2.2.2.2.1, .long σ.2.2.2.2.2.2])
def cW (ws : va_W) (cI : ClassId) (po pw pz ao aw az : Nat) (σ : cS) (sw : Bool) : va_W :=
  ((ws.set pw (aw, .inl (cI, 12, .inl (bif sw then σ.2.1 else σ.1)))).set pz (az, .inl (cI, 12, .inl (bif sw then σ.1 else σ.2.1)))).set po (ao, cO σ aw az sw)
theorem set_pul {w : va_W} {p q : Nat} {x y x2 y2 : Nat × va_E} (h : q ≠ p) : (((w.set p x).set q y).set p x2).set q y2 = (w.set p x2).set q y2 := by
  rw [List.set_comm y x2 h, List.set_set, List.set_set]
theorem set_pul2 {w : va_W} {p q r : Nat} {x y z x2 z2 : Nat × va_E} (h1 : r ≠ p) (h2 : q ≠ p) : ((((w.set p x).set q y).set r z).set p x2).set r z2 = ((w.set p x2).set q y).set r z2 := by
  rw [List.set_comm z x2 h1, List.set_set, List.set_comm y x2 h2, List.set_set]
theorem set_pul3 {w : va_W} {p q r : Nat} {x y z x2 y2 z2 : Nat × va_E} (h1 : r ≠ p) (h2 : q ≠ p) (h3 : r ≠ q) : (((((w.set p x).set q y).set r z).set p x2).set q y2).set r z2 = ((w.set p x2).set q y2).set r z2 := by
  rw [List.set_comm z x2 h1, List.set_comm z y2 h3, List.set_set, List.set_comm y x2 h2, List.set_set, List.set_set]
theorem metPulse (l : Launch) (G : va_G) (tys : List (ClassId × FieldType)) {cI : ClassId} (htI : tI tys cI) {A : Nat → Prop} (ws : va_W) {po pw pz ao aw az : Nat} {cO0 : List Value} {w0 z0 : Nat → Int32} (ho : ws[po]? = some (ao, .inr (2, cO0))) (hw : ws[pw]? = some (aw, .inl (cI, 12, .inl w0))) (hz : ws[pz]? = some (az, .inl (cI, 12, .inl z0))) (nwz : pw ≠ pz) (σ : cS) (sw : Bool) : Met l yX1_runPulse wsX1_runPulse ({ frames := 4, cells := 0, slots := 0, locals := 85 }) (pcM G tys (cW ws cI po pw pz ao aw az σ sw) A [.ref ao]) (qMv G (cW ws cI po pw pz ao aw az (cPul σ) (!sw)) A) 0 0 A := by
  have now : po ≠ pw := (ne_lr hw ho).symm
  have noz : po ≠ pz := (ne_lr hz ho).symm
  have h1 : (cW ws cI po pw pz ao aw az σ sw)[po]? = some (ao, cO σ aw az sw) := va_ge (va_gs noz (va_gs now ho))
  have h2 : (cW ws cI po pw pz ao aw az σ sw)[pw]? = some (aw, .inl (cI, 12, .inl (bif sw then σ.2.1 else σ.1))) := va_gs now.symm (va_gs nwz (va_ge hw))
  have h3 : (cW ws cI po pw pz ao aw az σ sw)[pz]? = some (az, .inl (cI, 12, .inl (bif sw then σ.1 else σ.2.1))) := va_gs noz.symm (va_ge (va_gs nwz.symm hz))
  cases sw with
  | false =>
    have e : (((cW ws cI po pw pz ao aw az σ false).set pz (az, .inl (cI, 12, .inl (cPul σ).1))).set po (ao, cO (cPul σ) aw az true)) = cW ws cI po pw pz ao aw az (cPul σ) true := set_pul noz
    obtain ⟨wm, sp, cur, du, ir, wi, dm⟩ := σ
    simp only [cO, cPul, cond_false, cond_true] at e h1 h2 h3
    simp only [cPul, Bool.not_false]
    rw [← e]
    exact metX1_runPulse l G tys cI htI (A := A) _ h1 h2 h3 now noz nwz
  | true =>
    have e : (((cW ws cI po pw pz ao aw az σ true).set pw (aw, .inl (cI, 12, .inl (cPul σ).1))).set po (ao, cO (cPul σ) aw az false)) = cW ws cI po pw pz ao aw az (cPul σ) false := set_pul2 now nwz.symm
    obtain ⟨wm, sp, cur, du, ir, wi, dm⟩ := σ
    simp only [cO, cPul, cond_false, cond_true] at e h1 h2 h3
    simp only [cPul, Bool.not_true]
    rw [← e]
    exact metX1_runPulse l G tys cI htI (A := A) _ h1 h3 h2 noz now nwz.symm
theorem oR_ix {n : Int32} {k : Nat} (h : ¬ oR n 1 (nI k)) (hk : k < 2 ^ 31) : n = nI n.toNatClampNeg ∧ n.toNatClampNeg ≤ k := by
  have h1 : ¬ n < 1 := fun q => h (Or.inl q)
  have h2 : ¬ nI k < n := fun q => h (Or.inr q)
  have h3 : ¬ n < 0 := fun q => h1 (by
    have a := Int32.lt_iff_toInt_lt.mp q
    exact Int32.lt_iff_toInt_lt.mpr (by have e0 : (0 : Int32).toInt = 0 := by decide
                                        have e1 : (1 : Int32).toInt = 1 := by decide
                                        omega))
  obtain ⟨j, hj, rfl⟩ := nI_of h3
  rw [nI_clamp hj]
  exact ⟨rfl, Nat.le_of_not_lt (fun q => h2 (nI_lt q hj))⟩
theorem cW_D {A : Nat → Prop} {ws : va_W} {cI : ClassId} {po pw pz ao aw az : Nat} {cO0 : List Value} {w0 z0 : Nat → Int32} (ho : ws[po]? = some (ao, .inr (2, cO0))) (hw : ws[pw]? = some (aw, .inl (cI, 12, .inl w0))) (hz : ws[pz]? = some (az, .inl (cI, 12, .inl z0))) (nwz : pw ≠ pz) {σ σ2 : cS} {s1 s2 : Bool} (hD : va_D A (cW ws cI po pw pz ao aw az σ s1)) : va_D A (cW ws cI po pw pz ao aw az σ2 s2) := by
  have now : po ≠ pw := (ne_lr hw ho).symm
  have noz : po ≠ pz := (ne_lr hz ho).symm
  have h1 : (cW ws cI po pw pz ao aw az σ s1)[po]? = some (ao, cO σ aw az s1) := va_ge (va_gs noz (va_gs now ho))
  have h2 : (cW ws cI po pw pz ao aw az σ s1)[pw]? = some (aw, .inl (cI, 12, .inl (bif s1 then σ.2.1 else σ.1))) := va_gs now.symm (va_gs nwz (va_ge hw))
  have h3 : (cW ws cI po pw pz ao aw az σ s1)[pz]? = some (az, .inl (cI, 12, .inl (bif s1 then σ.1 else σ.2.1))) := va_gs noz.symm (va_ge (va_gs nwz.symm hz))
  have d1 := hD.set (e := .inl (cI, 12, .inl (bif s2 then σ2.2.1 else σ2.1))) h2
  have d2 := d1.set (e := .inl (cI, 12, .inl (bif s2 then σ2.1 else σ2.2.1))) (va_gs nwz.symm h3)
  have d3 := d2.set (e := cO σ2 aw az s2) (va_gs noz (va_gs now h1))
  have e : (((cW ws cI po pw pz ao aw az σ s1).set pw (aw, .inl (cI, 12, .inl (bif s2 then σ2.2.1 else σ2.1)))).set pz (az, .inl (cI, 12, .inl (bif s2 then σ2.1 else σ2.2.1)))).set po (ao, cO σ2 aw az s2) = cW ws cI po pw pz ao aw az σ2 s2 := by
    exact set_pul3 now nwz.symm noz
  rw [← e]
  exact d3
theorem cW_self {ws : va_W} {cI : ClassId} {po pw pz ao aw az : Nat} {cur du ir : Int32} {wi dm : Int64} {wm sp : Nat → Int32} (ho : ws[po]? = some (ao, .inr (2, [.ref aw, .ref az, .int cur, .int du, .int ir, .long wi, .long dm]))) (hw : ws[pw]? = some (aw, .inl (cI, 12, .inl wm))) (hz : ws[pz]? = some (az, .inl (cI, 12, .inl sp))) : cW ws cI po pw pz ao aw az (wm, sp, cur, du, ir, wi, dm) false = ws := by
  have e1 : ws.set pw (aw, .inl (cI, 12, .inl wm)) = ws := va_self hw
  have e2 : ws.set pz (az, .inl (cI, 12, .inl sp)) = ws := va_self hz
  have e3 : ws.set po (ao, .inr (2, [.ref aw, .ref az, .int cur, .int du, .int ir, .long wi, .long dm])) = ws := va_self ho
  show ((ws.set pw (aw, .inl (cI, 12, .inl wm))).set pz (az, .inl (cI, 12, .inl sp))).set po _ = ws
  rw [e1, e2]
  exact e3
def cOf (cur du : Int32) (wi dm : Int64) (wm : Nat → Int32) (w : Int32) : Int64 := if w = 0 then (cCnt cur wm 0 12).toInt64 else if w = 1 then (cDoubt cur wm).toInt64 else if w = 2 then (if du = 0 then 0 else 1) else if w = 3 then wi else if w = 4 then dm else cSto cur
set_option maxHeartbeats 1000000 in
set_option maxRecDepth 100000 in
theorem metX7_current (l : Launch) (hnt : l.stackTraces = false) (G : va_G) (tys : List (ClassId × FieldType)) {A : Nat → Prop} {tE mi : Nat} {cI : ClassId} (htI : tI tys cI) (ws : va_W) {pv v aS af aR ao ak aP aC : Nat} (hv : ws[pv]? = some (v, .inr (7, [.ref aS, .ref af, .ref aR, .ref ao, .ref ak, .ref aP, .ref aC]))) {po pw pz aw az : Nat} {cur du ir : Int32} {wi dm : Int64} {wm sp : Nat → Int32} (ho : ws[po]? = some (ao, .inr (2, [.ref aw, .ref az, .int cur, .int du, .int ir, .long wi, .long dm]))) (hw : ws[pw]? = some (aw, .inl (cI, 12, .inl wm))) (hz : ws[pz]? = some (az, .inl (cI, 12, .inl sp))) (nwz : pw ≠ pz) (cu : Int32) : vx_Met l yX7_current wsX7_current { frames := 7, cells := 1, slots := 6, locals := 104 } (pcX G tys ws A tE mi [.ref v, .int cu]) (va_Qi (fun (r : Int32) (_ : Unit) => cdCurrent cu = 0 ∧ r = cur) (fun _ t => va_P G vwCl (ws.set po (ao, .inr (2, [.ref aw, .ref az, .int cu, .int 0, .int 0, .long wi, .long dm]))) t.heap ∧ va_D A (ws.set po (ao, .inr (2, [.ref aw, .ref az, .int cu, .int 0, .int 0, .long wi, .long dm])))) A) (xcT (fun E => xC (cdCurrent cu) eIA "" "" E)) 1 6 A := by
  refine ofX (cc := cX7_current) (maxL := 3) (ret := some .int) (by decide) rfl (Nat.le_of_ble_eq_true rfl) ?_
  intro p e s m below meth c ls hx hb hr hlocks hml hown hts hno hl hP hK hD hA hS hE
  have hown : s.vm.findClass RX7 = some m.cls := hown
  have hiX1 : ∀ w ∈ u_ws RX1 TX1 7, w ∈ wsX7_current := fun _ h => List.mem_cons_of_mem _ (List.mem_append_left _ (List.mem_append_right _ h))
  have hiX7 : ∀ w ∈ u_ws RX7 TX7 7, w ∈ wsX7_current := fun _ h => List.mem_cons_of_mem _ (List.mem_append_left _ (List.mem_append_left _ (List.mem_append_right _ h)))
  have hl : lv_has ls 3 [(0, .ref v), (1, .int cu)] := hl
  have hO : okO s s.heap := ⟨Nat.le_refl _, fun _ _ => rfl⟩
  refine lv_iload_n hx hb dX7_current_0 rfl (lv_at hl 1 rfl) ?_
  refine lv_iconst (v := 0) hx hb dX7_current_1 (by decide) ?_
  refine lv_sipush (v := 1000) hx hb dX7_current_2 (by decide) ?_
  refine ref_step (vx_runS (As := [.int cu, .int (0 : Int32), .int (1000 : Int32)]) (rest := []) ⟨hx, hb, hml, hown, hts⟩ (metX7_refuseOutside l hnt cu (0 : Int32) (1000 : Int32)) (va_cwS 3 hts gX7_current_X7_refuseOutside rfl rfl rfl (by decide +kernel) ⟨Nat.le_of_ble_eq_true rfl, Nat.le_of_ble_eq_true rfl⟩) ⟨pcE_b, pcE_u hE hS hA⟩ rfl rfl hl.1 rfl (lv_room (Nat.le_of_ble_eq_true rfl)) dX7_current_5 ⟨Nat.le_of_ble_eq_true rfl, Nat.le_of_ble_eq_true rfl⟩) hno hlocks hS hO hP (fun hbd => Or.inl ⟨by unfold cdCurrent; rw [if_pos hbd], rfl⟩) (Nat.le_of_ble_eq_true rfl) (Nat.le_of_ble_eq_true rfl) (fun k0 H locs hS hO hP => ?_)
  refine lv_aload_n hx hb dX7_current_8 rfl (lv_at hl 0 rfl) ?_
  refine va_get (D := G) (ci := 7) (v := .ref ao) (C := RX7) (T := TX7) (N := 7) hx hb hts hiX7 hown hK hP pv hv rfl 3 (by decide) (hts (.fieldLink RX7 29 "Vortexpin" "coil" "LVortexpin$Coil;") (List.mem_of_getElem? (i := 1) rfl)) (fun _ h9 => h9) rfl dX7_current_9 ?_
  refine va_get (D := G) (ci := 2) (v := .int cur) (C := RX1) (T := TX1) (N := 7) hx hb hts hiX1 hown hK hP po ho rfl 2 (by decide) (hts (.fieldLink RX7 141 "Vortexpin$Coil" "current" "I") (List.mem_of_getElem? (i := 2) rfl)) (fun _ h9 => h9) rfl dX7_current_12 ?_
  refine lv_istore_n (lv' := [(2, .int cur), (0, .ref v), (1, .int cu)]) hx hb dX7_current_15 rfl hl (by decide) rfl (fun ls hl => ?_)
  refine lv_aload_n hx hb dX7_current_16 rfl (lv_at hl 1 rfl) ?_
  refine va_get (D := G) (ci := 7) (v := .ref ao) (C := RX7) (T := TX7) (N := 7) hx hb hts hiX7 hown hK hP pv hv rfl 3 (by decide) (hts (.fieldLink RX7 29 "Vortexpin" "coil" "LVortexpin$Coil;") (List.mem_of_getElem? (i := 1) rfl)) (fun _ h9 => h9) rfl dX7_current_17 ?_
  refine lv_iload_n hx hb dX7_current_20 rfl (lv_at hl 2 rfl) ?_
  refine va_put (D := G) (ci := 2) (v := .int cu) (ty := .int) (C := RX1) (T := TX1) (N := 7) hx hb hts hiX1 tyX1 tyX1_ok nmX1 hown hK hP hD hS po ho rfl 2 (by decide) (hts (.fieldLink RX7 141 "Vortexpin$Coil" "current" "I") (List.mem_of_getElem? (i := 2) rfl)) (fun _ h9 => h9) rfl (by decide +kernel) (rfl) (rfl) (Nat.le_of_ble_eq_true rfl) dX7_current_21 (fun H locs hP hD hS => ?_)
  have hv := va_gs (k := po) (e := (ao, .inr (2, [.ref aw, .ref az, .int cu, .int du, .int ir, .long wi, .long dm]))) (ne_oo hv ho (by decide)) hv
  have hw := va_gs (k := po) (e := (ao, .inr (2, [.ref aw, .ref az, .int cu, .int du, .int ir, .long wi, .long dm]))) (ne_lr hw ho) hw
  have hz := va_gs (k := po) (e := (ao, .inr (2, [.ref aw, .ref az, .int cu, .int du, .int ir, .long wi, .long dm]))) (ne_lr hz ho) hz
  have ho := va_ge (e := (ao, .inr (2, [.ref aw, .ref az, .int cu, .int du, .int ir, .long wi, .long dm]))) ho
  refine lv_aload_n hx hb dX7_current_24 rfl (lv_at hl 1 rfl) ?_
  refine va_get (D := G) (ci := 7) (v := .ref ao) (C := RX7) (T := TX7) (N := 7) hx hb hts hiX7 hown hK hP pv hv rfl 3 (by decide) (hts (.fieldLink RX7 29 "Vortexpin" "coil" "LVortexpin$Coil;") (List.mem_of_getElem? (i := 1) rfl)) (fun _ h9 => h9) rfl dX7_current_25 ?_
  refine lv_iconst (v := 0) hx hb dX7_current_28 (by decide) ?_
  refine va_put (D := G) (ci := 2) (v := .int (0 : Int32)) (ty := .boolean) (C := RX1) (T := TX1) (N := 7) hx hb hts hiX1 tyX1 tyX1_ok nmX1 hown hK hP hD hS po ho rfl 3 (by decide) (hts (.fieldLink RX7 144 "Vortexpin$Coil" "dumped" "Z") (List.mem_of_getElem? (i := 3) rfl)) (fun _ h9 => h9) rfl (by decide +kernel) (rfl) (rfl) (Nat.le_of_ble_eq_true rfl) dX7_current_29 (fun H locs hP hD hS => ?_)
  have hv := va_gs (k := po) (e := (ao, .inr (2, [.ref aw, .ref az, .int cu, .int (0 : Int32), .int ir, .long wi, .long dm]))) (ne_oo hv ho (by decide)) hv
  have hw := va_gs (k := po) (e := (ao, .inr (2, [.ref aw, .ref az, .int cu, .int (0 : Int32), .int ir, .long wi, .long dm]))) (ne_lr hw ho) hw
  have hz := va_gs (k := po) (e := (ao, .inr (2, [.ref aw, .ref az, .int cu, .int (0 : Int32), .int ir, .long wi, .long dm]))) (ne_lr hz ho) hz
  have ho := va_ge (e := (ao, .inr (2, [.ref aw, .ref az, .int cu, .int (0 : Int32), .int ir, .long wi, .long dm]))) ho
  refine lv_aload_n hx hb dX7_current_32 rfl (lv_at hl 1 rfl) ?_
  refine va_get (D := G) (ci := 7) (v := .ref ao) (C := RX7) (T := TX7) (N := 7) hx hb hts hiX7 hown hK hP pv hv rfl 3 (by decide) (hts (.fieldLink RX7 29 "Vortexpin" "coil" "LVortexpin$Coil;") (List.mem_of_getElem? (i := 1) rfl)) (fun _ h9 => h9) rfl dX7_current_33 ?_
  refine lv_iconst (v := 0) hx hb dX7_current_36 (by decide) ?_
  refine va_put (D := G) (ci := 2) (v := .int (0 : Int32)) (ty := .int) (C := RX1) (T := TX1) (N := 7) hx hb hts hiX1 tyX1 tyX1_ok nmX1 hown hK hP hD hS po ho rfl 4 (by decide) (hts (.fieldLink RX7 148 "Vortexpin$Coil" "doubtfulInRow" "I") (List.mem_of_getElem? (i := 4) rfl)) (fun _ h9 => h9) rfl (by decide +kernel) (rfl) (rfl) (Nat.le_of_ble_eq_true rfl) dX7_current_37 (fun H locs hP hD hS => ?_)
  have hv := va_gs (k := po) (e := (ao, .inr (2, [.ref aw, .ref az, .int cu, .int (0 : Int32), .int (0 : Int32), .long wi, .long dm]))) (ne_oo hv ho (by decide)) hv
  have hw := va_gs (k := po) (e := (ao, .inr (2, [.ref aw, .ref az, .int cu, .int (0 : Int32), .int (0 : Int32), .long wi, .long dm]))) (ne_lr hw ho) hw
  have hz := va_gs (k := po) (e := (ao, .inr (2, [.ref aw, .ref az, .int cu, .int (0 : Int32), .int (0 : Int32), .long wi, .long dm]))) (ne_lr hz ho) hz
  have ho := va_ge (e := (ao, .inr (2, [.ref aw, .ref az, .int cu, .int (0 : Int32), .int (0 : Int32), .long wi, .long dm]))) ho
  refine lv_iload_n hx hb dX7_current_40 rfl (lv_at hl 0 rfl) ?_
  refine W.widen (k := 1) (n := 6) (Nat.le_of_ble_eq_true rfl) (Nat.le_of_ble_eq_true rfl) (vx_ret ?_)
  have ew : (((ws).set po (ao, .inr (2, [.ref aw, .ref az, .int cu, .int du, .int ir, .long wi, .long dm]))).set po (ao, .inr (2, [.ref aw, .ref az, .int cu, .int (0 : Int32), .int ir, .long wi, .long dm]))).set po (ao, .inr (2, [.ref aw, .ref az, .int cu, .int (0 : Int32), .int (0 : Int32), .long wi, .long dm])) = ws.set po (ao, .inr (2, [.ref aw, .ref az, .int cu, .int 0, .int 0, .long wi, .long dm])) := by simp only [List.set_set, ↓reduceIte, not_true_eq_false, not_false_eq_true]
  have hP : va_P G vwCl ((((ws).set po (ao, .inr (2, [.ref aw, .ref az, .int cu, .int du, .int ir, .long wi, .long dm]))).set po (ao, .inr (2, [.ref aw, .ref az, .int cu, .int (0 : Int32), .int ir, .long wi, .long dm]))).set po (ao, .inr (2, [.ref aw, .ref az, .int cu, .int (0 : Int32), .int (0 : Int32), .long wi, .long dm]))) H := hP
  have hD : va_D A ((((ws).set po (ao, .inr (2, [.ref aw, .ref az, .int cu, .int du, .int ir, .long wi, .long dm]))).set po (ao, .inr (2, [.ref aw, .ref az, .int cu, .int (0 : Int32), .int ir, .long wi, .long dm]))).set po (ao, .inr (2, [.ref aw, .ref az, .int cu, .int (0 : Int32), .int (0 : Int32), .long wi, .long dm]))) := hD
  rw [ew] at hP hD
  exact W.iret (v := cur) hx hb hr (fun t ht hW => ⟨⟨cur, (), rfl, ⟨by unfold cdCurrent; rw [if_neg k0], rfl⟩, by show va_P G vwCl _ t.heap ∧ va_D A _; rw [ht]; exact ⟨hP, hD⟩⟩, hS.F ht⟩) hS.2.2 dX7_current_41
set_option maxHeartbeats 1000000 in
set_option maxRecDepth 100000 in
theorem metX7_heat (l : Launch) (hnt : l.stackTraces = false) (G : va_G) (tys : List (ClassId × FieldType)) {A : Nat → Prop} {tE mi : Nat} {cI : ClassId} (htI : tI tys cI) (ws : va_W) {pv v aS af aR ao ak aP aC : Nat} (hv : ws[pv]? = some (v, .inr (7, [.ref aS, .ref af, .ref aR, .ref ao, .ref ak, .ref aP, .ref aC]))) {po pw pz aw az : Nat} {cur du ir : Int32} {wi dm : Int64} {wm sp : Nat → Int32} (ho : ws[po]? = some (ao, .inr (2, [.ref aw, .ref az, .int cur, .int du, .int ir, .long wi, .long dm]))) (hw : ws[pw]? = some (aw, .inl (cI, 12, .inl wm))) (hz : ws[pz]? = some (az, .inl (cI, 12, .inl sp))) (nwz : pw ≠ pz) (x y : Int32) : vx_Met l yX7_heat wsX7_heat { frames := 7, cells := 2, slots := 12, locals := 104 } (pcX G tys ws A tE mi [.ref v, .int x, .int y]) (va_Qi (fun (r : Int32) (_ : Unit) => cdHeat x y = 0 ∧ r = jmin 1000 (wm x.toNatClampNeg + y)) (fun _ t => va_P G vwCl (ws.set pw (aw, .inl (cI, 12, .inl (upd wm x.toNatClampNeg (jmin 1000 (wm x.toNatClampNeg + y)))))) t.heap ∧ va_D A (ws.set pw (aw, .inl (cI, 12, .inl (upd wm x.toNatClampNeg (jmin 1000 (wm x.toNatClampNeg + y))))))) A) (xcT (fun E => xC (cdHeat x y) eIB eIA "" E)) 2 12 A := by
  refine ofX (cc := cX7_heat) (maxL := 3) (ret := some .int) (by decide) rfl (Nat.le_of_ble_eq_true rfl) ?_
  intro p e s m below meth c ls hx hb hr hlocks hml hown hts hno hl hP hK hD hA hS hE
  have hown : s.vm.findClass RX7 = some m.cls := hown
  have hiX1 : ∀ w ∈ u_ws RX1 TX1 7, w ∈ wsX7_heat := fun _ h => List.mem_cons_of_mem _ (List.mem_append_left _ (List.mem_append_left _ (List.mem_append_right _ h)))
  have hiX7 : ∀ w ∈ u_ws RX7 TX7 7, w ∈ wsX7_heat := fun _ h => List.mem_cons_of_mem _ (List.mem_append_left _ (List.mem_append_left _ (List.mem_append_left _ (List.mem_append_right _ h))))
  have hl : lv_has ls 3 [(0, .ref v), (1, .int x), (2, .int y)] := hl
  have hO : okO s s.heap := ⟨Nat.le_refl _, fun _ _ => rfl⟩
  refine lv_iload_n hx hb dX7_heat_0 rfl (lv_at hl 1 rfl) ?_
  refine lv_bipush (v := 12) hx hb dX7_heat_1 (by decide) ?_
  refine ref_step (vx_runS (As := [.int x, .int (12 : Int32)]) (rest := []) ⟨hx, hb, hml, hown, hts⟩ (metX7_refuseUnknown l hnt x (12 : Int32)) (va_cwS 2 hts gX7_heat_X7_refuseUnknown rfl rfl rfl (by decide +kernel) ⟨Nat.le_of_ble_eq_true rfl, Nat.le_of_ble_eq_true rfl⟩) ⟨pcE_b, pcE_u hE hS hA⟩ rfl rfl hl.1 rfl (lv_room (Nat.le_of_ble_eq_true rfl)) dX7_heat_3 ⟨Nat.le_of_ble_eq_true rfl, Nat.le_of_ble_eq_true rfl⟩) hno hlocks hS hO hP (fun hbd => Or.inl ⟨by unfold cdHeat; rw [if_pos hbd], rfl⟩) (Nat.le_of_ble_eq_true rfl) (Nat.le_of_ble_eq_true rfl) (fun k0 H locs hS hO hP => ?_)
  refine lv_iload_n hx hb dX7_heat_6 rfl (lv_at hl 2 rfl) ?_
  refine lv_iconst (v := 1) hx hb dX7_heat_7 (by decide) ?_
  refine lv_sipush (v := 500) hx hb dX7_heat_8 (by decide) ?_
  refine ref_step (vx_runS (As := [.int y, .int (1 : Int32), .int (500 : Int32)]) (rest := []) ⟨hx, hb, hml, hown, hts⟩ (metX7_refuseOutside l hnt y (1 : Int32) (500 : Int32)) (va_cwS 3 hts gX7_heat_X7_refuseOutside rfl rfl rfl (by decide +kernel) ⟨Nat.le_of_ble_eq_true rfl, Nat.le_of_ble_eq_true rfl⟩) ⟨pcE_b, pcE_u hE hS hA⟩ rfl rfl hl.1 rfl (lv_room (Nat.le_of_ble_eq_true rfl)) dX7_heat_11 ⟨Nat.le_of_ble_eq_true rfl, Nat.le_of_ble_eq_true rfl⟩) hno hlocks hS hO hP (fun hbd => Or.inr (Or.inl ⟨by unfold cdHeat; rw [if_neg k0, if_pos hbd], rfl⟩)) (Nat.le_of_ble_eq_true rfl) (Nat.le_of_ble_eq_true rfl) (fun k1 H locs hS hO hP => ?_)
  refine lv_aload_n hx hb dX7_heat_14 rfl (lv_at hl 0 rfl) ?_
  refine va_get (D := G) (ci := 7) (v := .ref ao) (C := RX7) (T := TX7) (N := 7) hx hb hts hiX7 hown hK hP pv hv rfl 3 (by decide) (hts (.fieldLink RX7 29 "Vortexpin" "coil" "LVortexpin$Coil;") (List.mem_of_getElem? (i := 1) rfl)) (fun _ h9 => h9) rfl dX7_heat_15 ?_
  refine va_get (D := G) (ci := 2) (v := .ref aw) (C := RX1) (T := TX1) (N := 7) hx hb hts hiX1 hown hK hP po ho rfl 0 (by decide) (hts (.fieldLink RX7 151 "Vortexpin$Coil" "warmths" "[I") (List.mem_of_getElem? (i := 2) rfl)) (fun _ h9 => h9) rfl dX7_heat_18 ?_
  refine lv_iload_n hx hb dX7_heat_21 rfl (lv_at hl 1 rfl) ?_
  refine lv_sipush (v := 1000) hx hb dX7_heat_22 (by decide) ?_
  refine lv_aload_n hx hb dX7_heat_25 rfl (lv_at hl 0 rfl) ?_
  refine va_get (D := G) (ci := 7) (v := .ref ao) (C := RX7) (T := TX7) (N := 7) hx hb hts hiX7 hown hK hP pv hv rfl 3 (by decide) (hts (.fieldLink RX7 29 "Vortexpin" "coil" "LVortexpin$Coil;") (List.mem_of_getElem? (i := 1) rfl)) (fun _ h9 => h9) rfl dX7_heat_26 ?_
  refine va_get (D := G) (ci := 2) (v := .ref aw) (C := RX1) (T := TX1) (N := 7) hx hb hts hiX1 hown hK hP po ho rfl 0 (by decide) (hts (.fieldLink RX7 151 "Vortexpin$Coil" "warmths" "[I") (List.mem_of_getElem? (i := 2) rfl)) (fun _ h9 => h9) rfl dX7_heat_29 ?_
  refine lv_iload_n hx hb dX7_heat_32 rfl (lv_at hl 1 rfl) ?_
  refine va_iald hx hb hK hP pw 0 hw htI (vp_uK k0) dX7_heat_33 ?_
  refine lv_iload_n hx hb dX7_heat_34 rfl (lv_at hl 2 rfl) ?_
  refine lv_iadd hx hb dX7_heat_35 ?_
  refine va_mmin hx hb (hml.trans hl.1.symm) hown (hts (.methodLink RX7 154 Lib.Math.min.name) (List.mem_of_getElem? (i := 3) rfl)) (hts (.static Lib.Math.min.name) (List.mem_of_getElem? (i := 4) rfl)) (hts (.initialized "java/lang/Math") (List.mem_of_getElem? (i := 5) rfl)) (hts (.code Lib.Math.min.name Lib.Math.min.code 2 (some .int)) (List.mem_of_getElem? (i := 6) rfl)) (Nat.le_of_ble_eq_true rfl) (Nat.le_of_ble_eq_true rfl) (Nat.le_of_ble_eq_true rfl) (Nat.le_of_ble_eq_true rfl) dX7_heat_36 ?_
  refine fold_min ?_
  refine va_iast hx hb hK hP hD hS pw 0 hw htI (vp_uK k0) dX7_heat_39 (fun H locs hP hD hS => ?_)
  have hv := va_gs (k := pw) (e := (aw, .inl (cI, 12, .inl (upd wm x.toNatClampNeg (jmin (1000 : Int32) ((wm x.toNatClampNeg) + y)))))) ((ne_lr hw hv).symm) hv
  have ho := va_gs (k := pw) (e := (aw, .inl (cI, 12, .inl (upd wm x.toNatClampNeg (jmin (1000 : Int32) ((wm x.toNatClampNeg) + y)))))) ((ne_lr hw ho).symm) ho
  have hz := va_gs (k := pw) (e := (aw, .inl (cI, 12, .inl (upd wm x.toNatClampNeg (jmin (1000 : Int32) ((wm x.toNatClampNeg) + y)))))) (nwz.symm) hz
  have hw := va_ge (e := (aw, .inl (cI, 12, .inl (upd wm x.toNatClampNeg (jmin (1000 : Int32) ((wm x.toNatClampNeg) + y)))))) hw
  refine lv_aload_n hx hb dX7_heat_40 rfl (lv_at hl 0 rfl) ?_
  refine va_get (D := G) (ci := 7) (v := .ref ao) (C := RX7) (T := TX7) (N := 7) hx hb hts hiX7 hown hK hP pv hv rfl 3 (by decide) (hts (.fieldLink RX7 29 "Vortexpin" "coil" "LVortexpin$Coil;") (List.mem_of_getElem? (i := 1) rfl)) (fun _ h9 => h9) rfl dX7_heat_41 ?_
  refine va_get (D := G) (ci := 2) (v := .ref aw) (C := RX1) (T := TX1) (N := 7) hx hb hts hiX1 hown hK hP po ho rfl 0 (by decide) (hts (.fieldLink RX7 151 "Vortexpin$Coil" "warmths" "[I") (List.mem_of_getElem? (i := 2) rfl)) (fun _ h9 => h9) rfl dX7_heat_44 ?_
  refine lv_iload_n hx hb dX7_heat_47 rfl (lv_at hl 1 rfl) ?_
  refine va_iald hx hb hK hP pw 0 hw htI (vp_uK k0) dX7_heat_48 ?_
  refine W.widen (k := 2) (n := 12) (Nat.le_of_ble_eq_true rfl) (Nat.le_of_ble_eq_true rfl) (vx_ret ?_)
  have ew : (ws).set pw (aw, .inl (cI, 12, .inl (upd wm x.toNatClampNeg (jmin (1000 : Int32) ((wm x.toNatClampNeg) + y))))) = ws.set pw (aw, .inl (cI, 12, .inl (upd wm x.toNatClampNeg (jmin 1000 (wm x.toNatClampNeg + y))))) := by simp only [List.set_set, ↓reduceIte, not_true_eq_false, not_false_eq_true]
  have hP : va_P G vwCl ((ws).set pw (aw, .inl (cI, 12, .inl (upd wm x.toNatClampNeg (jmin (1000 : Int32) ((wm x.toNatClampNeg) + y)))))) H := hP
  have hD : va_D A ((ws).set pw (aw, .inl (cI, 12, .inl (upd wm x.toNatClampNeg (jmin (1000 : Int32) ((wm x.toNatClampNeg) + y)))))) := hD
  rw [ew] at hP hD
  exact W.iret (v := (upd wm x.toNatClampNeg (jmin (1000 : Int32) ((wm x.toNatClampNeg) + y))) x.toNatClampNeg) hx hb hr (fun t ht hW => ⟨⟨(upd wm x.toNatClampNeg (jmin (1000 : Int32) ((wm x.toNatClampNeg) + y))) x.toNatClampNeg, (), rfl, ⟨by unfold cdHeat; rw [if_neg k0, if_neg k1], by unfold upd; rw [if_pos rfl]⟩, by show va_P G vwCl _ t.heap ∧ va_D A _; rw [ht]; exact ⟨hP, hD⟩⟩, hS.F ht⟩) hS.2.2 dX7_heat_49
set_option maxHeartbeats 1000000 in
set_option maxRecDepth 100000 in
theorem metX7_ofCoil (l : Launch) (hnt : l.stackTraces = false) (G : va_G) (tys : List (ClassId × FieldType)) {A : Nat → Prop} {tE mi : Nat} {cI : ClassId} (htI : tI tys cI) (ws : va_W) {pv v aS af aR ao ak aP aC : Nat} (hv : ws[pv]? = some (v, .inr (7, [.ref aS, .ref af, .ref aR, .ref ao, .ref ak, .ref aP, .ref aC]))) {po pw pz aw az : Nat} {cur du ir : Int32} {wi dm : Int64} {wm sp : Nat → Int32} (ho : ws[po]? = some (ao, .inr (2, [.ref aw, .ref az, .int cur, .int du, .int ir, .long wi, .long dm]))) (hw : ws[pw]? = some (aw, .inl (cI, 12, .inl wm))) (hz : ws[pz]? = some (az, .inl (cI, 12, .inl sp))) (nwz : pw ≠ pz) (w : Int32) : vx_Met l yX7_ofCoil wsX7_ofCoil { frames := 7, cells := 1, slots := 6, locals := 104 } (pcX G tys ws A tE mi [.ref v, .int w]) (va_Ql (fun (r : Int64) (_ : Unit) => cdOfCoil w = 0 ∧ r = cOf cur du wi dm wm w) (fun _ t => va_P G vwCl (ws) t.heap ∧ va_D A (ws)) A) (xcT (fun E => xC (cdOfCoil w) eIA "" "" E)) 1 6 A := by
  refine ofX (cc := cX7_ofCoil) (maxL := 2) (ret := some .long) (by decide) rfl (Nat.le_of_ble_eq_true rfl) ?_
  intro p e s m below meth c ls hx hb hr hlocks hml hown hts hno hl hP hK hD hA hS hE
  have hown : s.vm.findClass RX7 = some m.cls := hown
  have hiX1 : ∀ w ∈ u_ws RX1 TX1 7, w ∈ wsX7_ofCoil := fun _ h => List.mem_cons_of_mem _ (List.mem_append_left _ (List.mem_append_right _ h))
  have hiX7 : ∀ w ∈ u_ws RX7 TX7 7, w ∈ wsX7_ofCoil := fun _ h => List.mem_cons_of_mem _ (List.mem_append_left _ (List.mem_append_left _ (List.mem_append_right _ h)))
  have hl : lv_has ls 2 [(0, .ref v), (1, .int w)] := hl
  have hO : okO s s.heap := ⟨Nat.le_refl _, fun _ _ => rfl⟩
  refine lv_iload_n hx hb dX7_ofCoil_0 rfl (lv_at hl 1 rfl) ?_
  refine lv_iconst (v := 0) hx hb dX7_ofCoil_1 (by decide) ?_
  refine lv_iconst (v := 5) hx hb dX7_ofCoil_2 (by decide) ?_
  refine ref_step (vx_runS (As := [.int w, .int (0 : Int32), .int (5 : Int32)]) (rest := []) ⟨hx, hb, hml, hown, hts⟩ (metX7_refuseOutside l hnt w (0 : Int32) (5 : Int32)) (va_cwS 3 hts gX7_ofCoil_X7_refuseOutside rfl rfl rfl (by decide +kernel) ⟨Nat.le_of_ble_eq_true rfl, Nat.le_of_ble_eq_true rfl⟩) ⟨pcE_b, pcE_u hE hS hA⟩ rfl rfl hl.1 rfl (lv_room (Nat.le_of_ble_eq_true rfl)) dX7_ofCoil_3 ⟨Nat.le_of_ble_eq_true rfl, Nat.le_of_ble_eq_true rfl⟩) hno hlocks hS hO hP (fun hbd => Or.inl ⟨by unfold cdOfCoil; rw [if_pos hbd], rfl⟩) (Nat.le_of_ble_eq_true rfl) (Nat.le_of_ble_eq_true rfl) (fun k0 H locs hS hO hP => ?_)
  refine lv_iload_n hx hb dX7_ofCoil_6 rfl (lv_at hl 1 rfl) ?_
  by_cases c7_0 : w = (0 : Int32)
  · refine lv_tableIn (tgt := 40) hx hb dX7_ofCoil_7 (by rw [c7_0]; decide) (by rw [c7_0]; decide) (by rw [c7_0]; rfl) (by decide) ?_
    refine lv_aload_n hx hb dX7_ofCoil_40 rfl (lv_at hl 0 rfl) ?_
    refine va_get (D := G) (ci := 7) (v := .ref ao) (C := RX7) (T := TX7) (N := 7) hx hb hts hiX7 hown hK hP pv hv rfl 3 (by decide) (hts (.fieldLink RX7 29 "Vortexpin" "coil" "LVortexpin$Coil;") (List.mem_of_getElem? (i := 1) rfl)) (fun _ h9 => h9) rfl dX7_ofCoil_41 ?_
    refine lv_iconst (v := 0) hx hb dX7_ofCoil_44 (by decide) ?_
    refine lv_bipush (v := 12) hx hb dX7_ofCoil_45 (by decide) ?_
    refine vp_callSi (va_Run.run (va_runV (As := [.int (0 : Int32), .int (12 : Int32)]) (rest := []) ⟨hx, hb, hml, hown, hts⟩ (metX1_normalParts l G tys cI htI _ ho hw hz 0 12 (by decide) (by decide)) (cwV 2 hts gX7_ofCoil_X1_normalParts rfl rfl rfl (by decide +kernel) ⟨Nat.le_of_ble_eq_true rfl, Nat.le_of_ble_eq_true rfl⟩) ⟨pcR_b, va_recv hK hP (ci := 2) (q0 := po) rfl ho, pcR_u hP hK⟩ rfl rfl hl.1 rfl (lv_room (Nat.le_of_ble_eq_true rfl)) dX7_ofCoil_47 ⟨Nat.le_of_ble_eq_true rfl, Nat.le_of_ble_eq_true rfl⟩)) (fun r47 h47 => ?_)
    refine lv_i2l hx hb dX7_ofCoil_50 rfl ?_
    refine W.widen (k := 1) (n := 6) (Nat.le_of_ble_eq_true rfl) (Nat.le_of_ble_eq_true rfl) (vx_ret ?_)
    exact W.lret (v := r47.toInt64) hx hb hr (fun t ht hW => ⟨⟨r47.toInt64, (), rfl, ⟨by unfold cdOfCoil; rw [if_neg k0], by subst h47; simp only [cOf, Nat.sub_zero, (eq_true c7_0), ↓reduceIte, not_true_eq_false, not_false_eq_true]⟩, by show va_P G vwCl _ t.heap ∧ va_D A _; rw [ht]; exact ⟨hP, hD⟩⟩, hS.F ht⟩) hS.2.2 dX7_ofCoil_51
  by_cases c7_1 : w = (1 : Int32)
  · refine lv_tableIn (tgt := 52) hx hb dX7_ofCoil_7 (by rw [c7_1]; decide) (by rw [c7_1]; decide) (by rw [c7_1]; rfl) (by decide) ?_
    refine lv_aload_n hx hb dX7_ofCoil_52 rfl (lv_at hl 0 rfl) ?_
    refine va_get (D := G) (ci := 7) (v := .ref ao) (C := RX7) (T := TX7) (N := 7) hx hb hts hiX7 hown hK hP pv hv rfl 3 (by decide) (hts (.fieldLink RX7 29 "Vortexpin" "coil" "LVortexpin$Coil;") (List.mem_of_getElem? (i := 1) rfl)) (fun _ h9 => h9) rfl dX7_ofCoil_53 ?_
    refine vp_callSi (va_Run.run (va_runV (As := []) (rest := []) ⟨hx, hb, hml, hown, hts⟩ (metX1_doubt l G tys cI htI _ ho hw hz) (cwV 0 hts gX7_ofCoil_X1_doubt rfl rfl rfl (by decide +kernel) ⟨Nat.le_of_ble_eq_true rfl, Nat.le_of_ble_eq_true rfl⟩) ⟨pcR_b, va_recv hK hP (ci := 2) (q0 := po) rfl ho, pcR_u hP hK⟩ rfl rfl hl.1 rfl (lv_room (Nat.le_of_ble_eq_true rfl)) dX7_ofCoil_56 ⟨Nat.le_of_ble_eq_true rfl, Nat.le_of_ble_eq_true rfl⟩)) (fun r56 h56 => ?_)
    refine lv_i2l hx hb dX7_ofCoil_59 rfl ?_
    refine W.widen (k := 1) (n := 6) (Nat.le_of_ble_eq_true rfl) (Nat.le_of_ble_eq_true rfl) (vx_ret ?_)
    exact W.lret (v := r56.toInt64) hx hb hr (fun t ht hW => ⟨⟨r56.toInt64, (), rfl, ⟨by unfold cdOfCoil; rw [if_neg k0], by subst h56; simp only [cOf, Nat.sub_zero, c7_0, (eq_true c7_1), ↓reduceIte, not_true_eq_false, not_false_eq_true]⟩, by show va_P G vwCl _ t.heap ∧ va_D A _; rw [ht]; exact ⟨hP, hD⟩⟩, hS.F ht⟩) hS.2.2 dX7_ofCoil_60
  by_cases c7_2 : w = (2 : Int32)
  · refine lv_tableIn (tgt := 61) hx hb dX7_ofCoil_7 (by rw [c7_2]; decide) (by rw [c7_2]; decide) (by rw [c7_2]; rfl) (by decide) ?_
    refine lv_aload_n hx hb dX7_ofCoil_61 rfl (lv_at hl 0 rfl) ?_
    refine va_get (D := G) (ci := 7) (v := .ref ao) (C := RX7) (T := TX7) (N := 7) hx hb hts hiX7 hown hK hP pv hv rfl 3 (by decide) (hts (.fieldLink RX7 29 "Vortexpin" "coil" "LVortexpin$Coil;") (List.mem_of_getElem? (i := 1) rfl)) (fun _ h9 => h9) rfl dX7_ofCoil_62 ?_
    refine va_get (D := G) (ci := 2) (v := .int du) (C := RX1) (T := TX1) (N := 7) hx hb hts hiX1 hown hK hP po ho rfl 3 (by decide) (hts (.fieldLink RX7 144 "Vortexpin$Coil" "dumped" "Z") (List.mem_of_getElem? (i := 2) rfl)) (fun _ h9 => h9) rfl dX7_ofCoil_65 ?_
    refine lv_if_eq (tgt := 75) hx hb dX7_ofCoil_68 (by decide) (fun c68 => ?_) (fun c68 => ?_)
    · refine lv_lconst (v := 0) hx hb dX7_ofCoil_75 (by decide) ?_
      refine W.widen (k := 1) (n := 6) (Nat.le_of_ble_eq_true rfl) (Nat.le_of_ble_eq_true rfl) (vx_ret ?_)
      exact W.lret (v := 0) hx hb hr (fun t ht hW => ⟨⟨0, (), rfl, ⟨by unfold cdOfCoil; rw [if_neg k0], by simp only [cOf, Nat.sub_zero, c7_0, c7_1, (eq_true c7_2), (eq_true c68), ↓reduceIte, not_true_eq_false, not_false_eq_true]⟩, by show va_P G vwCl _ t.heap ∧ va_D A _; rw [ht]; exact ⟨hP, hD⟩⟩, hS.F ht⟩) hS.2.2 dX7_ofCoil_76
    · refine lv_lconst (v := 1) hx hb dX7_ofCoil_71 (by decide) ?_
      refine lv_goto (tgt := 76) hx hb dX7_ofCoil_72 (by decide) ?_
      refine W.widen (k := 1) (n := 6) (Nat.le_of_ble_eq_true rfl) (Nat.le_of_ble_eq_true rfl) (vx_ret ?_)
      exact W.lret (v := 1) hx hb hr (fun t ht hW => ⟨⟨1, (), rfl, ⟨by unfold cdOfCoil; rw [if_neg k0], by simp only [cOf, Nat.sub_zero, c7_0, c7_1, (eq_true c7_2), c68, ↓reduceIte, not_true_eq_false, not_false_eq_true]⟩, by show va_P G vwCl _ t.heap ∧ va_D A _; rw [ht]; exact ⟨hP, hD⟩⟩, hS.F ht⟩) hS.2.2 dX7_ofCoil_76
  by_cases c7_3 : w = (3 : Int32)
  · refine lv_tableIn (tgt := 77) hx hb dX7_ofCoil_7 (by rw [c7_3]; decide) (by rw [c7_3]; decide) (by rw [c7_3]; rfl) (by decide) ?_
    refine lv_aload_n hx hb dX7_ofCoil_77 rfl (lv_at hl 0 rfl) ?_
    refine va_get (D := G) (ci := 7) (v := .ref ao) (C := RX7) (T := TX7) (N := 7) hx hb hts hiX7 hown hK hP pv hv rfl 3 (by decide) (hts (.fieldLink RX7 29 "Vortexpin" "coil" "LVortexpin$Coil;") (List.mem_of_getElem? (i := 1) rfl)) (fun _ h9 => h9) rfl dX7_ofCoil_78 ?_
    refine va_get (D := G) (ci := 2) (v := .long wi) (C := RX1) (T := TX1) (N := 7) hx hb hts hiX1 hown hK hP po ho rfl 5 (by decide) (hts (.fieldLink RX7 168 "Vortexpin$Coil" "toWire" "J") (List.mem_of_getElem? (i := 3) rfl)) (fun _ h9 => h9) rfl dX7_ofCoil_81 ?_
    refine W.widen (k := 1) (n := 6) (Nat.le_of_ble_eq_true rfl) (Nat.le_of_ble_eq_true rfl) (vx_ret ?_)
    exact W.lret (v := wi) hx hb hr (fun t ht hW => ⟨⟨wi, (), rfl, ⟨by unfold cdOfCoil; rw [if_neg k0], by simp only [cOf, Nat.sub_zero, c7_0, c7_1, c7_2, (eq_true c7_3), ↓reduceIte, not_true_eq_false, not_false_eq_true]⟩, by show va_P G vwCl _ t.heap ∧ va_D A _; rw [ht]; exact ⟨hP, hD⟩⟩, hS.F ht⟩) hS.2.2 dX7_ofCoil_84
  by_cases c7_4 : w = (4 : Int32)
  · refine lv_tableIn (tgt := 85) hx hb dX7_ofCoil_7 (by rw [c7_4]; decide) (by rw [c7_4]; decide) (by rw [c7_4]; rfl) (by decide) ?_
    refine lv_aload_n hx hb dX7_ofCoil_85 rfl (lv_at hl 0 rfl) ?_
    refine va_get (D := G) (ci := 7) (v := .ref ao) (C := RX7) (T := TX7) (N := 7) hx hb hts hiX7 hown hK hP pv hv rfl 3 (by decide) (hts (.fieldLink RX7 29 "Vortexpin" "coil" "LVortexpin$Coil;") (List.mem_of_getElem? (i := 1) rfl)) (fun _ h9 => h9) rfl dX7_ofCoil_86 ?_
    refine va_get (D := G) (ci := 2) (v := .long dm) (C := RX1) (T := TX1) (N := 7) hx hb hts hiX1 hown hK hP po ho rfl 6 (by decide) (hts (.fieldLink RX7 172 "Vortexpin$Coil" "toDump" "J") (List.mem_of_getElem? (i := 4) rfl)) (fun _ h9 => h9) rfl dX7_ofCoil_89 ?_
    refine W.widen (k := 1) (n := 6) (Nat.le_of_ble_eq_true rfl) (Nat.le_of_ble_eq_true rfl) (vx_ret ?_)
    exact W.lret (v := dm) hx hb hr (fun t ht hW => ⟨⟨dm, (), rfl, ⟨by unfold cdOfCoil; rw [if_neg k0], by simp only [cOf, Nat.sub_zero, c7_0, c7_1, c7_2, c7_3, (eq_true c7_4), ↓reduceIte, not_true_eq_false, not_false_eq_true]⟩, by show va_P G vwCl _ t.heap ∧ va_D A _; rw [ht]; exact ⟨hP, hD⟩⟩, hS.F ht⟩) hS.2.2 dX7_ofCoil_92
  have tc7_0 : ¬ w.toInt = 0 := fun q => c7_0 (Int32.toInt_inj.mp (q.trans (by decide : (0 : Int) = (0 : Int32).toInt)))
  have tc7_1 : ¬ w.toInt = 1 := fun q => c7_1 (Int32.toInt_inj.mp (q.trans (by decide : (1 : Int) = (1 : Int32).toInt)))
  have tc7_2 : ¬ w.toInt = 2 := fun q => c7_2 (Int32.toInt_inj.mp (q.trans (by decide : (2 : Int) = (2 : Int32).toInt)))
  have tc7_3 : ¬ w.toInt = 3 := fun q => c7_3 (Int32.toInt_inj.mp (q.trans (by decide : (3 : Int) = (3 : Int32).toInt)))
  have tc7_4 : ¬ w.toInt = 4 := fun q => c7_4 (Int32.toInt_inj.mp (q.trans (by decide : (4 : Int) = (4 : Int32).toInt)))
  refine lv_tableOut (tgt := 93) hx hb dX7_ofCoil_7 (by omega) (by decide) ?_
  refine lv_aload_n hx hb dX7_ofCoil_93 rfl (lv_at hl 0 rfl) ?_
  refine va_get (D := G) (ci := 7) (v := .ref ao) (C := RX7) (T := TX7) (N := 7) hx hb hts hiX7 hown hK hP pv hv rfl 3 (by decide) (hts (.fieldLink RX7 29 "Vortexpin" "coil" "LVortexpin$Coil;") (List.mem_of_getElem? (i := 1) rfl)) (fun _ h9 => h9) rfl dX7_ofCoil_94 ?_
  refine vp_callSl (va_Run.run (va_runV (As := []) (rest := []) ⟨hx, hb, hml, hown, hts⟩ (metX1_stored l G tys cI htI _ ho hw hz) (cwV 0 hts gX7_ofCoil_X1_stored rfl rfl rfl (by decide +kernel) ⟨Nat.le_of_ble_eq_true rfl, Nat.le_of_ble_eq_true rfl⟩) ⟨pcR_b, va_recv hK hP (ci := 2) (q0 := po) rfl ho, pcR_u hP hK⟩ rfl rfl hl.1 rfl (lv_room (Nat.le_of_ble_eq_true rfl)) dX7_ofCoil_97 ⟨Nat.le_of_ble_eq_true rfl, Nat.le_of_ble_eq_true rfl⟩)) (fun r97 h97 => ?_)
  refine W.widen (k := 1) (n := 6) (Nat.le_of_ble_eq_true rfl) (Nat.le_of_ble_eq_true rfl) (vx_ret ?_)
  exact W.lret (v := r97) hx hb hr (fun t ht hW => ⟨⟨r97, (), rfl, ⟨by unfold cdOfCoil; rw [if_neg k0], by subst h97; simp only [cOf, Nat.sub_zero, c7_0, c7_1, c7_2, c7_3, c7_4, ↓reduceIte, not_true_eq_false, not_false_eq_true]⟩, by show va_P G vwCl _ t.heap ∧ va_D A _; rw [ht]; exact ⟨hP, hD⟩⟩, hS.F ht⟩) hS.2.2 dX7_ofCoil_100
set_option maxHeartbeats 1000000 in
set_option maxRecDepth 100000 in
theorem metX7_pass (l : Launch) (hnt : l.stackTraces = false) (G : va_G) (tys : List (ClassId × FieldType)) {A : Nat → Prop} {tE mi : Nat} {cI : ClassId} (htI : tI tys cI) (ws : va_W) {pv v aS af aR ao ak aP aC : Nat} (hv : ws[pv]? = some (v, .inr (7, [.ref aS, .ref af, .ref aR, .ref ao, .ref ak, .ref aP, .ref aC]))) {po pw pz aw az : Nat} {cur du ir : Int32} {wi dm : Int64} {wm sp : Nat → Int32} (ho : ws[po]? = some (ao, .inr (2, [.ref aw, .ref az, .int cur, .int du, .int ir, .long wi, .long dm]))) (hw : ws[pw]? = some (aw, .inl (cI, 12, .inl wm))) (hz : ws[pz]? = some (az, .inl (cI, 12, .inl sp))) (nwz : pw ≠ pz) (n : Int32) : vx_Met l yX7_pass wsX7_pass { frames := 7, cells := 1, slots := 6, locals := 105 } (pcX G tys ws A tE mi [.ref v, .int n]) (va_Qi (fun (r : Int32) (_ : Unit) => cdPass n = 0 ∧ r = (cIt (wm, sp, cur, du, ir, wi, dm) n.toNatClampNeg).2.2.1) (fun _ t => va_P G vwCl (cW ws cI po pw pz ao aw az (cIt (wm, sp, cur, du, ir, wi, dm) n.toNatClampNeg) (cSw n.toNatClampNeg)) t.heap ∧ va_D A (cW ws cI po pw pz ao aw az (cIt (wm, sp, cur, du, ir, wi, dm) n.toNatClampNeg) (cSw n.toNatClampNeg))) A) (xcT (fun E => xC (cdPass n) eIA "" "" E)) 1 6 A := by
  refine ofX (cc := cX7_pass) (maxL := 3) (ret := some .int) (by decide) rfl (Nat.le_of_ble_eq_true rfl) ?_
  intro p e s m below meth c ls hx hb hr hlocks hml hown hts hno hl hP hK hD hA hS hE
  have hown : s.vm.findClass RX7 = some m.cls := hown
  have hiX1 : ∀ w ∈ u_ws RX1 TX1 7, w ∈ wsX7_pass := fun _ h => List.mem_cons_of_mem _ (List.mem_append_left _ (List.mem_append_right _ h))
  have hiX7 : ∀ w ∈ u_ws RX7 TX7 7, w ∈ wsX7_pass := fun _ h => List.mem_cons_of_mem _ (List.mem_append_left _ (List.mem_append_left _ (List.mem_append_right _ h)))
  have hl : lv_has ls 3 [(0, .ref v), (1, .int n)] := hl
  have hO : okO s s.heap := ⟨Nat.le_refl _, fun _ _ => rfl⟩
  have ho0 := ho
  have hw0 := hw
  have hz0 := hz
  have hv0 := hv
  refine lv_iload_n hx hb dX7_pass_0 rfl (lv_at hl 1 rfl) ?_
  refine lv_iconst (v := 1) hx hb dX7_pass_1 (by decide) ?_
  refine lv_bipush (v := 50) hx hb dX7_pass_2 (by decide) ?_
  refine ref_step (vx_runS (As := [.int n, .int (1 : Int32), .int (50 : Int32)]) (rest := []) ⟨hx, hb, hml, hown, hts⟩ (metX7_refuseOutside l hnt n (1 : Int32) (50 : Int32)) (va_cwS 3 hts gX7_pass_X7_refuseOutside rfl rfl rfl (by decide +kernel) ⟨Nat.le_of_ble_eq_true rfl, Nat.le_of_ble_eq_true rfl⟩) ⟨pcE_b, pcE_u hE hS hA⟩ rfl rfl hl.1 rfl (lv_room (Nat.le_of_ble_eq_true rfl)) dX7_pass_4 ⟨Nat.le_of_ble_eq_true rfl, Nat.le_of_ble_eq_true rfl⟩) hno hlocks hS hO hP (fun hbd => Or.inl ⟨by unfold cdPass; rw [if_pos hbd], rfl⟩) (Nat.le_of_ble_eq_true rfl) (Nat.le_of_ble_eq_true rfl) (fun k0 H locs hS hO hP => ?_)
  refine lv_iconst (v := 0) hx hb dX7_pass_7 (by decide) ?_
  refine lv_istore_n (lv' := [(2, .int (0 : Int32)), (0, .ref v), (1, .int n)]) hx hb dX7_pass_8 rfl hl (by decide) rfl (fun ls hl => ?_)
  obtain ⟨hn1, hn50⟩ := oR_ix (k := 50) k0 (by decide)
  have hself : cW ws cI po pw pz ao aw az (cIt (wm, sp, cur, du, ir, wi, dm) 0) (cSw 0) = ws := cW_self ho hw hz
  refine loopM n.toNatClampNeg 9 3 (fun i => [(0, .ref v), (1, .int n), (2, .int (nI i))]) (fun i => cW ws cI po pw pz ao aw az (cIt (wm, sp, cur, du, ir, wi, dm) i) (cSw i)) (fun i => True) (fun i hNi hKi ihi H locs ls hP hD hS hl => ?_) (i0 := 0) (by omega) (trivial) (by rw [hself]; exact hP) (by rw [hself]; exact hD) hS (lv_sub hl [1, 2, 0] rfl)
  have hl : lv_has ls 3 [(0, .ref v), (1, .int n), (2, .int (nI i))] := hl
  have hP : va_P G vwCl (cW ws cI po pw pz ao aw az (cIt (wm, sp, cur, du, ir, wi, dm) i) (cSw i)) H := hP
  have hD : va_D A (cW ws cI po pw pz ao aw az (cIt (wm, sp, cur, du, ir, wi, dm) i) (cSw i)) := hD
  have hv : (cW ws cI po pw pz ao aw az (cIt (wm, sp, cur, du, ir, wi, dm) i) (cSw i))[pv]? = _ := va_gs (ne_oo hv0 ho0 (by decide)) (va_gs (ne_lr hz0 hv0).symm (va_gs (ne_lr hw0 hv0).symm hv0))
  have ho : (cW ws cI po pw pz ao aw az (cIt (wm, sp, cur, du, ir, wi, dm) i) (cSw i))[po]? = some (ao, cO (cIt (wm, sp, cur, du, ir, wi, dm) i) aw az (cSw i)) := va_ge (va_gs (ne_lr hz0 ho0).symm (va_gs (ne_lr hw0 ho0).symm ho0))
  refine lv_iload_n hx hb dX7_pass_9 rfl (lv_at hl 2 rfl) ?_
  refine lv_iload_n hx hb dX7_pass_10 rfl (lv_at hl 1 rfl) ?_
  refine lv_icmp_ge (tgt := 27) hx hb dX7_pass_11 (by decide) (fun c11 => ?_) (fun c11 => ?_)
  · have heqi : i = n.toNatClampNeg := by rw [hn1] at c11; exact Nat.le_antisymm hNi ((nI_leI (by omega) (by omega)).mp c11)
    rw [heqi] at hP hD ho hv
    refine lv_aload_n hx hb dX7_pass_27 rfl (lv_at hl 0 rfl) ?_
    refine va_get (D := G) (ci := 7) (v := .ref ao) (C := RX7) (T := TX7) (N := 7) hx hb hts hiX7 hown hK hP pv hv rfl 3 (by decide) (hts (.fieldLink RX7 29 "Vortexpin" "coil" "LVortexpin$Coil;") (List.mem_of_getElem? (i := 1) rfl)) (fun _ h9 => h9) rfl dX7_pass_28 ?_
    refine va_get (D := G) (ci := 2) (v := .int ((cIt (wm, sp, cur, du, ir, wi, dm) n.toNatClampNeg).2.2.1)) (C := RX1) (T := TX1) (N := 7) hx hb hts hiX1 hown hK hP po ho rfl 2 (by decide) (hts (.fieldLink RX7 141 "Vortexpin$Coil" "current" "I") (List.mem_of_getElem? (i := 2) rfl)) (fun _ h9 => h9) rfl dX7_pass_31 ?_
    refine W.widen (k := 1) (n := 6) (Nat.le_of_ble_eq_true rfl) (Nat.le_of_ble_eq_true rfl) (vx_ret ?_)
    exact W.iret (v := (cIt (wm, sp, cur, du, ir, wi, dm) n.toNatClampNeg).2.2.1) hx hb hr (fun t ht hW => ⟨⟨(cIt (wm, sp, cur, du, ir, wi, dm) n.toNatClampNeg).2.2.1, (), rfl, ⟨by unfold cdPass; rw [if_neg k0], rfl⟩, by show va_P G vwCl _ t.heap ∧ va_D A _; rw [ht]; exact ⟨hP, hD⟩⟩, hS.F ht⟩) hS.2.2 dX7_pass_34
  · have hlti : i < n.toNatClampNeg := by rw [hn1] at c11; exact Nat.lt_of_not_le (mt (nI_leI (by omega) (by omega)).mpr c11)
    refine lv_aload_n hx hb dX7_pass_14 rfl (lv_at hl 0 rfl) ?_
    refine va_get (D := G) (ci := 7) (v := .ref ao) (C := RX7) (T := TX7) (N := 7) hx hb hts hiX7 hown hK hP pv hv rfl 3 (by decide) (hts (.fieldLink RX7 29 "Vortexpin" "coil" "LVortexpin$Coil;") (List.mem_of_getElem? (i := 1) rfl)) (fun _ h9 => h9) rfl dX7_pass_15 ?_
    refine va_callv (va_runV (As := []) (rest := []) ⟨hx, hb, hml, hown, hts⟩ (metPulse l G tys htI ws ho0 hw0 hz0 nwz (cIt (wm, sp, cur, du, ir, wi, dm) i) (cSw i)) (cwV 0 hts gX7_pass_X1_runPulse rfl rfl rfl (by decide +kernel) ⟨Nat.le_of_ble_eq_true rfl, Nat.le_of_ble_eq_true rfl⟩) ⟨pcM_b, va_recv hK hP (ci := 2) (q0 := po) rfl ho, pcM_u hP hK hD hS hA⟩ rfl rfl hl.1 rfl (lv_room (Nat.le_of_ble_eq_true rfl)) dX7_pass_18 ⟨Nat.le_of_ble_eq_true rfl, Nat.le_of_ble_eq_true rfl⟩) hS (fun q _ h => h) (fun q h => h) (fun u t H locs ht hvm hu hB hsz hk1 hS => ?_)
    rw [ht] at hB
    have hP : va_P G vwCl (cW ws cI po pw pz ao aw az (cIt (wm, sp, cur, du, ir, wi, dm) (i + 1)) (cSw (i + 1))) H := hB
    have hD : va_D A (cW ws cI po pw pz ao aw az (cIt (wm, sp, cur, du, ir, wi, dm) (i + 1)) (cSw (i + 1))) := cW_D ho0 hw0 hz0 nwz hD
    refine lv_iinc (v := nI (i + 1)) (lv' := [(2, .int (nI (i + 1))), (0, .ref v), (1, .int n)]) hx hb dX7_pass_21 hl (k := 2) rfl (nI_1 i) (by decide) rfl (fun ls hl => ?_)
    refine lv_goto (tgt := 9) hx hb dX7_pass_24 (by decide) ?_
    have ew : cW ws cI po pw pz ao aw az (cIt (wm, sp, cur, du, ir, wi, dm) (i + 1)) (cSw (i + 1)) = cW ws cI po pw pz ao aw az (cIt (wm, sp, cur, du, ir, wi, dm) (i + 1)) (cSw (i + 1)) := rfl
    have hP : va_P G vwCl (cW ws cI po pw pz ao aw az (cIt (wm, sp, cur, du, ir, wi, dm) (i + 1)) (cSw (i + 1))) H := hP
    have hD : va_D A (cW ws cI po pw pz ao aw az (cIt (wm, sp, cur, du, ir, wi, dm) (i + 1)) (cSw (i + 1))) := hD
    rw [ew] at hP hD
    exact ihi H _ ls hlti (trivial) hP hD hS (lv_sub hl [1, 2, 0] rfl)
