section MopK
variable {l : Launch} {y : MethodName} {wy : List Cond} {rm : Room} {G : va_G} {A : Nat → Prop} {Pc : Array Value → State → Prop} {mc ms : Nat} {free : Addr → Prop} {U : Type} {B : U → State → Prop}
theorem mopKi {post post2 : Int32 → U → Prop} (hM : Met l y wy rm Pc (va_Qi post B A) mc ms free) (h : ∀ r u, post r u → post2 r u) : Met l y wy rm Pc (va_Qi post2 B A) mc ms free :=
  met_mono hM (fun _ _ q => q) (fun a s o t _ hq => by
    obtain ⟨⟨r, u, ho, hp, hB⟩, hF⟩ := hq
    exact ⟨⟨r, u, ho, h r u hp, hB⟩, hF⟩)
theorem mopKl {post post2 : Int64 → U → Prop} (hM : Met l y wy rm Pc (va_Ql post B A) mc ms free) (h : ∀ r u, post r u → post2 r u) : Met l y wy rm Pc (va_Ql post2 B A) mc ms free :=
  met_mono hM (fun _ _ q => q) (fun a s o t _ hq => by
    obtain ⟨⟨r, u, ho, hp, hB⟩, hF⟩ := hq
    exact ⟨⟨r, u, ho, h r u hp, hB⟩, hF⟩)
end MopK
/-- a pulse loses nothing -/
theorem cPul_sum (σ : cS) : (cPul σ).2.2.2.2.2.1 + (cPul σ).2.2.2.2.2.2 + cSto (cPul σ).2.2.1 = σ.2.2.2.2.2.1 + σ.2.2.2.2.2.2 + cSto σ.2.2.1 := by
  obtain ⟨wm, sp, cur, du, ir, wi, dm⟩ := σ
  show (if du = 0 then wi else wi + cWir cur wm) + (if du = 0 then dm else dm + (cLost cur - cWir cur wm)) + cSto (if du = 0 then cur else cCur cur) = wi + dm + cSto cur
  by_cases h : du = 0
  · rw [if_pos h, if_pos h, if_pos h]
  · rw [if_neg h, if_neg h, if_neg h]
    unfold cLost
    generalize cWir cur wm = c
    generalize cSto cur = a
    generalize cSto (cCur cur) = b
    have e : (wi + c) + (dm + (a - b - c)) + b = (wi + dm) + ((a - b - c) + c + b) := by ac_rfl
    rw [e, Int64.sub_add_cancel, Int64.sub_add_cancel]
theorem cIt_sum (σ : cS) (k : Nat) : (cIt σ k).2.2.2.2.2.1 + (cIt σ k).2.2.2.2.2.2 + cSto (cIt σ k).2.2.1 = σ.2.2.2.2.2.1 + σ.2.2.2.2.2.2 + cSto σ.2.2.1 := by
  induction k with
  | zero => rfl
  | succ k ih => exact (cPul_sum (cIt σ k)).trans ih
theorem coil_pass {own ad : Nat → Nat} {ws : va_W} {cI : ClassId} {pw pz aw az : Nat} {σ : cS} {x0 : Nat × va_E} {wm sp : Nat → Int32} (ho : ws[6]? = some x0) (hw : ws[pw]? = some (aw, .inl (cI, 12, .inl wm))) (hzp : ws[pz]? = some (az, .inl (cI, 12, .inl sp))) (nwz : pw ≠ pz) (nw6 : pw ≠ 6) (nz6 : pz ≠ 6) (o6 : own 6 = 4) (opw : own pw = 4) (opz : own pz = 4) (sw : Bool) : iC cI ad own (cW ws cI 6 pw pz (ad 6) aw az σ sw) σ.2.2.1 σ.2.2.2.1 σ.2.2.2.2.2.1 σ.2.2.2.2.2.2 := by
  unfold cW
  cases sw with
  | false => exact ⟨pw, pz, aw, az, σ.1, σ.2.1, σ.2.2.2.2.1, va_ge (va_gs nz6.symm (va_gs nw6.symm ho)), va_gs nw6 (va_gs nwz (va_ge hw)), va_gs nz6 (va_ge (va_gs nwz.symm hzp)), nwz, o6, opw, opz⟩
  | true => exact ⟨pz, pw, az, aw, σ.1, σ.2.1, σ.2.2.2.2.1, va_ge (va_gs nz6.symm (va_gs nw6.symm ho)), va_gs nz6 (va_ge (va_gs nwz.symm hzp)), va_gs nw6 (va_gs nwz (va_ge hw)), nwz.symm, o6, opz, opw⟩
theorem fCell_nI {cel : Nat → Int32} {k : Nat} (hk : k < 20) : fCell cel (nI k) = cel k := by
  unfold fCell
  rw [if_neg (nI_pos (by omega)), if_neg (show ¬ (20 : Int32) ≤ nI k from nI_ge (b := 20) hk (by decide)), nI_clamp (by omega)]
set_option maxHeartbeats 4000000 in
set_option maxRecDepth 100000 in
theorem op_ofCoil {l : Launch} (hnt : l.stackTraces = false) (G : va_G) (tys : List (ClassId × FieldType)) {A : Nat → Prop} {tE mi : Nat} {cI cO : ClassId} (htI : tI tys cI) (htO : tO tys cO) {ad own : Nat → Nat} {ws : va_W} {P M V S T cel ct cf co ca : Nat → Int32} {wd : Nat → Nat → Int32} {n np nc : Nat} {ind cr num cur du : Int32} {wi dm : Int64} (hI : inv cI cO tE ad own ws P M V S T n cel ind cr num cur du wi dm np nc ct cf co ca wd) (x : Int32) (hx : cdOfCoil x = 0) : Met l yX7_ofCoil wsX7_ofCoil { frames := 7, cells := 1, slots := 6, locals := 104 } (pcX G tys ws A tE mi [.ref (ad 0), .int x]) (va_Ql (fun (r : Int64) (_ : Unit) => ∃ wm : Nat → Int32, r = cOf cur du wi dm wm x) (fun _ t => va_P G vwCl ws t.heap ∧ va_D A ws) A) 1 6 A := by
  have hI0 := hI
  obtain ⟨hV, hL, hF, hR, hC, hP, hM⟩ := hI
  obtain ⟨pw, pz, aw, az, wm, sp, ir, ho, hw, hz, nwz, o6, opw, opz⟩ := hC
  have nw6 : pw ≠ 6 := ne_lr hw ho
  have nz6 : pz ≠ 6 := ne_lr hz ho
  exact mopKl (vx_ok (metX7_ofCoil l hnt G tys htI ws hV.1 ho hw hz nwz x) hx) (fun r u h => ⟨wm, h.2⟩)
set_option maxHeartbeats 4000000 in
set_option maxRecDepth 100000 in
theorem op_current {l : Launch} (hnt : l.stackTraces = false) (G : va_G) (tys : List (ClassId × FieldType)) {A : Nat → Prop} {tE mi : Nat} {cI cO : ClassId} (htI : tI tys cI) (htO : tO tys cO) {ad own : Nat → Nat} {ws : va_W} {P M V S T cel ct cf co ca : Nat → Int32} {wd : Nat → Nat → Int32} {n np nc : Nat} {ind cr num cur du : Int32} {wi dm : Int64} (hI : inv cI cO tE ad own ws P M V S T n cel ind cr num cur du wi dm np nc ct cf co ca wd) (x : Int32) (hx : cdCurrent x = 0) : Met l yX7_current wsX7_current { frames := 7, cells := 1, slots := 6, locals := 104 } (pcX G tys ws A tE mi [.ref (ad 0), .int x]) (va_Qi (fun (r : Int32) (w : va_W) => ∃ own2, inv cI cO tE ad own2 w P M V S T n cel ind cr num x 0 wi dm np nc ct cf co ca wd) (fun w t => va_P G vwCl w t.heap ∧ va_D A w) A) 1 6 A := by
  have hI0 := hI
  obtain ⟨hV, hL, hF, hR, hC, hP, hM⟩ := hI
  obtain ⟨pw, pz, aw, az, wm, sp, ir, ho, hw, hz, nwz, o6, opw, opz⟩ := hC
  have nw6 : pw ≠ 6 := ne_lr hw ho
  have nz6 : pz ≠ 6 := ne_lr hz ho
  exact mopI (vx_ok (metX7_current l hnt G tys htI ws hV.1 ho hw hz nwz x) hx) (fun r u h => ⟨own, hI0.c (chg.rf.set o6) ⟨pw, pz, aw, az, wm, sp, 0, va_ge ho, va_gs nw6 hw, va_gs nz6 hz, nwz, o6, opw, opz⟩⟩)
set_option maxHeartbeats 4000000 in
set_option maxRecDepth 100000 in
theorem op_heat {l : Launch} (hnt : l.stackTraces = false) (G : va_G) (tys : List (ClassId × FieldType)) {A : Nat → Prop} {tE mi : Nat} {cI cO : ClassId} (htI : tI tys cI) (htO : tO tys cO) {ad own : Nat → Nat} {ws : va_W} {P M V S T cel ct cf co ca : Nat → Int32} {wd : Nat → Nat → Int32} {n np nc : Nat} {ind cr num cur du : Int32} {wi dm : Int64} (hI : inv cI cO tE ad own ws P M V S T n cel ind cr num cur du wi dm np nc ct cf co ca wd) (x y : Int32) (hx : cdHeat x y = 0) : Met l yX7_heat wsX7_heat { frames := 7, cells := 2, slots := 12, locals := 104 } (pcX G tys ws A tE mi [.ref (ad 0), .int x, .int y]) (va_Qi (fun (r : Int32) (w : va_W) => ∃ own2, inv cI cO tE ad own2 w P M V S T n cel ind cr num cur du wi dm np nc ct cf co ca wd) (fun w t => va_P G vwCl w t.heap ∧ va_D A w) A) 2 12 A := by
  have hI0 := hI
  obtain ⟨hV, hL, hF, hR, hC, hP, hM⟩ := hI
  obtain ⟨pw, pz, aw, az, wm, sp, ir, ho, hw, hz, nwz, o6, opw, opz⟩ := hC
  have nw6 : pw ≠ 6 := ne_lr hw ho
  have nz6 : pz ≠ 6 := ne_lr hz ho
  exact mopI (vx_ok (metX7_heat l hnt G tys htI ws hV.1 ho hw hz nwz x y) hx) (fun r u h => ⟨own, hI0.c (chg.rf.set opw) ⟨pw, pz, aw, az, _, sp, ir, va_gs nw6.symm ho, va_ge hw, va_gs nwz.symm hz, nwz, o6, opw, opz⟩⟩)
set_option maxHeartbeats 4000000 in
set_option maxRecDepth 100000 in
theorem op_pass {l : Launch} (hnt : l.stackTraces = false) (G : va_G) (tys : List (ClassId × FieldType)) {A : Nat → Prop} {tE mi : Nat} {cI cO : ClassId} (htI : tI tys cI) (htO : tO tys cO) {ad own : Nat → Nat} {ws : va_W} {P M V S T cel ct cf co ca : Nat → Int32} {wd : Nat → Nat → Int32} {n np nc : Nat} {ind cr num cur du : Int32} {wi dm : Int64} (hI : inv cI cO tE ad own ws P M V S T n cel ind cr num cur du wi dm np nc ct cf co ca wd) (x : Int32) (hx : cdPass x = 0) : Met l yX7_pass wsX7_pass { frames := 7, cells := 1, slots := 6, locals := 105 } (pcX G tys ws A tE mi [.ref (ad 0), .int x]) (va_Qi (fun (r : Int32) (w : va_W) => ∃ (own2 : Nat → Nat) (cur2 du2 : Int32) (wi2 dm2 : Int64), inv cI cO tE ad own2 w P M V S T n cel ind cr num cur2 du2 wi2 dm2 np nc ct cf co ca wd ∧ wi2 + dm2 + cSto cur2 = wi + dm + cSto cur) (fun w t => va_P G vwCl w t.heap ∧ va_D A w) A) 1 6 A := by
  have hI0 := hI
  obtain ⟨hV, hL, hF, hR, hC, hP, hM⟩ := hI
  obtain ⟨pw, pz, aw, az, wm, sp, ir, ho, hw, hz, nwz, o6, opw, opz⟩ := hC
  have nw6 : pw ≠ 6 := ne_lr hw ho
  have nz6 : pz ≠ 6 := ne_lr hz ho
  exact mopI (vx_ok (metX7_pass l hnt G tys htI ws hV.1 ho hw hz nwz x) hx) (fun r u h => ⟨own, _, _, _, _, hI0.c (((chg.rf.set opw).set opz).set o6) (coil_pass ho hw hz nwz nw6 nz6 o6 opw opz _), cIt_sum (wm, sp, cur, du, ir, wi, dm) _⟩)
set_option maxHeartbeats 4000000 in
set_option maxRecDepth 100000 in
theorem op_drive {l : Launch} (hnt : l.stackTraces = false) (G : va_G) (tys : List (ClassId × FieldType)) {A : Nat → Prop} {tE mi : Nat} {cI cO : ClassId} (htI : tI tys cI) (htO : tO tys cO) {ad own : Nat → Nat} {ws : va_W} {P M V S T cel ct cf co ca : Nat → Int32} {wd : Nat → Nat → Int32} {n np nc : Nat} {ind cr num cur du : Int32} {wi dm : Int64} (hI : inv cI cO tE ad own ws P M V S T n cel ind cr num cur du wi dm np nc ct cf co ca wd) (x y : Int32) (hx : cdDrive x y = 0) : Met l yX7_drive wsX7_drive { frames := 7, cells := 2, slots := 12, locals := 104 } (pcX G tys ws A tE mi [.ref (ad 0), .int x, .int y]) (va_Qv (fun (w : va_W) => ∃ own2, inv cI cO tE ad own2 w P M V S T n cel ind cr num cur du wi dm np nc ct cf co ca wd) (fun w t => va_P G vwCl w t.heap ∧ va_D A w) A) 2 12 A := by
  have hI0 := hI
  obtain ⟨hV, hL, hF, hR, hC, hP, hM⟩ := hI
  obtain ⟨a3, a4, dr, he, dep, hf, hd, hk, o2, o3, o4, hn20, hok⟩ := hF
  exact mopV (vx_ok (metX7_drive l hnt G tys htI ws hV.1 hf hd hk (by decide) x y) hx) (fun u h => ⟨own, hI0.f (chg.rf.set o2) ⟨a3, a4, x, y, dep, va_ge hf, va_gs (by decide) hd, va_gs (by decide) hk, o2, o3, o4, hn20, hok⟩⟩)
set_option maxHeartbeats 4000000 in
set_option maxRecDepth 100000 in
theorem op_pin {l : Launch} (hnt : l.stackTraces = false) (G : va_G) (tys : List (ClassId × FieldType)) {A : Nat → Prop} {tE mi : Nat} {cI cO : ClassId} (htI : tI tys cI) (htO : tO tys cO) {ad own : Nat → Nat} {ws : va_W} {P M V S T cel ct cf co ca : Nat → Int32} {wd : Nat → Nat → Int32} {n np nc : Nat} {ind cr num cur du : Int32} {wi dm : Int64} (hI : inv cI cO tE ad own ws P M V S T n cel ind cr num cur du wi dm np nc ct cf co ca wd) (x y : Int32) (hx : cdPin x y = 0) : Met l yX7_pin wsX7_pin { frames := 7, cells := 2, slots := 12, locals := 104 } (pcX G tys ws A tE mi [.ref (ad 0), .int x, .int y]) (va_Qi (fun (r : Int32) (w : va_W) => ∃ own2, inv cI cO tE ad own2 w P M V S T n cel ind cr num cur du wi dm np nc ct cf co ca wd) (fun w t => va_P G vwCl w t.heap ∧ va_D A w) A) 2 12 A := by
  have hI0 := hI
  obtain ⟨hV, hL, hF, hR, hC, hP, hM⟩ := hI
  obtain ⟨a3, a4, dr, he, dep, hf, hd, hk, o2, o3, o4, hn20, hok⟩ := hF
  exact mopI (vx_ok (metX7_pin l hnt G tys htI ws hV.1 hf hd hk (by decide) x y) hx) (fun r u h => ⟨own, hI0.f (chg.rf.set o3) ⟨a3, a4, dr, he, _, va_gs (by decide) hf, va_ge hd, va_gs (by decide) hk, o2, o3, o4, hn20, hok⟩⟩)
set_option maxHeartbeats 4000000 in
set_option maxRecDepth 100000 in
theorem op_whirlAt {l : Launch} (hnt : l.stackTraces = false) (G : va_G) (tys : List (ClassId × FieldType)) {A : Nat → Prop} {tE mi : Nat} {cI cO : ClassId} (htI : tI tys cI) (htO : tO tys cO) {ad own : Nat → Nat} {ws : va_W} {P M V S T cel ct cf co ca : Nat → Int32} {wd : Nat → Nat → Int32} {n np nc : Nat} {ind cr num cur du : Int32} {wi dm : Int64} (hI : inv cI cO tE ad own ws P M V S T n cel ind cr num cur du wi dm np nc ct cf co ca wd) (k : Nat) (hkn : k < n) : Met l yX7_whirlAt wsX7_whirlAt { frames := 7, cells := 1, slots := 6, locals := 103 } (pcX G tys ws A tE mi [.ref (ad 0), .int (nI k)]) (va_Qi (fun (r : Int32) (_ : Unit) => r = cel k) (fun _ t => va_P G vwCl ws t.heap ∧ va_D A ws) A) 1 6 A := by
  have hI0 := hI
  obtain ⟨hV, hL, hF, hR, hC, hP, hM⟩ := hI
  obtain ⟨a3, a4, dr, he, dep, hf, hd, hk, o2, o3, o4, hn20, hok⟩ := hF
  exact mopKi (vx_ok (metX7_whirlAt l hnt G tys htI ws hV.1 hf hd hk (nI k)) (cd_if (uK_of hkn (by omega)) rfl)) (fun r u h => h.2.trans (fCell_nI (by omega)))
set_option maxHeartbeats 4000000 in
set_option maxRecDepth 100000 in
theorem op_enter {l : Launch} (hnt : l.stackTraces = false) (G : va_G) (tys : List (ClassId × FieldType)) {A : Nat → Prop} {tE mi : Nat} {cI cO : ClassId} (htI : tI tys cI) (htO : tO tys cO) {ad own : Nat → Nat} {ws : va_W} {P M V S T cel ct cf co ca : Nat → Int32} {wd : Nat → Nat → Int32} {n np nc : Nat} {ind cr num cur du : Int32} {wi dm : Int64} (hI : inv cI cO tE ad own ws P M V S T n cel ind cr num cur du wi dm np nc ct cf co ca wd) (x : Int32) (hx : cdEnter x (nI n) = 0) (hn : n < 20) : Met l yX7_enter wsX7_enter { frames := 7, cells := 2, slots := 12, locals := 104 } (pcX G tys ws A tE mi [.ref (ad 0), .int x]) (va_Qi (fun (r : Int32) (w : va_W) => (r = -1 ∧ ∃ own2, inv cI cO tE ad own2 w P M V S T n cel ind cr num cur du wi dm np nc ct cf co ca wd) ∨ (r = nI n ∧ ∃ (own2 : Nat → Nat) (g : Int32), inv cI cO tE ad own2 w P M V S T (n + 1) (upd cel n g) ind cr num cur du wi dm np nc ct cf co ca wd)) (fun w t => va_P G vwCl w t.heap ∧ va_D A w) A) 2 12 A := by
  have hI0 := hI
  obtain ⟨hV, hL, hF, hR, hC, hP, hM⟩ := hI
  obtain ⟨a3, a4, dr, he, dep, hf, hd, hk, o2, o3, o4, hn20, hok⟩ := hF
  have hcl := vx_ok (metX7_enter (A := A) (tE := tE) (mi := mi) l hnt G tys htI ws hV.1 hf hd hk (by decide) x (nI_pos' (by omega))) hx
  have hnew := fCe_new (cel := cel) (dep := dep) (dr := dr) (w := nI n) 6 (Nat.le_refl 6)
  have hnn : (nI n).toNatClampNeg = n := nI_clamp (by omega)
  by_cases c1 : (fCe cel dep dr (nI n) 6).1 = -1
  · simp only [if_pos c1] at hcl
    exact mopI hcl (fun r u h => Or.inl ⟨h.2, own, hI0⟩)
  · by_cases c2 : fEn cel dep dr (nI n) (fCe cel dep dr (nI n) 6).1 ≤ x
    · simp only [if_neg c1, if_pos c2] at hcl
      rw [hnn, nI_1] at hcl
      exact mopI hcl (fun r u h => Or.inr ⟨h.2, own, _, hI0.f ((chg.rf.set o4).set o2) ⟨a3, a4, dr, he, dep, va_ge (va_gs (by decide) hf), va_gs (by decide) (va_gs (by decide) hd), va_gs (by decide) (va_ge hk), o2, o3, o4, by omega, fOK_enter hok hn hnew⟩⟩)
    · simp only [if_neg c1, if_neg c2] at hcl
      exact mopI hcl (fun r u h => Or.inl ⟨h.2, own, hI0⟩)
set_option maxHeartbeats 4000000 in
set_option maxRecDepth 100000 in
theorem op_avalanche {l : Launch} (hnt : l.stackTraces = false) (G : va_G) (tys : List (ClassId × FieldType)) {A : Nat → Prop} {tE mi : Nat} {cI cO : ClassId} (htI : tI tys cI) (htO : tO tys cO) {ad own : Nat → Nat} {ws : va_W} {P M V S T cel ct cf co ca : Nat → Int32} {wd : Nat → Nat → Int32} {n np nc : Nat} {ind cr num cur du : Int32} {wi dm : Int64} (hI : inv cI cO tE ad own ws P M V S T n cel ind cr num cur du wi dm np nc ct cf co ca wd) : Met l yX7_avalanche wsX7_avalanche { frames := 6, cells := 0, slots := 0, locals := 144 } (pcM G tys ws A [.ref (ad 0)]) (va_Qi (fun (r : Int32) (w : va_W) => ∃ (own2 : Nat → Nat) (cel2 : Nat → Int32), inv cI cO tE ad own2 w P M V S T n cel2 ind cr num cur du wi dm np nc ct cf co ca wd ∧ (∀ j, j < 20 → cel j = -1 → cel2 j = -1) ∧ ∃ m : Nat, m ≤ 1200 ∧ r = nI m) (fun w t => va_P G vwCl w t.heap ∧ va_D A w) A) 0 0 A := by
  have hI0 := hI
  obtain ⟨hV, hL, hF, hR, hC, hP, hM⟩ := hI
  obtain ⟨a3, a4, dr, he, dep, hf, hd, hk, o2, o3, o4, hn20, hok⟩ := hF
  obtain ⟨k1, k2, m, hm, k3⟩ := fAv_ok (dep := dep) (dr := dr) (he := he) hok 60
  exact met_mono (metX7_avalanche l G tys htI ws hV.1 hf hd hk (A := A) (by decide)) (fun _ _ q => q) (fun a s o t hp hq => by
    obtain ⟨⟨r, u, ho, hp1, hB⟩, hF9⟩ := hq
    exact ⟨⟨r, _, ho, ⟨own, _, hI0.f (chg.rf.set o4) ⟨a3, a4, dr, he, dep, va_gs (by decide) hf, va_gs (by decide) hd, va_ge hk, o2, o3, o4, hn20, k1⟩, k2, m, hm, hp1.trans k3⟩, hB, hp.2.2.2.1.set hk⟩, hF9⟩)
set_option maxHeartbeats 4000000 in
set_option maxRecDepth 100000 in
theorem op_ofRing {l : Launch} (hnt : l.stackTraces = false) (G : va_G) (tys : List (ClassId × FieldType)) {A : Nat → Prop} {tE mi : Nat} {cI cO : ClassId} (htI : tI tys cI) (htO : tO tys cO) {ad own : Nat → Nat} {ws : va_W} {P M V S T cel ct cf co ca : Nat → Int32} {wd : Nat → Nat → Int32} {n np nc : Nat} {ind cr num cur du : Int32} {wi dm : Int64} (hI : inv cI cO tE ad own ws P M V S T n cel ind cr num cur du wi dm np nc ct cf co ca wd) : Met l yX7_ofRing wsX7_ofRing { frames := 7, cells := 2, slots := 12, locals := 104 } (pcX G tys ws A tE mi [.ref (ad 0), .int ((0 : Int32)), .int ((0 : Int32))]) (va_Qi (fun (r : Int32) (_ : Unit) => r = num) (fun _ t => va_P G vwCl ws t.heap ∧ va_D A ws) A) 2 12 A := by
  have hI0 := hI
  obtain ⟨hV, hL, hF, hR, hC, hP, hM⟩ := hI
  obtain ⟨q, e, g, fl, sl, hL9, hi0, hrg⟩ := hR
  exact mopKi (vx_ok (metX7_ofRing (ri := fun _ => ind) (rc := fun _ => cr) (rf := fun _ => fl) (rn := fun _ => num) (rs := fun _ => sl) l hnt G tys ws htO hV.1 hL9.1 (fun i hi => (hL9.2.2.2.1 i hi).1) 0 0) (by decide)) (fun r u h => h.2.trans (if_pos rfl))
set_option maxHeartbeats 4000000 in
set_option maxRecDepth 100000 in
theorem op_flux {l : Launch} (hnt : l.stackTraces = false) (G : va_G) (tys : List (ClassId × FieldType)) {A : Nat → Prop} {tE mi : Nat} {cI cO : ClassId} (htI : tI tys cI) (htO : tO tys cO) {ad own : Nat → Nat} {ws : va_W} {P M V S T cel ct cf co ca : Nat → Int32} {wd : Nat → Nat → Int32} {n np nc : Nat} {ind cr num cur du : Int32} {wi dm : Int64} (hI : inv cI cO tE ad own ws P M V S T n cel ind cr num cur du wi dm np nc ct cf co ca wd) (x : Int32) (h1 : -1000000 ≤ x.toInt) (h2 : x.toInt ≤ 1000000) : Met l yX7_flux wsX7_flux { frames := 7, cells := 2, slots := 12, locals := 104 } (pcX G tys ws A tE mi [.ref (ad 0), .int ((0 : Int32)), .int x]) (va_Qi (fun (r : Int32) (w : va_W) => ∃ (own2 : Nat → Nat) (num2 : Int32), inv cI cO tE ad own2 w P M V S T n cel ind cr num2 cur du wi dm np nc ct cf co ca wd ∧ ¬ ind = 0 ∧ r = num2 - num ∧ rStop ind cr x num2) (fun w t => va_P G vwCl w t.heap ∧ va_D A w) A) 2 12 A := by
  have hI0 := hI
  obtain ⟨hV, hL, hF, hR, hC, hP, hM⟩ := hI
  obtain ⟨q, e, g, fl, sl, hL9, hi0, hrg⟩ := hR
  have hcr0 : 0 ≤ cr.toInt := by have := hrg.2.1.1; omega
  have hz0 : (0 : Int32).toNatClampNeg < 1 := by decide
  have hcd : cdFlux 0 x (nI 1) = 0 := cd_if (by decide) (cd_if (oR_of (a := -1000000) (b := 1000000) (by decide) (by decide) rfl h1 h2) rfl)
  refine mopI (vx_ok (metX7_fluxT (ri := fun _ => ind) (rc := fun _ => cr) (rf := fun _ => fl) (rn := fun _ => num) (rs := fun _ => sl) l hnt G tys ws htO hV.1 hL9.1 (fun i hi => (hL9.2.2.2.1 i hi).1) 0 x (fun _ _ => flux_term rfl hrg.1.1 rfl h1 h2 rfl hcr0 hrg.2.2.2)) hcd) (fun r u h => ?_)
  obtain ⟨-, h3, h4, h5⟩ := h
  have hset := hL9.set (by decide) hz0 [.int ind, .int cr, .int x, .int (rIt ind x num u), .int (sl + nI u)]
  exact ⟨own, _, hI0.r hset.2 ⟨q, e, g, x, sl + nI u, hset.1.vs (fun i hi => if_pos (by omega)), hi0, hrg.1, hrg.2.1, ⟨h1, h2⟩, flux_rng rfl hrg.1.1 hrg.1.2 rfl h1 h2 rfl hcr0 hrg.2.1.2 hrg.2.2.2 h4 h5⟩, hi0, h3, h4⟩
set_option maxHeartbeats 4000000 in
set_option maxRecDepth 100000 in
theorem op_point {l : Launch} (hnt : l.stackTraces = false) (G : va_G) (tys : List (ClassId × FieldType)) {A : Nat → Prop} {tE mi : Nat} {cI cO : ClassId} (htI : tI tys cI) (htO : tO tys cO) {ad own : Nat → Nat} {ws : va_W} {P M V S T cel ct cf co ca : Nat → Int32} {wd : Nat → Nat → Int32} {n np nc : Nat} {ind cr num cur du : Int32} {wi dm : Int64} (hI : inv cI cO tE ad own ws P M V S T n cel ind cr num cur du wi dm np nc ct cf co ca wd) (x y z : Int32) (hx : cdPoint x y z (nI np) = 0) (hnp : np < 60) (e1 : P np = x) (e2 : M np = y) (e3 : V np = z) : Met l yX7_point wsX7_point { frames := 8, cells := 6, slots := 227, locals := 225 } (pcX G tys ws A tE mi [.ref (ad 0), .int x, .int y, .int z]) (va_Qi (fun (r : Int32) (w : va_W) => r = nI (np + 1) ∧ ∃ own2, inv cI cO tE ad own2 w P M V S T n cel ind cr num cur du wi dm (np + 1) nc ct cf co ca wd) (fun w t => va_P G vwCl w t.heap ∧ va_D A w) A) 6 227 A := by
  have hI0 := hI
  obtain ⟨hV, hL, hF, hR, hC, hP, hM⟩ := hI
  obtain ⟨q, e, g, hL9, hn60⟩ := hP
  refine mopI (vx_ok (metX7_point (pt := P) (pu := M) (pw := V) l hnt G tys ws htO hV.1 hL9.1 (fun i hi => (hL9.2.2.2.1 i hi).1) x y z hn60) hx) (fun r u h => ?_)
  obtain ⟨-, h3, h4⟩ := h
  obtain ⟨q2, hp2, hc, -, -⟩ := hL9.add (by decide) h4
  exact ⟨h3, _, hI0.p (Nat.le_succ np) hc ⟨q2, _, _, hp2.vs (fun i hi => by
    by_cases c : i = np
    · rw [if_pos c, c, e1, e2, e3]
    · rw [if_neg c]), by omega⟩⟩
set_option maxHeartbeats 4000000 in
set_option maxRecDepth 100000 in
theorem op_judge {l : Launch} (hnt : l.stackTraces = false) (G : va_G) (tys : List (ClassId × FieldType)) {A : Nat → Prop} {tE mi : Nat} {cI cO : ClassId} (htI : tI tys cI) (htO : tO tys cO) {ad own : Nat → Nat} {ws : va_W} {P M V S T cel ct cf co ca : Nat → Int32} {wd : Nat → Nat → Int32} {n np nc : Nat} {ind cr num cur du : Int32} {wi dm : Int64} (hI : inv cI cO tE ad own ws P M V S T n cel ind cr num cur du wi dm np nc ct cf co ca wd) (k : Nat) (hkn : k < nc) (x : Int32) (hx : ¬ oR x 0 1000000) : Met l yX7_judge wsX7_judge { frames := 7, cells := 2, slots := 12, locals := 114 } (pcX G tys ws A tE mi [.ref (ad 0), .int (nI k), .int x]) (va_Qi (fun (r : Int32) (_ : Unit) => r = jVer (jOpen P M V x (ct k) (cf k).toNatClampNeg ((co k).toNatClampNeg + 1 - (cf k).toNatClampNeg)) (cf k) (co k) (ca k) (wd k)) (fun _ t => va_P G vwCl ws t.heap ∧ va_D A ws) A) 2 12 A := by
  have hI0 := hI
  obtain ⟨hV, hL, hF, hR, hC, hP, hM⟩ := hI
  obtain ⟨q6, e6, g6, hL6, hn60⟩ := hP
  obtain ⟨q, e, g, gW, aW, hL9, hW, hWi, hn8, hcl⟩ := hM
  have hkk : (nI k).toNatClampNeg = k := nI_clamp (by omega)
  exact mopKi (vx_ok (metX7_judge (pt := P) (pu := M) (pw := V) (ct := ct) (cf := cf) (co2 := co) (ca := ca) (wd := wd) l hnt G tys htI ws htO hV.1 hL6.1 (fun i hi => (hL6.2.2.2.1 i hi).1) hL9.1 (fun i hi => (hL9.2.2.2.1 i hi).1) (fun i hi => (hW i hi).1) hn60 hcl (nI k) x) (cd_if (uK_of hkn (by omega)) (cd_if hx rfl))) (fun r u h => by rw [hkk] at h; exact h.2)
set_option maxHeartbeats 4000000 in
set_option maxRecDepth 100000 in
theorem op_repeats {l : Launch} (hnt : l.stackTraces = false) (G : va_G) (tys : List (ClassId × FieldType)) {A : Nat → Prop} {tE mi : Nat} {cI cO : ClassId} (htI : tI tys cI) (htO : tO tys cO) {ad own : Nat → Nat} {ws : va_W} {P M V S T cel ct cf co ca : Nat → Int32} {wd : Nat → Nat → Int32} {n np nc : Nat} {ind cr num cur du : Int32} {wi dm : Int64} (hI : inv cI cO tE ad own ws P M V S T n cel ind cr num cur du wi dm np nc ct cf co ca wd) (k h : Nat) (hkn : k < nc) (hh : h < 7) (x : Int32) : Met l yX7_repeats wsX7_repeats { frames := 7, cells := 2, slots := 12, locals := 103 } (pcX G tys ws A tE mi [.ref (ad 0), .int (nI k), .int (nI h), .int x]) (va_Qi (fun (r : Int32) (w : va_W) => r = hCnt (upd (wd k) h (if x = 0 then 2 else 1)) 1 7 ∧ ∃ own2, inv cI cO tE ad own2 w P M V S T n cel ind cr num cur du wi dm np nc ct cf co ca (fun i => if i = k then upd (wd k) h (if x = 0 then 2 else 1) else wd i)) (fun w t => va_P G vwCl w t.heap ∧ va_D A w) A) 2 12 A := by
  have hI0 := hI
  obtain ⟨hV, hL, hF, hR, hC, hP, hM⟩ := hI
  obtain ⟨q6, e6, g6, hL6, hn60⟩ := hP
  obtain ⟨q, e, g, gW, aW, hL9, hW, hWi, hn8, hcl⟩ := hM
  have hkk : (nI k).toNatClampNeg = k := nI_clamp (by omega)
  have hhh : (nI h).toNatClampNeg = h := nI_clamp (by omega)
  have hcl9 := vx_ok (metX7_repeats (A := A) (mi := mi) (pt := P) (pu := M) (pw := V) (ct := ct) (cf := cf) (co2 := co) (ca := ca) (wd := wd) l hnt G tys htI ws htO hV.1 hL6.1 (fun i hi => (hL6.2.2.2.1 i hi).1) hL9.1 (fun i hi => (hL9.2.2.2.1 i hi).1) (fun i hi => (hW i hi).1) (nI k) (nI h) x) (cd_if (uK_of hkn (by omega)) (cd_if (uK_of hh (by decide)) rfl))
  rw [hkk, hhh] at hcl9
  refine mopI hcl9 (fun r u hp => ⟨hp.2, own, hI0.m (chg.rf.set (hW k hkn).2) ⟨q, e, g, gW, aW, hL9.keep (hW k hkn).1, fun i hi => ⟨?_, (hW i hi).2⟩, hWi, hn8, hcl⟩⟩)
  dsimp only
  by_cases c : i = k
  · rw [if_pos c, c]; exact va_ge (hW k hkn).1
  · rw [if_neg c]; exact va_gs (fun c2 => c (hWi i k hi hkn c2)) (hW i hi).1
set_option maxHeartbeats 4000000 in
set_option maxRecDepth 100000 in
theorem op_claim {l : Launch} (hnt : l.stackTraces = false) (G : va_G) (tys : List (ClassId × FieldType)) {A : Nat → Prop} {tE mi : Nat} {cI cO : ClassId} (htI : tI tys cI) (htO : tO tys cO) {ad own : Nat → Nat} {ws : va_W} {P M V S T cel ct cf co ca : Nat → Int32} {wd : Nat → Nat → Int32} {n np nc : Nat} {ind cr num cur du : Int32} {wi dm : Int64} (hI : inv cI cO tE ad own ws P M V S T n cel ind cr num cur du wi dm np nc ct cf co ca wd) (x : Int32) (a b : Nat) (hx : ¬ oR x 1 300) (hab : a ≤ b) (hb : b < np) (hnc : nc < 8) : Met l yX7_claim wsX7_claim { frames := 8, cells := 8, slots := 242, locals := 225 } (pcX G tys ws A tE mi [.ref (ad 0), .int x, .int (nI a), .int (nI b)]) (va_Qi (fun (r : Int32) (w : va_W) => r = nI nc ∧ ∃ own2, inv cI cO tE ad own2 w P M V S T n cel ind cr num cur du wi dm np (nc + 1) (upd ct nc x) (upd cf nc (nI a)) (upd co nc (nI b)) (upd ca nc (nI np)) (va_up wd nc (fun _ => 0))) (fun w t => va_P G vwCl w t.heap ∧ va_D A w) A) 8 242 A := by
  have hI0 := hI
  obtain ⟨hV, hL, hF, hR, hC, hP, hM⟩ := hI
  obtain ⟨q6, e6, g6, hL6, hn60⟩ := hP
  obtain ⟨q, e, g, gW, aW, hL9, hW, hWi, hn8, hcl⟩ := hM
  have hto : ¬ oR (nI b) (nI a) (nI np - 1) := by
    rw [show nI np - 1 = nI (np - 1) from nI_m1' (by omega)]
    exact oR_of (a := (a : Int)) (b := ((np - 1 : Nat) : Int)) (c := (b : Int)) (nI_toInt (by omega)) (nI_toInt (by omega)) (nI_toInt (by omega)) (by omega) (by omega)
  have hcd : cdClaim x (nI a) (nI b) (nI np) (nI nc) = 0 := cd_if (uK_of (by omega) (by omega)) (cd_if (uK_of hb (by omega)) (cd_if hx (cd_if hto (cd_if (show ¬ nI 8 ≤ nI nc from nI_ge hnc (by decide)) rfl))))
  · refine mopI (vx_ok (metX7_claim (pt := P) (pu := M) (pw := V) (ct := ct) (cf := cf) (co2 := co) (ca := ca) (wd := wd) l hnt G tys htI ws htO hV.1 hL6.1 (fun i hi => (hL6.2.2.2.1 i hi).1) hL9.1 (fun i hi => (hL9.2.2.2.1 i hi).1) (fun i hi => (hW i hi).1) x (nI a) (nI b) (by omega)) hcd) (fun r u h => ?_)
    obtain ⟨-, h3, h4⟩ := h
    obtain ⟨q2, hL2, hc, hmo, hki⟩ := hL9.add (by decide) h4
    refine ⟨h3, _, hI0.m hc ⟨q2, _, _, va_up gW nc (ws.length + 1), va_up aW nc u.2.1, hL2.vs (fun i hi => ?_), fun i hi => ?_, fun i j hi hj c => ?_, by omega, fun i hi => ?_⟩⟩
    · by_cases c : i = nc
      · rw [if_pos c, c, upd_at, upd_at, upd_at, upd_at, va_up_self]
      · rw [if_neg c, upd_ne c, upd_ne c, upd_ne c, upd_ne c, va_up_ne _ _ c]
    · by_cases c : i = nc
      · rw [c, va_up_self, va_up_self, va_up_self]
        exact ⟨hmo 0 _ rfl, if_neg (by omega)⟩
      · rw [va_up_ne _ _ c, va_up_ne _ _ c, va_up_ne _ _ c]
        have hwi := hW i (by omega)
        exact ⟨hki _ _ _ _ _ hwi.1, by dsimp only; rw [if_pos (pl_lt hwi.1)]; exact hwi.2⟩
    · by_cases c1 : i = nc
      · by_cases c2 : j = nc
        · omega
        · rw [c1, va_up_self, va_up_ne _ _ c2] at c
          have := pl_lt (hW j (by omega)).1
          omega
      · by_cases c2 : j = nc
        · rw [c2, va_up_self, va_up_ne _ _ c1] at c
          have := pl_lt (hW i (by omega)).1
          omega
        · rw [va_up_ne _ _ c1, va_up_ne _ _ c2] at c
          exact hWi i j (by omega) (by omega) c
    · by_cases c : i = nc
      · rw [c, upd_at, upd_at]
        exact ⟨a, b, rfl, rfl, hab, hb⟩
      · rw [upd_ne c, upd_ne c]; exact hcl i (by omega)
