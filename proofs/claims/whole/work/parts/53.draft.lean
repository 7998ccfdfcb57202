set_option maxHeartbeats 4000000 in
set_option maxRecDepth 100000 in
theorem sem_current (l : Launch) (hnt : l.stackTraces = false) (G : va_G) (tys : List (ClassId × FieldType)) {A : Nat → Prop} {tE mi : Nat} {cI cO cJ cB : ClassId} (htI : tI tys cI) (htO : tO tys cO) (htJ : tys[2]? = some (cJ, .long)) (htB : tys[3]? = some (cB, .double)) {v am oj od : Nat} {ws : va_W} (h : INV cI cO cJ cB tE v am oj od ws) (x : Int32) : ∃ Mid : Int32 → va_W → Prop, Met l yL_current wsL_current { frames := 8, cells := 1, slots := 6, locals := 126 } (pcX G tys ws A tE mi [.ref v, .int x, .ref oj]) (va_Qi (fun (r : Int32) (w : va_W) => Mid r w) (fun w t => va_P G vwCl w t.heap ∧ va_D A w) A) 1 6 A ∧ ∀ k w, Mid k w → (∃ vs, w[12]? = some (am, .inr (9, vs))) ∧ Met l yX8_current wsX8_current { frames := 1, cells := 0, slots := 0, locals := 22 } (pcM G tys w A [.ref am, .int x]) (va_Qi (fun (r : Int32) (w2 : va_W) => EndI cJ am oj (INV cI cO cJ cB tE v am oj od) w2 r k) (fun w2 t => va_P G vwCl w2 t.heap ∧ va_D A w2) A) 0 0 A := by
  obtain ⟨own, ad, z, F, wi, dm, ⟨aS, af, aR, ao, ak, aP, aC⟩, np, hI⟩ := h
  have hI0 := hI
  obtain ⟨hb, hv, o0, hO, hg⟩ := hI
  have hv : ws[0]? = some (v, .inr (8, [.ref aS, .ref af, .ref aR, .ref ao, .ref ak, .ref aP, .ref aC])) := hv
  have o12 := hO 12 (by decide) (by decide)
  have o36 := hO 36 (by decide) (by decide)
  have o37 := hO 37 (by decide) (by decide)
  obtain ⟨pw, pz, aw, az, wm, sp, cur, du, ir, cwi, cdm, ho6, hw, hzp, nwz, o6, opw, opz, hcr⟩ := hg 4 (by decide)
  have ho6 : ws[6]? = some (ao, .inr (2, [.ref aw, .ref az, .int cur, .int du, .int ir, .long cwi, .long cdm])) := ho6
  have nw6 : pw ≠ 6 := ne_lr hw ho6
  have nz6 : pz ≠ 6 := ne_lr hzp ho6
  have hc1 : cdCurrent x = 0 → chg own own 4 ws (ws.set 6 (ao, .inr (2, [.ref aw, .ref az, .int x, .int 0, .int 0, .long cwi, .long cdm]))) := fun hc0 => by
    exact chg.rf.set o6
  refine ⟨_, metL_current l G tys htJ ws hv (metX7_current l hnt G tys htI ws hv ho6 hw hzp nwz x) (fun hc0 r u hp => (hb.k (by decide) hO (hc1 hc0)).2.2.1) (by unfold cdCurrent; (repeat' split) <;> decide) (by unfold cdCurrent; (repeat' split) <;> decide), ?_⟩
  intro k w hM
  rcases hM with ⟨hc0, hk0, hw0⟩ | ⟨hc0, hk0, r, u, f, hp, ho, hw0⟩
  · rw [hw0, hk0]
    refine ⟨⟨_, hb.1⟩, mopI (metX8_current (F := F) l G tys htI (ws) hb.1 x) (fun r u _ => ?_)⟩
    rw [if_neg hc0]
    exact ⟨⟨ad, _, wi, dm, va_ge hb.1, upd_at⟩, fun q => absurd q hc0, INV_ref hI0 _⟩
  · have hp : r = cur := hp
    have ho : (ws.set 6 (ao, .inr (2, [.ref aw, .ref az, .int x, .int 0, .int 0, .long cwi, .long cdm])))[36]? = some (oj, .inl (cJ, 1, .inr (.inl f))) := ho
    have hw0 : w = (ws.set 6 (ao, .inr (2, [.ref aw, .ref az, .int x, .int 0, .int 0, .long cwi, .long cdm]))).set 36 (oj, .inl (cJ, 1, .inr (.inl (vp_updL f (0 : Int32).toNatClampNeg r.toInt64)))) := hw0
    have hcc := hc0
    unfold cdCurrent at hcc
    obtain ⟨k0, hcc⟩ := cd1 (by decide) hcc
    have hc1 := hc1 hc0
    have hO2 := hO
    have hb1 := hb.k (by decide) hO hc1
    have hb2 := hb1.o (vp_updL f (0 : Int32).toNatClampNeg r.toInt64)
    rw [hw0, hk0]
    refine ⟨⟨_, hb2.1⟩, mopI (metX8_current (F := F) l G tys htI ((ws.set 6 (ao, .inr (2, [.ref aw, .ref az, .int x, .int 0, .int 0, .long cwi, .long cdm]))).set 36 (oj, .inl (cJ, 1, .inr (.inl (vp_updL f (0 : Int32).toNatClampNeg r.toInt64))))) hb2.1 x) (fun r2 u2 hp2 => ?_)⟩
    rw [if_pos hc0]
    have hb3 := ((((hb2).m (upd z 0 0) wi dm).m (upd (upd z 0 0) 21 x) wi dm).m (upd (upd (upd z 0 0) 21 x) 22 0) wi dm).m (upd (upd (upd (upd z 0 0) 21 x) 22 0) 23 0) wi dm
    refine ⟨⟨ad, _, _, _, hb3.1, rfl⟩, fun _ => ⟨_, va_gs (by decide) (va_gs (by decide) (va_gs (by decide) (va_gs (by decide) (va_ge ho)))), ?_⟩, INV_next hI0 4 (by decide) hc1 ((((((chz.rf (own := own)).set (hO2 36 (by decide) (by decide))).set (hO2 12 (by decide) (by decide))).set (hO2 12 (by decide) (by decide))).set (hO2 12 (by decide) (by decide))).set (hO2 12 (by decide) (by decide))) hb3 ((((agb.rf.zz 0 0 (Or.inl rfl)).zz 21 x (Or.inr rfl)).zz 22 0 (Or.inr rfl)).zz 23 0 (Or.inr rfl)) (Nat.le_refl _) (fun _ => rfl) ?_⟩
    · rw [updL_0]
      rw [hp2 hc0, hp]; exact congrArg _ hcr.2.1
    · exact ⟨pw, pz, aw, az, wm, sp, x, 0, 0, cwi, cdm, va_ge ho6, va_gs nw6 hw, va_gs nz6 hzp, nwz, o6, opw, opz, hcr.1, rfl, rfl, Or.inl rfl, rfl, hcr.2.2.2.2.2.1, hcr.2.2.2.2.2.2⟩
set_option maxHeartbeats 4000000 in
set_option maxRecDepth 100000 in
theorem sem_heat (l : Launch) (hnt : l.stackTraces = false) (G : va_G) (tys : List (ClassId × FieldType)) {A : Nat → Prop} {tE mi : Nat} {cI cO cJ cB : ClassId} (htI : tI tys cI) (htO : tO tys cO) (htJ : tys[2]? = some (cJ, .long)) (htB : tys[3]? = some (cB, .double)) {v am oj od : Nat} {ws : va_W} (h : INV cI cO cJ cB tE v am oj od ws) (x y : Int32) : ∃ Mid : Int32 → va_W → Prop, Met l yL_heat wsL_heat { frames := 8, cells := 2, slots := 12, locals := 126 } (pcX G tys ws A tE mi [.ref v, .int x, .int y, .ref oj]) (va_Qi (fun (r : Int32) (w : va_W) => Mid r w) (fun w t => va_P G vwCl w t.heap ∧ va_D A w) A) 2 12 A ∧ ∀ k w, Mid k w → (∃ vs, w[12]? = some (am, .inr (9, vs))) ∧ Met l yX8_heat wsX8_heat { frames := 1, cells := 0, slots := 0, locals := 22 } (pcM G tys w A [.ref am, .int x, .int y]) (va_Qi (fun (r : Int32) (w2 : va_W) => EndI cJ am oj (INV cI cO cJ cB tE v am oj od) w2 r k) (fun w2 t => va_P G vwCl w2 t.heap ∧ va_D A w2) A) 0 0 A := by
  obtain ⟨own, ad, z, F, wi, dm, ⟨aS, af, aR, ao, ak, aP, aC⟩, np, hI⟩ := h
  have hI0 := hI
  obtain ⟨hb, hv, o0, hO, hg⟩ := hI
  have hv : ws[0]? = some (v, .inr (8, [.ref aS, .ref af, .ref aR, .ref ao, .ref ak, .ref aP, .ref aC])) := hv
  have o12 := hO 12 (by decide) (by decide)
  have o36 := hO 36 (by decide) (by decide)
  have o37 := hO 37 (by decide) (by decide)
  obtain ⟨pw, pz, aw, az, wm, sp, cur, du, ir, cwi, cdm, ho6, hw, hzp, nwz, o6, opw, opz, hcr⟩ := hg 4 (by decide)
  have ho6 : ws[6]? = some (ao, .inr (2, [.ref aw, .ref az, .int cur, .int du, .int ir, .long cwi, .long cdm])) := ho6
  have nw6 : pw ≠ 6 := ne_lr hw ho6
  have nz6 : pz ≠ 6 := ne_lr hzp ho6
  have hc1 : cdHeat x y = 0 → chg own own 4 ws (ws.set pw (aw, .inl (cI, 12, .inl (upd wm x.toNatClampNeg (jmin 1000 (wm x.toNatClampNeg + y)))))) := fun hc0 => by
    exact chg.rf.set opw
  refine ⟨_, metL_heat l G tys htJ ws hv (metX7_heat l hnt G tys htI ws hv ho6 hw hzp nwz x y) (fun hc0 r u hp => (hb.k (by decide) hO (hc1 hc0)).2.2.1) (by unfold cdHeat; (repeat' split) <;> decide), ?_⟩
  intro k w hM
  rcases hM with ⟨hc0, hk0, hw0⟩ | ⟨hc0, hk0, r, u, f, hp, ho, hw0⟩
  · rw [hw0, hk0]
    refine ⟨⟨_, hb.1⟩, mopI (metX8_heat (F := F) l G tys htI (ws) hb.1 (hb.r 26 12 (by decide)) x y) (fun r u _ => ?_)⟩
    rw [if_neg hc0]
    exact ⟨⟨ad, _, wi, dm, va_ge hb.1, upd_at⟩, fun q => absurd q hc0, INV_ref hI0 _⟩
  · have hp : r = jmin 1000 (wm x.toNatClampNeg + y) := hp
    have ho : (ws.set pw (aw, .inl (cI, 12, .inl (upd wm x.toNatClampNeg (jmin 1000 (wm x.toNatClampNeg + y))))))[36]? = some (oj, .inl (cJ, 1, .inr (.inl f))) := ho
    have hw0 : w = (ws.set pw (aw, .inl (cI, 12, .inl (upd wm x.toNatClampNeg (jmin 1000 (wm x.toNatClampNeg + y)))))).set 36 (oj, .inl (cJ, 1, .inr (.inl (vp_updL f (0 : Int32).toNatClampNeg r.toInt64)))) := hw0
    have hcc := hc0
    unfold cdHeat at hcc
    obtain ⟨k0, hcc⟩ := cd1 (by decide) hcc
    obtain ⟨k1, hcc⟩ := cd1 (by decide) hcc
    have hwx : wm x.toNatClampNeg = F 26 x.toNatClampNeg := hcr.1 _ (uK_ix (n := 12) k0).2
    have hc1 := hc1 hc0
    have hO2 := hO
    have hb1 := hb.k (by decide) hO hc1
    have hb2 := hb1.o (vp_updL f (0 : Int32).toNatClampNeg r.toInt64)
    rw [hw0, hk0]
    refine ⟨⟨_, hb2.1⟩, mopI (metX8_heat (F := F) l G tys htI ((ws.set pw (aw, .inl (cI, 12, .inl (upd wm x.toNatClampNeg (jmin 1000 (wm x.toNatClampNeg + y)))))).set 36 (oj, .inl (cJ, 1, .inr (.inl (vp_updL f (0 : Int32).toNatClampNeg r.toInt64))))) hb2.1 (hb2.r 26 12 (by decide)) x y) (fun r2 u2 hp2 => ?_)⟩
    rw [if_pos hc0]
    have hb3 := ((hb2).m (upd z 0 0) wi dm).a 26 12 (upd (F 26) x.toNatClampNeg (jmin 1000 (F 26 x.toNatClampNeg + y))) (by decide)
    refine ⟨⟨ad, _, _, _, hb3.1, rfl⟩, fun _ => ⟨_, va_gs (by decide) (va_gs (by decide) (va_ge ho)), ?_⟩, INV_next hI0 4 (by decide) hc1 ((((chz.rf (own := own)).set (hO2 36 (by decide) (by decide))).set (hO2 12 (by decide) (by decide))).set (hO2 26 (by decide) (by decide))) hb3 ((agb.rf.zz 0 0 (Or.inl rfl)).f 26 _ rfl) (Nat.le_refl _) (fun _ => rfl) ?_⟩
    · rw [updL_0]
      rw [hp2 hc0, hp, hwx]
    · refine ⟨pw, pz, aw, az, _, sp, cur, du, ir, cwi, cdm, va_gs nw6.symm ho6, va_ge hw, va_gs nwz.symm hzp, nwz, o6, opw, opz, fun k hk => ?_, hcr.2⟩
      show upd wm x.toNatClampNeg (jmin 1000 (wm x.toNatClampNeg + y)) k = upd (F 26) x.toNatClampNeg (jmin 1000 (F 26 x.toNatClampNeg + y)) k
      rw [hwx]
      by_cases c : k = x.toNatClampNeg
      · rw [c, upd_at, upd_at]
      · rw [upd_ne c, upd_ne c]; exact hcr.1 k hk
set_option maxHeartbeats 4000000 in
set_option maxRecDepth 100000 in
theorem sem_warmth (l : Launch) (hnt : l.stackTraces = false) (G : va_G) (tys : List (ClassId × FieldType)) {A : Nat → Prop} {tE mi : Nat} {cI cO cJ cB : ClassId} (htI : tI tys cI) (htO : tO tys cO) (htJ : tys[2]? = some (cJ, .long)) (htB : tys[3]? = some (cB, .double)) {v am oj od : Nat} {ws : va_W} (h : INV cI cO cJ cB tE v am oj od ws) (x : Int32) : ∃ Mid : Int32 → va_W → Prop, Met l yL_warmth wsL_warmth { frames := 8, cells := 1, slots := 6, locals := 124 } (pcX G tys ws A tE mi [.ref v, .int x, .ref oj]) (va_Qi (fun (r : Int32) (w : va_W) => Mid r w) (fun w t => va_P G vwCl w t.heap ∧ va_D A w) A) 1 6 A ∧ ∀ k w, Mid k w → (∃ vs, w[12]? = some (am, .inr (9, vs))) ∧ Met l yX8_warmth wsX8_warmth { frames := 1, cells := 0, slots := 0, locals := 22 } (pcM G tys w A [.ref am, .int x]) (va_Qi (fun (r : Int32) (w2 : va_W) => EndI cJ am oj (INV cI cO cJ cB tE v am oj od) w2 r k) (fun w2 t => va_P G vwCl w2 t.heap ∧ va_D A w2) A) 0 0 A := by
  obtain ⟨own, ad, z, F, wi, dm, ⟨aS, af, aR, ao, ak, aP, aC⟩, np, hI⟩ := h
  have hI0 := hI
  obtain ⟨hb, hv, o0, hO, hg⟩ := hI
  have hv : ws[0]? = some (v, .inr (8, [.ref aS, .ref af, .ref aR, .ref ao, .ref ak, .ref aP, .ref aC])) := hv
  have o12 := hO 12 (by decide) (by decide)
  have o36 := hO 36 (by decide) (by decide)
  have o37 := hO 37 (by decide) (by decide)
  obtain ⟨pw, pz, aw, az, wm, sp, cur, du, ir, cwi, cdm, ho6, hw, hzp, nwz, o6, opw, opz, hcr⟩ := hg 4 (by decide)
  have ho6 : ws[6]? = some (ao, .inr (2, [.ref aw, .ref az, .int cur, .int du, .int ir, .long cwi, .long cdm])) := ho6
  have nw6 : pw ≠ 6 := ne_lr hw ho6
  have nz6 : pz ≠ 6 := ne_lr hzp ho6
  refine ⟨_, metL_warmth l G tys htJ ws hv (metX7_warmth l hnt G tys htI ws hv ho6 hw hzp nwz x) (fun _ _ _ _ => hb.2.2.1) (by unfold cdOne; (repeat' split) <;> decide) (by unfold cdOne; (repeat' split) <;> decide), ?_⟩
  intro k w hM
  rcases hM with ⟨hc0, hk0, hw0⟩ | ⟨hc0, hk0, r, u, f, hp, ho, hw0⟩
  · rw [hw0, hk0]
    refine ⟨⟨_, hb.1⟩, mopI (metX8_warmth (F := F) l G tys htI (ws) hb.1 (hb.r 26 12 (by decide)) x) (fun r u _ => ?_)⟩
    rw [if_neg hc0]
    exact ⟨⟨ad, _, wi, dm, va_ge hb.1, upd_at⟩, fun q => absurd q hc0, INV_ref hI0 _⟩
  · have hp : r = wm x.toNatClampNeg := hp
    have ho : ws[36]? = some (oj, .inl (cJ, 1, .inr (.inl f))) := ho
    have hw0 : w = ws.set 36 (oj, .inl (cJ, 1, .inr (.inl (vp_updL f (0 : Int32).toNatClampNeg r.toInt64)))) := hw0
    have hcc := hc0
    unfold cdOne at hcc
    obtain ⟨k0, hcc⟩ := cd1 (by decide) hcc
    have hb2 := hb.o (vp_updL f (0 : Int32).toNatClampNeg r.toInt64)
    rw [hw0, hk0]
    refine ⟨⟨_, hb2.1⟩, mopI (metX8_warmth (F := F) l G tys htI (ws.set 36 (oj, .inl (cJ, 1, .inr (.inl (vp_updL f (0 : Int32).toNatClampNeg r.toInt64))))) hb2.1 (hb2.r 26 12 (by decide)) x) (fun r2 u2 hp2 => ?_)⟩
    rw [if_pos hc0]
    refine ⟨⟨ad, _, _, _, va_ge hb2.1, rfl⟩, fun _ => ⟨_, va_gs (by decide) (va_ge ho), ?_⟩, INV_rd hI0 hb2 (chz.rf.set o36)⟩
    rw [updL_0]
    rw [hp2 hc0, hp, hcr.1 _ (uK_ix (n := 12) k0).2]
theorem cOf_eq {cur du ir cur2 du2 ir2 : Int32} {wi dm wi2 dm2 : Int64} {wm sp wm2 sp2 : Nat → Int32} {w : Int32} (h : coilR (wm, sp, cur, du, ir, wi, dm) (wm2, sp2, cur2, du2, ir2, wi2, dm2)) : cOf cur du wi dm wm w = (if w = 0 then (mCnt cur2 wm2 0 12).toInt64 else if w = 1 then (mCnt cur2 wm2 0 6 - mCnt cur2 wm2 6 6).toInt64 else if w = 2 then (if du2 = 0 then 0 else 1) else if w = 3 then wi2 else if w = 4 then dm2 else cSto cur2) := by
  obtain ⟨h1, h2, h3, h4, h5, h6, h7⟩ := h
  dsimp only at h1 h2 h3 h4 h5 h6 h7
  subst h2; subst h3; subst h5; subst h6; subst h7
  unfold cOf cDoubt
  rw [mCnt_eq, mCnt_eq, mCnt_eq, cCnt_congr 12 (fun j hj => h1 (0 + j) (by omega)), cCnt_congr 6 (fun j hj => h1 (0 + j) (by omega)), cCnt_congr 6 (fun j hj => h1 (6 + j) (by omega))]
set_option maxHeartbeats 4000000 in
set_option maxRecDepth 100000 in
theorem sem_ofCoil (l : Launch) (hnt : l.stackTraces = false) (G : va_G) (tys : List (ClassId × FieldType)) {A : Nat → Prop} {tE mi : Nat} {cI cO cJ cB : ClassId} (htI : tI tys cI) (htO : tO tys cO) (htJ : tys[2]? = some (cJ, .long)) (htB : tys[3]? = some (cB, .double)) {v am oj od : Nat} {ws : va_W} (h : INV cI cO cJ cB tE v am oj od ws) (x : Int32) : ∃ Mid : Int32 → va_W → Prop, Met l yL_ofCoil wsL_ofCoil { frames := 8, cells := 1, slots := 6, locals := 125 } (pcX G tys ws A tE mi [.ref v, .int x, .ref oj]) (va_Qi (fun (r : Int32) (w : va_W) => Mid r w) (fun w t => va_P G vwCl w t.heap ∧ va_D A w) A) 1 6 A ∧ ∀ k w, Mid k w → (∃ vs, w[12]? = some (am, .inr (9, vs))) ∧ Met l yX8_ofCoil wsX8_ofCoil { frames := 3, cells := 0, slots := 0, locals := 65 } (pcM G tys w A [.ref am, .int x]) (va_Ql (fun (r : Int64) (w2 : va_W) => EndL cJ am oj (INV cI cO cJ cB tE v am oj od) w2 r k) (fun w2 t => va_P G vwCl w2 t.heap ∧ va_D A w2) A) 0 0 A := by
  obtain ⟨own, ad, z, F, wi, dm, ⟨aS, af, aR, ao, ak, aP, aC⟩, np, hI⟩ := h
  have hI0 := hI
  obtain ⟨hb, hv, o0, hO, hg⟩ := hI
  have hv : ws[0]? = some (v, .inr (8, [.ref aS, .ref af, .ref aR, .ref ao, .ref ak, .ref aP, .ref aC])) := hv
  have o12 := hO 12 (by decide) (by decide)
  have o36 := hO 36 (by decide) (by decide)
  have o37 := hO 37 (by decide) (by decide)
  obtain ⟨pw, pz, aw, az, wm, sp, cur, du, ir, cwi, cdm, ho6, hw, hzp, nwz, o6, opw, opz, hcr⟩ := hg 4 (by decide)
  have ho6 : ws[6]? = some (ao, .inr (2, [.ref aw, .ref az, .int cur, .int du, .int ir, .long cwi, .long cdm])) := ho6
  have nw6 : pw ≠ 6 := ne_lr hw ho6
  have nz6 : pz ≠ 6 := ne_lr hzp ho6
  refine ⟨_, metL_ofCoil l G tys htJ ws hv (metX7_ofCoil l hnt G tys htI ws hv ho6 hw hzp nwz x) (fun _ _ _ _ => hb.2.2.1) (by unfold cdOfCoil; (repeat' split) <;> decide) (by unfold cdOfCoil; (repeat' split) <;> decide), ?_⟩
  intro k w hM
  rcases hM with ⟨hc0, hk0, hw0⟩ | ⟨hc0, hk0, r, u, f, hp, ho, hw0⟩
  · rw [hw0, hk0]
    refine ⟨⟨_, hb.1⟩, mopL (metX8_ofCoil (F := F) l G tys htI (ws) hb.1 (hb.r 26 12 (by decide)) x) (fun r u _ => ?_)⟩
    rw [if_neg hc0]
    exact ⟨⟨ad, _, wi, dm, va_ge hb.1, upd_at⟩, fun q => absurd q hc0, INV_ref hI0 _⟩
  · have hp : r = cOf cur du cwi cdm wm x := hp
    have ho : ws[36]? = some (oj, .inl (cJ, 1, .inr (.inl f))) := ho
    have hw0 : w = ws.set 36 (oj, .inl (cJ, 1, .inr (.inl (vp_updL f (0 : Int32).toNatClampNeg r)))) := hw0
    have hcc := hc0
    unfold cdOfCoil at hcc
    obtain ⟨k0, hcc⟩ := cd1 (by decide) hcc
    have hb2 := hb.o (vp_updL f (0 : Int32).toNatClampNeg r)
    rw [hw0, hk0]
    refine ⟨⟨_, hb2.1⟩, mopL (metX8_ofCoil (F := F) l G tys htI (ws.set 36 (oj, .inl (cJ, 1, .inr (.inl (vp_updL f (0 : Int32).toNatClampNeg r))))) hb2.1 (hb2.r 26 12 (by decide)) x) (fun r2 u2 hp2 => ?_)⟩
    rw [if_pos hc0]
    refine ⟨⟨ad, _, _, _, va_ge hb2.1, rfl⟩, fun _ => ⟨_, va_gs (by decide) (va_ge ho), ?_⟩, INV_rd hI0 hb2 (chz.rf.set o36)⟩
    rw [updL_0]
    rw [hp2 hc0, hp, cOf_eq hcr]
theorem agbP {z : Nat → Int32} {F : Nat → Nat → Int32} {wi dm wi2 dm2 : Int64} {τ : cS} : agb 4 z F wi dm (mZ (upd z 0 0) τ) (uFk (uFk F 27 τ.2.1) 26 τ.1) wi2 dm2 := by
  refine ⟨fun i h1 h2 => ?_, fun k h1 => ?_, fun c => absurd rfl c⟩
  · unfold mZ
    rw [upd_ne (fun c => by subst c; exact h2 rfl), upd_ne (fun c => by subst c; exact h2 rfl), upd_ne (fun c => by subst c; exact h2 rfl), upd_ne (fun c => by subst c; exact h1 rfl)]
  · rw [uFk_ne (fun c => by subst c; exact h1 rfl), uFk_ne (fun c => by subst c; exact h1 rfl)]
theorem coil_pass {own : Nat → Nat} {ws : va_W} {cI : ClassId} {ao pw pz aw az : Nat} {z : Nat → Int32} {F : Nat → Nat → Int32} {σ τ : cS} {x0 : Nat × va_E} {wm sp : Nat → Int32} (ho : ws[6]? = some x0) (hw : ws[pw]? = some (aw, .inl (cI, 12, .inl wm))) (hzp : ws[pz]? = some (az, .inl (cI, 12, .inl sp))) (nwz : pw ≠ pz) (nw6 : pw ≠ 6) (nz6 : pz ≠ 6) (o6 : own 6 = 4) (opw : own pw = 4) (opz : own pz = 4) (h : coilR σ τ) (sw : Bool) : grC own (cW ws cI 6 pw pz ao aw az σ sw) cI ao (mZ z τ) (uFk (uFk F 27 τ.2.1) 26 τ.1) τ.2.2.2.2.2.1 τ.2.2.2.2.2.2 := by
  unfold cW
  cases sw with
  | false => exact ⟨pw, pz, aw, az, σ.1, σ.2.1, σ.2.2.1, σ.2.2.2.1, σ.2.2.2.2.1, σ.2.2.2.2.2.1, σ.2.2.2.2.2.2, va_ge (va_gs nz6.symm (va_gs nw6.symm ho)), va_gs nw6 (va_gs nwz (va_ge hw)), va_gs nz6 (va_ge (va_gs nwz.symm hzp)), nwz, o6, opw, opz, h⟩
  | true => exact ⟨pz, pw, az, aw, σ.1, σ.2.1, σ.2.2.1, σ.2.2.2.1, σ.2.2.2.2.1, σ.2.2.2.2.2.1, σ.2.2.2.2.2.2, va_ge (va_gs nz6.symm (va_gs nw6.symm ho)), va_gs nz6 (va_ge (va_gs nwz.symm hzp)), va_gs nw6 (va_gs nwz (va_ge hw)), nwz.symm, o6, opz, opw, h⟩
set_option maxHeartbeats 4000000 in
set_option maxRecDepth 100000 in
theorem sem_pass (l : Launch) (hnt : l.stackTraces = false) (G : va_G) (tys : List (ClassId × FieldType)) {A : Nat → Prop} {tE mi : Nat} {cI cO cJ cB : ClassId} (htI : tI tys cI) (htO : tO tys cO) (htJ : tys[2]? = some (cJ, .long)) (htB : tys[3]? = some (cB, .double)) {v am oj od : Nat} {ws : va_W} (h : INV cI cO cJ cB tE v am oj od ws) (x : Int32) : ∃ Mid : Int32 → va_W → Prop, Met l yL_pass wsL_pass { frames := 8, cells := 1, slots := 6, locals := 127 } (pcX G tys ws A tE mi [.ref v, .int x, .ref oj]) (va_Qi (fun (r : Int32) (w : va_W) => Mid r w) (fun w t => va_P G vwCl w t.heap ∧ va_D A w) A) 1 6 A ∧ ∀ k w, Mid k w → (∃ vs, w[12]? = some (am, .inr (9, vs))) ∧ Met l yX8_pass wsX8_pass { frames := 4, cells := 0, slots := 0, locals := 94 } (pcM G tys w A [.ref am, .int x]) (va_Qi (fun (r : Int32) (w2 : va_W) => EndI cJ am oj (INV cI cO cJ cB tE v am oj od) w2 r k) (fun w2 t => va_P G vwCl w2 t.heap ∧ va_D A w2) A) 0 0 A := by
  obtain ⟨own, ad, z, F, wi, dm, ⟨aS, af, aR, ao, ak, aP, aC⟩, np, hI⟩ := h
  have hI0 := hI
  obtain ⟨hb, hv, o0, hO, hg⟩ := hI
  have hv : ws[0]? = some (v, .inr (8, [.ref aS, .ref af, .ref aR, .ref ao, .ref ak, .ref aP, .ref aC])) := hv
  have o12 := hO 12 (by decide) (by decide)
  have o36 := hO 36 (by decide) (by decide)
  have o37 := hO 37 (by decide) (by decide)
  obtain ⟨pw, pz, aw, az, wm, sp, cur, du, ir, cwi, cdm, ho6, hw, hzp, nwz, o6, opw, opz, hcr⟩ := hg 4 (by decide)
  have ho6 : ws[6]? = some (ao, .inr (2, [.ref aw, .ref az, .int cur, .int du, .int ir, .long cwi, .long cdm])) := ho6
  have nw6 : pw ≠ 6 := ne_lr hw ho6
  have nz6 : pz ≠ 6 := ne_lr hzp ho6
  have hc1 : cdPass x = 0 → chg own own 4 ws (cW ws cI 6 pw pz ao aw az (cIt (wm, sp, cur, du, ir, cwi, cdm) x.toNatClampNeg) (cSw x.toNatClampNeg)) := fun hc0 => by
    exact ((chg.rf.set opw).set opz).set o6
  refine ⟨_, metL_pass l G tys htJ ws hv (metX7_pass l hnt G tys htI ws hv ho6 hw hzp nwz x) (fun hc0 r u hp => (hb.k (by decide) hO (hc1 hc0)).2.2.1) (by unfold cdPass; (repeat' split) <;> decide) (by unfold cdPass; (repeat' split) <;> decide), ?_⟩
  intro k w hM
  rcases hM with ⟨hc0, hk0, hw0⟩ | ⟨hc0, hk0, r, u, f, hp, ho, hw0⟩
  · rw [hw0, hk0]
    refine ⟨⟨_, hb.1⟩, mopI (metX8_pass (F := F) l G tys htI (ws) hb.1 (hb.r 26 12 (by decide)) (hb.r 27 12 (by decide)) x) (fun r u _ => ?_)⟩
    rw [if_neg hc0]
    exact ⟨⟨ad, _, wi, dm, va_ge hb.1, upd_at⟩, fun q => absurd q hc0, INV_ref hI0 _⟩
  · have hp : r = (cIt (wm, sp, cur, du, ir, cwi, cdm) x.toNatClampNeg).2.2.1 := hp
    have ho : (cW ws cI 6 pw pz ao aw az (cIt (wm, sp, cur, du, ir, cwi, cdm) x.toNatClampNeg) (cSw x.toNatClampNeg))[36]? = some (oj, .inl (cJ, 1, .inr (.inl f))) := ho
    have hw0 : w = (cW ws cI 6 pw pz ao aw az (cIt (wm, sp, cur, du, ir, cwi, cdm) x.toNatClampNeg) (cSw x.toNatClampNeg)).set 36 (oj, .inl (cJ, 1, .inr (.inl (vp_updL f (0 : Int32).toNatClampNeg r.toInt64)))) := hw0
    have hcc := hc0
    unfold cdPass at hcc
    obtain ⟨k0, hcc⟩ := cd1 (by decide) hcc
    have hci := coil_it hcr x.toNatClampNeg
    have hc1 := hc1 hc0
    have hO2 := hO
    have hb1 := hb.k (by decide) hO hc1
    have hb2 := hb1.o (vp_updL f (0 : Int32).toNatClampNeg r.toInt64)
    rw [hw0, hk0]
    refine ⟨⟨_, hb2.1⟩, mopI (metX8_pass (F := F) l G tys htI ((cW ws cI 6 pw pz ao aw az (cIt (wm, sp, cur, du, ir, cwi, cdm) x.toNatClampNeg) (cSw x.toNatClampNeg)).set 36 (oj, .inl (cJ, 1, .inr (.inl (vp_updL f (0 : Int32).toNatClampNeg r.toInt64))))) hb2.1 (hb2.r 26 12 (by decide)) (hb2.r 27 12 (by decide)) x) (fun r2 u2 hp2 => ?_)⟩
    rw [if_pos hc0]
    have hb3 := (((hb2).a 27 12 ((mIt (F 26, F 27, z 21, z 22, z 23, wi, dm) x.toNatClampNeg).2.1) (by decide)).a 26 12 ((mIt (F 26, F 27, z 21, z 22, z 23, wi, dm) x.toNatClampNeg).1) (by decide)).m (mZ (upd z 0 0) (mIt (F 26, F 27, z 21, z 22, z 23, wi, dm) x.toNatClampNeg)) ((mIt (F 26, F 27, z 21, z 22, z 23, wi, dm) x.toNatClampNeg).2.2.2.2.2.1) ((mIt (F 26, F 27, z 21, z 22, z 23, wi, dm) x.toNatClampNeg).2.2.2.2.2.2)
    refine ⟨⟨ad, _, _, _, hb3.1, rfl⟩, fun _ => ⟨_, va_gs (by decide) (va_gs (by decide) (va_gs (by decide) (va_ge ho))), ?_⟩, INV_next hI0 4 (by decide) hc1 (((((chz.rf (own := own)).set (hO2 36 (by decide) (by decide))).set (hO2 27 (by decide) (by decide))).set (hO2 26 (by decide) (by decide))).set (hO2 12 (by decide) (by decide))) hb3 (agbP) (Nat.le_refl _) (fun _ => rfl) ?_⟩
    · rw [updL_0]
      rw [hp2 hc0, hp]; exact congrArg _ hci.2.1
    · exact coil_pass ho6 hw hzp nwz nw6 nz6 o6 opw opz hci _
set_option maxHeartbeats 4000000 in
set_option maxRecDepth 100000 in
theorem sem_margins (l : Launch) (hnt : l.stackTraces = false) (G : va_G) (tys : List (ClassId × FieldType)) {A : Nat → Prop} {tE mi : Nat} {cI cO cJ cB : ClassId} (htI : tI tys cI) (htO : tO tys cO) (htJ : tys[2]? = some (cJ, .long)) (htB : tys[3]? = some (cB, .double)) {v am oj od : Nat} {ws : va_W} (h : INV cI cO cJ cB tE v am oj od ws) (x y : Int32) : ∃ Mid : Int32 → va_W → Prop, Met l yL_margins wsL_margins { frames := 8, cells := 2, slots := 12, locals := 126 } (pcX G tys ws A tE mi [.ref v, .int x, .int y]) (va_Qi (fun (r : Int32) (w : va_W) => Mid r w) (fun w t => va_P G vwCl w t.heap ∧ va_D A w) A) 2 12 A ∧ ∀ k w, Mid k w → (∃ vs, w[12]? = some (am, .inr (9, vs))) ∧ Met l yX8_margins wsX8_margins { frames := 1, cells := 0, slots := 0, locals := 22 } (pcM G tys w A [.ref am, .int x, .int y]) (va_Qv (fun (w2 : va_W) => EndV am (INV cI cO cJ cB tE v am oj od) w2 k) (fun w2 t => va_P G vwCl w2 t.heap ∧ va_D A w2) A) 0 0 A := by
  obtain ⟨own, ad, z, F, wi, dm, ⟨aS, af, aR, ao, ak, aP, aC⟩, np, hI⟩ := h
  have hI0 := hI
  obtain ⟨hb, hv, o0, hO, hg⟩ := hI
  have hv : ws[0]? = some (v, .inr (8, [.ref aS, .ref af, .ref aR, .ref ao, .ref ak, .ref aP, .ref aC])) := hv
  have o12 := hO 12 (by decide) (by decide)
  have o36 := hO 36 (by decide) (by decide)
  have o37 := hO 37 (by decide) (by decide)
  obtain ⟨hk9, o9, k9, hk65, hz28⟩ := hg 5 (by decide)
  have hk9 : ws[9]? = some (ak, .inr (3, [.int (z 26), .int (z 27), .int (z 28)])) := hk9
  have hc1 : cdMargins x y = 0 → chg own own 5 ws (ws.set 9 (ak, .inr (3, [.int x, .int y, .int (z 28)]))) := fun hc0 => by
    exact chg.rf.set o9
  refine ⟨_, metL_margins l G tys ws hv (metX7_margins l hnt G tys ws hv hk9 x y) (by unfold cdMargins; (repeat' split) <;> decide) (by unfold cdMargins; (repeat' split) <;> decide), ?_⟩
  intro k w hM
  rcases hM with ⟨hc0, hk0, hw0⟩ | ⟨hc0, hk0, u, hp, hw0⟩
  · rw [hw0, hk0]
    refine ⟨⟨_, hb.1⟩, mopV (metX8_margins (F := F) l G tys htI (ws) hb.1 x y) (fun u _ => ?_)⟩
    rw [if_neg hc0]
    exact ⟨⟨ad, _, wi, dm, va_ge hb.1, upd_at⟩, INV_ref hI0 _⟩
  · have hw0 : w = ws.set 9 (ak, .inr (3, [.int x, .int y, .int (z 28)])) := hw0
    have hcc := hc0
    unfold cdMargins at hcc
    obtain ⟨k0, hcc⟩ := cd1 (by decide) hcc
    obtain ⟨k1, hcc⟩ := cd1 (by decide) hcc
    have hc1 := hc1 hc0
    have hO2 := hO
    have hb1 := hb.k (by decide) hO hc1
    have hb2 := hb1
    rw [hw0, hk0]
    refine ⟨⟨_, hb2.1⟩, mopV (metX8_margins (F := F) l G tys htI (ws.set 9 (ak, .inr (3, [.int x, .int y, .int (z 28)]))) hb2.1 x y) (fun u2 hp2 => ?_)⟩
    rw [if_pos hc0]
    have hb3 := (((hb2).m (upd z 0 0) wi dm).m (upd (upd z 0 0) 26 x) wi dm).m (upd (upd (upd z 0 0) 26 x) 27 y) wi dm
    refine ⟨⟨ad, _, _, _, hb3.1, rfl⟩, INV_next hI0 5 (by decide) hc1 ((((chz.rf).set (hO2 12 (by decide) (by decide))).set (hO2 12 (by decide) (by decide))).set (hO2 12 (by decide) (by decide))) hb3 (((agb.rf.zz 0 0 (Or.inl rfl)).zz 26 x (Or.inr rfl)).zz 27 y (Or.inr rfl)) (Nat.le_refl _) (fun _ => rfl) ?_⟩
    · exact ⟨va_ge hk9, o9, k9, hk65, hz28⟩
set_option maxHeartbeats 4000000 in
set_option maxRecDepth 100000 in
theorem sem_pulse (l : Launch) (hnt : l.stackTraces = false) (G : va_G) (tys : List (ClassId × FieldType)) {A : Nat → Prop} {tE mi : Nat} {cI cO cJ cB : ClassId} (htI : tI tys cI) (htO : tO tys cO) (htJ : tys[2]? = some (cJ, .long)) (htB : tys[3]? = some (cB, .double)) {v am oj od : Nat} {ws : va_W} (h : INV cI cO cJ cB tE v am oj od ws) (x y : Int32) : ∃ Mid : Int32 → va_W → Prop, Met l yL_pulse wsL_pulse { frames := 8, cells := 2, slots := 12, locals := 126 } (pcX G tys ws A tE mi [.ref v, .int x, .int y, .ref oj]) (va_Qi (fun (r : Int32) (w : va_W) => Mid r w) (fun w t => va_P G vwCl w t.heap ∧ va_D A w) A) 2 12 A ∧ ∀ k w, Mid k w → (∃ vs, w[12]? = some (am, .inr (9, vs))) ∧ Met l yX8_pulse wsX8_pulse { frames := 1, cells := 0, slots := 0, locals := 22 } (pcM G tys w A [.ref am, .int x, .int y]) (va_Qi (fun (r : Int32) (w2 : va_W) => EndI cJ am oj (INV cI cO cJ cB tE v am oj od) w2 r k) (fun w2 t => va_P G vwCl w2 t.heap ∧ va_D A w2) A) 0 0 A := by
  obtain ⟨own, ad, z, F, wi, dm, ⟨aS, af, aR, ao, ak, aP, aC⟩, np, hI⟩ := h
  have hI0 := hI
  obtain ⟨hb, hv, o0, hO, hg⟩ := hI
  have hv : ws[0]? = some (v, .inr (8, [.ref aS, .ref af, .ref aR, .ref ao, .ref ak, .ref aP, .ref aC])) := hv
  have o12 := hO 12 (by decide) (by decide)
  have o36 := hO 36 (by decide) (by decide)
  have o37 := hO 37 (by decide) (by decide)
  obtain ⟨hk9, o9, k9, hk65, hz28⟩ := hg 5 (by decide)
  have hk9 : ws[9]? = some (ak, .inr (3, [.int (z 26), .int (z 27), .int (z 28)])) := hk9
  have hc1 : cdPulse x y = 0 → chg own own 5 ws (ws.set 9 (ak, .inr (3, [.int (z 26), .int (z 27), .int (kTake (z 26) (z 27) (z 28) x y)]))) := fun hc0 => by
    exact chg.rf.set o9
  refine ⟨_, metL_pulse l G tys htJ ws hv (metX7_pulse l hnt G tys ws hv hk9 x y) (fun hc0 r u hp => (hb.k (by decide) hO (hc1 hc0)).2.2.1) (by unfold cdPulse; (repeat' split) <;> decide) (by unfold cdPulse; (repeat' split) <;> decide), ?_⟩
  intro k w hM
  rcases hM with ⟨hc0, hk0, hw0⟩ | ⟨hc0, hk0, r, u, f, hp, ho, hw0⟩
  · rw [hw0, hk0]
    refine ⟨⟨_, hb.1⟩, mopI (metX8_pulse (F := F) l G tys htI (ws) hb.1 x y) (fun r u _ => ?_)⟩
    rw [if_neg hc0]
    exact ⟨⟨ad, _, wi, dm, va_ge hb.1, upd_at⟩, fun q => absurd q hc0, INV_ref hI0 _⟩
  · have hp : r = kTake (z 26) (z 27) (z 28) x y := hp
    have ho : (ws.set 9 (ak, .inr (3, [.int (z 26), .int (z 27), .int (kTake (z 26) (z 27) (z 28) x y)])))[36]? = some (oj, .inl (cJ, 1, .inr (.inl f))) := ho
    have hw0 : w = (ws.set 9 (ak, .inr (3, [.int (z 26), .int (z 27), .int (kTake (z 26) (z 27) (z 28) x y)]))).set 36 (oj, .inl (cJ, 1, .inr (.inl (vp_updL f (0 : Int32).toNatClampNeg r.toInt64)))) := hw0
    have hcc := hc0
    unfold cdPulse at hcc
    obtain ⟨k0, hcc⟩ := cd1 (by decide) hcc
    obtain ⟨k1, hcc⟩ := cd1 (by decide) hcc
    have hkt : kTake (z 26) (z 27) (z 28) x y = mTake (z 26) (z 27) (z 28) x y ∧ ∃ j, j < 65536 ∧ kTake (z 26) (z 27) (z 28) x y = nI j := by rw [hz28]; exact kTake_eq hk65
    have hc1 := hc1 hc0
    have hO2 := hO
    have hb1 := hb.k (by decide) hO hc1
    have hb2 := hb1.o (vp_updL f (0 : Int32).toNatClampNeg r.toInt64)
    rw [hw0, hk0]
    refine ⟨⟨_, hb2.1⟩, mopI (metX8_pulse (F := F) l G tys htI ((ws.set 9 (ak, .inr (3, [.int (z 26), .int (z 27), .int (kTake (z 26) (z 27) (z 28) x y)]))).set 36 (oj, .inl (cJ, 1, .inr (.inl (vp_updL f (0 : Int32).toNatClampNeg r.toInt64))))) hb2.1 x y) (fun r2 u2 hp2 => ?_)⟩
    rw [if_pos hc0]
    have hb3 := ((hb2).m (upd z 0 0) wi dm).m (upd (upd z 0 0) 28 (mTake (z 26) (z 27) (z 28) x y)) wi dm
    refine ⟨⟨ad, _, _, _, hb3.1, rfl⟩, fun _ => ⟨_, va_gs (by decide) (va_gs (by decide) (va_ge ho)), ?_⟩, INV_next hI0 5 (by decide) hc1 ((((chz.rf (own := own)).set (hO2 36 (by decide) (by decide))).set (hO2 12 (by decide) (by decide))).set (hO2 12 (by decide) (by decide))) hb3 ((agb.rf.zz 0 0 (Or.inl rfl)).zz 28 _ (Or.inr rfl)) (Nat.le_refl _) (fun _ => rfl) ?_⟩
    · rw [updL_0]
      rw [hp2 hc0, hp, hkt.1]
    · exact ⟨by rw [hkt.1]; exact va_ge hk9, o9, hkt.2.choose, hkt.2.choose_spec.1, by show mTake (z 26) (z 27) (z 28) x y = _; rw [← hkt.1]; exact hkt.2.choose_spec.2⟩
set_option maxHeartbeats 4000000 in
set_option maxRecDepth 100000 in
theorem sem_bit (l : Launch) (hnt : l.stackTraces = false) (G : va_G) (tys : List (ClassId × FieldType)) {A : Nat → Prop} {tE mi : Nat} {cI cO cJ cB : ClassId} (htI : tI tys cI) (htO : tO tys cO) (htJ : tys[2]? = some (cJ, .long)) (htB : tys[3]? = some (cB, .double)) {v am oj od : Nat} {ws : va_W} (h : INV cI cO cJ cB tE v am oj od ws) (x : Int32) : ∃ Mid : Int32 → va_W → Prop, Met l yL_bit wsL_bit { frames := 8, cells := 1, slots := 6, locals := 124 } (pcX G tys ws A tE mi [.ref v, .int x, .ref oj]) (va_Qi (fun (r : Int32) (w : va_W) => Mid r w) (fun w t => va_P G vwCl w t.heap ∧ va_D A w) A) 1 6 A ∧ ∀ k w, Mid k w → (∃ vs, w[12]? = some (am, .inr (9, vs))) ∧ Met l yX8_bit wsX8_bit { frames := 1, cells := 0, slots := 0, locals := 22 } (pcM G tys w A [.ref am, .int x]) (va_Qi (fun (r : Int32) (w2 : va_W) => EndI cJ am oj (INV cI cO cJ cB tE v am oj od) w2 r k) (fun w2 t => va_P G vwCl w2 t.heap ∧ va_D A w2) A) 0 0 A := by
  obtain ⟨own, ad, z, F, wi, dm, ⟨aS, af, aR, ao, ak, aP, aC⟩, np, hI⟩ := h
  have hI0 := hI
  obtain ⟨hb, hv, o0, hO, hg⟩ := hI
  have hv : ws[0]? = some (v, .inr (8, [.ref aS, .ref af, .ref aR, .ref ao, .ref ak, .ref aP, .ref aC])) := hv
  have o12 := hO 12 (by decide) (by decide)
  have o36 := hO 36 (by decide) (by decide)
  have o37 := hO 37 (by decide) (by decide)
  obtain ⟨hk9, o9, k9, hk65, hz28⟩ := hg 5 (by decide)
  have hk9 : ws[9]? = some (ak, .inr (3, [.int (z 26), .int (z 27), .int (z 28)])) := hk9
  refine ⟨_, metL_bit l G tys htJ ws hv (metX7_bit l hnt G tys ws hv hk9 x) (fun _ _ _ _ => hb.2.2.1) (by unfold cdOne; (repeat' split) <;> decide) (by unfold cdOne; (repeat' split) <;> decide), ?_⟩
  intro k w hM
  rcases hM with ⟨hc0, hk0, hw0⟩ | ⟨hc0, hk0, r, u, f, hp, ho, hw0⟩
  · rw [hw0, hk0]
    refine ⟨⟨_, hb.1⟩, mopI (metX8_bit (F := F) l G tys htI (ws) hb.1 x) (fun r u _ => ?_)⟩
    rw [if_neg hc0]
    exact ⟨⟨ad, _, wi, dm, va_ge hb.1, upd_at⟩, fun q => absurd q hc0, INV_ref hI0 _⟩
  · have hp : r = (z 28 >>> (x &&& 31)) &&& 1 := hp
    have ho : ws[36]? = some (oj, .inl (cJ, 1, .inr (.inl f))) := ho
    have hw0 : w = ws.set 36 (oj, .inl (cJ, 1, .inr (.inl (vp_updL f (0 : Int32).toNatClampNeg r.toInt64)))) := hw0
    have hcc := hc0
    unfold cdOne at hcc
    obtain ⟨k0, hcc⟩ := cd1 (by decide) hcc
    have hb2 := hb.o (vp_updL f (0 : Int32).toNatClampNeg r.toInt64)
    rw [hw0, hk0]
    refine ⟨⟨_, hb2.1⟩, mopI (metX8_bit (F := F) l G tys htI (ws.set 36 (oj, .inl (cJ, 1, .inr (.inl (vp_updL f (0 : Int32).toNatClampNeg r.toInt64))))) hb2.1 x) (fun r2 u2 hp2 => ?_)⟩
    rw [if_pos hc0]
    refine ⟨⟨ad, _, _, _, va_ge hb2.1, rfl⟩, fun _ => ⟨_, va_gs (by decide) (va_ge ho), ?_⟩, INV_rd hI0 hb2 (chz.rf.set o36)⟩
    rw [updL_0]
    rw [hp2 hc0, hp]
set_option maxHeartbeats 4000000 in
set_option maxRecDepth 100000 in
theorem sem_point (l : Launch) (hnt : l.stackTraces = false) (G : va_G) (tys : List (ClassId × FieldType)) {A : Nat → Prop} {tE mi : Nat} {cI cO cJ cB : ClassId} (htI : tI tys cI) (htO : tO tys cO) (htJ : tys[2]? = some (cJ, .long)) (htB : tys[3]? = some (cB, .double)) {v am oj od : Nat} {ws : va_W} (h : INV cI cO cJ cB tE v am oj od ws) (x y s : Int32) : ∃ Mid : Int32 → va_W → Prop, Met l yL_point wsL_point { frames := 9, cells := 6, slots := 227, locals := 248 } (pcX G tys ws A tE mi [.ref v, .int x, .int y, .int s, .ref oj]) (va_Qi (fun (r : Int32) (w : va_W) => Mid r w) (fun w t => va_P G vwCl w t.heap ∧ va_D A w) A) 6 227 A ∧ ∀ k w, Mid k w → (∃ vs, w[12]? = some (am, .inr (9, vs))) ∧ Met l yX8_point wsX8_point { frames := 1, cells := 0, slots := 0, locals := 22 } (pcM G tys w A [.ref am, .int x, .int y, .int s]) (va_Qi (fun (r : Int32) (w2 : va_W) => EndI cJ am oj (INV cI cO cJ cB tE v am oj od) w2 r k) (fun w2 t => va_P G vwCl w2 t.heap ∧ va_D A w2) A) 0 0 A := by
  obtain ⟨own, ad, z, F, wi, dm, ⟨aS, af, aR, ao, ak, aP, aC⟩, np, hI⟩ := h
  have hI0 := hI
  obtain ⟨hb, hv, o0, hO, hg⟩ := hI
  have hv : ws[0]? = some (v, .inr (8, [.ref aS, .ref af, .ref aR, .ref ao, .ref ak, .ref aP, .ref aC])) := hv
  have o12 := hO 12 (by decide) (by decide)
  have o36 := hO 36 (by decide) (by decide)
  have o37 := hO 37 (by decide) (by decide)
  obtain ⟨q, e, g, hL, hn60, hz29⟩ := hg 6 (by decide)
  obtain ⟨n, hnp⟩ : ∃ n, n = np := ⟨_, rfl⟩
  rw [← hnp] at hL hn60 hz29
  have hadd : ∀ u : Nat × va_W, lsA (ws ++ ([(u.1, .inr (5, [.int x, .int y, .int s]))] : va_W)) tE cO 10 aP n e q u.1 u.2 → ∃ q2, pfL (fun k => if k < ws.length then own k else 6) u.2 tE cO 6 10 aP (n + 1) q2 (va_up e n u.1) (va_up g n ws.length) 5 (fun i => if i = n then [.int x, .int y, .int s] else [.int (F 28 i), .int (F 29 i), .int (F 30 i)]) ∧ chg own (fun k => if k < ws.length then own k else 6) 6 ws u.2 ∧ (∀ j x, (([] : va_W))[j]? = some x → (u.2)[ws.length + 1 + j]? = some x) ∧ ∀ (p b : Nat) (c : ClassId) (m : Nat) (f : Nat → Int32), ws[p]? = some (b, .inl (c, m, .inl f)) → (u.2)[p]? = some (b, .inl (c, m, .inl f)) := fun u hu => hL.add (by decide) hu
  refine ⟨_, metL_point l G tys htJ ws hv (metX7_point l hnt G tys ws htO hv hL.1 (fun i hi => (hL.2.2.2.1 i hi).1) x y s hn60) (fun hc0 r u hp => by obtain ⟨q2, hL2, hc1, hmo, hki⟩ := hadd u hp.2; exact (hb.k (by decide) hO hc1).2.2.1) (by unfold cdPoint; (repeat' split) <;> decide), ?_⟩
  intro k w hM
  rcases hM with ⟨hc0, hk0, hw0⟩ | ⟨hc0, hk0, r, u, f, hp, ho, hw0⟩
  · rw [hw0, hk0]
    refine ⟨⟨_, hb.1⟩, mopI (metX8_point (F := F) l G tys htI (ws) hb.1 (hb.r 28 60 (by decide)) (hb.r 29 60 (by decide)) (hb.r 30 60 (by decide)) hz29 hn60 x y s) (fun r u _ => ?_)⟩
    rw [if_neg hc0]
    exact ⟨⟨ad, _, wi, dm, va_ge hb.1, upd_at⟩, fun q => absurd q hc0, INV_ref hI0 _⟩
  · have hp : r = nI (n + 1) ∧ lsA (ws ++ ([(u.1, .inr (5, [.int x, .int y, .int s]))] : va_W)) tE cO 10 aP n e q u.1 u.2 := hp
    have ho : (u.2)[36]? = some (oj, .inl (cJ, 1, .inr (.inl f))) := ho
    have hw0 : w = (u.2).set 36 (oj, .inl (cJ, 1, .inr (.inl (vp_updL f (0 : Int32).toNatClampNeg r.toInt64)))) := hw0
    have hcc := hc0
    unfold cdPoint at hcc
    obtain ⟨k0, hcc⟩ := cd1 (by decide) hcc
    obtain ⟨k1, hcc⟩ := cd1 (by decide) hcc
    obtain ⟨k2, hcc⟩ := cd1 (by decide) hcc
    obtain ⟨k3, hcc⟩ := cd1 (by decide) hcc
    obtain ⟨q2, hL2, hc1, hmo, hki⟩ := hadd u hp.2
    have hO2 := hb.ow (by decide) hO hc1
    have hb1 := hb.k (by decide) hO hc1
    have hb2 := hb1.o (vp_updL f (0 : Int32).toNatClampNeg r.toInt64)
    rw [hw0, hk0]
    refine ⟨⟨_, hb2.1⟩, mopI (metX8_point (F := F) l G tys htI ((u.2).set 36 (oj, .inl (cJ, 1, .inr (.inl (vp_updL f (0 : Int32).toNatClampNeg r.toInt64))))) hb2.1 (hb2.r 28 60 (by decide)) (hb2.r 29 60 (by decide)) (hb2.r 30 60 (by decide)) hz29 hn60 x y s) (fun r2 u2 hp2 => ?_)⟩
    rw [if_pos hc0]
    have hb3 := (((((hb2).m (upd z 0 0) wi dm).a 28 60 (upd (F 28) (z 29).toNatClampNeg x) (by decide)).a 29 60 (upd (F 29) (z 29).toNatClampNeg y) (by decide)).a 30 60 (upd (F 30) (z 29).toNatClampNeg s) (by decide)).m (upd (upd z 0 0) 29 (z 29 + 1)) wi dm
    refine ⟨⟨ad, _, _, _, hb3.1, rfl⟩, fun _ => ⟨_, va_gs (by decide) (va_gs (by decide) (va_gs (by decide) (va_gs (by decide) (va_gs (by decide) (va_ge ho))))), ?_⟩, INV_next hI0 6 (by decide) hc1 (((((((chz.rf (own := (fun k => if k < ws.length then own k else 6))).set (hO2 36 (by decide) (by decide))).set (hO2 12 (by decide) (by decide))).set (hO2 28 (by decide) (by decide))).set (hO2 29 (by decide) (by decide))).set (hO2 30 (by decide) (by decide))).set (hO2 12 (by decide) (by decide))) hb3 (((((agb.rf.zz 0 0 (Or.inl rfl)).f 28 _ rfl).f 29 _ rfl).f 30 _ rfl).zz 29 _ (Or.inr rfl)) (Nat.le_succ _) (fun c => absurd rfl c) ?_⟩
    · rw [updL_0]
      rw [hp2 hc0, hp.1, hz29, nI_1]
    · have hz1n : (z 29).toNatClampNeg = n := by rw [hz29]; exact nI_clamp (by omega)
      have h8 := n8 (k := 60) k3 (by omega) (by decide)
      rw [← hnp]
      refine ⟨q2, _, _, hL2.vs (fun i hi => ?_), by omega, ?_⟩
      · show _ = ([.int (upd (F 28) (z 29).toNatClampNeg x i), .int (upd (F 29) (z 29).toNatClampNeg y i), .int (upd (F 30) (z 29).toNatClampNeg s i)] : List Value)
        rw [hz1n]
        by_cases c : i = n
        · rw [if_pos c, c, upd_at, upd_at, upd_at]
        · rw [if_neg c, upd_ne c, upd_ne c, upd_ne c]
      · show z 29 + 1 = nI (n + 1)
        rw [hz29]
        exact nI_1 n
theorem pfL.keep {own : Nat → Nat} {ws : va_W} {tE : Nat} {cI cO : ClassId} {id pl al n q ci p b m : Nat} {e g : Nat → Nat} {vs : Nat → List Value} {f : Nat → Int32} {x : Nat × va_E} (h : pfL own ws tE cO id pl al n q e g ci vs) (hp : ws[p]? = some (b, .inl (cI, m, .inl f))) : pfL own (ws.set p x) tE cO id pl al n q e g ci vs := by
  obtain ⟨hL, o1, o2, hg, hi⟩ := h
  refine ⟨?_, o1, o2, fun i h9 => ⟨va_gs (ne_lr hp (hg i h9).1).symm (hg i h9).1, (hg i h9).2⟩, hi⟩
  obtain ⟨mo, ⟨h0, hc⟩ | ⟨h0, ae, k, a, hc, he, hr⟩⟩ := hL
  · exact ⟨mo, Or.inl ⟨h0, va_gs (ne_lr hp hc).symm hc⟩⟩
  · refine ⟨mo, Or.inr ⟨h0, ae, k, a, va_gs (ne_lr hp hc).symm hc, va_gs (fun c => ?_) he, hr⟩⟩
    rw [c, hp] at he
    cases he
set_option maxHeartbeats 4000000 in
set_option maxRecDepth 100000 in
theorem sem_repeats (l : Launch) (hnt : l.stackTraces = false) (G : va_G) (tys : List (ClassId × FieldType)) {A : Nat → Prop} {tE mi : Nat} {cI cO cJ cB : ClassId} (htI : tI tys cI) (htO : tO tys cO) (htJ : tys[2]? = some (cJ, .long)) (htB : tys[3]? = some (cB, .double)) {v am oj od : Nat} {ws : va_W} (h : INV cI cO cJ cB tE v am oj od ws) (x y s : Int32) : ∃ Mid : Int32 → va_W → Prop, Met l yL_repeats wsL_repeats { frames := 8, cells := 2, slots := 12, locals := 127 } (pcX G tys ws A tE mi [.ref v, .int x, .int y, .int s, .ref oj]) (va_Qi (fun (r : Int32) (w : va_W) => Mid r w) (fun w t => va_P G vwCl w t.heap ∧ va_D A w) A) 2 12 A ∧ ∀ k w, Mid k w → (∃ vs, w[12]? = some (am, .inr (9, vs))) ∧ Met l yX8_repeats wsX8_repeats { frames := 1, cells := 0, slots := 0, locals := 24 } (pcM G tys w A [.ref am, .int x, .int y, .int s]) (va_Qi (fun (r : Int32) (w2 : va_W) => EndI cJ am oj (INV cI cO cJ cB tE v am oj od) w2 r k) (fun w2 t => va_P G vwCl w2 t.heap ∧ va_D A w2) A) 0 0 A := by
  obtain ⟨own, ad, z, F, wi, dm, ⟨aS, af, aR, ao, ak, aP, aC⟩, np, hI⟩ := h
  have hI0 := hI
  obtain ⟨hb, hv, o0, hO, hg⟩ := hI
  have hv : ws[0]? = some (v, .inr (8, [.ref aS, .ref af, .ref aR, .ref ao, .ref ak, .ref aP, .ref aC])) := hv
  have o12 := hO 12 (by decide) (by decide)
  have o36 := hO 36 (by decide) (by decide)
  have o37 := hO 37 (by decide) (by decide)
  obtain ⟨q6, e6, g6, hL6, hn60, hz29⟩ := hg 6 (by decide)
  obtain ⟨n, q, e, g, gW, aW, wd, hL, hW, hWi, hwd, h35, hn8, hz33, hcl⟩ := hg 7 (by decide)
  have hc1 : cdRepeats x y (nI n) = 0 → chg own own 7 ws (ws.set (gW x.toNatClampNeg) (aW x.toNatClampNeg, .inl (cI, 7, .inl (upd (wd x.toNatClampNeg) y.toNatClampNeg (if s = 0 then 2 else 1))))) := fun hc0 => by
    exact chg.rf.set (hW _ (uKn hc0 (by decide))).2
  refine ⟨_, metL_repeats l G tys htJ ws hv (metX7_repeats l hnt G tys htI ws htO hv hL6.1 (fun i hi => (hL6.2.2.2.1 i hi).1) hL.1 (fun i hi => (hL.2.2.2.1 i hi).1) (fun i hi => (hW i hi).1) x y s) (fun hc0 r u hp => (hb.k (by decide) hO (hc1 hc0)).2.2.1) (by unfold cdRepeats; (repeat' split) <;> decide) (by unfold cdRepeats; (repeat' split) <;> decide), ?_⟩
  intro k w hM
  rcases hM with ⟨hc0, hk0, hw0⟩ | ⟨hc0, hk0, r, u, f, hp, ho, hw0⟩
  · rw [hw0, hk0]
    refine ⟨⟨_, hb.1⟩, mopI (metX8_repeats (F := F) l G tys htI (ws) hb.1 (hb.r 35 56 (by decide)) hz33 hn8 x y s) (fun r u _ => ?_)⟩
    rw [if_neg hc0]
    exact ⟨⟨ad, _, wi, dm, va_ge hb.1, upd_at⟩, fun q => absurd q hc0, INV_ref hI0 _⟩
  · have hp : r = hCnt (upd (wd x.toNatClampNeg) y.toNatClampNeg (if s = 0 then 2 else 1)) 1 7 := hp
    have ho : (ws.set (gW x.toNatClampNeg) (aW x.toNatClampNeg, .inl (cI, 7, .inl (upd (wd x.toNatClampNeg) y.toNatClampNeg (if s = 0 then 2 else 1)))))[36]? = some (oj, .inl (cJ, 1, .inr (.inl f))) := ho
    have hw0 : w = (ws.set (gW x.toNatClampNeg) (aW x.toNatClampNeg, .inl (cI, 7, .inl (upd (wd x.toNatClampNeg) y.toNatClampNeg (if s = 0 then 2 else 1))))).set 36 (oj, .inl (cJ, 1, .inr (.inl (vp_updL f (0 : Int32).toNatClampNeg r.toInt64)))) := hw0
    have hcc := hc0
    unfold cdRepeats at hcc
    obtain ⟨k0, hcc⟩ := cd1 (by decide) hcc
    obtain ⟨k1, hcc⟩ := cd1 (by decide) hcc
    have hx := (uK_ix k0).2
    have hy := (uK_ix (n := 7) k1).2
    have hwk : ∀ h, h < 7 → upd (wd x.toNatClampNeg) y.toNatClampNeg (if s = 0 then 2 else 1) h = upd (F 35) (7 * x.toNatClampNeg + y.toNatClampNeg) (if s = 0 then 2 else 1) (7 * x.toNatClampNeg + h) := by
      intro h h7
      by_cases c : h = y.toNatClampNeg
      · rw [c, upd_at, upd_at]
      · rw [upd_ne c, upd_ne (by omega)]; exact hwd _ hx h h7
    have hc1 := hc1 hc0
    have hO2 := hO
    have hb1 := hb.k (by decide) hO hc1
    have hb2 := hb1.o (vp_updL f (0 : Int32).toNatClampNeg r.toInt64)
    rw [hw0, hk0]
    refine ⟨⟨_, hb2.1⟩, mopI (metX8_repeats (F := F) l G tys htI ((ws.set (gW x.toNatClampNeg) (aW x.toNatClampNeg, .inl (cI, 7, .inl (upd (wd x.toNatClampNeg) y.toNatClampNeg (if s = 0 then 2 else 1))))).set 36 (oj, .inl (cJ, 1, .inr (.inl (vp_updL f (0 : Int32).toNatClampNeg r.toInt64))))) hb2.1 (hb2.r 35 56 (by decide)) hz33 hn8 x y s) (fun r2 u2 hp2 => ?_)⟩
    rw [if_pos hc0]
    have hb3 := ((hb2).m (upd z 0 0) wi dm).a 35 56 (upd (F 35) (7 * x.toNatClampNeg + y.toNatClampNeg) (if s = 0 then 2 else 1)) (by decide)
    refine ⟨⟨ad, _, _, _, hb3.1, rfl⟩, fun _ => ⟨_, va_gs (by decide) (va_gs (by decide) (va_ge ho)), ?_⟩, INV_next hI0 7 (by decide) hc1 ((((chz.rf (own := own)).set (hO2 36 (by decide) (by decide))).set (hO2 12 (by decide) (by decide))).set (hO2 35 (by decide) (by decide))) hb3 ((agb.rf.zz 0 0 (Or.inl rfl)).f 35 _ rfl) (Nat.le_refl _) (fun _ => rfl) ?_⟩
    · rw [updL_0]
      rw [hp2 hc0, hp, hCnt_eq 7 hwk]
    · refine ⟨n, q, e, g, gW, aW, fun i => if i = x.toNatClampNeg then upd (wd x.toNatClampNeg) y.toNatClampNeg (if s = 0 then 2 else 1) else wd i, hL.keep (hW _ hx).1, fun i hi => ⟨?_, (hW i hi).2⟩, hWi, fun i hi h h7 => ?_, fun j hj => ?_, hn8, hz33, hcl⟩
      · by_cases c : i = x.toNatClampNeg
        · rw [if_pos c, c]; exact va_ge (hW _ hx).1
        · rw [if_neg c]; exact va_gs (fun c2 => c (hWi i _ hi hx c2)) (hW i hi).1
      · show _ = upd (F 35) (7 * x.toNatClampNeg + y.toNatClampNeg) (if s = 0 then 2 else 1) (7 * i + h)
        by_cases c : i = x.toNatClampNeg
        · rw [if_pos c, c]; exact hwk h h7
        · rw [if_neg c, upd_ne (by omega)]; exact hwd i hi h h7
      · show upd (F 35) (7 * x.toNatClampNeg + y.toNatClampNeg) (if s = 0 then 2 else 1) j = 0
        rw [upd_ne (by omega)]
        exact h35 j hj
set_option maxHeartbeats 4000000 in
set_option maxRecDepth 100000 in
theorem sem_judge (l : Launch) (hnt : l.stackTraces = false) (G : va_G) (tys : List (ClassId × FieldType)) {A : Nat → Prop} {tE mi : Nat} {cI cO cJ cB : ClassId} (htI : tI tys cI) (htO : tO tys cO) (htJ : tys[2]? = some (cJ, .long)) (htB : tys[3]? = some (cB, .double)) {v am oj od : Nat} {ws : va_W} (h : INV cI cO cJ cB tE v am oj od ws) (x y : Int32) : ∃ Mid : Int32 → va_W → Prop, Met l yL_judge wsL_judge { frames := 8, cells := 2, slots := 12, locals := 136 } (pcX G tys ws A tE mi [.ref v, .int x, .int y, .ref oj]) (va_Qi (fun (r : Int32) (w : va_W) => Mid r w) (fun w t => va_P G vwCl w t.heap ∧ va_D A w) A) 2 12 A ∧ ∀ k w, Mid k w → (∃ vs, w[12]? = some (am, .inr (9, vs))) ∧ Met l yX8_judge wsX8_judge { frames := 2, cells := 0, slots := 0, locals := 49 } (pcM G tys w A [.ref am, .int x, .int y]) (va_Qi (fun (r : Int32) (w2 : va_W) => EndI cJ am oj (INV cI cO cJ cB tE v am oj od) w2 r k) (fun w2 t => va_P G vwCl w2 t.heap ∧ va_D A w2) A) 0 0 A := by
  obtain ⟨own, ad, z, F, wi, dm, ⟨aS, af, aR, ao, ak, aP, aC⟩, np, hI⟩ := h
  have hI0 := hI
  obtain ⟨hb, hv, o0, hO, hg⟩ := hI
  have hv : ws[0]? = some (v, .inr (8, [.ref aS, .ref af, .ref aR, .ref ao, .ref ak, .ref aP, .ref aC])) := hv
  have o12 := hO 12 (by decide) (by decide)
  have o36 := hO 36 (by decide) (by decide)
  have o37 := hO 37 (by decide) (by decide)
  obtain ⟨q6, e6, g6, hL6, hn60, hz29⟩ := hg 6 (by decide)
  obtain ⟨n, q, e, g, gW, aW, wd, hL, hW, hWi, hwd, h35, hn8, hz33, hcl⟩ := hg 7 (by decide)
  refine ⟨_, metL_judge l G tys htJ ws hv (metX7_judge l hnt G tys htI ws htO hv hL6.1 (fun i hi => (hL6.2.2.2.1 i hi).1) hL.1 (fun i hi => (hL.2.2.2.1 i hi).1) (fun i hi => (hW i hi).1) hn60 hcl x y) (fun _ _ _ _ => hb.2.2.1) (by unfold cdJudge; (repeat' split) <;> decide), ?_⟩
  intro k w hM
  rcases hM with ⟨hc0, hk0, hw0⟩ | ⟨hc0, hk0, r, u, f, hp, ho, hw0⟩
  · rw [hw0, hk0]
    refine ⟨⟨_, hb.1⟩, mopI (metX8_judge (F := F) l G tys htI (ws) hb.1 (hb.r 28 60 (by decide)) (hb.r 29 60 (by decide)) (hb.r 30 60 (by decide)) (hb.r 31 8 (by decide)) (hb.r 32 8 (by decide)) (hb.r 33 8 (by decide)) (hb.r 34 8 (by decide)) (hb.r 35 56 (by decide)) hz33 hn8 (fun i hi => by obtain ⟨a, b, h1, h2, h3, h4⟩ := hcl i hi; exact ⟨a, b, h1, h2, h3, by omega⟩) x y) (fun r u _ => ?_)⟩
    rw [if_neg hc0]
    exact ⟨⟨ad, _, wi, dm, va_ge hb.1, upd_at⟩, fun q => absurd q hc0, INV_ref hI0 _⟩
  · have hp : r = jVer (jOpen (F 28) (F 29) (F 30) y (F 31 x.toNatClampNeg) (F 32 x.toNatClampNeg).toNatClampNeg ((F 33 x.toNatClampNeg).toNatClampNeg + 1 - (F 32 x.toNatClampNeg).toNatClampNeg)) (F 32 x.toNatClampNeg) (F 33 x.toNatClampNeg) (F 34 x.toNatClampNeg) (wd x.toNatClampNeg) := hp
    have ho : ws[36]? = some (oj, .inl (cJ, 1, .inr (.inl f))) := ho
    have hw0 : w = ws.set 36 (oj, .inl (cJ, 1, .inr (.inl (vp_updL f (0 : Int32).toNatClampNeg r.toInt64)))) := hw0
    have hcc := hc0
    unfold cdJudge at hcc
    obtain ⟨k0, hcc⟩ := cd1 (by decide) hcc
    obtain ⟨k1, hcc⟩ := cd1 (by decide) hcc
    have hx := (uK_ix k0).2
    have hfr : (F 32 x.toNatClampNeg).toNatClampNeg + ((F 33 x.toNatClampNeg).toNatClampNeg + 1 - (F 32 x.toNatClampNeg).toNatClampNeg) ≤ np := by
      obtain ⟨a, b, h1, h2, h3, h4⟩ := hcl _ hx
      rw [h1, h2, nI_clamp (by omega), nI_clamp (by omega)]
      omega
    have hb2 := hb.o (vp_updL f (0 : Int32).toNatClampNeg r.toInt64)
    rw [hw0, hk0]
    refine ⟨⟨_, hb2.1⟩, mopI (metX8_judge (F := F) l G tys htI (ws.set 36 (oj, .inl (cJ, 1, .inr (.inl (vp_updL f (0 : Int32).toNatClampNeg r.toInt64))))) hb2.1 (hb2.r 28 60 (by decide)) (hb2.r 29 60 (by decide)) (hb2.r 30 60 (by decide)) (hb2.r 31 8 (by decide)) (hb2.r 32 8 (by decide)) (hb2.r 33 8 (by decide)) (hb2.r 34 8 (by decide)) (hb2.r 35 56 (by decide)) hz33 hn8 (fun i hi => by obtain ⟨a, b, h1, h2, h3, h4⟩ := hcl i hi; exact ⟨a, b, h1, h2, h3, by omega⟩) x y) (fun r2 u2 hp2 => ?_)⟩
    rw [if_pos hc0]
    refine ⟨⟨ad, _, _, _, va_ge hb2.1, rfl⟩, fun _ => ⟨_, va_gs (by decide) (va_ge ho), ?_⟩, INV_rd hI0 hb2 (chz.rf.set o36)⟩
    rw [updL_0]
    rw [hp2 hc0, hp, jVer_eq, hCnt_eq 7 (fun k hk => hwd _ hx k hk), hCnt_eq 7 (fun k hk => hwd _ hx k hk), jkOpen_eq (np := np) (x := x) (fun _ _ => rfl) (fun _ _ => rfl) (fun _ _ => rfl) rfl hn60 hfr]
set_option maxHeartbeats 4000000 in
set_option maxRecDepth 100000 in
theorem sem_claim (l : Launch) (hnt : l.stackTraces = false) (G : va_G) (tys : List (ClassId × FieldType)) {A : Nat → Prop} {tE mi : Nat} {cI cO cJ cB : ClassId} (htI : tI tys cI) (htO : tO tys cO) (htJ : tys[2]? = some (cJ, .long)) (htB : tys[3]? = some (cB, .double)) {v am oj od : Nat} {ws : va_W} (h : INV cI cO cJ cB tE v am oj od ws) (x y s : Int32) : ∃ Mid : Int32 → va_W → Prop, Met l yL_claim wsL_claim { frames := 9, cells := 8, slots := 242, locals := 248 } (pcX G tys ws A tE mi [.ref v, .int x, .int y, .int s, .ref oj]) (va_Qi (fun (r : Int32) (w : va_W) => Mid r w) (fun w t => va_P G vwCl w t.heap ∧ va_D A w) A) 8 242 A ∧ ∀ k w, Mid k w → (∃ vs, w[12]? = some (am, .inr (9, vs))) ∧ Met l yX8_claim wsX8_claim { frames := 1, cells := 0, slots := 0, locals := 22 } (pcM G tys w A [.ref am, .int x, .int y, .int s]) (va_Qi (fun (r : Int32) (w2 : va_W) => EndI cJ am oj (INV cI cO cJ cB tE v am oj od) w2 r k) (fun w2 t => va_P G vwCl w2 t.heap ∧ va_D A w2) A) 0 0 A := by
  obtain ⟨own, ad, z, F, wi, dm, ⟨aS, af, aR, ao, ak, aP, aC⟩, np, hI⟩ := h
  have hI0 := hI
  obtain ⟨hb, hv, o0, hO, hg⟩ := hI
  have hv : ws[0]? = some (v, .inr (8, [.ref aS, .ref af, .ref aR, .ref ao, .ref ak, .ref aP, .ref aC])) := hv
  have o12 := hO 12 (by decide) (by decide)
  have o36 := hO 36 (by decide) (by decide)
  have o37 := hO 37 (by decide) (by decide)
  obtain ⟨q6, e6, g6, hL6, hn60, hz29⟩ := hg 6 (by decide)
  obtain ⟨n, q, e, g, gW, aW, wd, hL, hW, hWi, hwd, h35, hn8, hz33, hcl⟩ := hg 7 (by decide)
  have hadd : ∀ u : Nat × Nat × va_W, lsA (ws ++ ([(u.1, .inr (1, [.int x, .int y, .int s, .int (nI np), .ref u.2.1])), (u.2.1, .inl (cI, 7, .inl (fun _ => 0)))] : va_W)) tE cO 11 aC n e q u.1 u.2.2 → ∃ q2, pfL (fun k => if k < ws.length then own k else 7) u.2.2 tE cO 7 11 aC (n + 1) q2 (va_up e n u.1) (va_up g n ws.length) 1 (fun i => if i = n then [.int x, .int y, .int s, .int (nI np), .ref u.2.1] else [.int (F 31 i), .int (F 32 i), .int (F 33 i), .int (F 34 i), .ref (aW i)]) ∧ chg own (fun k => if k < ws.length then own k else 7) 7 ws u.2.2 ∧ (∀ j x, (([(u.2.1, .inl (cI, 7, .inl (fun _ => 0)))] : va_W))[j]? = some x → (u.2.2)[ws.length + 1 + j]? = some x) ∧ ∀ (p b : Nat) (c : ClassId) (m : Nat) (f : Nat → Int32), ws[p]? = some (b, .inl (c, m, .inl f)) → (u.2.2)[p]? = some (b, .inl (c, m, .inl f)) := fun u hu => hL.add (by decide) hu
  refine ⟨_, metL_claim l G tys htJ ws hv (metX7_claim l hnt G tys htI ws htO hv hL6.1 (fun i hi => (hL6.2.2.2.1 i hi).1) hL.1 (fun i hi => (hL.2.2.2.1 i hi).1) (fun i hi => (hW i hi).1) x y s (by omega)) (fun hc0 r u hp => by obtain ⟨q2, hL2, hc1, hmo, hki⟩ := hadd u hp.2; exact (hb.k (by decide) hO hc1).2.2.1) , ?_⟩
  intro k w hM
  rcases hM with ⟨hc0, hk0, hw0⟩ | ⟨hc0, hk0, r, u, f, hp, ho, hw0⟩
  · rw [hw0, hk0]
    refine ⟨⟨_, hb.1⟩, mopI (metX8_claim (F := F) l G tys htI (ws) hb.1 (hb.r 31 8 (by decide)) (hb.r 32 8 (by decide)) (hb.r 33 8 (by decide)) (hb.r 34 8 (by decide)) hz29 hn60 hz33 hn8 x y s) (fun r u _ => ?_)⟩
    rw [if_neg hc0]
    exact ⟨⟨ad, _, wi, dm, va_ge hb.1, upd_at⟩, fun q => absurd q hc0, INV_ref hI0 _⟩
  · have hp : r = nI n ∧ lsA (ws ++ ([(u.1, .inr (1, [.int x, .int y, .int s, .int (nI np), .ref u.2.1])), (u.2.1, .inl (cI, 7, .inl (fun _ => 0)))] : va_W)) tE cO 11 aC n e q u.1 u.2.2 := hp
    have ho : (u.2.2)[36]? = some (oj, .inl (cJ, 1, .inr (.inl f))) := ho
    have hw0 : w = (u.2.2).set 36 (oj, .inl (cJ, 1, .inr (.inl (vp_updL f (0 : Int32).toNatClampNeg r.toInt64)))) := hw0
    have hcc := hc0
    unfold cdClaim at hcc
    obtain ⟨k0, hcc⟩ := cd1 (by decide) hcc
    obtain ⟨k1, hcc⟩ := cd1 (by decide) hcc
    obtain ⟨k2, hcc⟩ := cd1 (by decide) hcc
    obtain ⟨k3, hcc⟩ := cd1 (by decide) hcc
    obtain ⟨k4, hcc⟩ := cd1 (by decide) hcc
    obtain ⟨q2, hL2, hc1, hmo, hki⟩ := hadd u hp.2
    have hO2 := hb.ow (by decide) hO hc1
    have hb1 := hb.k (by decide) hO hc1
    have hb2 := hb1.o (vp_updL f (0 : Int32).toNatClampNeg r.toInt64)
    rw [hw0, hk0]
    refine ⟨⟨_, hb2.1⟩, mopI (metX8_claim (F := F) l G tys htI ((u.2.2).set 36 (oj, .inl (cJ, 1, .inr (.inl (vp_updL f (0 : Int32).toNatClampNeg r.toInt64))))) hb2.1 (hb2.r 31 8 (by decide)) (hb2.r 32 8 (by decide)) (hb2.r 33 8 (by decide)) (hb2.r 34 8 (by decide)) hz29 hn60 hz33 hn8 x y s) (fun r2 u2 hp2 => ?_)⟩
    rw [if_pos hc0]
    have hb3 := ((((((hb2).m (upd z 0 0) wi dm).a 31 8 (upd (F 31) (z 33).toNatClampNeg x) (by decide)).a 32 8 (upd (F 32) (z 33).toNatClampNeg y) (by decide)).a 33 8 (upd (F 33) (z 33).toNatClampNeg s) (by decide)).a 34 8 (upd (F 34) (z 33).toNatClampNeg (z 29)) (by decide)).m (upd (upd z 0 0) 33 (z 33 + 1)) wi dm
    refine ⟨⟨ad, _, _, _, hb3.1, rfl⟩, fun _ => ⟨_, va_gs (by decide) (va_gs (by decide) (va_gs (by decide) (va_gs (by decide) (va_gs (by decide) (va_gs (by decide) (va_ge ho)))))), ?_⟩, INV_next hI0 7 (by decide) hc1 ((((((((chz.rf (own := (fun k => if k < ws.length then own k else 7))).set (hO2 36 (by decide) (by decide))).set (hO2 12 (by decide) (by decide))).set (hO2 31 (by decide) (by decide))).set (hO2 32 (by decide) (by decide))).set (hO2 33 (by decide) (by decide))).set (hO2 34 (by decide) (by decide))).set (hO2 12 (by decide) (by decide))) hb3 ((((((agb.rf.zz 0 0 (Or.inl rfl)).f 31 _ rfl).f 32 _ rfl).f 33 _ rfl).f 34 _ rfl).zz 33 _ (Or.inr rfl)) (Nat.le_refl _) (fun _ => rfl) ?_⟩
    · rw [updL_0]
      rw [hp2 hc0, hp.1, hz33]
    · have hz1n : (z 33).toNatClampNeg = n := by rw [hz33]; exact nI_clamp (by omega)
      have h8 := n8 (k := 8) k4 (by omega) (by decide)
      refine ⟨n + 1, q2, _, _, va_up gW n (ws.length + 1), va_up aW n u.2.1, va_up wd n (fun _ => 0), hL2.vs (fun i hi => ?_), fun i hi => ?_, fun i j hi hj c => ?_, fun i hi h h7 => ?_, fun j hj => h35 j (by omega), by omega, ?_, fun i hi => ?_⟩
      · show _ = ([.int (upd (F 31) (z 33).toNatClampNeg x i), .int (upd (F 32) (z 33).toNatClampNeg y i), .int (upd (F 33) (z 33).toNatClampNeg s i), .int (upd (F 34) (z 33).toNatClampNeg (z 29) i), .ref (va_up aW n u.2.1 i)] : List Value)
        rw [hz1n, hz29]
        by_cases c : i = n
        · rw [if_pos c, c, upd_at, upd_at, upd_at, upd_at, va_up_self]
        · rw [if_neg c, upd_ne c, upd_ne c, upd_ne c, upd_ne c, va_up_ne _ _ c]
      · by_cases c : i = n
        · rw [c, va_up_self, va_up_self, va_up_self]
          exact ⟨hmo 0 _ rfl, if_neg (by omega)⟩
        · rw [va_up_ne _ _ c, va_up_ne _ _ c, va_up_ne _ _ c]
          have hwi := hW i (by omega)
          exact ⟨hki _ _ _ _ _ hwi.1, by rw [if_pos (pl_lt hwi.1)]; exact hwi.2⟩
      · by_cases c1 : i = n
        · by_cases c2 : j = n
          · omega
          · rw [c1, va_up_self, va_up_ne _ _ c2] at c
            have := pl_lt (hW j (by omega)).1
            omega
        · by_cases c2 : j = n
          · rw [c2, va_up_self, va_up_ne _ _ c1] at c
            have := pl_lt (hW i (by omega)).1
            omega
          · rw [va_up_ne _ _ c1, va_up_ne _ _ c2] at c
            exact hWi i j (by omega) (by omega) c
      · show va_up wd n (fun _ => 0) i h = F 35 (7 * i + h)
        by_cases c : i = n
        · rw [c, va_up_self]; exact (h35 _ (by omega)).symm
        · rw [va_up_ne _ _ c]; exact hwd i (by omega) h h7
      · show z 33 + 1 = nI (n + 1)
        rw [hz33]
        exact nI_1 n
      · show ∃ a b : Nat, upd (F 32) (z 33).toNatClampNeg y i = nI a ∧ upd (F 33) (z 33).toNatClampNeg s i = nI b ∧ a ≤ b ∧ b < np
        rw [hz1n]
        by_cases c : i = n
        · rw [c, upd_at, upd_at]
          obtain ⟨y1, y2⟩ := uK_ix k0
          obtain ⟨s1, s2⟩ := uK_ix k1
          refine ⟨_, _, y1, s1, Nat.le_of_not_lt (fun c2 => k3 (Or.inl ?_)), s2⟩
          rw [y1, s1]
          exact Int32.lt_of_le_of_ne (nI_le (Nat.le_of_lt c2) (by omega)) (fun c3 => by have := congrArg Int32.toNatClampNeg c3; rw [nI_clamp (by omega), nI_clamp (by omega)] at this; omega)
        · rw [upd_ne c, upd_ne c]; exact hcl i (by omega)
set_option maxHeartbeats 4000000 in
set_option maxRecDepth 100000 in
theorem sem_flux (l : Launch) (hnt : l.stackTraces = false) (G : va_G) (tys : List (ClassId × FieldType)) {A : Nat → Prop} {tE mi : Nat} {cI cO cJ cB : ClassId} (htI : tI tys cI) (htO : tO tys cO) (htJ : tys[2]? = some (cJ, .long)) (htB : tys[3]? = some (cB, .double)) {v am oj od : Nat} {ws : va_W} (h : INV cI cO cJ cB tE v am oj od ws) (x y : Int32) : ∃ Mid : Int32 → va_W → Prop, Met l yL_flux wsL_flux { frames := 8, cells := 2, slots := 12, locals := 127 } (pcX G tys ws A tE mi [.ref v, .int x, .int y, .ref oj]) (va_Qi (fun (r : Int32) (w : va_W) => Mid r w) (fun w t => va_P G vwCl w t.heap ∧ va_D A w) A) 2 12 A ∧ ∀ k w, Mid k w → (∃ vs, w[12]? = some (am, .inr (9, vs))) ∧ Met l yX8_flux wsX8_flux { frames := 1, cells := 0, slots := 0, locals := 22 } (pcM G tys w A [.ref am, .int x, .int y]) (va_Qi (fun (r : Int32) (w2 : va_W) => EndI cJ am oj (INV cI cO cJ cB tE v am oj od) w2 r k) (fun w2 t => va_P G vwCl w2 t.heap ∧ va_D A w2) A) 0 0 A := by
  obtain ⟨own, ad, z, F, wi, dm, ⟨aS, af, aR, ao, ak, aP, aC⟩, np, hI⟩ := h
  have hI0 := hI
  obtain ⟨hb, hv, o0, hO, hg⟩ := hI
  have hv : ws[0]? = some (v, .inr (8, [.ref aS, .ref af, .ref aR, .ref ao, .ref ak, .ref aP, .ref aC])) := hv
  have o12 := hO 12 (by decide) (by decide)
  have o36 := hO 36 (by decide) (by decide)
  have o37 := hO 37 (by decide) (by decide)
  obtain ⟨n, q, e, g, hL, hn6, hz13, hrg, h23⟩ := hg 3 (by decide)
  have hi0 : ∀ i, i < n → ¬ F 21 i = 0 := fun i hi => (hrg i hi).1
  have hterm : ¬ uK x (nI n) → ¬ oR y (-1000000) 1000000 → ∃ j, j < 1000000 ∧ rStop (F 21 x.toNatClampNeg) (F 22 x.toNatClampNeg) y (rIt (F 21 x.toNatClampNeg) y (F 24 x.toNatClampNeg) j) := fun k0 k1 => by
    obtain ⟨h1, h2, h3, h4⟩ := (hrg _ (uK_ix k0).2).2
    have hy := oR_int k1
    exact flux_term rfl h1.1 rfl hy.1 hy.2 rfl (by omega) h4
  have hc1 : cdFlux x y (nI n) = 0 → ∀ u : Nat, chg own own 3 ws (ws.set (g x.toNatClampNeg) (e x.toNatClampNeg, .inr (6, [.int (F 21 x.toNatClampNeg), .int (F 22 x.toNatClampNeg), .int y, .int (rIt (F 21 x.toNatClampNeg) y (F 24 x.toNatClampNeg) u), .int (F 25 x.toNatClampNeg + nI u)]))) := fun hc0 u => by
    exact (hL.set (by decide) (uKn hc0 (by decide)) _).2
  refine ⟨_, metL_flux l G tys htJ ws hv (metX7_fluxT l hnt G tys ws htO hv hL.1 (fun i hi => (hL.2.2.2.1 i hi).1) x y hterm) (fun hc0 r u hp => (hb.k (by decide) hO (hc1 hc0 u)).2.2.1) (by unfold cdFlux; (repeat' split) <;> decide), ?_⟩
  intro k w hM
  rcases hM with ⟨hc0, hk0, hw0⟩ | ⟨hc0, hk0, r, u, f, hp, ho, hw0⟩
  · rw [hw0, hk0]
    refine ⟨⟨_, hb.1⟩, mopI (metX8_fluxT (F := F) l G tys htI (ws) hb.1 (hb.r 21 6 (by decide)) (hb.r 22 6 (by decide)) (hb.r 23 6 (by decide)) (hb.r 24 6 (by decide)) (hb.r 25 6 (by decide)) hz13 hn6 hi0 x y hterm) (fun r u _ => ?_)⟩
    rw [if_neg hc0]
    exact ⟨⟨ad, _, wi, dm, va_ge hb.1, upd_at⟩, fun q => absurd q hc0, INV_ref hI0 _⟩
  · have hp : r = (rIt (F 21 x.toNatClampNeg) y (F 24 x.toNatClampNeg) u) - F 24 x.toNatClampNeg ∧ rStop (F 21 x.toNatClampNeg) (F 22 x.toNatClampNeg) y (rIt (F 21 x.toNatClampNeg) y (F 24 x.toNatClampNeg) u) ∧ ∀ j, j < u → ¬ rStop (F 21 x.toNatClampNeg) (F 22 x.toNatClampNeg) y (rIt (F 21 x.toNatClampNeg) y (F 24 x.toNatClampNeg) j) := hp
    have ho : (ws.set (g x.toNatClampNeg) (e x.toNatClampNeg, .inr (6, [.int (F 21 x.toNatClampNeg), .int (F 22 x.toNatClampNeg), .int y, .int (rIt (F 21 x.toNatClampNeg) y (F 24 x.toNatClampNeg) u), .int (F 25 x.toNatClampNeg + nI u)])))[36]? = some (oj, .inl (cJ, 1, .inr (.inl f))) := ho
    have hw0 : w = (ws.set (g x.toNatClampNeg) (e x.toNatClampNeg, .inr (6, [.int (F 21 x.toNatClampNeg), .int (F 22 x.toNatClampNeg), .int y, .int (rIt (F 21 x.toNatClampNeg) y (F 24 x.toNatClampNeg) u), .int (F 25 x.toNatClampNeg + nI u)]))).set 36 (oj, .inl (cJ, 1, .inr (.inl (vp_updL f (0 : Int32).toNatClampNeg r.toInt64)))) := hw0
    have hcc := hc0
    unfold cdFlux at hcc
    obtain ⟨k0, hcc⟩ := cd1 (by decide) hcc
    obtain ⟨k1, hcc⟩ := cd1 (by decide) hcc
    have hx := (uK_ix k0).2
    obtain ⟨h1, h2, h3, h4⟩ := (hrg _ hx).2
    have hy : -1000000 ≤ y.toInt ∧ y.toInt ≤ 1000000 := oR_int k1
    have hc1 := hc1 hc0 u
    have hO2 := hO
    have hb1 := hb.k (by decide) hO hc1
    have hb2 := hb1.o (vp_updL f (0 : Int32).toNatClampNeg r.toInt64)
    rw [hw0, hk0]
    refine ⟨⟨_, hb2.1⟩, mopI (metX8_fluxT (F := F) l G tys htI ((ws.set (g x.toNatClampNeg) (e x.toNatClampNeg, .inr (6, [.int (F 21 x.toNatClampNeg), .int (F 22 x.toNatClampNeg), .int y, .int (rIt (F 21 x.toNatClampNeg) y (F 24 x.toNatClampNeg) u), .int (F 25 x.toNatClampNeg + nI u)]))).set 36 (oj, .inl (cJ, 1, .inr (.inl (vp_updL f (0 : Int32).toNatClampNeg r.toInt64))))) hb2.1 (hb2.r 21 6 (by decide)) (hb2.r 22 6 (by decide)) (hb2.r 23 6 (by decide)) (hb2.r 24 6 (by decide)) (hb2.r 25 6 (by decide)) hz13 hn6 hi0 x y hterm) (fun r2 u2 hp2 => ?_)⟩
    have hp2 := hp2 hc0
    have hu : u2 = u := by
      rcases Nat.lt_trichotomy u2 u with c | c | c
      · exact absurd hp2.2.1 (hp.2.2 u2 c)
      · exact c
      · exact absurd hp.2.1 (hp2.2.2 u c)
    subst hu
    rw [if_pos hc0]
    have hb3 := ((((hb2).m (upd z 0 0) wi dm).a 23 6 (upd (F 23) x.toNatClampNeg y) (by decide)).a 24 6 (upd (F 24) x.toNatClampNeg (rIt (F 21 x.toNatClampNeg) y (F 24 x.toNatClampNeg) u)) (by decide)).a 25 6 (upd (F 25) x.toNatClampNeg (F 25 x.toNatClampNeg + nI u)) (by decide)
    refine ⟨⟨ad, _, _, _, hb3.1, rfl⟩, fun _ => ⟨_, va_gs (by decide) (va_gs (by decide) (va_gs (by decide) (va_gs (by decide) (va_ge ho)))), ?_⟩, INV_next hI0 3 (by decide) hc1 ((((((chz.rf (own := own)).set (hO2 36 (by decide) (by decide))).set (hO2 12 (by decide) (by decide))).set (hO2 23 (by decide) (by decide))).set (hO2 24 (by decide) (by decide))).set (hO2 25 (by decide) (by decide))) hb3 ((((agb.rf.zz 0 0 (Or.inl rfl)).f 23 _ rfl).f 24 _ rfl).f 25 _ rfl) (Nat.le_refl _) (fun _ => rfl) ?_⟩
    · rw [updL_0]
      rw [hp2.1, hp.1]
    · refine ⟨n, q, e, g, (hL.set (by decide) hx _).1.vs (fun i hi => ?_), hn6, hz13, fun i hi => ?_, fun k i g1 g2 g3 => ?_⟩
      · show _ = ([.int (F 21 i), .int (F 22 i), .int (upd (F 23) x.toNatClampNeg y i), .int (upd (F 24) x.toNatClampNeg (rIt (F 21 x.toNatClampNeg) y (F 24 x.toNatClampNeg) u) i), .int (upd (F 25) x.toNatClampNeg (F 25 x.toNatClampNeg + nI u) i)] : List Value)
        by_cases c : i = x.toNatClampNeg
        · rw [if_pos c, c, upd_at, upd_at, upd_at]
        · rw [if_neg c, upd_ne c, upd_ne c, upd_ne c]
      · show ¬ F 21 i = 0 ∧ rgR (F 21 i) (F 22 i) (upd (F 23) x.toNatClampNeg y i) (upd (F 24) x.toNatClampNeg (rIt (F 21 x.toNatClampNeg) y (F 24 x.toNatClampNeg) u) i)
        by_cases c : i = x.toNatClampNeg
        · rw [c, upd_at, upd_at]
          exact ⟨(hrg _ hx).1, h1, h2, hy, flux_rng rfl h1.1 h1.2 rfl hy.1 hy.2 rfl (by omega) h2.2 h4 hp.2.1 hp.2.2⟩
        · rw [upd_ne c, upd_ne c]; exact hrg i hi
      · show uFk (uFk (uFk F 23 _) 24 _) 25 _ k i = 0
        have hne : i ≠ x.toNatClampNeg := by omega
        by_cases c5 : k = 25
        · rw [c5, uFk_at, upd_ne hne]; exact h23 25 i (by decide) (by decide) g3
        · rw [uFk_ne c5]
          by_cases c4 : k = 24
          · rw [c4, uFk_at, upd_ne hne]; exact h23 24 i (by decide) (by decide) g3
          · rw [uFk_ne c4]
            by_cases c3 : k = 23
            · rw [c3, uFk_at, upd_ne hne]; exact h23 23 i (by decide) (by decide) g3
            · rw [uFk_ne c3]; exact h23 k i g1 g2 g3
set_option maxHeartbeats 4000000 in
set_option maxRecDepth 100000 in
theorem sem_enter (l : Launch) (hnt : l.stackTraces = false) (G : va_G) (tys : List (ClassId × FieldType)) {A : Nat → Prop} {tE mi : Nat} {cI cO cJ cB : ClassId} (htI : tI tys cI) (htO : tO tys cO) (htJ : tys[2]? = some (cJ, .long)) (htB : tys[3]? = some (cB, .double)) {v am oj od : Nat} {ws : va_W} (h : INV cI cO cJ cB tE v am oj od ws) (x : Int32) : ∃ Mid : Int32 → va_W → Prop, Met l yL_enter wsL_enter { frames := 8, cells := 2, slots := 12, locals := 127 } (pcX G tys ws A tE mi [.ref v, .int x, .ref oj]) (va_Qi (fun (r : Int32) (w : va_W) => Mid r w) (fun w t => va_P G vwCl w t.heap ∧ va_D A w) A) 2 12 A ∧ ∀ k w, Mid k w → (∃ vs, w[12]? = some (am, .inr (9, vs))) ∧ Met l yX8_enter wsX8_enter { frames := 2, cells := 0, slots := 0, locals := 45 } (pcM G tys w A [.ref am, .int x]) (va_Qi (fun (r : Int32) (w2 : va_W) => EndI cJ am oj (INV cI cO cJ cB tE v am oj od) w2 r k) (fun w2 t => va_P G vwCl w2 t.heap ∧ va_D A w2) A) 0 0 A := by
  obtain ⟨own, ad, z, F, wi, dm, ⟨aS, af, aR, ao, ak, aP, aC⟩, np, hI⟩ := h
  have hI0 := hI
  obtain ⟨hb, hv, o0, hO, hg⟩ := hI
  have hv : ws[0]? = some (v, .inr (8, [.ref aS, .ref af, .ref aR, .ref ao, .ref ak, .ref aP, .ref aC])) := hv
  have o12 := hO 12 (by decide) (by decide)
  have o36 := hO 36 (by decide) (by decide)
  have o37 := hO 37 (by decide) (by decide)
  obtain ⟨a3, a4, n, cx, hf, hd, hk, o2, o3, o4, hz9, hfl, hce⟩ := hg 2 (by decide)
  have hf : ws[2]? = some (af, .inr (4, [.ref a3, .ref a4, .int (nI n), .int (z 11), .int (z 12)])) := hf
  have hn20 : n ≤ 20 := hfl.1
  have hcl := metX7_enter l hnt G tys htI ws hv hf hd hk (by decide) x (nI_le (a := 0) (Nat.zero_le n) (by omega))
  have hB := fCe_eq (dep := F 18) (dr := z 11) (w := nI n) hfl 6 (Nat.le_refl _)
  have hok := mBt_ok (cel := F 20) (dep := F 18) (win := F 19) (dr := z 11) (w := nI n) (n := n) 6 (Nat.le_refl _)
  have hfr := mBt_free (cel := F 20) (dep := F 18) (win := F 19) (dr := z 11) (w := nI n) (n := n) 6 (Nat.le_refl _)
  obtain ⟨B, eB⟩ : ∃ B, B = mBt (F 20) (F 18) (F 19) (z 11) (nI n) n 6 := ⟨_, rfl⟩
  rw [← eB] at hB hok hfr
  have eZ : mBt (F 20) (F 18) (F 19) (z 11) (z 9) n 6 = B := by rw [hz9, eB]
  rcases hB with ⟨m1, c1⟩ | ⟨m1, c1⟩
  · simp only [if_pos c1] at hcl
    refine ⟨_, metL_enter l G tys htJ ws hv (hcl) (fun _ _ _ _ => hb.2.2.1) (by unfold cdEnter; (repeat' split) <;> decide), ?_⟩
    intro k w hM
    rcases hM with ⟨hc0, hk0, hw0⟩ | ⟨hc0, hk0, r, u, f, hp, ho, hw0⟩
    · rw [hw0, hk0]
      refine ⟨⟨_, hb.1⟩, mopI (metX8_enter (F := F) l G tys htI (ws) hb.1 (hb.r 18 48 (by decide)) (hb.r 19 48 (by decide)) (hb.r 20 20 (by decide)) hz9 hfl.1 x) (fun r u _ => ?_)⟩
      rw [if_neg hc0]
      exact ⟨⟨ad, _, wi, dm, va_ge hb.1, upd_at⟩, fun q => absurd q hc0, INV_ref hI0 _⟩
    · have hp : r = -1 := hp
      have ho : ws[36]? = some (oj, .inl (cJ, 1, .inr (.inl f))) := ho
      have hw0 : w = ws.set 36 (oj, .inl (cJ, 1, .inr (.inl (vp_updL f (0 : Int32).toNatClampNeg r.toInt64)))) := hw0
      have hcc := hc0
      unfold cdEnter at hcc
      obtain ⟨k0, hcc⟩ := cd1 (by decide) hcc
      obtain ⟨k1, hcc⟩ := cd1 (by decide) hcc
      have hb2 := hb.o (vp_updL f (0 : Int32).toNatClampNeg r.toInt64)
      rw [hw0, hk0]
      refine ⟨⟨_, hb2.1⟩, mopI (metX8_enter (F := F) l G tys htI (ws.set 36 (oj, .inl (cJ, 1, .inr (.inl (vp_updL f (0 : Int32).toNatClampNeg r.toInt64))))) hb2.1 (hb2.r 18 48 (by decide)) (hb2.r 19 48 (by decide)) (hb2.r 20 20 (by decide)) hz9 hfl.1 x) (fun r2 u2 hp2 => ?_)⟩
      have hp2 := hp2 hc0
      rw [eZ, if_pos m1] at hp2
      rw [if_pos hc0, eZ, if_pos m1]
      refine ⟨⟨ad, _, _, _, va_ge hb2.1, rfl⟩, fun _ => ⟨_, va_gs (by decide) (va_ge ho), ?_⟩, INV_rd hI0 hb2 (chz.rf.set o36)⟩
      rw [updL_0]
      rw [hp2, hp]
  · have c2 : (fCe cx (F 18) (z 11) (nI n) 6).1 = B := by rw [c1]
    have eE : fEn cx (F 18) (z 11) (nI n) B = mEn (F 20) (F 18) (z 11) (nI n) n B := fE_eq hfl (hok m1)
    have eE9 : mEn (F 20) (F 18) (z 11) (z 9) n B = mEn (F 20) (F 18) (z 11) (nI n) n B := by rw [hz9]
    by_cases le : mEn (F 20) (F 18) (z 11) (nI n) n B ≤ x
    · simp only [c2, if_neg m1, eE, if_pos le] at hcl
      have hc1 : cdEnter x (nI n) = 0 → chg own own 2 ws ((ws.set 4 (a4, .inl (cI, 20, .inl (upd cx (nI n).toNatClampNeg B)))).set 2 (af, .inr (4, [.ref a3, .ref a4, .int (nI n + 1), .int (z 11), .int (z 12)]))) := fun hc0 => by
        exact (chg.rf.set o4).set o2
      refine ⟨_, metL_enter l G tys htJ ws hv (hcl) (fun hc0 r u hp => (hb.k (by decide) hO (hc1 hc0)).2.2.1) (by unfold cdEnter; (repeat' split) <;> decide), ?_⟩
      intro k w hM
      rcases hM with ⟨hc0, hk0, hw0⟩ | ⟨hc0, hk0, r, u, f, hp, ho, hw0⟩
      · rw [hw0, hk0]
        refine ⟨⟨_, hb.1⟩, mopI (metX8_enter (F := F) l G tys htI (ws) hb.1 (hb.r 18 48 (by decide)) (hb.r 19 48 (by decide)) (hb.r 20 20 (by decide)) hz9 hfl.1 x) (fun r u _ => ?_)⟩
        rw [if_neg hc0]
        exact ⟨⟨ad, _, wi, dm, va_ge hb.1, upd_at⟩, fun q => absurd q hc0, INV_ref hI0 _⟩
      · have hp : r = nI n := hp
        have ho : ((ws.set 4 (a4, .inl (cI, 20, .inl (upd cx (nI n).toNatClampNeg B)))).set 2 (af, .inr (4, [.ref a3, .ref a4, .int (nI n + 1), .int (z 11), .int (z 12)])))[36]? = some (oj, .inl (cJ, 1, .inr (.inl f))) := ho
        have hw0 : w = ((ws.set 4 (a4, .inl (cI, 20, .inl (upd cx (nI n).toNatClampNeg B)))).set 2 (af, .inr (4, [.ref a3, .ref a4, .int (nI n + 1), .int (z 11), .int (z 12)]))).set 36 (oj, .inl (cJ, 1, .inr (.inl (vp_updL f (0 : Int32).toNatClampNeg r.toInt64)))) := hw0
        have hcc := hc0
        unfold cdEnter at hcc
        obtain ⟨k0, hcc⟩ := cd1 (by decide) hcc
        obtain ⟨k1, hcc⟩ := cd1 (by decide) hcc
        have hc1 := hc1 hc0
        have hO2 := hO
        have hb1 := hb.k (by decide) hO hc1
        have hb2 := hb1.o (vp_updL f (0 : Int32).toNatClampNeg r.toInt64)
        rw [hw0, hk0]
        refine ⟨⟨_, hb2.1⟩, mopI (metX8_enter (F := F) l G tys htI (((ws.set 4 (a4, .inl (cI, 20, .inl (upd cx (nI n).toNatClampNeg B)))).set 2 (af, .inr (4, [.ref a3, .ref a4, .int (nI n + 1), .int (z 11), .int (z 12)]))).set 36 (oj, .inl (cJ, 1, .inr (.inl (vp_updL f (0 : Int32).toNatClampNeg r.toInt64))))) hb2.1 (hb2.r 18 48 (by decide)) (hb2.r 19 48 (by decide)) (hb2.r 20 20 (by decide)) hz9 hfl.1 x) (fun r2 u2 hp2 => ?_)⟩
        have hp2 := hp2 hc0
        rw [eZ, if_neg m1, eE9, if_pos le] at hp2
        rw [if_pos hc0, eZ, if_neg m1, eE9, if_pos le]
        have hb3 := ((((hb2).m (upd z 0 0) wi dm).a 20 20 (upd (F 20) (z 9).toNatClampNeg B) (by decide)).a 19 48 (upd (F 19) B.toNatClampNeg (z 9)) (by decide)).m (upd (upd z 0 0) 9 (z 9 + 1)) wi dm
        refine ⟨⟨ad, _, _, _, hb3.1, rfl⟩, fun _ => ⟨_, va_gs (by decide) (va_gs (by decide) (va_gs (by decide) (va_gs (by decide) (va_ge ho)))), ?_⟩, INV_next hI0 2 (by decide) hc1 ((((((chz.rf (own := own)).set (hO2 36 (by decide) (by decide))).set (hO2 12 (by decide) (by decide))).set (hO2 20 (by decide) (by decide))).set (hO2 19 (by decide) (by decide))).set (hO2 12 (by decide) (by decide))) hb3 ((((agb.rf.zz 0 0 (Or.inl rfl)).f 20 _ rfl).f 19 _ rfl).zz 9 _ (Or.inr rfl)) (Nat.le_refl _) (fun _ => rfl) ?_⟩
        · rw [updL_0]
          rw [hp2, hp, hz9]
        · have h9 : (z 9).toNatClampNeg = n := by rw [hz9]; exact nI_clamp (by omega)
          have hnn : (nI n).toNatClampNeg = n := nI_clamp (by omega)
          have hen := filR_enter hfl (n8 (k := 20) k1 (by omega) (by decide)) (hok m1) (hfr m1)
          rw [nI_1, hnn]
          refine ⟨a3, a4, n + 1, _, va_ge (va_gs (by decide) hf), va_gs (by decide) (va_gs (by decide) hd), va_gs (by decide) (va_ge hk), o2, o3, o4, ?_, ?_, fun j hj => ?_⟩
          · show z 9 + 1 = nI (n + 1)
            rw [hz9]
            exact nI_1 n
          · show filR (n + 1) (upd cx n B) (upd (F 20) (z 9).toNatClampNeg B) (upd (F 19) B.toNatClampNeg (z 9))
            rw [h9, hz9]
            exact hen
          · have hj : ¬ upd (F 20) (z 9).toNatClampNeg B j = -1 := hj
            show ¬ uK (upd (F 20) (z 9).toNatClampNeg B j) 48
            rw [h9] at hj ⊢
            by_cases c : j = n
            · rw [c, upd_at]; exact hok m1
            · rw [upd_ne c] at hj ⊢; exact hce j hj
    · simp only [c2, if_neg m1, eE, if_neg le] at hcl
      refine ⟨_, metL_enter l G tys htJ ws hv (hcl) (fun _ _ _ _ => hb.2.2.1) (by unfold cdEnter; (repeat' split) <;> decide), ?_⟩
      intro k w hM
      rcases hM with ⟨hc0, hk0, hw0⟩ | ⟨hc0, hk0, r, u, f, hp, ho, hw0⟩
      · rw [hw0, hk0]
        refine ⟨⟨_, hb.1⟩, mopI (metX8_enter (F := F) l G tys htI (ws) hb.1 (hb.r 18 48 (by decide)) (hb.r 19 48 (by decide)) (hb.r 20 20 (by decide)) hz9 hfl.1 x) (fun r u _ => ?_)⟩
        rw [if_neg hc0]
        exact ⟨⟨ad, _, wi, dm, va_ge hb.1, upd_at⟩, fun q => absurd q hc0, INV_ref hI0 _⟩
      · have hp : r = -1 := hp
        have ho : ws[36]? = some (oj, .inl (cJ, 1, .inr (.inl f))) := ho
        have hw0 : w = ws.set 36 (oj, .inl (cJ, 1, .inr (.inl (vp_updL f (0 : Int32).toNatClampNeg r.toInt64)))) := hw0
        have hcc := hc0
        unfold cdEnter at hcc
        obtain ⟨k0, hcc⟩ := cd1 (by decide) hcc
        obtain ⟨k1, hcc⟩ := cd1 (by decide) hcc
        have hb2 := hb.o (vp_updL f (0 : Int32).toNatClampNeg r.toInt64)
        rw [hw0, hk0]
        refine ⟨⟨_, hb2.1⟩, mopI (metX8_enter (F := F) l G tys htI (ws.set 36 (oj, .inl (cJ, 1, .inr (.inl (vp_updL f (0 : Int32).toNatClampNeg r.toInt64))))) hb2.1 (hb2.r 18 48 (by decide)) (hb2.r 19 48 (by decide)) (hb2.r 20 20 (by decide)) hz9 hfl.1 x) (fun r2 u2 hp2 => ?_)⟩
        have hp2 := hp2 hc0
        rw [eZ, if_neg m1, eE9, if_neg le] at hp2
        rw [if_pos hc0, eZ, if_neg m1, eE9, if_neg le]
        refine ⟨⟨ad, _, _, _, va_ge hb2.1, rfl⟩, fun _ => ⟨_, va_gs (by decide) (va_ge ho), ?_⟩, INV_rd hI0 hb2 (chz.rf.set o36)⟩
        rw [updL_0]
        rw [hp2, hp]
theorem mopS {l : Launch} {y : MethodName} {wy : List Cond} {rm : Room} {G : va_G} {tys : List (ClassId × FieldType)} {A : Nat → Prop} {ws w2 : va_W} {av : List Value} {mc ms : Nat} {post : Int32 → Prop} (hM : Met l y wy rm (pcM G tys ws A av) (qMi G w2 A post) mc ms A) (hd : va_D A ws → va_D A w2) : Met l y wy rm (pcM G tys ws A av) (va_Qi (fun r (w : va_W) => post r ∧ w = w2) (fun w t => va_P G vwCl w t.heap ∧ va_D A w) A) mc ms A :=
  met_mono hM (fun _ _ q => q) (fun a s o t hp hq => by
    obtain ⟨⟨r, u, ho, hp1, hB⟩, hF⟩ := hq
    exact ⟨⟨r, w2, ho, ⟨hp1, rfl⟩, hB, hd hp.2.2.2.1⟩, hF⟩)
set_option maxHeartbeats 4000000 in
set_option maxRecDepth 100000 in
theorem sem_step (l : Launch) (hnt : l.stackTraces = false) (G : va_G) (tys : List (ClassId × FieldType)) {A : Nat → Prop} {tE mi : Nat} {cI cO cJ cB : ClassId} (htI : tI tys cI) (htO : tO tys cO) (htJ : tys[2]? = some (cJ, .long)) (htB : tys[3]? = some (cB, .double)) {v am oj od : Nat} {ws : va_W} (h : INV cI cO cJ cB tE v am oj od ws) : ∃ Mid : Int32 → va_W → Prop, Met l yX7_step wsX7_step ({ frames := 6, cells := 0, slots := 0, locals := 144 }) (pcM G tys ws A [.ref v]) (va_Qi (fun (r : Int32) (w : va_W) => Mid r w) (fun w t => va_P G vwCl w t.heap ∧ va_D A w) A) 0 0 A ∧ ∀ k w, Mid k w → (∃ vs, w[12]? = some (am, .inr (9, vs))) ∧ Met l yX8_step wsX8_step ({ frames := 4, cells := 0, slots := 0, locals := 95 }) (pcM G tys w A [.ref am]) (va_Qi (fun (r : Int32) (w2 : va_W) => r = k ∧ INV cI cO cJ cB tE v am oj od w2) (fun w2 t => va_P G vwCl w2 t.heap ∧ va_D A w2) A) 0 0 A := by
  obtain ⟨own, ad, z, F, wi, dm, ⟨aS, af, aR, ao, ak, aP, aC⟩, np, hI⟩ := h
  have hI0 := hI
  obtain ⟨hb, hv, o0, hO, hg⟩ := hI
  have hv : ws[0]? = some (v, .inr (8, [.ref aS, .ref af, .ref aR, .ref ao, .ref ak, .ref aP, .ref aC])) := hv
  have o12 := hO 12 (by decide) (by decide)
  have o36 := hO 36 (by decide) (by decide)
  have o37 := hO 37 (by decide) (by decide)
  obtain ⟨a3, a4, n, cx, hf, hd, hk, o2, o3, o4, hz9, hfl, hce⟩ := hg 2 (by decide)
  have hf : ws[2]? = some (af, .inr (4, [.ref a3, .ref a4, .int (nI n), .int (z 11), .int (z 12)])) := hf
  have hcl := metX7_step l G tys htI ws hv hf hd hk (A := A) (by decide)
  have hfs := film_step (dep := F 18) (dr := z 11) (he := z 12) hfl
  have hce2 := mSt_ok (dep := F 18) (dr := z 11) (he := z 12) (n := n) (win := F 19) (cel := F 20) hce n (by have := hfl.1; omega)
  generalize fStep cx (F 18) (z 11) (z 12) 20 = fs at hcl hfs
  refine ⟨_, mopS hcl (fun hD => hD.set hk), ?_⟩
  intro k w hM
  obtain ⟨hk0, hw0⟩ := hM
  have hc1 : chg own own 2 ws (ws.set 4 (a4, .inl (cI, 20, .inl fs.1))) := chg.rf.set o4
  have hb1 := hb.k (by decide) hO hc1
  have hmd := metX8_step (F := F) l G tys htI (ws.set 4 (a4, .inl (cI, 20, .inl fs.1))) hb1.1 (hb1.r 18 48 (by decide)) (hb1.r 19 48 (by decide)) (hb1.r 20 20 (by decide)) hz9 hfl.1 hce (A := A)
  generalize mSt (F 18) (z 11) (z 12) n (F 19) (F 20) n = ms at hmd hfs hce2
  rw [hw0]
  refine ⟨⟨_, hb1.1⟩, mopI hmd (fun r2 u2 hp2 => ⟨by rw [hp2, hk0, hfs.2], ?_⟩)⟩
  have hb3 := ((hb1.m (upd z 0 0) wi dm).a 19 48 ms.1.1 (by decide)).a 20 20 ms.1.2 (by decide)
  exact INV_next hI0 2 (by decide) hc1 (((chz.rf.set o12).set (hO 19 (by decide) (by decide))).set (hO 20 (by decide) (by decide))) hb3 (((agb.rf.zz 0 0 (Or.inl rfl)).f 19 _ rfl).f 20 _ rfl) (Nat.le_refl _) (fun _ => rfl) ⟨a3, a4, n, _, va_gs (by decide) hf, va_gs (by decide) hd, va_ge hk, o2, o3, o4, hz9, hfs.1, hce2⟩
set_option maxHeartbeats 4000000 in
set_option maxRecDepth 100000 in
theorem sem_avalanche (l : Launch) (hnt : l.stackTraces = false) (G : va_G) (tys : List (ClassId × FieldType)) {A : Nat → Prop} {tE mi : Nat} {cI cO cJ cB : ClassId} (htI : tI tys cI) (htO : tO tys cO) (htJ : tys[2]? = some (cJ, .long)) (htB : tys[3]? = some (cB, .double)) {v am oj od : Nat} {ws : va_W} (h : INV cI cO cJ cB tE v am oj od ws) : ∃ Mid : Int32 → va_W → Prop, Met l yX7_avalanche wsX7_avalanche ({ frames := 6, cells := 0, slots := 0, locals := 144 }) (pcM G tys ws A [.ref v]) (va_Qi (fun (r : Int32) (w : va_W) => Mid r w) (fun w t => va_P G vwCl w t.heap ∧ va_D A w) A) 0 0 A ∧ ∀ k w, Mid k w → (∃ vs, w[12]? = some (am, .inr (9, vs))) ∧ Met l yX8_avalanche wsX8_avalanche ({ frames := 4, cells := 0, slots := 0, locals := 95 }) (pcM G tys w A [.ref am]) (va_Qi (fun (r : Int32) (w2 : va_W) => r = k ∧ INV cI cO cJ cB tE v am oj od w2) (fun w2 t => va_P G vwCl w2 t.heap ∧ va_D A w2) A) 0 0 A := by
  obtain ⟨own, ad, z, F, wi, dm, ⟨aS, af, aR, ao, ak, aP, aC⟩, np, hI⟩ := h
  have hI0 := hI
  obtain ⟨hb, hv, o0, hO, hg⟩ := hI
  have hv : ws[0]? = some (v, .inr (8, [.ref aS, .ref af, .ref aR, .ref ao, .ref ak, .ref aP, .ref aC])) := hv
  have o12 := hO 12 (by decide) (by decide)
  have o36 := hO 36 (by decide) (by decide)
  have o37 := hO 37 (by decide) (by decide)
  obtain ⟨a3, a4, n, cx, hf, hd, hk, o2, o3, o4, hz9, hfl, hce⟩ := hg 2 (by decide)
  have hf : ws[2]? = some (af, .inr (4, [.ref a3, .ref a4, .int (nI n), .int (z 11), .int (z 12)])) := hf
  have hcl := metX7_avalanche l G tys htI ws hv hf hd hk (A := A) (by decide)
  have hfs := film_av (dep := F 18) (dr := z 11) (he := z 12) hfl 60
  have hce2 := mAv_ok (dep := F 18) (dr := z 11) (he := z 12) (n := n) (win := F 19) (cm := F 20) hfl.1 hce 60
  generalize fAv cx (F 18) (z 11) (z 12) 60 = fs at hcl hfs
  refine ⟨_, mopS hcl (fun hD => hD.set hk), ?_⟩
  intro k w hM
  obtain ⟨hk0, hw0⟩ := hM
  have hc1 : chg own own 2 ws (ws.set 4 (a4, .inl (cI, 20, .inl fs.1.1))) := chg.rf.set o4
  have hb1 := hb.k (by decide) hO hc1
  have hmd := metX8_avalanche (F := F) l G tys htI (ws.set 4 (a4, .inl (cI, 20, .inl fs.1.1))) hb1.1 (hb1.r 18 48 (by decide)) (hb1.r 19 48 (by decide)) (hb1.r 20 20 (by decide)) hz9 hfl.1 hce (A := A)
  generalize mAv (F 18) (z 11) (z 12) n (F 19) (F 20) 60 = ms at hmd hfs hce2
  rw [hw0]
  refine ⟨⟨_, hb1.1⟩, mopI hmd (fun r2 u2 hp2 => ⟨by rw [hp2, hk0, hfs.2.1], ?_⟩)⟩
  have hb3 := ((hb1.m (upd z 0 0) wi dm).a 19 48 ms.1.1.1 (by decide)).a 20 20 ms.1.1.2 (by decide)
  exact INV_next hI0 2 (by decide) hc1 (((chz.rf.set o12).set (hO 19 (by decide) (by decide))).set (hO 20 (by decide) (by decide))) hb3 (((agb.rf.zz 0 0 (Or.inl rfl)).f 19 _ rfl).f 20 _ rfl) (Nat.le_refl _) (fun _ => rfl) ⟨a3, a4, n, _, va_gs (by decide) hf, va_gs (by decide) hd, va_ge hk, o2, o3, o4, hz9, hfs.1, hce2⟩
set_option maxHeartbeats 4000000 in
set_option maxRecDepth 100000 in
theorem sem_share (l : Launch) (hnt : l.stackTraces = false) (G : va_G) (tys : List (ClassId × FieldType)) {A : Nat → Prop} {tE mi : Nat} {cI cO cJ cB : ClassId} (htI : tI tys cI) (htO : tO tys cO) (htJ : tys[2]? = some (cJ, .long)) (htB : tys[3]? = some (cB, .double)) {v am oj od : Nat} {ws : va_W} (h : INV cI cO cJ cB tE v am oj od ws) : ∃ Mid : UInt64 → va_W → Prop, Met l yX7_share wsX7_share ({ frames := 0, cells := 0, slots := 0, locals := 0 }) (pcM G tys ws A [.ref v]) (va_Qd (fun (r : UInt64) (w : va_W) => Mid r w) (fun w t => va_P G vwCl w t.heap ∧ va_D A w) A) 0 0 A ∧ ∀ k w, Mid k w → (∃ vs, w[12]? = some (am, .inr (9, vs))) ∧ Met l yX8_share wsX8_share ({ frames := 0, cells := 0, slots := 0, locals := 0 }) (pcM G tys w A [.ref am]) (va_Qd (fun (r : UInt64) (w2 : va_W) => r = k ∧ INV cI cO cJ cB tE v am oj od w2) (fun w2 t => va_P G vwCl w2 t.heap ∧ va_D A w2) A) 0 0 A := by
  obtain ⟨own, ad, z, F, wi, dm, ⟨aS, af, aR, ao, ak, aP, aC⟩, np, hI⟩ := h
  have hI0 := hI
  obtain ⟨hb, hv, o0, hO, hg⟩ := hI
  have hv : ws[0]? = some (v, .inr (8, [.ref aS, .ref af, .ref aR, .ref ao, .ref ak, .ref aP, .ref aC])) := hv
  have o12 := hO 12 (by decide) (by decide)
  have o36 := hO 36 (by decide) (by decide)
  have o37 := hO 37 (by decide) (by decide)
  obtain ⟨pw, pz, aw, az, wm, sp, cur, du, ir, cwi, cdm, ho6, hw, hzp, nwz, o6, opw, opz, hcr⟩ := hg 4 (by decide)
  have ho6 : ws[6]? = some (ao, .inr (2, [.ref aw, .ref az, .int cur, .int du, .int ir, .long cwi, .long cdm])) := ho6
  have nw6 : pw ≠ 6 := ne_lr hw ho6
  have nz6 : pz ≠ 6 := ne_lr hzp ho6
  refine ⟨fun r w => r = cShare cwi cdm ∧ w = ws, ?_, ?_⟩
  · refine mopD (metX7_share l G tys htI ws hv ho6 hw hzp) (fun r u hp => ⟨hp, rfl⟩)
  · intro k w hM
    obtain ⟨hk0, hw0⟩ := hM
    rw [hw0]
    refine ⟨⟨_, hb.1⟩, mopD (metX8_share l G tys ws hb.1) (fun r2 u2 hp2 => ⟨by rw [hp2, hk0, show cwi = wi from hcr.2.2.2.2.2.1, show cdm = dm from hcr.2.2.2.2.2.2], INV_rd hI0 hb chz.rf⟩)⟩
