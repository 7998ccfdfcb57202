set_option maxHeartbeats 4000000 in
set_option maxRecDepth 100000 in
theorem sem_current (l : Launch) (hnt : l.stackTraces = false) (G : va_G) (tys : List (ClassId × FieldType)) {A : Nat → Prop} {tE mi : Nat} {cI cO cJ cB : ClassId} (htI : tI tys cI) (htO : tO tys cO) (htJ : tys[2]? = some (cJ, .long)) (htB : tys[3]? = some (cB, .double)) {v am oj od : Nat} {ws : va_W} (h : INV cI cO cJ cB tE v am oj od ws) (x : Int32) : ∃ Mid : Int32 → va_W → Prop, Met l yL_current wsL_current { frames := 8, cells := 1, slots := 6, locals := 126 } (pcX G tys ws A tE mi [.ref v, .int x, .ref oj]) (va_Qi (fun (r : Int32) (w : va_W) => Mid r w) (fun w t => va_P G vwCl w t.heap ∧ va_D A w) A) 1 6 A ∧ ∀ k w, Mid k w → (∃ vs, w[12]? = some (am, .inr (9, vs))) ∧ Met l yX8_current wsX8_current { frames := 1, cells := 0, slots := 0, locals := 22 } (pcM G tys w A [.ref am, .int x]) (va_Qi (fun (r : Int32) (w2 : va_W) => EndI cJ am oj (INV cI cO cJ cB tE v am oj od) w2 r k) (fun w2 t => va_P G vwCl w2 t.heap ∧ va_D A w2) A) 0 0 A := by
  obtain ⟨own, ad, z, F, wi, dm, ⟨aS, af, aR, ao, ak, aP, aC⟩, np, hI⟩ := h
  have hI0 := hI
  obtain ⟨hb, hv, o0, hO, hg⟩ := hI
  have hv : ws[0]? = some (v, .inr (8, [.ref aS, .ref af, .ref aR, .ref ao, .ref ak, .ref aP, .ref aC])) := hv
  have o12 := hO 12 (by decide) (by decide)
  have o36 := hO 36 (by decide) (by decide)
  have o37 := hO 37 (by decide) (by decide)
  obtain ⟨pw, pz, aw, az, wm, sp, cur, du, ir, cwi, cdm, ho6, hw, hzp, nwz, o6, opw, opz, hcr⟩ := hg 4 (by decide)
  have ho6 : ws[6]? = some (ao, .inr (2, [.ref aw, .ref az, .int cur, .int du, .int ir, .long cwi, .long cdm])) := ho6
  have nw6 : pw ≠ 6 := ne_lr hw ho6
  have nz6 : pz ≠ 6 := ne_lr hzp ho6
  have hc1 : cdCurrent x = 0 → chg own own 4 ws (ws.set 6 (ao, .inr (2, [.ref aw, .ref az, .int x, .int 0, .int 0, .long cwi, .long cdm]))) := fun hc0 => by
    exact chg.rf.set o6
  refine ⟨_, metL_current l G tys htJ ws hv (metX7_current l hnt G tys htI ws hv ho6 hw hzp nwz x) (fun hc0 r u hp => (hb.k (by decide) hO (hc1 hc0)).2.2.1) (by unfold cdCurrent; (repeat' split) <;> decide) (by unfold cdCurrent; (repeat' split) <;> decide), ?_⟩
  intro k w hM
  rcases hM with ⟨hc0, hk0, hw0⟩ | ⟨hc0, hk0, r, u, f, hp, ho, hw0⟩
  · rw [hw0, hk0]
    refine ⟨⟨_, hb.1⟩, mopI (metX8_current (F := F) l G tys htI (ws) hb.1 x) (fun r u _ => ?_)⟩
    rw [if_neg hc0]
    exact ⟨⟨ad, _, wi, dm, va_ge hb.1, upd_at⟩, fun q => absurd q hc0, INV_ref hI0 _⟩
  · have hp : r = cur := hp
    have ho : (ws.set 6 (ao, .inr (2, [.ref aw, .ref az, .int x, .int 0, .int 0, .long cwi, .long cdm])))[36]? = some (oj, .inl (cJ, 1, .inr (.inl f))) := ho
    have hw0 : w = (ws.set 6 (ao, .inr (2, [.ref aw, .ref az, .int x, .int 0, .int 0, .long cwi, .long cdm]))).set 36 (oj, .inl (cJ, 1, .inr (.inl (vp_updL f (0 : Int32).toNatClampNeg r.toInt64)))) := hw0
    have hcc := hc0
    unfold cdCurrent at hcc
    obtain ⟨k0, hcc⟩ := cd1 (by decide) hcc
    have hc1 := hc1 hc0
    have hO2 := hO
    have hb1 := hb.k (by decide) hO hc1
    have hb2 := hb1.o (vp_updL f (0 : Int32).toNatClampNeg r.toInt64)
    rw [hw0, hk0]
    refine ⟨⟨_, hb2.1⟩, mopI (metX8_current (F := F) l G tys htI ((ws.set 6 (ao, .inr (2, [.ref aw, .ref az, .int x, .int 0, .int 0, .long cwi, .long cdm]))).set 36 (oj, .inl (cJ, 1, .inr (.inl (vp_updL f (0 : Int32).toNatClampNeg r.toInt64))))) hb2.1 x) (fun r2 u2 hp2 => ?_)⟩
    rw [if_pos hc0]
    have hb3 := ((((hb2).m (upd z 0 0) wi dm).m (upd (upd z 0 0) 21 x) wi dm).m (upd (upd (upd z 0 0) 21 x) 22 0) wi dm).m (upd (upd (upd (upd z 0 0) 21 x) 22 0) 23 0) wi dm
    refine ⟨⟨ad, _, _, _, hb3.1, rfl⟩, fun _ => ⟨_, va_gs (by decide) (va_gs (by decide) (va_gs (by decide) (va_gs (by decide) (va_ge ho)))), ?_⟩, INV_next hI0 4 (by decide) hc1 ((((((chz.rf (own := own)).set (hO2 36 (by decide) (by decide))).set (hO2 12 (by decide) (by decide))).set (hO2 12 (by decide) (by decide))).set (hO2 12 (by decide) (by decide))).set (hO2 12 (by decide) (by decide))) hb3 ((((agb.rf.zz 0 0 (Or.inl rfl)).zz 21 x (Or.inr rfl)).zz 22 0 (Or.inr rfl)).zz 23 0 (Or.inr rfl)) (Nat.le_refl _) (fun _ => rfl) ?_⟩
    · rw [updL_0]
      rw [hp2 hc0, hp]; exact congrArg _ hcr.2.1
    · exact ⟨pw, pz, aw, az, wm, sp, x, 0, 0, cwi, cdm, va_ge ho6, va_gs nw6 hw, va_gs nz6 hzp, nwz, o6, opw, opz, hcr.1, rfl, rfl, Or.inl rfl, rfl, hcr.2.2.2.2.2.1, hcr.2.2.2.2.2.2⟩
set_option maxHeartbeats 4000000 in
set_option maxRecDepth 100000 in
theorem sem_heat (l : Launch) (hnt : l.stackTraces = false) (G : va_G) (tys : List (ClassId × FieldType)) {A : Nat → Prop} {tE mi : Nat} {cI cO cJ cB : ClassId} (htI : tI tys cI) (htO : tO tys cO) (htJ : tys[2]? = some (cJ, .long)) (htB : tys[3]? = some (cB, .double)) {v am oj od : Nat} {ws : va_W} (h : INV cI cO cJ cB tE v am oj od ws) (x y : Int32) : ∃ Mid : Int32 → va_W → Prop, Met l yL_heat wsL_heat { frames := 8, cells := 2, slots := 12, locals := 126 } (pcX G tys ws A tE mi [.ref v, .int x, .int y, .ref oj]) (va_Qi (fun (r : Int32) (w : va_W) => Mid r w) (fun w t => va_P G vwCl w t.heap ∧ va_D A w) A) 2 12 A ∧ ∀ k w, Mid k w → (∃ vs, w[12]? = some (am, .inr (9, vs))) ∧ Met l yX8_heat wsX8_heat { frames := 1, cells := 0, slots := 0, locals := 22 } (pcM G tys w A [.ref am, .int x, .int y]) (va_Qi (fun (r : Int32) (w2 : va_W) => EndI cJ am oj (INV cI cO cJ cB tE v am oj od) w2 r k) (fun w2 t => va_P G vwCl w2 t.heap ∧ va_D A w2) A) 0 0 A := by
  obtain ⟨own, ad, z, F, wi, dm, ⟨aS, af, aR, ao, ak, aP, aC⟩, np, hI⟩ := h
  have hI0 := hI
  obtain ⟨hb, hv, o0, hO, hg⟩ := hI
  have hv : ws[0]? = some (v, .inr (8, [.ref aS, .ref af, .ref aR, .ref ao, .ref ak, .ref aP, .ref aC])) := hv
  have o12 := hO 12 (by decide) (by decide)
  have o36 := hO 36 (by decide) (by decide)
  have o37 := hO 37 (by decide) (by decide)
  obtain ⟨pw, pz, aw, az, wm, sp, cur, du, ir, cwi, cdm, ho6, hw, hzp, nwz, o6, opw, opz, hcr⟩ := hg 4 (by decide)
  have ho6 : ws[6]? = some (ao, .inr (2, [.ref aw, .ref az, .int cur, .int du, .int ir, .long cwi, .long cdm])) := ho6
  have nw6 : pw ≠ 6 := ne_lr hw ho6
  have nz6 : pz ≠ 6 := ne_lr hzp ho6
  have hc1 : cdHeat x y = 0 → chg own own 4 ws (ws.set pw (aw, .inl (cI, 12, .inl (upd wm x.toNatClampNeg (jmin 1000 (wm x.toNatClampNeg + y)))))) := fun hc0 => by
    exact chg.rf.set opw
  refine ⟨_, metL_heat l G tys htJ ws hv (metX7_heat l hnt G tys htI ws hv ho6 hw hzp nwz x y) (fun hc0 r u hp => (hb.k (by decide) hO (hc1 hc0)).2.2.1) (by unfold cdHeat; (repeat' split) <;> decide), ?_⟩
  intro k w hM
  rcases hM with ⟨hc0, hk0, hw0⟩ | ⟨hc0, hk0, r, u, f, hp, ho, hw0⟩
  · rw [hw0, hk0]
    refine ⟨⟨_, hb.1⟩, mopI (metX8_heat (F := F) l G tys htI (ws) hb.1 (hb.r 26 12 (by decide)) x y) (fun r u _ => ?_)⟩
    rw [if_neg hc0]
    exact ⟨⟨ad, _, wi, dm, va_ge hb.1, upd_at⟩, fun q => absurd q hc0, INV_ref hI0 _⟩
  · have hp : r = jmin 1000 (wm x.toNatClampNeg + y) := hp
    have ho : (ws.set pw (aw, .inl (cI, 12, .inl (upd wm x.toNatClampNeg (jmin 1000 (wm x.toNatClampNeg + y))))))[36]? = some (oj, .inl (cJ, 1, .inr (.inl f))) := ho
    have hw0 : w = (ws.set pw (aw, .inl (cI, 12, .inl (upd wm x.toNatClampNeg (jmin 1000 (wm x.toNatClampNeg + y)))))).set 36 (oj, .inl (cJ, 1, .inr (.inl (vp_updL f (0 : Int32).toNatClampNeg r.toInt64)))) := hw0
    have hcc := hc0
    unfold cdHeat at hcc
    obtain ⟨k0, hcc⟩ := cd1 (by decide) hcc
    obtain ⟨k1, hcc⟩ := cd1 (by decide) hcc
    have hwx : wm x.toNatClampNeg = F 26 x.toNatClampNeg := hcr.1 _ (uK_ix (n := 12) k0).2
    have hc1 := hc1 hc0
    have hO2 := hO
    have hb1 := hb.k (by decide) hO hc1
    have hb2 := hb1.o (vp_updL f (0 : Int32).toNatClampNeg r.toInt64)
    rw [hw0, hk0]
    refine ⟨⟨_, hb2.1⟩, mopI (metX8_heat (F := F) l G tys htI ((ws.set pw (aw, .inl (cI, 12, .inl (upd wm x.toNatClampNeg (jmin 1000 (wm x.toNatClampNeg + y)))))).set 36 (oj, .inl (cJ, 1, .inr (.inl (vp_updL f (0 : Int32).toNatClampNeg r.toInt64))))) hb2.1 (hb2.r 26 12 (by decide)) x y) (fun r2 u2 hp2 => ?_)⟩
    rw [if_pos hc0]
    have hb3 := ((hb2).m (upd z 0 0) wi dm).a 26 12 (upd (F 26) x.toNatClampNeg (jmin 1000 (F 26 x.toNatClampNeg + y))) (by decide)
    refine ⟨⟨ad, _, _, _, hb3.1, rfl⟩, fun _ => ⟨_, va_gs (by decide) (va_gs (by decide) (va_ge ho)), ?_⟩, INV_next hI0 4 (by decide) hc1 ((((chz.rf (own := own)).set (hO2 36 (by decide) (by decide))).set (hO2 12 (by decide) (by decide))).set (hO2 26 (by decide) (by decide))) hb3 ((agb.rf.zz 0 0 (Or.inl rfl)).f 26 _ rfl) (Nat.le_refl _) (fun _ => rfl) ?_⟩
    · rw [updL_0]
      rw [hp2 hc0, hp, hwx]
    · refine ⟨pw, pz, aw, az, _, sp, cur, du, ir, cwi, cdm, va_gs nw6.symm ho6, va_ge hw, va_gs nwz.symm hzp, nwz, o6, opw, opz, fun k hk => ?_, hcr.2⟩
      show upd wm x.toNatClampNeg (jmin 1000 (wm x.toNatClampNeg + y)) k = upd (F 26) x.toNatClampNeg (jmin 1000 (F 26 x.toNatClampNeg + y)) k
      rw [hwx]
      by_cases c : k = x.toNatClampNeg
      · rw [c, upd_at, upd_at]
      · rw [upd_ne c, upd_ne c]; exact hcr.1 k hk
set_option maxHeartbeats 4000000 in
set_option maxRecDepth 100000 in
theorem sem_warmth (l : Launch) (hnt : l.stackTraces = false) (G : va_G) (tys : List (ClassId × FieldType)) {A : Nat → Prop} {tE mi : Nat} {cI cO cJ cB : ClassId} (htI : tI tys cI) (htO : tO tys cO) (htJ : tys[2]? = some (cJ, .long)) (htB : tys[3]? = some (cB, .double)) {v am oj od : Nat} {ws : va_W} (h : INV cI cO cJ cB tE v am oj od ws) (x : Int32) : ∃ Mid : Int32 → va_W → Prop, Met l yL_warmth wsL_warmth { frames := 8, cells := 1, slots := 6, locals := 124 } (pcX G tys ws A tE mi [.ref v, .int x, .ref oj]) (va_Qi (fun (r : Int32) (w : va_W) => Mid r w) (fun w t => va_P G vwCl w t.heap ∧ va_D A w) A) 1 6 A ∧ ∀ k w, Mid k w → (∃ vs, w[12]? = some (am, .inr (9, vs))) ∧ Met l yX8_warmth wsX8_warmth { frames := 1, cells := 0, slots := 0, locals := 22 } (pcM G tys w A [.ref am, .int x]) (va_Qi (fun (r : Int32) (w2 : va_W) => EndI cJ am oj (INV cI cO cJ cB tE v am oj od) w2 r k) (fun w2 t => va_P G vwCl w2 t.heap ∧ va_D A w2) A) 0 0 A := by
  obtain ⟨own, ad, z, F, wi, dm, ⟨aS, af, aR, ao, ak, aP, aC⟩, np, hI⟩ := h
  have hI0 := hI
  obtain ⟨hb, hv, o0, hO, hg⟩ := hI
  have hv : ws[0]? = some (v, .inr (8, [.ref aS, .ref af, .ref aR, .ref ao, .ref ak, .ref aP, .ref aC])) := hv
  have o12 := hO 12 (by decide) (by decide)
  have o36 := hO 36 (by decide) (by decide)
  have o37 := hO 37 (by decide) (by decide)
  obtain ⟨pw, pz, aw, az, wm, sp, cur, du, ir, cwi, cdm, ho6, hw, hzp, nwz, o6, opw, opz, hcr⟩ := hg 4 (by decide)
  have ho6 : ws[6]? = some (ao, .inr (2, [.ref aw, .ref az, .int cur, .int du, .int ir, .long cwi, .long cdm])) := ho6
  have nw6 : pw ≠ 6 := ne_lr hw ho6
  have nz6 : pz ≠ 6 := ne_lr hzp ho6
  refine ⟨_, metL_warmth l G tys htJ ws hv (metX7_warmth l hnt G tys htI ws hv ho6 hw hzp nwz x) (fun _ _ _ _ => hb.2.2.1) (by unfold cdOne; (repeat' split) <;> decide) (by unfold cdOne; (repeat' split) <;> decide), ?_⟩
  intro k w hM
  rcases hM with ⟨hc0, hk0, hw0⟩ | ⟨hc0, hk0, r, u, f, hp, ho, hw0⟩
  · rw [hw0, hk0]
    refine ⟨⟨_, hb.1⟩, mopI (metX8_warmth (F := F) l G tys htI (ws) hb.1 (hb.r 26 12 (by decide)) x) (fun r u _ => ?_)⟩
    rw [if_neg hc0]
    exact ⟨⟨ad, _, wi, dm, va_ge hb.1, upd_at⟩, fun q => absurd q hc0, INV_ref hI0 _⟩
  · have hp : r = wm x.toNatClampNeg := hp
    have ho : ws[36]? = some (oj, .inl (cJ, 1, .inr (.inl f))) := ho
    have hw0 : w = ws.set 36 (oj, .inl (cJ, 1, .inr (.inl (vp_updL f (0 : Int32).toNatClampNeg r.toInt64)))) := hw0
    have hcc := hc0
    unfold cdOne at hcc
    obtain ⟨k0, hcc⟩ := cd1 (by decide) hcc
    have hb2 := hb.o (vp_updL f (0 : Int32).toNatClampNeg r.toInt64)
    rw [hw0, hk0]
    refine ⟨⟨_, hb2.1⟩, mopI (metX8_warmth (F := F) l G tys htI (ws.set 36 (oj, .inl (cJ, 1, .inr (.inl (vp_updL f (0 : Int32).toNatClampNeg r.toInt64))))) hb2.1 (hb2.r 26 12 (by decide)) x) (fun r2 u2 hp2 => ?_)⟩
    rw [if_pos hc0]
    refine ⟨⟨ad, _, _, _, va_ge hb2.1, rfl⟩, fun _ => ⟨_, va_gs (by decide) (va_ge ho), ?_⟩, INV_rd hI0 hb2 (chz.rf.set o36)⟩
    rw [updL_0]
    rw [hp2 hc0, hp]; exact congrArg _ (hcr.1 _ (uK_ix (n := 12) k0).2)
theorem cOf_eq {cur du ir cur2 du2 ir2 : Int32} {wi dm wi2 dm2 : Int64} {wm sp wm2 sp2 : Nat → Int32} {w : Int32} (h : coilR (wm, sp, cur, du, ir, wi, dm) (wm2, sp2, cur2, du2, ir2, wi2, dm2)) : cOf cur du wi dm wm w = (if w = 0 then (mCnt cur2 wm2 0 12).toInt64 else if w = 1 then (mCnt cur2 wm2 0 6 - mCnt cur2 wm2 6 6).toInt64 else if w = 2 then (if du2 = 0 then 0 else 1) else if w = 3 then wi2 else if w = 4 then dm2 else cSto cur2) := by
  obtain ⟨h1, h2, h3, h4, h5, h6, h7⟩ := h
  dsimp only at h1 h2 h3 h4 h5 h6 h7
  subst h2; subst h3; subst h5; subst h6; subst h7
  unfold cOf cDoubt
  rw [mCnt_eq, mCnt_eq, mCnt_eq, cCnt_congr 12 (fun j hj => h1 (0 + j) (by omega)), cCnt_congr 6 (fun j hj => h1 (0 + j) (by omega)), cCnt_congr 6 (fun j hj => h1 (6 + j) (by omega))]
set_option maxHeartbeats 4000000 in
set_option maxRecDepth 100000 in
theorem sem_ofCoil (l : Launch) (hnt : l.stackTraces = false) (G : va_G) (tys : List (ClassId × FieldType)) {A : Nat → Prop} {tE mi : Nat} {cI cO cJ cB : ClassId} (htI : tI tys cI) (htO : tO tys cO) (htJ : tys[2]? = some (cJ, .long)) (htB : tys[3]? = some (cB, .double)) {v am oj od : Nat} {ws : va_W} (h : INV cI cO cJ cB tE v am oj od ws) (x : Int32) : ∃ Mid : Int32 → va_W → Prop, Met l yL_ofCoil wsL_ofCoil { frames := 8, cells := 1, slots := 6, locals := 125 } (pcX G tys ws A tE mi [.ref v, .int x, .ref oj]) (va_Qi (fun (r : Int32) (w : va_W) => Mid r w) (fun w t => va_P G vwCl w t.heap ∧ va_D A w) A) 1 6 A ∧ ∀ k w, Mid k w → (∃ vs, w[12]? = some (am, .inr (9, vs))) ∧ Met l yX8_ofCoil wsX8_ofCoil { frames := 3, cells := 0, slots := 0, locals := 65 } (pcM G tys w A [.ref am, .int x]) (va_Ql (fun (r : Int64) (w2 : va_W) => EndL cJ am oj (INV cI cO cJ cB tE v am oj od) w2 r k) (fun w2 t => va_P G vwCl w2 t.heap ∧ va_D A w2) A) 0 0 A := by
  obtain ⟨own, ad, z, F, wi, dm, ⟨aS, af, aR, ao, ak, aP, aC⟩, np, hI⟩ := h
  have hI0 := hI
  obtain ⟨hb, hv, o0, hO, hg⟩ := hI
  have hv : ws[0]? = some (v, .inr (8, [.ref aS, .ref af, .ref aR, .ref ao, .ref ak, .ref aP, .ref aC])) := hv
  have o12 := hO 12 (by decide) (by decide)
  have o36 := hO 36 (by decide) (by decide)
  have o37 := hO 37 (by decide) (by decide)
  obtain ⟨pw, pz, aw, az, wm, sp, cur, du, ir, cwi, cdm, ho6, hw, hzp, nwz, o6, opw, opz, hcr⟩ := hg 4 (by decide)
  have ho6 : ws[6]? = some (ao, .inr (2, [.ref aw, .ref az, .int cur, .int du, .int ir, .long cwi, .long cdm])) := ho6
  have nw6 : pw ≠ 6 := ne_lr hw ho6
  have nz6 : pz ≠ 6 := ne_lr hzp ho6
  refine ⟨_, metL_ofCoil l G tys htJ ws hv (metX7_ofCoil l hnt G tys htI ws hv ho6 hw hzp nwz x) (fun _ _ _ _ => hb.2.2.1) (by unfold cdOfCoil; (repeat' split) <;> decide) (by unfold cdOfCoil; (repeat' split) <;> decide), ?_⟩
  intro k w hM
  rcases hM with ⟨hc0, hk0, hw0⟩ | ⟨hc0, hk0, r, u, f, hp, ho, hw0⟩
  · rw [hw0, hk0]
    refine ⟨⟨_, hb.1⟩, mopL (metX8_ofCoil (F := F) l G tys htI (ws) hb.1 (hb.r 26 12 (by decide)) x) (fun r u _ => ?_)⟩
    rw [if_neg hc0]
    exact ⟨⟨ad, _, wi, dm, va_ge hb.1, upd_at⟩, fun q => absurd q hc0, INV_ref hI0 _⟩
  · have hp : r = cOf cur du cwi cdm wm x := hp
    have ho : ws[36]? = some (oj, .inl (cJ, 1, .inr (.inl f))) := ho
    have hw0 : w = ws.set 36 (oj, .inl (cJ, 1, .inr (.inl (vp_updL f (0 : Int32).toNatClampNeg r)))) := hw0
    have hcc := hc0
    unfold cdOfCoil at hcc
    obtain ⟨k0, hcc⟩ := cd1 (by decide) hcc
    have hb2 := hb.o (vp_updL f (0 : Int32).toNatClampNeg r)
    rw [hw0, hk0]
    refine ⟨⟨_, hb2.1⟩, mopL (metX8_ofCoil (F := F) l G tys htI (ws.set 36 (oj, .inl (cJ, 1, .inr (.inl (vp_updL f (0 : Int32).toNatClampNeg r))))) hb2.1 (hb2.r 26 12 (by decide)) x) (fun r2 u2 hp2 => ?_)⟩
    rw [if_pos hc0]
    refine ⟨⟨ad, _, _, _, va_ge hb2.1, rfl⟩, fun _ => ⟨_, va_gs (by decide) (va_ge ho), ?_⟩, INV_rd hI0 hb2 (chz.rf.set o36)⟩
    rw [updL_0]
    rw [hp2 hc0, hp, cOf_eq hcr]
theorem agbP {z : Nat → Int32} {F : Nat → Nat → Int32} {wi dm wi2 dm2 : Int64} {τ : cS} : agb 4 z F wi dm (mZ (upd z 0 0) τ) (uFk (uFk F 27 τ.2.1) 26 τ.1) wi2 dm2 := by
  refine ⟨fun i h1 h2 => ?_, fun k h1 => ?_, fun c => absurd rfl c⟩
  · unfold mZ
    rw [upd_ne (fun c => by subst c; exact h2 rfl), upd_ne (fun c => by subst c; exact h2 rfl), upd_ne (fun c => by subst c; exact h2 rfl), upd_ne (fun c => by subst c; exact h1 rfl)]
  · rw [uFk_ne (fun c => by subst c; exact h1 rfl), uFk_ne (fun c => by subst c; exact h1 rfl)]
theorem coil_pass {own : Nat → Nat} {ws : va_W} {cI : ClassId} {ao pw pz aw az : Nat} {z : Nat → Int32} {F : Nat → Nat → Int32} {σ τ : cS} {x0 : Nat × va_E} {wm sp : Nat → Int32} (ho : ws[6]? = some x0) (hw : ws[pw]? = some (aw, .inl (cI, 12, .inl wm))) (hzp : ws[pz]? = some (az, .inl (cI, 12, .inl sp))) (nwz : pw ≠ pz) (nw6 : pw ≠ 6) (nz6 : pz ≠ 6) (o6 : own 6 = 4) (opw : own pw = 4) (opz : own pz = 4) (h : coilR σ τ) (sw : Bool) : grC own (cW ws cI 6 pw pz ao aw az σ sw) cI ao (mZ z τ) (uFk (uFk F 27 τ.2.1) 26 τ.1) τ.2.2.2.2.2.1 τ.2.2.2.2.2.2 := by
  unfold cW
  cases sw with
  | false => exact ⟨pw, pz, aw, az, σ.1, σ.2.1, σ.2.2.1, σ.2.2.2.1, σ.2.2.2.2.1, σ.2.2.2.2.2.1, σ.2.2.2.2.2.2, va_ge (va_gs nz6.symm (va_gs nw6.symm ho)), va_gs nw6 (va_gs nwz (va_ge hw)), va_gs nz6 (va_ge (va_gs nwz.symm hzp)), nwz, o6, opw, opz, h⟩
  | true => exact ⟨pz, pw, az, aw, σ.1, σ.2.1, σ.2.2.1, σ.2.2.2.1, σ.2.2.2.2.1, σ.2.2.2.2.2.1, σ.2.2.2.2.2.2, va_ge (va_gs nz6.symm (va_gs nw6.symm ho)), va_gs nz6 (va_ge (va_gs nwz.symm hzp)), va_gs nw6 (va_gs nwz (va_ge hw)), nwz.symm, o6, opz, opw, h⟩
set_option maxHeartbeats 4000000 in
set_option maxRecDepth 100000 in
theorem sem_pass (l : Launch) (hnt : l.stackTraces = false) (G : va_G) (tys : List (ClassId × FieldType)) {A : Nat → Prop} {tE mi : Nat} {cI cO cJ cB : ClassId} (htI : tI tys cI) (htO : tO tys cO) (htJ : tys[2]? = some (cJ, .long)) (htB : tys[3]? = some (cB, .double)) {v am oj od : Nat} {ws : va_W} (h : INV cI cO cJ cB tE v am oj od ws) (x : Int32) : ∃ Mid : Int32 → va_W → Prop, Met l yL_pass wsL_pass { frames := 8, cells := 1, slots := 6, locals := 127 } (pcX G tys ws A tE mi [.ref v, .int x, .ref oj]) (va_Qi (fun (r : Int32) (w : va_W) => Mid r w) (fun w t => va_P G vwCl w t.heap ∧ va_D A w) A) 1 6 A ∧ ∀ k w, Mid k w → (∃ vs, w[12]? = some (am, .inr (9, vs))) ∧ Met l yX8_pass wsX8_pass { frames := 4, cells := 0, slots := 0, locals := 94 } (pcM G tys w A [.ref am, .int x]) (va_Qi (fun (r : Int32) (w2 : va_W) => EndI cJ am oj (INV cI cO cJ cB tE v am oj od) w2 r k) (fun w2 t => va_P G vwCl w2 t.heap ∧ va_D A w2) A) 0 0 A := by
  obtain ⟨own, ad, z, F, wi, dm, ⟨aS, af, aR, ao, ak, aP, aC⟩, np, hI⟩ := h
  have hI0 := hI
  obtain ⟨hb, hv, o0, hO, hg⟩ := hI
  have hv : ws[0]? = some (v, .inr (8, [.ref aS, .ref af, .ref aR, .ref ao, .ref ak, .ref aP, .ref aC])) := hv
  have o12 := hO 12 (by decide) (by decide)
  have o36 := hO 36 (by decide) (by decide)
  have o37 := hO 37 (by decide) (by decide)
  obtain ⟨pw, pz, aw, az, wm, sp, cur, du, ir, cwi, cdm, ho6, hw, hzp, nwz, o6, opw, opz, hcr⟩ := hg 4 (by decide)
  have ho6 : ws[6]? = some (ao, .inr (2, [.ref aw, .ref az, .int cur, .int du, .int ir, .long cwi, .long cdm])) := ho6
  have nw6 : pw ≠ 6 := ne_lr hw ho6
  have nz6 : pz ≠ 6 := ne_lr hzp ho6
  have hc1 : cdPass x = 0 → chg own own 4 ws (cW ws cI 6 pw pz ao aw az (cIt (wm, sp, cur, du, ir, cwi, cdm) x.toNatClampNeg) (cSw x.toNatClampNeg)) := fun hc0 => by
    exact ((chg.rf.set opw).set opz).set o6
  refine ⟨_, metL_pass l G tys htJ ws hv (metX7_pass l hnt G tys htI ws hv ho6 hw hzp nwz x) (fun hc0 r u hp => (hb.k (by decide) hO (hc1 hc0)).2.2.1) (by unfold cdPass; (repeat' split) <;> decide) (by unfold cdPass; (repeat' split) <;> decide), ?_⟩
  intro k w hM
  rcases hM with ⟨hc0, hk0, hw0⟩ | ⟨hc0, hk0, r, u, f, hp, ho, hw0⟩
  · rw [hw0, hk0]
    refine ⟨⟨_, hb.1⟩, mopI (metX8_pass (F := F) l G tys htI (ws) hb.1 (hb.r 26 12 (by decide)) (hb.r 27 12 (by decide)) x) (fun r u _ => ?_)⟩
    rw [if_neg hc0]
    exact ⟨⟨ad, _, wi, dm, va_ge hb.1, upd_at⟩, fun q => absurd q hc0, INV_ref hI0 _⟩
  · have hp : r = (cIt (wm, sp, cur, du, ir, cwi, cdm) x.toNatClampNeg).2.2.1 := hp
    have ho : (cW ws cI 6 pw pz ao aw az (cIt (wm, sp, cur, du, ir, cwi, cdm) x.toNatClampNeg) (cSw x.toNatClampNeg))[36]? = some (oj, .inl (cJ, 1, .inr (.inl f))) := ho
    have hw0 : w = (cW ws cI 6 pw pz ao aw az (cIt (wm, sp, cur, du, ir, cwi, cdm) x.toNatClampNeg) (cSw x.toNatClampNeg)).set 36 (oj, .inl (cJ, 1, .inr (.inl (vp_updL f (0 : Int32).toNatClampNeg r.toInt64)))) := hw0
    have hcc := hc0
    unfold cdPass at hcc
    obtain ⟨k0, hcc⟩ := cd1 (by decide) hcc
    have hci := coil_it hcr x.toNatClampNeg
    have hc1 := hc1 hc0
    have hO2 := hO
    have hb1 := hb.k (by decide) hO hc1
    have hb2 := hb1.o (vp_updL f (0 : Int32).toNatClampNeg r.toInt64)
    rw [hw0, hk0]
    refine ⟨⟨_, hb2.1⟩, mopI (metX8_pass (F := F) l G tys htI ((cW ws cI 6 pw pz ao aw az (cIt (wm, sp, cur, du, ir, cwi, cdm) x.toNatClampNeg) (cSw x.toNatClampNeg)).set 36 (oj, .inl (cJ, 1, .inr (.inl (vp_updL f (0 : Int32).toNatClampNeg r.toInt64))))) hb2.1 (hb2.r 26 12 (by decide)) (hb2.r 27 12 (by decide)) x) (fun r2 u2 hp2 => ?_)⟩
    rw [if_pos hc0]
    have hb3 := (((hb2).a 27 12 ((mIt (F 26, F 27, z 21, z 22, z 23, wi, dm) x.toNatClampNeg).2.1) (by decide)).a 26 12 ((mIt (F 26, F 27, z 21, z 22, z 23, wi, dm) x.toNatClampNeg).1) (by decide)).m (mZ (upd z 0 0) (mIt (F 26, F 27, z 21, z 22, z 23, wi, dm) x.toNatClampNeg)) ((mIt (F 26, F 27, z 21, z 22, z 23, wi, dm) x.toNatClampNeg).2.2.2.2.2.1) ((mIt (F 26, F 27, z 21, z 22, z 23, wi, dm) x.toNatClampNeg).2.2.2.2.2.2)
    refine ⟨⟨ad, _, _, _, hb3.1, rfl⟩, fun _ => ⟨_, va_gs (by decide) (va_gs (by decide) (va_gs (by decide) (va_ge ho))), ?_⟩, INV_next hI0 4 (by decide) hc1 (((((chz.rf (own := own)).set (hO2 36 (by decide) (by decide))).set (hO2 27 (by decide) (by decide))).set (hO2 26 (by decide) (by decide))).set (hO2 12 (by decide) (by decide))) hb3 (agbP) (Nat.le_refl _) (fun _ => rfl) ?_⟩
    · rw [updL_0]
      rw [hp2 hc0, hp]; exact congrArg _ hci.2.1
    · exact coil_pass ho6 hw hzp nwz nw6 nz6 o6 opw opz hci _
