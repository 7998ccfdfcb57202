set_option maxHeartbeats 4000000 in
set_option maxRecDepth 100000 in
theorem sem_flux (l : Launch) (hnt : l.stackTraces = false) (G : va_G) (tys : List (ClassId × FieldType)) {A : Nat → Prop} {tE mi : Nat} {cI cO cJ cB : ClassId} (htI : tI tys cI) (htO : tO tys cO) (htJ : tys[2]? = some (cJ, .long)) (htB : tys[3]? = some (cB, .double)) {v am oj od : Nat} {ws : va_W} (h : INV cI cO cJ cB tE v am oj od ws) (x y : Int32) : ∃ Mid : Int32 → va_W → Prop, Met l yL_flux wsL_flux { frames := 8, cells := 2, slots := 12, locals := 127 } (pcX G tys ws A tE mi [.ref v, .int x, .int y, .ref oj]) (va_Qi (fun (r : Int32) (w : va_W) => Mid r w) (fun w t => va_P G vwCl w t.heap ∧ va_D A w) A) 2 12 A ∧ ∀ k w, Mid k w → (∃ vs, w[12]? = some (am, .inr (9, vs))) ∧ Met l yX8_flux wsX8_flux { frames := 1, cells := 0, slots := 0, locals := 22 } (pcM G tys w A [.ref am, .int x, .int y]) (va_Qi (fun (r : Int32) (w2 : va_W) => EndI cJ am oj (INV cI cO cJ cB tE v am oj od) w2 r k) (fun w2 t => va_P G vwCl w2 t.heap ∧ va_D A w2) A) 0 0 A := by
  obtain ⟨own, ad, z, F, wi, dm, ⟨aS, af, aR, ao, ak, aP, aC⟩, np, hI⟩ := h
  have hI0 := hI
  obtain ⟨hb, hv, o0, hO, hg⟩ := hI
  have hv : ws[0]? = some (v, .inr (8, [.ref aS, .ref af, .ref aR, .ref ao, .ref ak, .ref aP, .ref aC])) := hv
  have o12 := hO 12 (by decide) (by decide)
  have o36 := hO 36 (by decide) (by decide)
  have o37 := hO 37 (by decide) (by decide)
  obtain ⟨n, q, e, g, hL, hn6, hz13, hrg, h23⟩ := hg 3 (by decide)
  have hi0 : ∀ i, i < n → ¬ F 21 i = 0 := fun i hi => (hrg i hi).1
  have hterm : ¬ uK x (nI n) → ¬ oR y (-1000000) 1000000 → ∃ j, j < 1000000 ∧ rStop (F 21 x.toNatClampNeg) (F 22 x.toNatClampNeg) y (rIt (F 21 x.toNatClampNeg) y (F 24 x.toNatClampNeg) j) := fun k0 k1 => by
    obtain ⟨h1, h2, h3, h4⟩ := (hrg _ (uK_ix k0).2).2
    have hy := oR_int k1
    exact flux_term rfl h1.1 rfl hy.1 hy.2 rfl (by omega) h4
  have hc1 : cdFlux x y (nI n) = 0 → ∀ u : Nat, chg own own 3 ws (ws.set (g x.toNatClampNeg) (e x.toNatClampNeg, .inr (6, [.int (F 21 x.toNatClampNeg), .int (F 22 x.toNatClampNeg), .int y, .int (rIt (F 21 x.toNatClampNeg) y (F 24 x.toNatClampNeg) u), .int (F 25 x.toNatClampNeg + nI u)]))) := fun hc0 u => by
    exact (hL.set (by decide) (uKn hc0 (by decide)) _).2
  refine ⟨_, metL_flux l G tys htJ ws hv (metX7_fluxT l hnt G tys ws htO hv hL.1 (fun i hi => (hL.2.2.2.1 i hi).1) x y hterm) (fun hc0 r u hp => (hb.k (by decide) hO (hc1 hc0 u)).2.2.1) (by unfold cdFlux; (repeat' split) <;> decide), ?_⟩
  intro k w hM
  rcases hM with ⟨hc0, hk0, hw0⟩ | ⟨hc0, hk0, r, u, f, hp, ho, hw0⟩
  · rw [hw0, hk0]
    refine ⟨⟨_, hb.1⟩, mopI (metX8_fluxT (F := F) l G tys htI (ws) hb.1 (hb.r 21 6 (by decide)) (hb.r 22 6 (by decide)) (hb.r 23 6 (by decide)) (hb.r 24 6 (by decide)) (hb.r 25 6 (by decide)) hz13 hn6 hi0 x y hterm) (fun r u _ => ?_)⟩
    rw [if_neg hc0]
    exact ⟨⟨ad, _, wi, dm, va_ge hb.1, upd_at⟩, fun q => absurd q hc0, INV_ref hI0 _⟩
  · have hp : r = (rIt (F 21 x.toNatClampNeg) y (F 24 x.toNatClampNeg) u) - F 24 x.toNatClampNeg ∧ rStop (F 21 x.toNatClampNeg) (F 22 x.toNatClampNeg) y (rIt (F 21 x.toNatClampNeg) y (F 24 x.toNatClampNeg) u) ∧ ∀ j, j < u → ¬ rStop (F 21 x.toNatClampNeg) (F 22 x.toNatClampNeg) y (rIt (F 21 x.toNatClampNeg) y (F 24 x.toNatClampNeg) j) := hp
    have ho : (ws.set (g x.toNatClampNeg) (e x.toNatClampNeg, .inr (6, [.int (F 21 x.toNatClampNeg), .int (F 22 x.toNatClampNeg), .int y, .int (rIt (F 21 x.toNatClampNeg) y (F 24 x.toNatClampNeg) u), .int (F 25 x.toNatClampNeg + nI u)])))[36]? = some (oj, .inl (cJ, 1, .inr (.inl f))) := ho
    have hw0 : w = (ws.set (g x.toNatClampNeg) (e x.toNatClampNeg, .inr (6, [.int (F 21 x.toNatClampNeg), .int (F 22 x.toNatClampNeg), .int y, .int (rIt (F 21 x.toNatClampNeg) y (F 24 x.toNatClampNeg) u), .int (F 25 x.toNatClampNeg + nI u)]))).set 36 (oj, .inl (cJ, 1, .inr (.inl (vp_updL f (0 : Int32).toNatClampNeg r.toInt64)))) := hw0
    have hcc := hc0
    unfold cdFlux at hcc
    obtain ⟨k0, hcc⟩ := cd1 (by decide) hcc
    obtain ⟨k1, hcc⟩ := cd1 (by decide) hcc
    have hx := (uK_ix k0).2
    obtain ⟨h1, h2, h3, h4⟩ := (hrg _ hx).2
    have hy : -1000000 ≤ y.toInt ∧ y.toInt ≤ 1000000 := oR_int k1
    have hc1 := hc1 hc0 u
    have hO2 := hO
    have hb1 := hb.k (by decide) hO hc1
    have hb2 := hb1.o (vp_updL f (0 : Int32).toNatClampNeg r.toInt64)
    rw [hw0, hk0]
    refine ⟨⟨_, hb2.1⟩, mopI (metX8_fluxT (F := F) l G tys htI ((ws.set (g x.toNatClampNeg) (e x.toNatClampNeg, .inr (6, [.int (F 21 x.toNatClampNeg), .int (F 22 x.toNatClampNeg), .int y, .int (rIt (F 21 x.toNatClampNeg) y (F 24 x.toNatClampNeg) u), .int (F 25 x.toNatClampNeg + nI u)]))).set 36 (oj, .inl (cJ, 1, .inr (.inl (vp_updL f (0 : Int32).toNatClampNeg r.toInt64))))) hb2.1 (hb2.r 21 6 (by decide)) (hb2.r 22 6 (by decide)) (hb2.r 23 6 (by decide)) (hb2.r 24 6 (by decide)) (hb2.r 25 6 (by decide)) hz13 hn6 hi0 x y hterm) (fun r2 u2 hp2 => ?_)⟩
    have hp2 := hp2 hc0
    have hu : u = u2 := by
      rcases Nat.lt_trichotomy u2 u with c | c | c
      · exact absurd hp2.2.1 (hp.2.2 u2 c)
      · exact c.symm
      · exact absurd hp.2.1 (hp2.2.2 u c)
    subst hu
    rw [if_pos hc0]
    have hb3 := ((((hb2).m (upd z 0 0) wi dm).a 23 6 (upd (F 23) x.toNatClampNeg y) (by decide)).a 24 6 (upd (F 24) x.toNatClampNeg (rIt (F 21 x.toNatClampNeg) y (F 24 x.toNatClampNeg) u)) (by decide)).a 25 6 (upd (F 25) x.toNatClampNeg (F 25 x.toNatClampNeg + nI u)) (by decide)
    refine ⟨⟨ad, _, _, _, hb3.1, rfl⟩, fun _ => ⟨_, va_gs (by decide) (va_gs (by decide) (va_gs (by decide) (va_gs (by decide) (va_ge ho)))), ?_⟩, INV_next hI0 3 (by decide) hc1 ((((((chz.rf (own := own)).set (hO2 36 (by decide) (by decide))).set (hO2 12 (by decide) (by decide))).set (hO2 23 (by decide) (by decide))).set (hO2 24 (by decide) (by decide))).set (hO2 25 (by decide) (by decide))) hb3 ((((agb.rf.zz 0 0 (Or.inl rfl)).f 23 _ rfl).f 24 _ rfl).f 25 _ rfl) (Nat.le_refl _) (fun _ => rfl) ?_⟩
    · rw [updL_0]
      rw [hp2.1, hp.1]
    · refine ⟨n, q, e, g, (hL.set (by decide) hx _).1.vs (fun i hi => ?_), hn6, hz13, fun i hi => ?_, fun k i g1 g2 g3 => ?_⟩
      · show _ = ([.int (F 21 i), .int (F 22 i), .int (upd (F 23) x.toNatClampNeg y i), .int (upd (F 24) x.toNatClampNeg (rIt (F 21 x.toNatClampNeg) y (F 24 x.toNatClampNeg) u) i), .int (upd (F 25) x.toNatClampNeg (F 25 x.toNatClampNeg + nI u) i)] : List Value)
        by_cases c : i = x.toNatClampNeg
        · rw [if_pos c, c, upd_at, upd_at, upd_at]
        · rw [if_neg c, upd_ne c, upd_ne c, upd_ne c]
      · show ¬ F 21 i = 0 ∧ rgR (F 21 i) (F 22 i) (upd (F 23) x.toNatClampNeg y i) (upd (F 24) x.toNatClampNeg (rIt (F 21 x.toNatClampNeg) y (F 24 x.toNatClampNeg) u) i)
        by_cases c : i = x.toNatClampNeg
        · rw [c, upd_at, upd_at]
          exact ⟨(hrg _ hx).1, h1, h2, hy, flux_rng rfl h1.1 h1.2 rfl hy.1 hy.2 rfl (by omega) h2.2 h4 hp.2.1 hp.2.2⟩
        · rw [upd_ne c, upd_ne c]; exact hrg i hi
      · show uFk (uFk (uFk F 23 _) 24 _) 25 _ k i = 0
        have hne : i ≠ x.toNatClampNeg := by omega
        by_cases c5 : k = 25
        · rw [c5, uFk_at, upd_ne hne]; exact h23 25 i (by decide) (by decide) g3
        · rw [uFk_ne c5]
          by_cases c4 : k = 24
          · rw [c4, uFk_at, upd_ne hne]; exact h23 24 i (by decide) (by decide) g3
          · rw [uFk_ne c4]
            by_cases c3 : k = 23
            · rw [c3, uFk_at, upd_ne hne]; exact h23 23 i (by decide) (by decide) g3
            · rw [uFk_ne c3]; exact h23 k i g1 g2 g3
set_option maxHeartbeats 4000000 in
set_option maxRecDepth 100000 in
theorem sem_enter (l : Launch) (hnt : l.stackTraces = false) (G : va_G) (tys : List (ClassId × FieldType)) {A : Nat → Prop} {tE mi : Nat} {cI cO cJ cB : ClassId} (htI : tI tys cI) (htO : tO tys cO) (htJ : tys[2]? = some (cJ, .long)) (htB : tys[3]? = some (cB, .double)) {v am oj od : Nat} {ws : va_W} (h : INV cI cO cJ cB tE v am oj od ws) (x : Int32) : ∃ Mid : Int32 → va_W → Prop, Met l yL_enter wsL_enter { frames := 8, cells := 2, slots := 12, locals := 127 } (pcX G tys ws A tE mi [.ref v, .int x, .ref oj]) (va_Qi (fun (r : Int32) (w : va_W) => Mid r w) (fun w t => va_P G vwCl w t.heap ∧ va_D A w) A) 2 12 A ∧ ∀ k w, Mid k w → (∃ vs, w[12]? = some (am, .inr (9, vs))) ∧ Met l yX8_enter wsX8_enter { frames := 2, cells := 0, slots := 0, locals := 45 } (pcM G tys w A [.ref am, .int x]) (va_Qi (fun (r : Int32) (w2 : va_W) => EndI cJ am oj (INV cI cO cJ cB tE v am oj od) w2 r k) (fun w2 t => va_P G vwCl w2 t.heap ∧ va_D A w2) A) 0 0 A := by
  obtain ⟨own, ad, z, F, wi, dm, ⟨aS, af, aR, ao, ak, aP, aC⟩, np, hI⟩ := h
  have hI0 := hI
  obtain ⟨hb, hv, o0, hO, hg⟩ := hI
  have hv : ws[0]? = some (v, .inr (8, [.ref aS, .ref af, .ref aR, .ref ao, .ref ak, .ref aP, .ref aC])) := hv
  have o12 := hO 12 (by decide) (by decide)
  have o36 := hO 36 (by decide) (by decide)
  have o37 := hO 37 (by decide) (by decide)
  obtain ⟨a3, a4, n, cx, hf, hd, hk, o2, o3, o4, hz9, hfl, hce⟩ := hg 2 (by decide)
  have hf : ws[2]? = some (af, .inr (4, [.ref a3, .ref a4, .int (nI n), .int (z 11), .int (z 12)])) := hf
  have hn20 : n ≤ 20 := hfl.1
  have hcl := metX7_enter (A := A) (tE := tE) (mi := mi) l hnt G tys htI ws hv hf hd hk (by decide) x (nI_le (a := 0) (Nat.zero_le n) (by omega))
  have hB := fCe_eq (dep := F 18) (dr := z 11) (w := nI n) hfl 6 (Nat.le_refl _)
  have hok := mBt_ok (cel := F 20) (dep := F 18) (win := F 19) (dr := z 11) (w := nI n) (n := n) 6 (Nat.le_refl _)
  have hfr := mBt_free (cel := F 20) (dep := F 18) (win := F 19) (dr := z 11) (w := nI n) (n := n) 6 (Nat.le_refl _)
  obtain ⟨B, eB⟩ : ∃ B, B = mBt (F 20) (F 18) (F 19) (z 11) (nI n) n 6 := ⟨_, rfl⟩
  rw [← eB] at hB hok hfr
  have eZ : mBt (F 20) (F 18) (F 19) (z 11) (z 9) n 6 = B := by rw [hz9, eB]
  rcases hB with ⟨m1, c1⟩ | ⟨m1, c1⟩
  · simp only [if_pos c1] at hcl
    refine ⟨_, metL_enter l G tys htJ ws hv (hcl) (fun _ _ _ _ => hb.2.2.1) (by unfold cdEnter; (repeat' split) <;> decide), ?_⟩
    intro k w hM
    rcases hM with ⟨hc0, hk0, hw0⟩ | ⟨hc0, hk0, r, u, f, hp, ho, hw0⟩
    · rw [hw0, hk0]
      refine ⟨⟨_, hb.1⟩, mopI (metX8_enter (F := F) l G tys htI (ws) hb.1 (hb.r 18 48 (by decide)) (hb.r 19 48 (by decide)) (hb.r 20 20 (by decide)) hz9 hfl.1 x) (fun r u _ => ?_)⟩
      rw [if_neg hc0]
      exact ⟨⟨ad, _, wi, dm, va_ge hb.1, upd_at⟩, fun q => absurd q hc0, INV_ref hI0 _⟩
    · have hp : r = -1 := hp
      have ho : ws[36]? = some (oj, .inl (cJ, 1, .inr (.inl f))) := ho
      have hw0 : w = ws.set 36 (oj, .inl (cJ, 1, .inr (.inl (vp_updL f (0 : Int32).toNatClampNeg r.toInt64)))) := hw0
      have hcc := hc0
      unfold cdEnter at hcc
      obtain ⟨k0, hcc⟩ := cd1 (by decide) hcc
      obtain ⟨k1, hcc⟩ := cd1 (by decide) hcc
      have hb2 := hb.o (vp_updL f (0 : Int32).toNatClampNeg r.toInt64)
      rw [hw0, hk0]
      refine ⟨⟨_, hb2.1⟩, mopI (metX8_enter (F := F) l G tys htI (ws.set 36 (oj, .inl (cJ, 1, .inr (.inl (vp_updL f (0 : Int32).toNatClampNeg r.toInt64))))) hb2.1 (hb2.r 18 48 (by decide)) (hb2.r 19 48 (by decide)) (hb2.r 20 20 (by decide)) hz9 hfl.1 x) (fun r2 u2 hp2 => ?_)⟩
      have hp2 := hp2 hc0
      rw [eZ, if_pos m1] at hp2
      rw [if_pos hc0, eZ, if_pos m1]
      refine ⟨⟨ad, _, _, _, va_ge hb2.1, rfl⟩, fun _ => ⟨_, va_gs (by decide) (va_ge ho), ?_⟩, INV_rd hI0 hb2 (chz.rf.set o36)⟩
      rw [updL_0]
      rw [hp2, hp]
  · have c2 : (fCe cx (F 18) (z 11) (nI n) 6).1 = B := by rw [c1]
    have eE : fEn cx (F 18) (z 11) (nI n) B = mEn (F 20) (F 18) (z 11) (nI n) n B := fE_eq hfl (hok m1)
    have eE9 : mEn (F 20) (F 18) (z 11) (z 9) n B = mEn (F 20) (F 18) (z 11) (nI n) n B := by rw [hz9]
    by_cases le : mEn (F 20) (F 18) (z 11) (nI n) n B ≤ x
    · simp only [c2, if_neg m1, eE, if_pos le] at hcl
      have hc1 : cdEnter x (nI n) = 0 → chg own own 2 ws ((ws.set 4 (a4, .inl (cI, 20, .inl (upd cx (nI n).toNatClampNeg B)))).set 2 (af, .inr (4, [.ref a3, .ref a4, .int (nI n + 1), .int (z 11), .int (z 12)]))) := fun hc0 => by
        exact (chg.rf.set o4).set o2
      refine ⟨_, metL_enter l G tys htJ ws hv (hcl) (fun hc0 r u hp => (hb.k (by decide) hO (hc1 hc0)).2.2.1) (by unfold cdEnter; (repeat' split) <;> decide), ?_⟩
      intro k w hM
      rcases hM with ⟨hc0, hk0, hw0⟩ | ⟨hc0, hk0, r, u, f, hp, ho, hw0⟩
      · rw [hw0, hk0]
        refine ⟨⟨_, hb.1⟩, mopI (metX8_enter (F := F) l G tys htI (ws) hb.1 (hb.r 18 48 (by decide)) (hb.r 19 48 (by decide)) (hb.r 20 20 (by decide)) hz9 hfl.1 x) (fun r u _ => ?_)⟩
        rw [if_neg hc0]
        exact ⟨⟨ad, _, wi, dm, va_ge hb.1, upd_at⟩, fun q => absurd q hc0, INV_ref hI0 _⟩
      · have hp : r = nI n := hp
        have ho : ((ws.set 4 (a4, .inl (cI, 20, .inl (upd cx (nI n).toNatClampNeg B)))).set 2 (af, .inr (4, [.ref a3, .ref a4, .int (nI n + 1), .int (z 11), .int (z 12)])))[36]? = some (oj, .inl (cJ, 1, .inr (.inl f))) := ho
        have hw0 : w = ((ws.set 4 (a4, .inl (cI, 20, .inl (upd cx (nI n).toNatClampNeg B)))).set 2 (af, .inr (4, [.ref a3, .ref a4, .int (nI n + 1), .int (z 11), .int (z 12)]))).set 36 (oj, .inl (cJ, 1, .inr (.inl (vp_updL f (0 : Int32).toNatClampNeg r.toInt64)))) := hw0
        have hcc := hc0
        unfold cdEnter at hcc
        obtain ⟨k0, hcc⟩ := cd1 (by decide) hcc
        obtain ⟨k1, hcc⟩ := cd1 (by decide) hcc
        have hc1 := hc1 hc0
        have hO2 := hO
        have hb1 := hb.k (by decide) hO hc1
        have hb2 := hb1.o (vp_updL f (0 : Int32).toNatClampNeg r.toInt64)
        rw [hw0, hk0]
        refine ⟨⟨_, hb2.1⟩, mopI (metX8_enter (F := F) l G tys htI (((ws.set 4 (a4, .inl (cI, 20, .inl (upd cx (nI n).toNatClampNeg B)))).set 2 (af, .inr (4, [.ref a3, .ref a4, .int (nI n + 1), .int (z 11), .int (z 12)]))).set 36 (oj, .inl (cJ, 1, .inr (.inl (vp_updL f (0 : Int32).toNatClampNeg r.toInt64))))) hb2.1 (hb2.r 18 48 (by decide)) (hb2.r 19 48 (by decide)) (hb2.r 20 20 (by decide)) hz9 hfl.1 x) (fun r2 u2 hp2 => ?_)⟩
        have hp2 := hp2 hc0
        rw [eZ, if_neg m1, eE9, if_pos le] at hp2
        rw [if_pos hc0, eZ, if_neg m1, eE9, if_pos le]
        have hb3 := ((((hb2).m (upd z 0 0) wi dm).a 20 20 (upd (F 20) (z 9).toNatClampNeg B) (by decide)).a 19 48 (upd (F 19) B.toNatClampNeg (z 9)) (by decide)).m (upd (upd z 0 0) 9 (z 9 + 1)) wi dm
        refine ⟨⟨ad, _, _, _, hb3.1, rfl⟩, fun _ => ⟨_, va_gs (by decide) (va_gs (by decide) (va_gs (by decide) (va_gs (by decide) (va_ge ho)))), ?_⟩, INV_next hI0 2 (by decide) hc1 ((((((chz.rf (own := own)).set (hO2 36 (by decide) (by decide))).set (hO2 12 (by decide) (by decide))).set (hO2 20 (by decide) (by decide))).set (hO2 19 (by decide) (by decide))).set (hO2 12 (by decide) (by decide))) hb3 ((((agb.rf.zz 0 0 (Or.inl rfl)).f 20 _ rfl).f 19 _ rfl).zz 9 _ (Or.inr rfl)) (Nat.le_refl _) (fun _ => rfl) ?_⟩
        · rw [updL_0]
          rw [hp2, hp, hz9]
        · have h9 : (z 9).toNatClampNeg = n := by rw [hz9]; exact nI_clamp (by omega)
          have hnn : (nI n).toNatClampNeg = n := nI_clamp (by omega)
          have hen := filR_enter hfl (n8 (k := 20) k1 (by omega) (by decide)) (hok m1) (hfr m1)
          rw [nI_1, hnn]
          refine ⟨a3, a4, n + 1, _, va_ge (va_gs (by decide) hf), va_gs (by decide) (va_gs (by decide) hd), va_gs (by decide) (va_ge hk), o2, o3, o4, ?_, ?_, fun j hj => ?_⟩
          · show z 9 + 1 = nI (n + 1)
            rw [hz9]
            exact nI_1 n
          · show filR (n + 1) (upd cx n B) (upd (F 20) (z 9).toNatClampNeg B) (upd (F 19) B.toNatClampNeg (z 9))
            rw [h9, hz9]
            exact hen
          · have hj : ¬ upd (F 20) (z 9).toNatClampNeg B j = -1 := hj
            show ¬ uK (upd (F 20) (z 9).toNatClampNeg B j) 48
            rw [h9] at hj ⊢
            by_cases c : j = n
            · rw [c, upd_at]; exact hok m1
            · rw [upd_ne c] at hj ⊢; exact hce j hj
    · simp only [c2, if_neg m1, eE, if_neg le] at hcl
      refine ⟨_, metL_enter l G tys htJ ws hv (hcl) (fun _ _ _ _ => hb.2.2.1) (by unfold cdEnter; (repeat' split) <;> decide), ?_⟩
      intro k w hM
      rcases hM with ⟨hc0, hk0, hw0⟩ | ⟨hc0, hk0, r, u, f, hp, ho, hw0⟩
      · rw [hw0, hk0]
        refine ⟨⟨_, hb.1⟩, mopI (metX8_enter (F := F) l G tys htI (ws) hb.1 (hb.r 18 48 (by decide)) (hb.r 19 48 (by decide)) (hb.r 20 20 (by decide)) hz9 hfl.1 x) (fun r u _ => ?_)⟩
        rw [if_neg hc0]
        exact ⟨⟨ad, _, wi, dm, va_ge hb.1, upd_at⟩, fun q => absurd q hc0, INV_ref hI0 _⟩
      · have hp : r = -1 := hp
        have ho : ws[36]? = some (oj, .inl (cJ, 1, .inr (.inl f))) := ho
        have hw0 : w = ws.set 36 (oj, .inl (cJ, 1, .inr (.inl (vp_updL f (0 : Int32).toNatClampNeg r.toInt64)))) := hw0
        have hcc := hc0
        unfold cdEnter at hcc
        obtain ⟨k0, hcc⟩ := cd1 (by decide) hcc
        obtain ⟨k1, hcc⟩ := cd1 (by decide) hcc
        have hb2 := hb.o (vp_updL f (0 : Int32).toNatClampNeg r.toInt64)
        rw [hw0, hk0]
        refine ⟨⟨_, hb2.1⟩, mopI (metX8_enter (F := F) l G tys htI (ws.set 36 (oj, .inl (cJ, 1, .inr (.inl (vp_updL f (0 : Int32).toNatClampNeg r.toInt64))))) hb2.1 (hb2.r 18 48 (by decide)) (hb2.r 19 48 (by decide)) (hb2.r 20 20 (by decide)) hz9 hfl.1 x) (fun r2 u2 hp2 => ?_)⟩
        have hp2 := hp2 hc0
        rw [eZ, if_neg m1, eE9, if_neg le] at hp2
        rw [if_pos hc0, eZ, if_neg m1, eE9, if_neg le]
        refine ⟨⟨ad, _, _, _, va_ge hb2.1, rfl⟩, fun _ => ⟨_, va_gs (by decide) (va_ge ho), ?_⟩, INV_rd hI0 hb2 (chz.rf.set o36)⟩
        rw [updL_0]
        rw [hp2, hp]
