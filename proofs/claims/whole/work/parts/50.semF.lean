set_option maxHeartbeats 4000000 in
set_option maxRecDepth 100000 in
theorem sem_pin (l : Launch) (hnt : l.stackTraces = false) (G : va_G) (tys : List (ClassId × FieldType)) {A : Nat → Prop} {tE mi : Nat} {cI cO cJ cB : ClassId} (htI : tI tys cI) (htO : tO tys cO) (htJ : tys[2]? = some (cJ, .long)) (htB : tys[3]? = some (cB, .double)) {v am oj od : Nat} {ws : va_W} (h : INV cI cO cJ cB tE v am oj od ws) (x y : Int32) : ∃ Mid : Int32 → va_W → Prop, Met l yL_pin wsL_pin { frames := 8, cells := 2, slots := 12, locals := 127 } (pcX G tys ws A tE mi [.ref v, .int x, .int y, .ref oj]) (va_Qi (fun (r : Int32) (w : va_W) => Mid r w) (fun w t => va_P G vwCl w t.heap ∧ va_D A w) A) 2 12 A ∧ ∀ k w, Mid k w → (∃ vs, w[12]? = some (am, .inr (9, vs))) ∧ Met l yX8_pin wsX8_pin { frames := 1, cells := 0, slots := 0, locals := 22 } (pcM G tys w A [.ref am, .int x, .int y]) (va_Qi (fun (r : Int32) (w2 : va_W) => EndI cJ am oj (INV cI cO cJ cB tE v am oj od) w2 r k) (fun w2 t => va_P G vwCl w2 t.heap ∧ va_D A w2) A) 0 0 A := by
  obtain ⟨own, ad, z, F, wi, dm, ⟨aS, af, aR, ao, ak, aP, aC⟩, np, hI⟩ := h
  have hI0 := hI
  obtain ⟨hb, hv, o0, hO, hg⟩ := hI
  have hv : ws[0]? = some (v, .inr (8, [.ref aS, .ref af, .ref aR, .ref ao, .ref ak, .ref aP, .ref aC])) := hv
  have o12 := hO 12 (by decide) (by decide)
  have o36 := hO 36 (by decide) (by decide)
  have o37 := hO 37 (by decide) (by decide)
  obtain ⟨a3, a4, n, cx, hf, hd, hk, o2, o3, o4, hz9, hfl, hce⟩ := hg 2 (by decide)
  have hf : ws[2]? = some (af, .inr (4, [.ref a3, .ref a4, .int (nI n), .int (z 11), .int (z 12)])) := hf
  have hc1 : cdPin x y = 0 → chg own own 2 ws (ws.set 3 (a3, .inl (cI, 48, .inl (upd (F 18) x.toNatClampNeg y)))) := fun hc0 => by
    exact chg.rf.set o3
  refine ⟨_, metL_pin l G tys htJ ws hv (metX7_pin l hnt G tys htI ws hv hf hd hk (by decide) x y) (fun hc0 r u hp => (hb.k (by decide) hO (hc1 hc0)).2.2.1) (by unfold cdPin; (repeat' split) <;> decide), ?_⟩
  intro k w hM
  rcases hM with ⟨hc0, hk0, hw0⟩ | ⟨hc0, hk0, r, u, f, hp, ho, hw0⟩
  · rw [hw0, hk0]
    refine ⟨⟨_, hb.1⟩, mopI (metX8_pin (F := F) l G tys htI (ws) hb.1 (hb.r 18 48 (by decide)) x y) (fun r u _ => ?_)⟩
    rw [if_neg hc0]
    exact ⟨⟨ad, _, wi, dm, va_ge hb.1, upd_at⟩, fun q => absurd q hc0, INV_ref hI0 _⟩
  · have hp : r = F 18 x.toNatClampNeg := hp
    have ho : (ws.set 3 (a3, .inl (cI, 48, .inl (upd (F 18) x.toNatClampNeg y))))[36]? = some (oj, .inl (cJ, 1, .inr (.inl f))) := ho
    have hw0 : w = (ws.set 3 (a3, .inl (cI, 48, .inl (upd (F 18) x.toNatClampNeg y)))).set 36 (oj, .inl (cJ, 1, .inr (.inl (vp_updL f (0 : Int32).toNatClampNeg r.toInt64)))) := hw0
    have hcc := hc0
    unfold cdPin at hcc
    obtain ⟨k0, hcc⟩ := cd1 (by decide) hcc
    obtain ⟨k1, hcc⟩ := cd1 (by decide) hcc
    have hc1 := hc1 hc0
    have hO2 := hO
    have hb1 := hb.k (by decide) hO hc1
    have hb2 := hb1.o (vp_updL f (0 : Int32).toNatClampNeg r.toInt64)
    rw [hw0, hk0]
    refine ⟨⟨_, hb2.1⟩, mopI (metX8_pin (F := F) l G tys htI ((ws.set 3 (a3, .inl (cI, 48, .inl (upd (F 18) x.toNatClampNeg y)))).set 36 (oj, .inl (cJ, 1, .inr (.inl (vp_updL f (0 : Int32).toNatClampNeg r.toInt64))))) hb2.1 (hb2.r 18 48 (by decide)) x y) (fun r2 u2 hp2 => ?_)⟩
    rw [if_pos hc0]
    have hb3 := ((hb2).m (upd z 0 0) wi dm).a 18 48 (upd (F 18) x.toNatClampNeg y) (by decide)
    refine ⟨⟨ad, _, _, _, hb3.1, rfl⟩, fun _ => ⟨_, va_gs (by decide) (va_gs (by decide) (va_ge ho)), ?_⟩, INV_next hI0 2 (by decide) hc1 ((((chz.rf (own := own)).set (hO2 36 (by decide) (by decide))).set (hO2 12 (by decide) (by decide))).set (hO2 18 (by decide) (by decide))) hb3 ((agb.rf.zz 0 0 (Or.inl rfl)).f 18 _ rfl) (Nat.le_refl _) (fun _ => rfl) ?_⟩
    · rw [updL_0]
      rw [hp2 hc0, hp]
    · exact ⟨a3, a4, n, cx, va_gs (by decide) hf, va_ge hd, va_gs (by decide) hk, o2, o3, o4, hz9, hfl, hce⟩
set_option maxHeartbeats 4000000 in
set_option maxRecDepth 100000 in
theorem sem_drive (l : Launch) (hnt : l.stackTraces = false) (G : va_G) (tys : List (ClassId × FieldType)) {A : Nat → Prop} {tE mi : Nat} {cI cO cJ cB : ClassId} (htI : tI tys cI) (htO : tO tys cO) (htJ : tys[2]? = some (cJ, .long)) (htB : tys[3]? = some (cB, .double)) {v am oj od : Nat} {ws : va_W} (h : INV cI cO cJ cB tE v am oj od ws) (x y : Int32) : ∃ Mid : Int32 → va_W → Prop, Met l yL_drive wsL_drive { frames := 8, cells := 2, slots := 12, locals := 126 } (pcX G tys ws A tE mi [.ref v, .int x, .int y]) (va_Qi (fun (r : Int32) (w : va_W) => Mid r w) (fun w t => va_P G vwCl w t.heap ∧ va_D A w) A) 2 12 A ∧ ∀ k w, Mid k w → (∃ vs, w[12]? = some (am, .inr (9, vs))) ∧ Met l yX8_drive wsX8_drive { frames := 1, cells := 0, slots := 0, locals := 22 } (pcM G tys w A [.ref am, .int x, .int y]) (va_Qv (fun (w2 : va_W) => EndV am (INV cI cO cJ cB tE v am oj od) w2 k) (fun w2 t => va_P G vwCl w2 t.heap ∧ va_D A w2) A) 0 0 A := by
  obtain ⟨own, ad, z, F, wi, dm, ⟨aS, af, aR, ao, ak, aP, aC⟩, np, hI⟩ := h
  have hI0 := hI
  obtain ⟨hb, hv, o0, hO, hg⟩ := hI
  have hv : ws[0]? = some (v, .inr (8, [.ref aS, .ref af, .ref aR, .ref ao, .ref ak, .ref aP, .ref aC])) := hv
  have o12 := hO 12 (by decide) (by decide)
  have o36 := hO 36 (by decide) (by decide)
  have o37 := hO 37 (by decide) (by decide)
  obtain ⟨a3, a4, n, cx, hf, hd, hk, o2, o3, o4, hz9, hfl, hce⟩ := hg 2 (by decide)
  have hf : ws[2]? = some (af, .inr (4, [.ref a3, .ref a4, .int (nI n), .int (z 11), .int (z 12)])) := hf
  have hc1 : cdDrive x y = 0 → chg own own 2 ws (ws.set 2 (af, .inr (4, [.ref a3, .ref a4, .int (nI n), .int x, .int y]))) := fun hc0 => by
    exact chg.rf.set o2
  refine ⟨_, metL_drive l G tys ws hv (metX7_drive l hnt G tys htI ws hv hf hd hk (by decide) x y) (by unfold cdDrive; (repeat' split) <;> decide) (by unfold cdDrive; (repeat' split) <;> decide), ?_⟩
  intro k w hM
  rcases hM with ⟨hc0, hk0, hw0⟩ | ⟨hc0, hk0, u, hp, hw0⟩
  · rw [hw0, hk0]
    refine ⟨⟨_, hb.1⟩, mopV (metX8_drive (F := F) l G tys htI (ws) hb.1 x y) (fun u _ => ?_)⟩
    rw [if_neg hc0]
    exact ⟨⟨ad, _, wi, dm, va_ge hb.1, upd_at⟩, INV_ref hI0 _⟩
  · have hw0 : w = ws.set 2 (af, .inr (4, [.ref a3, .ref a4, .int (nI n), .int x, .int y])) := hw0
    have hcc := hc0
    unfold cdDrive at hcc
    obtain ⟨k0, hcc⟩ := cd1 (by decide) hcc
    obtain ⟨k1, hcc⟩ := cd1 (by decide) hcc
    have hc1 := hc1 hc0
    have hO2 := hO
    have hb1 := hb.k (by decide) hO hc1
    have hb2 := hb1
    rw [hw0, hk0]
    refine ⟨⟨_, hb2.1⟩, mopV (metX8_drive (F := F) l G tys htI (ws.set 2 (af, .inr (4, [.ref a3, .ref a4, .int (nI n), .int x, .int y]))) hb2.1 x y) (fun u2 hp2 => ?_)⟩
    rw [if_pos hc0]
    have hb3 := (((hb2).m (upd z 0 0) wi dm).m (upd (upd z 0 0) 11 x) wi dm).m (upd (upd (upd z 0 0) 11 x) 12 y) wi dm
    refine ⟨⟨ad, _, _, _, hb3.1, rfl⟩, INV_next hI0 2 (by decide) hc1 ((((chz.rf).set (hO2 12 (by decide) (by decide))).set (hO2 12 (by decide) (by decide))).set (hO2 12 (by decide) (by decide))) hb3 (((agb.rf.zz 0 0 (Or.inl rfl)).zz 11 x (Or.inr rfl)).zz 12 y (Or.inr rfl)) (Nat.le_refl _) (fun _ => rfl) ?_⟩
    · exact ⟨a3, a4, n, cx, va_ge hf, va_gs (by decide) hd, va_gs (by decide) hk, o2, o3, o4, hz9, hfl, hce⟩
theorem fCell_eq {cx cm win : Nat → Int32} {n : Nat} {x : Int32} (h : filR n cx cm win) (hx : ¬ uK x (nI n)) : fCell cx x = cm x.toNatClampNeg := by
  obtain ⟨h1, h2⟩ := uK_ix hx
  have h20 := h.1
  unfold fCell
  rw [if_neg (fun c => hx (Or.inl c)), if_neg (fun c => ?_)]
  · exact h.2.1 _ h2
  · rw [h1] at c
    exact absurd ((nI_leI (a := 20) (by omega) (by omega)).mp c) (by omega)
set_option maxHeartbeats 4000000 in
set_option maxRecDepth 100000 in
theorem sem_whirlAt (l : Launch) (hnt : l.stackTraces = false) (G : va_G) (tys : List (ClassId × FieldType)) {A : Nat → Prop} {tE mi : Nat} {cI cO cJ cB : ClassId} (htI : tI tys cI) (htO : tO tys cO) (htJ : tys[2]? = some (cJ, .long)) (htB : tys[3]? = some (cB, .double)) {v am oj od : Nat} {ws : va_W} (h : INV cI cO cJ cB tE v am oj od ws) (x : Int32) : ∃ Mid : Int32 → va_W → Prop, Met l yL_whirlAt wsL_whirlAt { frames := 8, cells := 1, slots := 6, locals := 124 } (pcX G tys ws A tE mi [.ref v, .int x, .ref oj]) (va_Qi (fun (r : Int32) (w : va_W) => Mid r w) (fun w t => va_P G vwCl w t.heap ∧ va_D A w) A) 1 6 A ∧ ∀ k w, Mid k w → (∃ vs, w[12]? = some (am, .inr (9, vs))) ∧ Met l yX8_whirlAt wsX8_whirlAt { frames := 1, cells := 0, slots := 0, locals := 22 } (pcM G tys w A [.ref am, .int x]) (va_Qi (fun (r : Int32) (w2 : va_W) => EndI cJ am oj (INV cI cO cJ cB tE v am oj od) w2 r k) (fun w2 t => va_P G vwCl w2 t.heap ∧ va_D A w2) A) 0 0 A := by
  obtain ⟨own, ad, z, F, wi, dm, ⟨aS, af, aR, ao, ak, aP, aC⟩, np, hI⟩ := h
  have hI0 := hI
  obtain ⟨hb, hv, o0, hO, hg⟩ := hI
  have hv : ws[0]? = some (v, .inr (8, [.ref aS, .ref af, .ref aR, .ref ao, .ref ak, .ref aP, .ref aC])) := hv
  have o12 := hO 12 (by decide) (by decide)
  have o36 := hO 36 (by decide) (by decide)
  have o37 := hO 37 (by decide) (by decide)
  obtain ⟨a3, a4, n, cx, hf, hd, hk, o2, o3, o4, hz9, hfl, hce⟩ := hg 2 (by decide)
  have hf : ws[2]? = some (af, .inr (4, [.ref a3, .ref a4, .int (nI n), .int (z 11), .int (z 12)])) := hf
  refine ⟨_, metL_whirlAt l G tys htJ ws hv (metX7_whirlAt l hnt G tys htI ws hv hf hd hk x) (fun _ _ _ _ => hb.2.2.1) (by unfold cdOne; (repeat' split) <;> decide) (by unfold cdOne; (repeat' split) <;> decide), ?_⟩
  intro k w hM
  rcases hM with ⟨hc0, hk0, hw0⟩ | ⟨hc0, hk0, r, u, f, hp, ho, hw0⟩
  · rw [hw0, hk0]
    refine ⟨⟨_, hb.1⟩, mopI (metX8_whirlAt (F := F) l G tys htI (ws) hb.1 (hb.r 20 20 (by decide)) hz9 hfl.1 x) (fun r u _ => ?_)⟩
    rw [if_neg hc0]
    exact ⟨⟨ad, _, wi, dm, va_ge hb.1, upd_at⟩, fun q => absurd q hc0, INV_ref hI0 _⟩
  · have hp : r = fCell cx x := hp
    have ho : ws[36]? = some (oj, .inl (cJ, 1, .inr (.inl f))) := ho
    have hw0 : w = ws.set 36 (oj, .inl (cJ, 1, .inr (.inl (vp_updL f (0 : Int32).toNatClampNeg r.toInt64)))) := hw0
    have hcc := hc0
    unfold cdOne at hcc
    obtain ⟨k0, hcc⟩ := cd1 (by decide) hcc
    have hb2 := hb.o (vp_updL f (0 : Int32).toNatClampNeg r.toInt64)
    rw [hw0, hk0]
    refine ⟨⟨_, hb2.1⟩, mopI (metX8_whirlAt (F := F) l G tys htI (ws.set 36 (oj, .inl (cJ, 1, .inr (.inl (vp_updL f (0 : Int32).toNatClampNeg r.toInt64))))) hb2.1 (hb2.r 20 20 (by decide)) hz9 hfl.1 x) (fun r2 u2 hp2 => ?_)⟩
    rw [if_pos hc0]
    refine ⟨⟨ad, _, _, _, va_ge hb2.1, rfl⟩, fun _ => ⟨_, va_gs (by decide) (va_ge ho), ?_⟩, INV_rd hI0 hb2 (chz.rf.set o36)⟩
    rw [updL_0]
    rw [hp2 hc0, hp, fCell_eq hfl k0]
set_option maxHeartbeats 4000000 in
set_option maxRecDepth 100000 in
theorem sem_energy (l : Launch) (hnt : l.stackTraces = false) (G : va_G) (tys : List (ClassId × FieldType)) {A : Nat → Prop} {tE mi : Nat} {cI cO cJ cB : ClassId} (htI : tI tys cI) (htO : tO tys cO) (htJ : tys[2]? = some (cJ, .long)) (htB : tys[3]? = some (cB, .double)) {v am oj od : Nat} {ws : va_W} (h : INV cI cO cJ cB tE v am oj od ws) (x : Int32) : ∃ Mid : Int32 → va_W → Prop, Met l yL_energy wsL_energy { frames := 8, cells := 1, slots := 6, locals := 125 } (pcX G tys ws A tE mi [.ref v, .int x, .ref oj]) (va_Qi (fun (r : Int32) (w : va_W) => Mid r w) (fun w t => va_P G vwCl w t.heap ∧ va_D A w) A) 1 6 A ∧ ∀ k w, Mid k w → (∃ vs, w[12]? = some (am, .inr (9, vs))) ∧ Met l yX8_energy wsX8_energy { frames := 2, cells := 0, slots := 0, locals := 45 } (pcM G tys w A [.ref am, .int x]) (va_Qi (fun (r : Int32) (w2 : va_W) => EndI cJ am oj (INV cI cO cJ cB tE v am oj od) w2 r k) (fun w2 t => va_P G vwCl w2 t.heap ∧ va_D A w2) A) 0 0 A := by
  obtain ⟨own, ad, z, F, wi, dm, ⟨aS, af, aR, ao, ak, aP, aC⟩, np, hI⟩ := h
  have hI0 := hI
  obtain ⟨hb, hv, o0, hO, hg⟩ := hI
  have hv : ws[0]? = some (v, .inr (8, [.ref aS, .ref af, .ref aR, .ref ao, .ref ak, .ref aP, .ref aC])) := hv
  have o12 := hO 12 (by decide) (by decide)
  have o36 := hO 36 (by decide) (by decide)
  have o37 := hO 37 (by decide) (by decide)
  obtain ⟨a3, a4, n, cx, hf, hd, hk, o2, o3, o4, hz9, hfl, hce⟩ := hg 2 (by decide)
  have hf : ws[2]? = some (af, .inr (4, [.ref a3, .ref a4, .int (nI n), .int (z 11), .int (z 12)])) := hf
  refine ⟨_, metL_energy l G tys htJ ws hv (metX7_energy l hnt G tys htI ws hv hf hd hk x) (fun _ _ _ _ => hb.2.2.1) (by unfold cdOne; (repeat' split) <;> decide) (by unfold cdOne; (repeat' split) <;> decide), ?_⟩
  intro k w hM
  rcases hM with ⟨hc0, hk0, hw0⟩ | ⟨hc0, hk0, r, u, f, hp, ho, hw0⟩
  · rw [hw0, hk0]
    refine ⟨⟨_, hb.1⟩, mopI (metX8_energy (F := F) l G tys htI (ws) hb.1 (hb.r 18 48 (by decide)) (hb.r 20 20 (by decide)) hz9 hfl.1 hce x) (fun r u _ => ?_)⟩
    rw [if_neg hc0]
    exact ⟨⟨ad, _, wi, dm, va_ge hb.1, upd_at⟩, fun q => absurd q hc0, INV_ref hI0 _⟩
  · have hp : r = (if fCell cx x = -1 then 0 else fEn cx (F 18) (z 11) x (fCell cx x)) := hp
    have ho : ws[36]? = some (oj, .inl (cJ, 1, .inr (.inl f))) := ho
    have hw0 : w = ws.set 36 (oj, .inl (cJ, 1, .inr (.inl (vp_updL f (0 : Int32).toNatClampNeg r.toInt64)))) := hw0
    have hcc := hc0
    unfold cdOne at hcc
    obtain ⟨k0, hcc⟩ := cd1 (by decide) hcc
    have hb2 := hb.o (vp_updL f (0 : Int32).toNatClampNeg r.toInt64)
    rw [hw0, hk0]
    refine ⟨⟨_, hb2.1⟩, mopI (metX8_energy (F := F) l G tys htI (ws.set 36 (oj, .inl (cJ, 1, .inr (.inl (vp_updL f (0 : Int32).toNatClampNeg r.toInt64))))) hb2.1 (hb2.r 18 48 (by decide)) (hb2.r 20 20 (by decide)) hz9 hfl.1 hce x) (fun r2 u2 hp2 => ?_)⟩
    rw [if_pos hc0]
    refine ⟨⟨ad, _, _, _, va_ge hb2.1, rfl⟩, fun _ => ⟨_, va_gs (by decide) (va_ge ho), ?_⟩, INV_rd hI0 hb2 (chz.rf.set o36)⟩
    rw [updL_0]
    rw [hp2 hc0, hp, fCell_eq hfl k0]
    by_cases c : F 20 x.toNatClampNeg = -1
    · rw [if_pos c, if_pos c]
    · rw [if_neg c, if_neg c, fE_eq hfl (hce _ c)]
