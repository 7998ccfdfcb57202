theorem mopS {l : Launch} {y : MethodName} {wy : List Cond} {rm : Room} {G : va_G} {tys : List (ClassId × FieldType)} {A : Nat → Prop} {ws w2 : va_W} {av : List Value} {mc ms : Nat} {post : Int32 → Prop} (hM : Met l y wy rm (pcM G tys ws A av) (qMi G w2 A post) mc ms A) (hd : va_D A ws → va_D A w2) : Met l y wy rm (pcM G tys ws A av) (va_Qi (fun r (w : va_W) => post r ∧ w = w2) (fun w t => va_P G vwCl w t.heap ∧ va_D A w) A) mc ms A :=
  met_mono hM (fun _ _ q => q) (fun a s o t hp hq => by
    obtain ⟨⟨r, u, ho, hp1, hB⟩, hF⟩ := hq
    exact ⟨⟨r, w2, ho, ⟨hp1, rfl⟩, hB, hd hp.2.2.2.1⟩, hF⟩)
set_option maxHeartbeats 4000000 in
set_option maxRecDepth 100000 in
theorem sem_step (l : Launch) (hnt : l.stackTraces = false) (G : va_G) (tys : List (ClassId × FieldType)) {A : Nat → Prop} {tE mi : Nat} {cI cO cJ cB : ClassId} (htI : tI tys cI) (htO : tO tys cO) (htJ : tys[2]? = some (cJ, .long)) (htB : tys[3]? = some (cB, .double)) {v am oj od : Nat} {ws : va_W} (h : INV cI cO cJ cB tE v am oj od ws) : ∃ Mid : Int32 → va_W → Prop, Met l yX7_step wsX7_step ({ frames := 6, cells := 0, slots := 0, locals := 144 }) (pcM G tys ws A [.ref v]) (va_Qi (fun (r : Int32) (w : va_W) => Mid r w) (fun w t => va_P G vwCl w t.heap ∧ va_D A w) A) 0 0 A ∧ ∀ k w, Mid k w → (∃ vs, w[12]? = some (am, .inr (9, vs))) ∧ Met l yX8_step wsX8_step ({ frames := 4, cells := 0, slots := 0, locals := 95 }) (pcM G tys w A [.ref am]) (va_Qi (fun (r : Int32) (w2 : va_W) => r = k ∧ INV cI cO cJ cB tE v am oj od w2) (fun w2 t => va_P G vwCl w2 t.heap ∧ va_D A w2) A) 0 0 A := by
  obtain ⟨own, ad, z, F, wi, dm, ⟨aS, af, aR, ao, ak, aP, aC⟩, np, hI⟩ := h
  have hI0 := hI
  obtain ⟨hb, hv, o0, hO, hg⟩ := hI
  have hv : ws[0]? = some (v, .inr (8, [.ref aS, .ref af, .ref aR, .ref ao, .ref ak, .ref aP, .ref aC])) := hv
  have o12 := hO 12 (by decide) (by decide)
  have o36 := hO 36 (by decide) (by decide)
  have o37 := hO 37 (by decide) (by decide)
  obtain ⟨a3, a4, n, cx, hf, hd, hk, o2, o3, o4, hz9, hfl, hce⟩ := hg 2 (by decide)
  have hf : ws[2]? = some (af, .inr (4, [.ref a3, .ref a4, .int (nI n), .int (z 11), .int (z 12)])) := hf
  have hcl := metX7_step l G tys htI ws hv hf hd hk (A := A) (by decide)
  have hfs := film_step (dep := F 18) (dr := z 11) (he := z 12) hfl
  have hce2 := mSt_ok (dep := F 18) (dr := z 11) (he := z 12) (n := n) (win := F 19) (cel := F 20) hce n (by have := hfl.1; omega)
  generalize fStep cx (F 18) (z 11) (z 12) 20 = fs at hcl hfs
  refine ⟨_, mopS hcl (fun hD => hD.set hk), ?_⟩
  intro k w hM
  obtain ⟨hk0, hw0⟩ := hM
  have hc1 : chg own own 2 ws (ws.set 4 (a4, .inl (cI, 20, .inl fs.1))) := chg.rf.set o4
  have hb1 := hb.k (by decide) hO hc1
  have hmd := metX8_step (F := F) l G tys htI (ws.set 4 (a4, .inl (cI, 20, .inl fs.1))) hb1.1 (hb1.r 18 48 (by decide)) (hb1.r 19 48 (by decide)) (hb1.r 20 20 (by decide)) hz9 hfl.1 hce (A := A)
  generalize mSt (F 18) (z 11) (z 12) n (F 19) (F 20) n = ms at hmd hfs hce2
  rw [hw0]
  refine ⟨⟨_, hb1.1⟩, mopI hmd (fun r2 u2 hp2 => ⟨by rw [hp2, hk0, hfs.2], ?_⟩)⟩
  have hb3 := ((hb1.m (upd z 0 0) wi dm).a 19 48 ms.1.1 (by decide)).a 20 20 ms.1.2 (by decide)
  exact INV_next hI0 2 (by decide) hc1 (((chz.rf.set o12).set (hO 19 (by decide) (by decide))).set (hO 20 (by decide) (by decide))) hb3 (((agb.rf.zz 0 0 (Or.inl rfl)).f 19 _ rfl).f 20 _ rfl) (Nat.le_refl _) (fun _ => rfl) ⟨a3, a4, n, _, va_gs (by decide) hf, va_gs (by decide) hd, va_ge hk, o2, o3, o4, hz9, hfs.1, hce2⟩
set_option maxHeartbeats 4000000 in
set_option maxRecDepth 100000 in
theorem sem_avalanche (l : Launch) (hnt : l.stackTraces = false) (G : va_G) (tys : List (ClassId × FieldType)) {A : Nat → Prop} {tE mi : Nat} {cI cO cJ cB : ClassId} (htI : tI tys cI) (htO : tO tys cO) (htJ : tys[2]? = some (cJ, .long)) (htB : tys[3]? = some (cB, .double)) {v am oj od : Nat} {ws : va_W} (h : INV cI cO cJ cB tE v am oj od ws) : ∃ Mid : Int32 → va_W → Prop, Met l yX7_avalanche wsX7_avalanche ({ frames := 6, cells := 0, slots := 0, locals := 144 }) (pcM G tys ws A [.ref v]) (va_Qi (fun (r : Int32) (w : va_W) => Mid r w) (fun w t => va_P G vwCl w t.heap ∧ va_D A w) A) 0 0 A ∧ ∀ k w, Mid k w → (∃ vs, w[12]? = some (am, .inr (9, vs))) ∧ Met l yX8_avalanche wsX8_avalanche ({ frames := 4, cells := 0, slots := 0, locals := 95 }) (pcM G tys w A [.ref am]) (va_Qi (fun (r : Int32) (w2 : va_W) => r = k ∧ INV cI cO cJ cB tE v am oj od w2) (fun w2 t => va_P G vwCl w2 t.heap ∧ va_D A w2) A) 0 0 A := by
  obtain ⟨own, ad, z, F, wi, dm, ⟨aS, af, aR, ao, ak, aP, aC⟩, np, hI⟩ := h
  have hI0 := hI
  obtain ⟨hb, hv, o0, hO, hg⟩ := hI
  have hv : ws[0]? = some (v, .inr (8, [.ref aS, .ref af, .ref aR, .ref ao, .ref ak, .ref aP, .ref aC])) := hv
  have o12 := hO 12 (by decide) (by decide)
  have o36 := hO 36 (by decide) (by decide)
  have o37 := hO 37 (by decide) (by decide)
  obtain ⟨a3, a4, n, cx, hf, hd, hk, o2, o3, o4, hz9, hfl, hce⟩ := hg 2 (by decide)
  have hf : ws[2]? = some (af, .inr (4, [.ref a3, .ref a4, .int (nI n), .int (z 11), .int (z 12)])) := hf
  have hcl := metX7_avalanche l G tys htI ws hv hf hd hk (A := A) (by decide)
  have hfs := film_av (dep := F 18) (dr := z 11) (he := z 12) hfl 60
  have hce2 := mAv_ok (dep := F 18) (dr := z 11) (he := z 12) (n := n) (win := F 19) (cm := F 20) hfl.1 hce 60
  generalize fAv cx (F 18) (z 11) (z 12) 60 = fs at hcl hfs
  refine ⟨_, mopS hcl (fun hD => hD.set hk), ?_⟩
  intro k w hM
  obtain ⟨hk0, hw0⟩ := hM
  have hc1 : chg own own 2 ws (ws.set 4 (a4, .inl (cI, 20, .inl fs.1.1))) := chg.rf.set o4
  have hb1 := hb.k (by decide) hO hc1
  have hmd := metX8_avalanche (F := F) l G tys htI (ws.set 4 (a4, .inl (cI, 20, .inl fs.1.1))) hb1.1 (hb1.r 18 48 (by decide)) (hb1.r 19 48 (by decide)) (hb1.r 20 20 (by decide)) hz9 hfl.1 hce (A := A)
  generalize mAv (F 18) (z 11) (z 12) n (F 19) (F 20) 60 = ms at hmd hfs hce2
  rw [hw0]
  refine ⟨⟨_, hb1.1⟩, mopI hmd (fun r2 u2 hp2 => ⟨by rw [hp2, hk0, hfs.2.1], ?_⟩)⟩
  have hb3 := ((hb1.m (upd z 0 0) wi dm).a 19 48 ms.1.1.1 (by decide)).a 20 20 ms.1.1.2 (by decide)
  exact INV_next hI0 2 (by decide) hc1 (((chz.rf.set o12).set (hO 19 (by decide) (by decide))).set (hO 20 (by decide) (by decide))) hb3 (((agb.rf.zz 0 0 (Or.inl rfl)).f 19 _ rfl).f 20 _ rfl) (Nat.le_refl _) (fun _ => rfl) ⟨a3, a4, n, _, va_gs (by decide) hf, va_gs (by decide) hd, va_ge hk, o2, o3, o4, hz9, hfs.1, hce2⟩
set_option maxHeartbeats 4000000 in
set_option maxRecDepth 100000 in
theorem sem_share (l : Launch) (hnt : l.stackTraces = false) (G : va_G) (tys : List (ClassId × FieldType)) {A : Nat → Prop} {tE mi : Nat} {cI cO cJ cB : ClassId} (htI : tI tys cI) (htO : tO tys cO) (htJ : tys[2]? = some (cJ, .long)) (htB : tys[3]? = some (cB, .double)) {v am oj od : Nat} {ws : va_W} (h : INV cI cO cJ cB tE v am oj od ws) : ∃ Mid : UInt64 → va_W → Prop, Met l yX7_share wsX7_share ({ frames := 0, cells := 0, slots := 0, locals := 0 }) (pcM G tys ws A [.ref v]) (va_Qd (fun (r : UInt64) (w : va_W) => Mid r w) (fun w t => va_P G vwCl w t.heap ∧ va_D A w) A) 0 0 A ∧ ∀ k w, Mid k w → (∃ vs, w[12]? = some (am, .inr (9, vs))) ∧ Met l yX8_share wsX8_share ({ frames := 0, cells := 0, slots := 0, locals := 0 }) (pcM G tys w A [.ref am]) (va_Qd (fun (r : UInt64) (w2 : va_W) => r = k ∧ INV cI cO cJ cB tE v am oj od w2) (fun w2 t => va_P G vwCl w2 t.heap ∧ va_D A w2) A) 0 0 A := by
  obtain ⟨own, ad, z, F, wi, dm, ⟨aS, af, aR, ao, ak, aP, aC⟩, np, hI⟩ := h
  have hI0 := hI
  obtain ⟨hb, hv, o0, hO, hg⟩ := hI
  have hv : ws[0]? = some (v, .inr (8, [.ref aS, .ref af, .ref aR, .ref ao, .ref ak, .ref aP, .ref aC])) := hv
  have o12 := hO 12 (by decide) (by decide)
  have o36 := hO 36 (by decide) (by decide)
  have o37 := hO 37 (by decide) (by decide)
  obtain ⟨pw, pz, aw, az, wm, sp, cur, du, ir, cwi, cdm, ho6, hw, hzp, nwz, o6, opw, opz, hcr⟩ := hg 4 (by decide)
  have ho6 : ws[6]? = some (ao, .inr (2, [.ref aw, .ref az, .int cur, .int du, .int ir, .long cwi, .long cdm])) := ho6
  have nw6 : pw ≠ 6 := ne_lr hw ho6
  have nz6 : pz ≠ 6 := ne_lr hzp ho6
  refine ⟨fun r w => r = cShare cwi cdm ∧ w = ws, ?_, ?_⟩
  · refine mopD (metX7_share l G tys htI ws hv ho6 hw hzp) (fun r u hp => ⟨hp, rfl⟩)
  · intro k w hM
    obtain ⟨hk0, hw0⟩ := hM
    rw [hw0]
    refine ⟨⟨_, hb.1⟩, mopD (metX8_share l G tys ws hb.1) (fun r2 u2 hp2 => ⟨by rw [hp2, hk0, show cwi = wi from hcr.2.2.2.2.2.1, show cdm = dm from hcr.2.2.2.2.2.2], INV_rd hI0 hb chz.rf⟩)⟩
