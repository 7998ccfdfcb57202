set_option maxHeartbeats 4000000 in
set_option maxRecDepth 100000 in
theorem sem_margins (l : Launch) (hnt : l.stackTraces = false) (G : va_G) (tys : List (ClassId × FieldType)) {A : Nat → Prop} {tE mi : Nat} {cI cO cJ cB : ClassId} (htI : tI tys cI) (htO : tO tys cO) (htJ : tys[2]? = some (cJ, .long)) (htB : tys[3]? = some (cB, .double)) {v am oj od : Nat} {ws : va_W} (h : INV cI cO cJ cB tE v am oj od ws) (x y : Int32) : ∃ Mid : Int32 → va_W → Prop, Met l yL_margins wsL_margins { frames := 8, cells := 2, slots := 12, locals := 126 } (pcX G tys ws A tE mi [.ref v, .int x, .int y]) (va_Qi (fun (r : Int32) (w : va_W) => Mid r w) (fun w t => va_P G vwCl w t.heap ∧ va_D A w) A) 2 12 A ∧ ∀ k w, Mid k w → (∃ vs, w[12]? = some (am, .inr (9, vs))) ∧ Met l yX8_margins wsX8_margins { frames := 1, cells := 0, slots := 0, locals := 22 } (pcM G tys w A [.ref am, .int x, .int y]) (va_Qv (fun (w2 : va_W) => EndV am (INV cI cO cJ cB tE v am oj od) w2 k) (fun w2 t => va_P G vwCl w2 t.heap ∧ va_D A w2) A) 0 0 A := by
  obtain ⟨own, ad, z, F, wi, dm, ⟨aS, af, aR, ao, ak, aP, aC⟩, np, hI⟩ := h
  have hI0 := hI
  obtain ⟨hb, hv, o0, hO, hg⟩ := hI
  have hv : ws[0]? = some (v, .inr (8, [.ref aS, .ref af, .ref aR, .ref ao, .ref ak, .ref aP, .ref aC])) := hv
  have o12 := hO 12 (by decide) (by decide)
  have o36 := hO 36 (by decide) (by decide)
  have o37 := hO 37 (by decide) (by decide)
  obtain ⟨hk9, o9, k9, hk65, hz28⟩ := hg 5 (by decide)
  have hk9 : ws[9]? = some (ak, .inr (3, [.int (z 26), .int (z 27), .int (z 28)])) := hk9
  have hc1 : cdMargins x y = 0 → chg own own 5 ws (ws.set 9 (ak, .inr (3, [.int x, .int y, .int (z 28)]))) := fun hc0 => by
    exact chg.rf.set o9
  refine ⟨_, metL_margins l G tys ws hv (metX7_margins l hnt G tys ws hv hk9 x y) (by unfold cdMargins; (repeat' split) <;> decide) (by unfold cdMargins; (repeat' split) <;> decide), ?_⟩
  intro k w hM
  rcases hM with ⟨hc0, hk0, hw0⟩ | ⟨hc0, hk0, u, hp, hw0⟩
  · rw [hw0, hk0]
    refine ⟨⟨_, hb.1⟩, mopV (metX8_margins (F := F) l G tys htI (ws) hb.1 x y) (fun u _ => ?_)⟩
    rw [if_neg hc0]
    exact ⟨⟨ad, _, wi, dm, va_ge hb.1, upd_at⟩, INV_ref hI0 _⟩
  · have hw0 : w = ws.set 9 (ak, .inr (3, [.int x, .int y, .int (z 28)])) := hw0
    have hcc := hc0
    unfold cdMargins at hcc
    obtain ⟨k0, hcc⟩ := cd1 (by decide) hcc
    obtain ⟨k1, hcc⟩ := cd1 (by decide) hcc
    have hc1 := hc1 hc0
    have hO2 := hO
    have hb1 := hb.k (by decide) hO hc1
    have hb2 := hb1
    rw [hw0, hk0]
    refine ⟨⟨_, hb2.1⟩, mopV (metX8_margins (F := F) l G tys htI (ws.set 9 (ak, .inr (3, [.int x, .int y, .int (z 28)]))) hb2.1 x y) (fun u2 hp2 => ?_)⟩
    rw [if_pos hc0]
    have hb3 := (((hb2).m (upd z 0 0) wi dm).m (upd (upd z 0 0) 26 x) wi dm).m (upd (upd (upd z 0 0) 26 x) 27 y) wi dm
    refine ⟨⟨ad, _, _, _, hb3.1, rfl⟩, INV_next hI0 5 (by decide) hc1 ((((chz.rf).set (hO2 12 (by decide) (by decide))).set (hO2 12 (by decide) (by decide))).set (hO2 12 (by decide) (by decide))) hb3 (((agb.rf.zz 0 0 (Or.inl rfl)).zz 26 x (Or.inr rfl)).zz 27 y (Or.inr rfl)) (Nat.le_refl _) (fun _ => rfl) ?_⟩
    · exact ⟨va_ge hk9, o9, k9, hk65, hz28⟩
set_option maxHeartbeats 4000000 in
set_option maxRecDepth 100000 in
theorem sem_pulse (l : Launch) (hnt : l.stackTraces = false) (G : va_G) (tys : List (ClassId × FieldType)) {A : Nat → Prop} {tE mi : Nat} {cI cO cJ cB : ClassId} (htI : tI tys cI) (htO : tO tys cO) (htJ : tys[2]? = some (cJ, .long)) (htB : tys[3]? = some (cB, .double)) {v am oj od : Nat} {ws : va_W} (h : INV cI cO cJ cB tE v am oj od ws) (x y : Int32) : ∃ Mid : Int32 → va_W → Prop, Met l yL_pulse wsL_pulse { frames := 8, cells := 2, slots := 12, locals := 126 } (pcX G tys ws A tE mi [.ref v, .int x, .int y, .ref oj]) (va_Qi (fun (r : Int32) (w : va_W) => Mid r w) (fun w t => va_P G vwCl w t.heap ∧ va_D A w) A) 2 12 A ∧ ∀ k w, Mid k w → (∃ vs, w[12]? = some (am, .inr (9, vs))) ∧ Met l yX8_pulse wsX8_pulse { frames := 1, cells := 0, slots := 0, locals := 22 } (pcM G tys w A [.ref am, .int x, .int y]) (va_Qi (fun (r : Int32) (w2 : va_W) => EndI cJ am oj (INV cI cO cJ cB tE v am oj od) w2 r k) (fun w2 t => va_P G vwCl w2 t.heap ∧ va_D A w2) A) 0 0 A := by
  obtain ⟨own, ad, z, F, wi, dm, ⟨aS, af, aR, ao, ak, aP, aC⟩, np, hI⟩ := h
  have hI0 := hI
  obtain ⟨hb, hv, o0, hO, hg⟩ := hI
  have hv : ws[0]? = some (v, .inr (8, [.ref aS, .ref af, .ref aR, .ref ao, .ref ak, .ref aP, .ref aC])) := hv
  have o12 := hO 12 (by decide) (by decide)
  have o36 := hO 36 (by decide) (by decide)
  have o37 := hO 37 (by decide) (by decide)
  obtain ⟨hk9, o9, k9, hk65, hz28⟩ := hg 5 (by decide)
  have hk9 : ws[9]? = some (ak, .inr (3, [.int (z 26), .int (z 27), .int (z 28)])) := hk9
  have hc1 : cdPulse x y = 0 → chg own own 5 ws (ws.set 9 (ak, .inr (3, [.int (z 26), .int (z 27), .int (kTake (z 26) (z 27) (z 28) x y)]))) := fun hc0 => by
    exact chg.rf.set o9
  refine ⟨_, metL_pulse l G tys htJ ws hv (metX7_pulse l hnt G tys ws hv hk9 x y) (fun hc0 r u hp => (hb.k (by decide) hO (hc1 hc0)).2.2.1) (by unfold cdPulse; (repeat' split) <;> decide) (by unfold cdPulse; (repeat' split) <;> decide), ?_⟩
  intro k w hM
  rcases hM with ⟨hc0, hk0, hw0⟩ | ⟨hc0, hk0, r, u, f, hp, ho, hw0⟩
  · rw [hw0, hk0]
    refine ⟨⟨_, hb.1⟩, mopI (metX8_pulse (F := F) l G tys htI (ws) hb.1 x y) (fun r u _ => ?_)⟩
    rw [if_neg hc0]
    exact ⟨⟨ad, _, wi, dm, va_ge hb.1, upd_at⟩, fun q => absurd q hc0, INV_ref hI0 _⟩
  · have hp : r = kTake (z 26) (z 27) (z 28) x y := hp
    have ho : (ws.set 9 (ak, .inr (3, [.int (z 26), .int (z 27), .int (kTake (z 26) (z 27) (z 28) x y)])))[36]? = some (oj, .inl (cJ, 1, .inr (.inl f))) := ho
    have hw0 : w = (ws.set 9 (ak, .inr (3, [.int (z 26), .int (z 27), .int (kTake (z 26) (z 27) (z 28) x y)]))).set 36 (oj, .inl (cJ, 1, .inr (.inl (vp_updL f (0 : Int32).toNatClampNeg r.toInt64)))) := hw0
    have hcc := hc0
    unfold cdPulse at hcc
    obtain ⟨k0, hcc⟩ := cd1 (by decide) hcc
    obtain ⟨k1, hcc⟩ := cd1 (by decide) hcc
    have hkt : kTake (z 26) (z 27) (z 28) x y = mTake (z 26) (z 27) (z 28) x y ∧ ∃ j, j < 65536 ∧ kTake (z 26) (z 27) (z 28) x y = nI j := by rw [hz28]; exact kTake_eq hk65
    have hc1 := hc1 hc0
    have hO2 := hO
    have hb1 := hb.k (by decide) hO hc1
    have hb2 := hb1.o (vp_updL f (0 : Int32).toNatClampNeg r.toInt64)
    rw [hw0, hk0]
    refine ⟨⟨_, hb2.1⟩, mopI (metX8_pulse (F := F) l G tys htI ((ws.set 9 (ak, .inr (3, [.int (z 26), .int (z 27), .int (kTake (z 26) (z 27) (z 28) x y)]))).set 36 (oj, .inl (cJ, 1, .inr (.inl (vp_updL f (0 : Int32).toNatClampNeg r.toInt64))))) hb2.1 x y) (fun r2 u2 hp2 => ?_)⟩
    rw [if_pos hc0]
    have hb3 := ((hb2).m (upd z 0 0) wi dm).m (upd (upd z 0 0) 28 (mTake (z 26) (z 27) (z 28) x y)) wi dm
    refine ⟨⟨ad, _, _, _, hb3.1, rfl⟩, fun _ => ⟨_, va_gs (by decide) (va_gs (by decide) (va_ge ho)), ?_⟩, INV_next hI0 5 (by decide) hc1 ((((chz.rf (own := own)).set (hO2 36 (by decide) (by decide))).set (hO2 12 (by decide) (by decide))).set (hO2 12 (by decide) (by decide))) hb3 ((agb.rf.zz 0 0 (Or.inl rfl)).zz 28 _ (Or.inr rfl)) (Nat.le_refl _) (fun _ => rfl) ?_⟩
    · rw [updL_0]
      rw [hp2 hc0, hp, hkt.1]
    · obtain ⟨t1, t2, t3, t4⟩ := hkt
      exact ⟨by rw [t1]; exact va_ge hk9, o9, t2, t3, t1.symm.trans t4⟩
set_option maxHeartbeats 4000000 in
set_option maxRecDepth 100000 in
theorem sem_bit (l : Launch) (hnt : l.stackTraces = false) (G : va_G) (tys : List (ClassId × FieldType)) {A : Nat → Prop} {tE mi : Nat} {cI cO cJ cB : ClassId} (htI : tI tys cI) (htO : tO tys cO) (htJ : tys[2]? = some (cJ, .long)) (htB : tys[3]? = some (cB, .double)) {v am oj od : Nat} {ws : va_W} (h : INV cI cO cJ cB tE v am oj od ws) (x : Int32) : ∃ Mid : Int32 → va_W → Prop, Met l yL_bit wsL_bit { frames := 8, cells := 1, slots := 6, locals := 124 } (pcX G tys ws A tE mi [.ref v, .int x, .ref oj]) (va_Qi (fun (r : Int32) (w : va_W) => Mid r w) (fun w t => va_P G vwCl w t.heap ∧ va_D A w) A) 1 6 A ∧ ∀ k w, Mid k w → (∃ vs, w[12]? = some (am, .inr (9, vs))) ∧ Met l yX8_bit wsX8_bit { frames := 1, cells := 0, slots := 0, locals := 22 } (pcM G tys w A [.ref am, .int x]) (va_Qi (fun (r : Int32) (w2 : va_W) => EndI cJ am oj (INV cI cO cJ cB tE v am oj od) w2 r k) (fun w2 t => va_P G vwCl w2 t.heap ∧ va_D A w2) A) 0 0 A := by
  obtain ⟨own, ad, z, F, wi, dm, ⟨aS, af, aR, ao, ak, aP, aC⟩, np, hI⟩ := h
  have hI0 := hI
  obtain ⟨hb, hv, o0, hO, hg⟩ := hI
  have hv : ws[0]? = some (v, .inr (8, [.ref aS, .ref af, .ref aR, .ref ao, .ref ak, .ref aP, .ref aC])) := hv
  have o12 := hO 12 (by decide) (by decide)
  have o36 := hO 36 (by decide) (by decide)
  have o37 := hO 37 (by decide) (by decide)
  obtain ⟨hk9, o9, k9, hk65, hz28⟩ := hg 5 (by decide)
  have hk9 : ws[9]? = some (ak, .inr (3, [.int (z 26), .int (z 27), .int (z 28)])) := hk9
  refine ⟨_, metL_bit l G tys htJ ws hv (metX7_bit l hnt G tys ws hv hk9 x) (fun _ _ _ _ => hb.2.2.1) (by unfold cdOne; (repeat' split) <;> decide) (by unfold cdOne; (repeat' split) <;> decide), ?_⟩
  intro k w hM
  rcases hM with ⟨hc0, hk0, hw0⟩ | ⟨hc0, hk0, r, u, f, hp, ho, hw0⟩
  · rw [hw0, hk0]
    refine ⟨⟨_, hb.1⟩, mopI (metX8_bit (F := F) l G tys htI (ws) hb.1 x) (fun r u _ => ?_)⟩
    rw [if_neg hc0]
    exact ⟨⟨ad, _, wi, dm, va_ge hb.1, upd_at⟩, fun q => absurd q hc0, INV_ref hI0 _⟩
  · have hp : r = (z 28 >>> (x &&& 31)) &&& 1 := hp
    have ho : ws[36]? = some (oj, .inl (cJ, 1, .inr (.inl f))) := ho
    have hw0 : w = ws.set 36 (oj, .inl (cJ, 1, .inr (.inl (vp_updL f (0 : Int32).toNatClampNeg r.toInt64)))) := hw0
    have hcc := hc0
    unfold cdOne at hcc
    obtain ⟨k0, hcc⟩ := cd1 (by decide) hcc
    have hb2 := hb.o (vp_updL f (0 : Int32).toNatClampNeg r.toInt64)
    rw [hw0, hk0]
    refine ⟨⟨_, hb2.1⟩, mopI (metX8_bit (F := F) l G tys htI (ws.set 36 (oj, .inl (cJ, 1, .inr (.inl (vp_updL f (0 : Int32).toNatClampNeg r.toInt64))))) hb2.1 x) (fun r2 u2 hp2 => ?_)⟩
    rw [if_pos hc0]
    refine ⟨⟨ad, _, _, _, va_ge hb2.1, rfl⟩, fun _ => ⟨_, va_gs (by decide) (va_ge ho), ?_⟩, INV_rd hI0 hb2 (chz.rf.set o36)⟩
    rw [updL_0]
    rw [hp2 hc0, hp]
