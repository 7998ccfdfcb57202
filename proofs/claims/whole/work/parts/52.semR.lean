set_option maxHeartbeats 4000000 in
set_option maxRecDepth 100000 in
theorem sem_ring (l : Launch) (hnt : l.stackTraces = false) (G : va_G) (tys : List (ClassId × FieldType)) {A : Nat → Prop} {tE mi : Nat} {cI cO cJ cB : ClassId} (htI : tI tys cI) (htO : tO tys cO) (htJ : tys[2]? = some (cJ, .long)) (htB : tys[3]? = some (cB, .double)) {v am oj od : Nat} {ws : va_W} (h : INV cI cO cJ cB tE v am oj od ws) (x y : Int32) : ∃ Mid : Int32 → va_W → Prop, Met l yL_ring wsL_ring { frames := 9, cells := 5, slots := 223, locals := 247 } (pcX G tys ws A tE mi [.ref v, .int x, .int y, .ref oj]) (va_Qi (fun (r : Int32) (w : va_W) => Mid r w) (fun w t => va_P G vwCl w t.heap ∧ va_D A w) A) 5 223 A ∧ ∀ k w, Mid k w → (∃ vs, w[12]? = some (am, .inr (9, vs))) ∧ Met l yX8_ring wsX8_ring { frames := 1, cells := 0, slots := 0, locals := 22 } (pcM G tys w A [.ref am, .int x, .int y]) (va_Qi (fun (r : Int32) (w2 : va_W) => EndI cJ am oj (INV cI cO cJ cB tE v am oj od) w2 r k) (fun w2 t => va_P G vwCl w2 t.heap ∧ va_D A w2) A) 0 0 A := by
  obtain ⟨own, ad, z, F, wi, dm, ⟨aS, af, aR, ao, ak, aP, aC⟩, np, hI⟩ := h
  have hI0 := hI
  obtain ⟨hb, hv, o0, hO, hg⟩ := hI
  have hv : ws[0]? = some (v, .inr (8, [.ref aS, .ref af, .ref aR, .ref ao, .ref ak, .ref aP, .ref aC])) := hv
  have o12 := hO 12 (by decide) (by decide)
  have o36 := hO 36 (by decide) (by decide)
  have o37 := hO 37 (by decide) (by decide)
  obtain ⟨n, q, e, g, hL, hn6, hz13, hrg, h23⟩ := hg 3 (by decide)
  have hi0 : ∀ i, i < n → ¬ F 21 i = 0 := fun i hi => (hrg i hi).1
  have hadd : ∀ u : Nat × va_W, lsA (ws ++ ([(u.1, .inr (6, [.int x, .int y, .int 0, .int 0, .int 0]))] : va_W)) tE cO 5 aR n e q u.1 u.2 → ∃ q2, pfL (fun k => if k < ws.length then own k else 3) u.2 tE cO 3 5 aR (n + 1) q2 (va_up e n u.1) (va_up g n ws.length) 6 (fun i => if i = n then [.int x, .int y, .int 0, .int 0, .int 0] else [.int (F 21 i), .int (F 22 i), .int (F 23 i), .int (F 24 i), .int (F 25 i)]) ∧ chg own (fun k => if k < ws.length then own k else 3) 3 ws u.2 ∧ (∀ j x, (([] : va_W))[j]? = some x → (u.2)[ws.length + 1 + j]? = some x) ∧ ∀ (p b : Nat) (c : ClassId) (m : Nat) (f : Nat → Int32), ws[p]? = some (b, .inl (c, m, .inl f)) → (u.2)[p]? = some (b, .inl (c, m, .inl f)) := fun u hu => hL.add (by decide) hu
  refine ⟨_, metL_ring l G tys htJ ws hv (metX7_ring l hnt G tys ws htO hv hL.1 (fun i hi => (hL.2.2.2.1 i hi).1) x y (by omega)) (fun hc0 r u hp => by obtain ⟨q2, hL2, hc1, hmo, hki⟩ := hadd u hp.2; exact (hb.k (by decide) hO hc1).2.2.1) (by unfold cdRing; (repeat' split) <;> decide), ?_⟩
  intro k w hM
  rcases hM with ⟨hc0, hk0, hw0⟩ | ⟨hc0, hk0, r, u, f, hp, ho, hw0⟩
  · rw [hw0, hk0]
    refine ⟨⟨_, hb.1⟩, mopI (metX8_ring (F := F) l G tys htI (ws) hb.1 (hb.r 21 6 (by decide)) (hb.r 22 6 (by decide)) hz13 hn6 x y) (fun r u _ => ?_)⟩
    rw [if_neg hc0]
    exact ⟨⟨ad, _, wi, dm, va_ge hb.1, upd_at⟩, fun q => absurd q hc0, INV_ref hI0 _⟩
  · have hp : r = nI n ∧ lsA (ws ++ ([(u.1, .inr (6, [.int x, .int y, .int 0, .int 0, .int 0]))] : va_W)) tE cO 5 aR n e q u.1 u.2 := hp
    have ho : (u.2)[36]? = some (oj, .inl (cJ, 1, .inr (.inl f))) := ho
    have hw0 : w = (u.2).set 36 (oj, .inl (cJ, 1, .inr (.inl (vp_updL f (0 : Int32).toNatClampNeg r.toInt64)))) := hw0
    have hcc := hc0
    unfold cdRing at hcc
    obtain ⟨k0, hcc⟩ := cd1 (by decide) hcc
    obtain ⟨k1, hcc⟩ := cd1 (by decide) hcc
    obtain ⟨k2, hcc⟩ := cd1 (by decide) hcc
    obtain ⟨q2, hL2, hc1, hmo, hki⟩ := hadd u hp.2
    have hO2 := hb.ow (by decide) hO hc1
    have hb1 := hb.k (by decide) hO hc1
    have hb2 := hb1.o (vp_updL f (0 : Int32).toNatClampNeg r.toInt64)
    rw [hw0, hk0]
    refine ⟨⟨_, hb2.1⟩, mopI (metX8_ring (F := F) l G tys htI ((u.2).set 36 (oj, .inl (cJ, 1, .inr (.inl (vp_updL f (0 : Int32).toNatClampNeg r.toInt64))))) hb2.1 (hb2.r 21 6 (by decide)) (hb2.r 22 6 (by decide)) hz13 hn6 x y) (fun r2 u2 hp2 => ?_)⟩
    rw [if_pos hc0]
    have hb3 := ((((hb2).m (upd z 0 0) wi dm).a 21 6 (upd (F 21) (z 13).toNatClampNeg x) (by decide)).a 22 6 (upd (F 22) (z 13).toNatClampNeg y) (by decide)).m (upd (upd z 0 0) 13 (z 13 + 1)) wi dm
    refine ⟨⟨ad, _, _, _, hb3.1, rfl⟩, fun _ => ⟨_, va_gs (by decide) (va_gs (by decide) (va_gs (by decide) (va_gs (by decide) (va_ge ho)))), ?_⟩, INV_next hI0 3 (by decide) hc1 ((((((chz.rf (own := (fun k => if k < ws.length then own k else 3))).set (hO2 36 (by decide) (by decide))).set (hO2 12 (by decide) (by decide))).set (hO2 21 (by decide) (by decide))).set (hO2 22 (by decide) (by decide))).set (hO2 12 (by decide) (by decide))) hb3 ((((agb.rf.zz 0 0 (Or.inl rfl)).f 21 _ rfl).f 22 _ rfl).zz 13 _ (Or.inr rfl)) (Nat.le_refl _) (fun _ => rfl) ?_⟩
    · rw [updL_0]
      rw [hp2 hc0, hp.1, hz13]
    · have hz1n : (z 13).toNatClampNeg = n := by rw [hz13]; exact nI_clamp (by omega)
      have h8 := n8 (k := 6) k2 (by omega) (by decide)
      refine ⟨n + 1, q2, _, _, hL2.vs (fun i hi => ?_), by omega, ?_, fun i hi => ?_, fun k i g1 g2 g3 => ?_⟩
      · show _ = ([.int (upd (F 21) (z 13).toNatClampNeg x i), .int (upd (F 22) (z 13).toNatClampNeg y i), .int (F 23 i), .int (F 24 i), .int (F 25 i)] : List Value)
        rw [hz1n]
        by_cases c : i = n
        · rw [if_pos c, c, upd_at, upd_at, h23 23 n (by decide) (by decide) (Nat.le_refl _), h23 24 n (by decide) (by decide) (Nat.le_refl _), h23 25 n (by decide) (by decide) (Nat.le_refl _)]
        · rw [if_neg c, upd_ne c, upd_ne c]
      · show z 13 + 1 = nI (n + 1)
        rw [hz13]
        exact nI_1 n
      · show ¬ upd (F 21) (z 13).toNatClampNeg x i = 0 ∧ rgR (upd (F 21) (z 13).toNatClampNeg x i) (upd (F 22) (z 13).toNatClampNeg y i) (F 23 i) (F 24 i)
        rw [hz1n]
        by_cases c : i = n
        · have r1 := oR_int k0
          have r2 := oR_int k1
          rw [c, upd_at, upd_at, h23 23 n (by decide) (by decide) (Nat.le_refl _), h23 24 n (by decide) (by decide) (Nat.le_refl _)]
          exact ⟨fun c0 => by rw [c0] at r1; exact absurd r1.1 (by decide), r1, r2, by decide, by decide⟩
        · rw [upd_ne c, upd_ne c]; exact hrg i (by omega)
      · show uFk (uFk F 21 _) 22 _ k i = 0
        rw [uFk_ne (by omega), uFk_ne (by omega)]
        exact h23 k i g1 g2 (by omega)
set_option maxHeartbeats 4000000 in
set_option maxRecDepth 100000 in
theorem sem_warm (l : Launch) (hnt : l.stackTraces = false) (G : va_G) (tys : List (ClassId × FieldType)) {A : Nat → Prop} {tE mi : Nat} {cI cO cJ cB : ClassId} (htI : tI tys cI) (htO : tO tys cO) (htJ : tys[2]? = some (cJ, .long)) (htB : tys[3]? = some (cB, .double)) {v am oj od : Nat} {ws : va_W} (h : INV cI cO cJ cB tE v am oj od ws) (x : Int32) : ∃ Mid : Int32 → va_W → Prop, Met l yL_warm wsL_warm { frames := 8, cells := 1, slots := 6, locals := 125 } (pcX G tys ws A tE mi [.ref v, .int x, .ref oj]) (va_Qi (fun (r : Int32) (w : va_W) => Mid r w) (fun w t => va_P G vwCl w t.heap ∧ va_D A w) A) 1 6 A ∧ ∀ k w, Mid k w → (∃ vs, w[12]? = some (am, .inr (9, vs))) ∧ Met l yX8_warm wsX8_warm { frames := 1, cells := 0, slots := 0, locals := 22 } (pcM G tys w A [.ref am, .int x]) (va_Qi (fun (r : Int32) (w2 : va_W) => EndI cJ am oj (INV cI cO cJ cB tE v am oj od) w2 r k) (fun w2 t => va_P G vwCl w2 t.heap ∧ va_D A w2) A) 0 0 A := by
  obtain ⟨own, ad, z, F, wi, dm, ⟨aS, af, aR, ao, ak, aP, aC⟩, np, hI⟩ := h
  have hI0 := hI
  obtain ⟨hb, hv, o0, hO, hg⟩ := hI
  have hv : ws[0]? = some (v, .inr (8, [.ref aS, .ref af, .ref aR, .ref ao, .ref ak, .ref aP, .ref aC])) := hv
  have o12 := hO 12 (by decide) (by decide)
  have o36 := hO 36 (by decide) (by decide)
  have o37 := hO 37 (by decide) (by decide)
  obtain ⟨n, q, e, g, hL, hn6, hz13, hrg, h23⟩ := hg 3 (by decide)
  have hi0 : ∀ i, i < n → ¬ F 21 i = 0 := fun i hi => (hrg i hi).1
  have hc1 : cdOne x (nI n) = 0 → chg own own 3 ws (ws.set (g x.toNatClampNeg) (e x.toNatClampNeg, .inr (6, [.int (F 21 x.toNatClampNeg), .int (F 22 x.toNatClampNeg), .int (F 23 x.toNatClampNeg), .int (jfd (F 23 x.toNatClampNeg + 500) 1000), .int (F 25 x.toNatClampNeg)]))) := fun hc0 => by
    exact (hL.set (by decide) (uKn hc0 (by decide)) _).2
  refine ⟨_, metL_warm l G tys htJ ws hv (metX7_warm l hnt G tys ws htO hv hL.1 (fun i hi => (hL.2.2.2.1 i hi).1) x) (fun hc0 r u hp => (hb.k (by decide) hO (hc1 hc0)).2.2.1) (by unfold cdOne; (repeat' split) <;> decide) (by unfold cdOne; (repeat' split) <;> decide), ?_⟩
  intro k w hM
  rcases hM with ⟨hc0, hk0, hw0⟩ | ⟨hc0, hk0, r, u, f, hp, ho, hw0⟩
  · rw [hw0, hk0]
    refine ⟨⟨_, hb.1⟩, mopI (metX8_warm (F := F) l G tys htI (ws) hb.1 (hb.r 23 6 (by decide)) (hb.r 24 6 (by decide)) hz13 hn6 x) (fun r u _ => ?_)⟩
    rw [if_neg hc0]
    exact ⟨⟨ad, _, wi, dm, va_ge hb.1, upd_at⟩, fun q => absurd q hc0, INV_ref hI0 _⟩
  · have hp : r = jfd (F 23 x.toNatClampNeg + 500) 1000 := hp
    have ho : (ws.set (g x.toNatClampNeg) (e x.toNatClampNeg, .inr (6, [.int (F 21 x.toNatClampNeg), .int (F 22 x.toNatClampNeg), .int (F 23 x.toNatClampNeg), .int (jfd (F 23 x.toNatClampNeg + 500) 1000), .int (F 25 x.toNatClampNeg)])))[36]? = some (oj, .inl (cJ, 1, .inr (.inl f))) := ho
    have hw0 : w = (ws.set (g x.toNatClampNeg) (e x.toNatClampNeg, .inr (6, [.int (F 21 x.toNatClampNeg), .int (F 22 x.toNatClampNeg), .int (F 23 x.toNatClampNeg), .int (jfd (F 23 x.toNatClampNeg + 500) 1000), .int (F 25 x.toNatClampNeg)]))).set 36 (oj, .inl (cJ, 1, .inr (.inl (vp_updL f (0 : Int32).toNatClampNeg r.toInt64)))) := hw0
    have hcc := hc0
    unfold cdOne at hcc
    obtain ⟨k0, hcc⟩ := cd1 (by decide) hcc
    have hx := (uK_ix k0).2
    have hjf : jfd (F 23 x.toNatClampNeg + 500) 1000 = mWarm (F 23 x.toNatClampNeg) := jfd_eq rfl (hrg _ hx).2.2.2.1.1 (hrg _ hx).2.2.2.1.2
    have hc1 := hc1 hc0
    have hO2 := hO
    have hb1 := hb.k (by decide) hO hc1
    have hb2 := hb1.o (vp_updL f (0 : Int32).toNatClampNeg r.toInt64)
    rw [hw0, hk0]
    refine ⟨⟨_, hb2.1⟩, mopI (metX8_warm (F := F) l G tys htI ((ws.set (g x.toNatClampNeg) (e x.toNatClampNeg, .inr (6, [.int (F 21 x.toNatClampNeg), .int (F 22 x.toNatClampNeg), .int (F 23 x.toNatClampNeg), .int (jfd (F 23 x.toNatClampNeg + 500) 1000), .int (F 25 x.toNatClampNeg)]))).set 36 (oj, .inl (cJ, 1, .inr (.inl (vp_updL f (0 : Int32).toNatClampNeg r.toInt64))))) hb2.1 (hb2.r 23 6 (by decide)) (hb2.r 24 6 (by decide)) hz13 hn6 x) (fun r2 u2 hp2 => ?_)⟩
    rw [if_pos hc0]
    have hb3 := ((hb2).m (upd z 0 0) wi dm).a 24 6 (upd (F 24) x.toNatClampNeg (mWarm (F 23 x.toNatClampNeg))) (by decide)
    refine ⟨⟨ad, _, _, _, hb3.1, rfl⟩, fun _ => ⟨_, va_gs (by decide) (va_gs (by decide) (va_ge ho)), ?_⟩, INV_next hI0 3 (by decide) hc1 ((((chz.rf (own := own)).set (hO2 36 (by decide) (by decide))).set (hO2 12 (by decide) (by decide))).set (hO2 24 (by decide) (by decide))) hb3 ((agb.rf.zz 0 0 (Or.inl rfl)).f 24 _ rfl) (Nat.le_refl _) (fun _ => rfl) ?_⟩
    · rw [updL_0]
      rw [hp2 hc0, hp, hjf]
    · refine ⟨n, q, e, g, (hL.set (by decide) hx _).1.vs (fun i hi => ?_), hn6, hz13, fun i hi => ?_, fun k i g1 g2 g3 => ?_⟩
      · show _ = ([.int (F 21 i), .int (F 22 i), .int (F 23 i), .int (upd (F 24) x.toNatClampNeg (mWarm (F 23 x.toNatClampNeg)) i), .int (F 25 i)] : List Value)
        by_cases c : i = x.toNatClampNeg
        · rw [if_pos c, c, upd_at, hjf]
        · rw [if_neg c, upd_ne c]
      · show ¬ F 21 i = 0 ∧ rgR (F 21 i) (F 22 i) (F 23 i) (upd (F 24) x.toNatClampNeg (mWarm (F 23 x.toNatClampNeg)) i)
        by_cases c : i = x.toNatClampNeg
        · rw [c, upd_at]; exact ⟨(hrg _ hx).1, (hrg _ hx).2.1, (hrg _ hx).2.2.1, (hrg _ hx).2.2.2.1, mWarm_rng rfl (hrg _ hx).2.2.2.1.1 (hrg _ hx).2.2.2.1.2⟩
        · rw [upd_ne c]; exact hrg i hi
      · show uFk F 24 _ k i = 0
        by_cases c : k = 24
        · rw [c, uFk_at, upd_ne (by omega)]; exact h23 24 i (by decide) (by decide) g3
        · rw [uFk_ne c]; exact h23 k i g1 g2 g3
set_option maxHeartbeats 4000000 in
set_option maxRecDepth 100000 in
theorem sem_ofRing (l : Launch) (hnt : l.stackTraces = false) (G : va_G) (tys : List (ClassId × FieldType)) {A : Nat → Prop} {tE mi : Nat} {cI cO cJ cB : ClassId} (htI : tI tys cI) (htO : tO tys cO) (htJ : tys[2]? = some (cJ, .long)) (htB : tys[3]? = some (cB, .double)) {v am oj od : Nat} {ws : va_W} (h : INV cI cO cJ cB tE v am oj od ws) (x y : Int32) : ∃ Mid : Int32 → va_W → Prop, Met l yL_ofRing wsL_ofRing { frames := 8, cells := 2, slots := 12, locals := 127 } (pcX G tys ws A tE mi [.ref v, .int x, .int y, .ref oj]) (va_Qi (fun (r : Int32) (w : va_W) => Mid r w) (fun w t => va_P G vwCl w t.heap ∧ va_D A w) A) 2 12 A ∧ ∀ k w, Mid k w → (∃ vs, w[12]? = some (am, .inr (9, vs))) ∧ Met l yX8_ofRing wsX8_ofRing { frames := 1, cells := 0, slots := 0, locals := 22 } (pcM G tys w A [.ref am, .int x, .int y]) (va_Qi (fun (r : Int32) (w2 : va_W) => EndI cJ am oj (INV cI cO cJ cB tE v am oj od) w2 r k) (fun w2 t => va_P G vwCl w2 t.heap ∧ va_D A w2) A) 0 0 A := by
  obtain ⟨own, ad, z, F, wi, dm, ⟨aS, af, aR, ao, ak, aP, aC⟩, np, hI⟩ := h
  have hI0 := hI
  obtain ⟨hb, hv, o0, hO, hg⟩ := hI
  have hv : ws[0]? = some (v, .inr (8, [.ref aS, .ref af, .ref aR, .ref ao, .ref ak, .ref aP, .ref aC])) := hv
  have o12 := hO 12 (by decide) (by decide)
  have o36 := hO 36 (by decide) (by decide)
  have o37 := hO 37 (by decide) (by decide)
  obtain ⟨n, q, e, g, hL, hn6, hz13, hrg, h23⟩ := hg 3 (by decide)
  have hi0 : ∀ i, i < n → ¬ F 21 i = 0 := fun i hi => (hrg i hi).1
  refine ⟨_, metL_ofRing l G tys htJ ws hv (metX7_ofRing l hnt G tys ws htO hv hL.1 (fun i hi => (hL.2.2.2.1 i hi).1) x y) (fun _ _ _ _ => hb.2.2.1) (by unfold cdOfRing; (repeat' split) <;> decide), ?_⟩
  intro k w hM
  rcases hM with ⟨hc0, hk0, hw0⟩ | ⟨hc0, hk0, r, u, f, hp, ho, hw0⟩
  · rw [hw0, hk0]
    refine ⟨⟨_, hb.1⟩, mopI (metX8_ofRing (F := F) l G tys htI (ws) hb.1 (hb.r 21 6 (by decide)) (hb.r 23 6 (by decide)) (hb.r 24 6 (by decide)) (hb.r 25 6 (by decide)) hz13 hn6 hi0 x y) (fun r u _ => ?_)⟩
    rw [if_neg hc0]
    exact ⟨⟨ad, _, wi, dm, va_ge hb.1, upd_at⟩, fun q => absurd q hc0, INV_ref hI0 _⟩
  · have hp : r = (if y = 0 then F 24 x.toNatClampNeg else if y = 1 then rCur (F 21 x.toNatClampNeg) (F 23 x.toNatClampNeg) (F 24 x.toNatClampNeg) else F 25 x.toNatClampNeg) := hp
    have ho : ws[36]? = some (oj, .inl (cJ, 1, .inr (.inl f))) := ho
    have hw0 : w = ws.set 36 (oj, .inl (cJ, 1, .inr (.inl (vp_updL f (0 : Int32).toNatClampNeg r.toInt64)))) := hw0
    have hcc := hc0
    unfold cdOfRing at hcc
    obtain ⟨k0, hcc⟩ := cd1 (by decide) hcc
    obtain ⟨k1, hcc⟩ := cd1 (by decide) hcc
    have hb2 := hb.o (vp_updL f (0 : Int32).toNatClampNeg r.toInt64)
    rw [hw0, hk0]
    refine ⟨⟨_, hb2.1⟩, mopI (metX8_ofRing (F := F) l G tys htI (ws.set 36 (oj, .inl (cJ, 1, .inr (.inl (vp_updL f (0 : Int32).toNatClampNeg r.toInt64))))) hb2.1 (hb2.r 21 6 (by decide)) (hb2.r 23 6 (by decide)) (hb2.r 24 6 (by decide)) (hb2.r 25 6 (by decide)) hz13 hn6 hi0 x y) (fun r2 u2 hp2 => ?_)⟩
    rw [if_pos hc0]
    refine ⟨⟨ad, _, _, _, va_ge hb2.1, rfl⟩, fun _ => ⟨_, va_gs (by decide) (va_ge ho), ?_⟩, INV_rd hI0 hb2 (chz.rf.set o36)⟩
    rw [updL_0]
    rw [hp2 hc0, hp]
