theorem uKn {x a b : Int32} {n : Nat} (h : (if uK x (nI n) then a else b) = 0) (ha : ¬ a = 0) : x.toNatClampNeg < n := (uK_ix (cd1 ha h).1).2
theorem oR_int {x lo hi : Int32} (h : ¬ oR x lo hi) : lo.toInt ≤ x.toInt ∧ x.toInt ≤ hi.toInt := ⟨Int32.le_iff_toInt_le.mp (Int32.not_lt.mp (fun q => h (Or.inl q))), Int32.le_iff_toInt_le.mp (Int32.not_lt.mp (fun q => h (Or.inr q)))⟩
theorem c13_k : ∀ k, k < 201 → 1 ≤ k → ¬ nI k = 0 ∧ ¬ nI k * nI k = 0 := by decide +kernel
theorem c13 {x : Int32} (h : ¬ oR x 1 200) : ¬ x = 0 ∧ ¬ x * x = 0 := by
  obtain ⟨h1, h2⟩ := oR_ix (k := 200) h (by decide)
  rw [h1]
  refine c13_k _ (by omega) ?_
  rcases Nat.eq_zero_or_pos x.toNatClampNeg with q | q
  · rw [q] at h1
    exact absurd (Or.inl (by rw [h1]; decide)) h
  · exact q
set_option maxHeartbeats 4000000 in
set_option maxRecDepth 100000 in
theorem sem_set (l : Launch) (hnt : l.stackTraces = false) (G : va_G) (tys : List (ClassId × FieldType)) {A : Nat → Prop} {tE mi : Nat} {cI cO cJ cB : ClassId} (htI : tI tys cI) (htO : tO tys cO) (htJ : tys[2]? = some (cJ, .long)) (htB : tys[3]? = some (cB, .double)) {v am oj od : Nat} {ws : va_W} (h : INV cI cO cJ cB tE v am oj od ws) (x y s : Int32) : ∃ Mid : Int32 → va_W → Prop, Met l yL_set wsL_set { frames := 8, cells := 3, slots := 18, locals := 128 } (pcX G tys ws A tE mi [.ref v, .int x, .int y, .int s, .ref oj]) (va_Qi (fun (r : Int32) (w : va_W) => Mid r w) (fun w t => va_P G vwCl w t.heap ∧ va_D A w) A) 3 18 A ∧ ∀ k w, Mid k w → (∃ vs, w[12]? = some (am, .inr (9, vs))) ∧ Met l yX8_set wsX8_set { frames := 1, cells := 0, slots := 0, locals := 23 } (pcM G tys w A [.ref am, .int x, .int y, .int s]) (va_Qi (fun (r : Int32) (w2 : va_W) => EndI cJ am oj (INV cI cO cJ cB tE v am oj od) w2 r k) (fun w2 t => va_P G vwCl w2 t.heap ∧ va_D A w2) A) 0 0 A := by
  obtain ⟨own, ad, z, F, wi, dm, ⟨aS, af, aR, ao, ak, aP, aC⟩, np, hI⟩ := h
  have hI0 := hI
  obtain ⟨hb, hv, o0, hO, hg⟩ := hI
  have hv : ws[0]? = some (v, .inr (8, [.ref aS, .ref af, .ref aR, .ref ao, .ref ak, .ref aP, .ref aC])) := hv
  have o12 := hO 12 (by decide) (by decide)
  have o36 := hO 36 (by decide) (by decide)
  have o37 := hO 37 (by decide) (by decide)
  obtain ⟨n, q, e, g, hL, hn8, hz1, hc13, h16⟩ := hg 1 (by decide)
  have hc1 : cdSet x y s (nI n) = 0 → chg own own 1 ws (ws.set (g x.toNatClampNeg) (e x.toNatClampNeg, .inr (7, [.int (F 13 x.toNatClampNeg), .int (F 14 x.toNatClampNeg), .int (F 15 x.toNatClampNeg), .int y, .int s]))) := fun hc0 => by
    exact (hL.set (by decide) (uKn hc0 (by decide)) _).2
  refine ⟨_, metL_set l G tys htJ ws hv (metX7_set l hnt G tys ws htO hv hL.1 (fun i hi => (hL.2.2.2.1 i hi).1) x y s) (fun hc0 r u hp => (hb.k (by decide) hO (hc1 hc0)).2.2.1) (by unfold cdSet; (repeat' split) <;> decide), ?_⟩
  intro k w hM
  rcases hM with ⟨hc0, hk0, hw0⟩ | ⟨hc0, hk0, r, u, f, hp, ho, hw0⟩
  · rw [hw0, hk0]
    refine ⟨⟨_, hb.1⟩, mopI (metX8_set (F := F) l G tys htI (ws) hb.1 (hb.r 13 8 (by decide)) (hb.r 14 8 (by decide)) (hb.r 15 8 (by decide)) (hb.r 16 8 (by decide)) (hb.r 17 8 (by decide)) hz1 hn8 (fun i hi => (hc13 i hi).2) x y s) (fun r u _ => ?_)⟩
    rw [if_neg hc0]
    exact ⟨⟨ad, _, wi, dm, va_ge hb.1, upd_at⟩, fun q => absurd q hc0, INV_ref hI0 _⟩
  · have hp : r = sPh (F 13 x.toNatClampNeg) (F 14 x.toNatClampNeg) (F 15 x.toNatClampNeg) y s := hp
    have ho : (ws.set (g x.toNatClampNeg) (e x.toNatClampNeg, .inr (7, [.int (F 13 x.toNatClampNeg), .int (F 14 x.toNatClampNeg), .int (F 15 x.toNatClampNeg), .int y, .int s])))[36]? = some (oj, .inl (cJ, 1, .inr (.inl f))) := ho
    have hw0 : w = (ws.set (g x.toNatClampNeg) (e x.toNatClampNeg, .inr (7, [.int (F 13 x.toNatClampNeg), .int (F 14 x.toNatClampNeg), .int (F 15 x.toNatClampNeg), .int y, .int s]))).set 36 (oj, .inl (cJ, 1, .inr (.inl (vp_updL f (0 : Int32).toNatClampNeg r.toInt64)))) := hw0
    have hcc := hc0
    unfold cdSet at hcc
    obtain ⟨k0, hcc⟩ := cd1 (by decide) hcc
    obtain ⟨k1, hcc⟩ := cd1 (by decide) hcc
    obtain ⟨k2, hcc⟩ := cd1 (by decide) hcc
    have hc1 := hc1 hc0
    have hO2 := hO
    have hb1 := hb.k (by decide) hO hc1
    have hb2 := hb1.o (vp_updL f (0 : Int32).toNatClampNeg r.toInt64)
    rw [hw0, hk0]
    refine ⟨⟨_, hb2.1⟩, mopI (metX8_set (F := F) l G tys htI ((ws.set (g x.toNatClampNeg) (e x.toNatClampNeg, .inr (7, [.int (F 13 x.toNatClampNeg), .int (F 14 x.toNatClampNeg), .int (F 15 x.toNatClampNeg), .int y, .int s]))).set 36 (oj, .inl (cJ, 1, .inr (.inl (vp_updL f (0 : Int32).toNatClampNeg r.toInt64))))) hb2.1 (hb2.r 13 8 (by decide)) (hb2.r 14 8 (by decide)) (hb2.r 15 8 (by decide)) (hb2.r 16 8 (by decide)) (hb2.r 17 8 (by decide)) hz1 hn8 (fun i hi => (hc13 i hi).2) x y s) (fun r2 u2 hp2 => ?_)⟩
    rw [if_pos hc0]
    have hb3 := (((hb2).m (upd z 0 0) wi dm).a 16 8 (upd (F 16) x.toNatClampNeg y) (by decide)).a 17 8 (upd (F 17) x.toNatClampNeg s) (by decide)
    refine ⟨⟨ad, _, _, _, hb3.1, rfl⟩, fun _ => ⟨_, va_gs (by decide) (va_gs (by decide) (va_gs (by decide) (va_ge ho))), ?_⟩, INV_next hI0 1 (by decide) hc1 (((((chz.rf (own := own)).set (hO2 36 (by decide) (by decide))).set (hO2 12 (by decide) (by decide))).set (hO2 16 (by decide) (by decide))).set (hO2 17 (by decide) (by decide))) hb3 (((agb.rf.zz 0 0 (Or.inl rfl)).f 16 _ rfl).f 17 _ rfl) (Nat.le_refl _) (fun _ => rfl) ?_⟩
    · rw [updL_0]
      rw [hp2 hc0, hp]
    · have hx := (uK_ix k0).2
      refine ⟨n, q, e, g, (hL.set (by decide) hx _).1.vs (fun i hi => ?_), hn8, hz1, hc13, fun i hi => ?_⟩
      · show _ = ([.int (F 13 i), .int (F 14 i), .int (F 15 i), .int (upd (F 16) x.toNatClampNeg y i), .int (upd (F 17) x.toNatClampNeg s i)] : List Value)
        by_cases c : i = x.toNatClampNeg
        · rw [if_pos c, c, upd_at, upd_at]
        · rw [if_neg c, upd_ne c, upd_ne c]
      · show upd (F 16) x.toNatClampNeg y i = 0 ∧ upd (F 17) x.toNatClampNeg s i = 0
        rw [upd_ne (by omega), upd_ne (by omega)]
        exact h16 i hi
set_option maxHeartbeats 4000000 in
set_option maxRecDepth 100000 in
theorem sem_deep (l : Launch) (hnt : l.stackTraces = false) (G : va_G) (tys : List (ClassId × FieldType)) {A : Nat → Prop} {tE mi : Nat} {cI cO cJ cB : ClassId} (htI : tI tys cI) (htO : tO tys cO) (htJ : tys[2]? = some (cJ, .long)) (htB : tys[3]? = some (cB, .double)) {v am oj od : Nat} {ws : va_W} (h : INV cI cO cJ cB tE v am oj od ws) (x : Int32) : ∃ Mid : Int32 → va_W → Prop, Met l yL_deep wsL_deep { frames := 8, cells := 1, slots := 6, locals := 124 } (pcX G tys ws A tE mi [.ref v, .int x, .ref od]) (va_Qi (fun (r : Int32) (w : va_W) => Mid r w) (fun w t => va_P G vwCl w t.heap ∧ va_D A w) A) 1 6 A ∧ ∀ k w, Mid k w → (∃ vs, w[12]? = some (am, .inr (9, vs))) ∧ Met l yX8_deep wsX8_deep { frames := 1, cells := 0, slots := 0, locals := 22 } (pcM G tys w A [.ref am, .int x]) (va_Qd (fun (r : UInt64) (w2 : va_W) => EndD cB am od (INV cI cO cJ cB tE v am oj od) w2 r k) (fun w2 t => va_P G vwCl w2 t.heap ∧ va_D A w2) A) 0 0 A := by
  obtain ⟨own, ad, z, F, wi, dm, ⟨aS, af, aR, ao, ak, aP, aC⟩, np, hI⟩ := h
  have hI0 := hI
  obtain ⟨hb, hv, o0, hO, hg⟩ := hI
  have hv : ws[0]? = some (v, .inr (8, [.ref aS, .ref af, .ref aR, .ref ao, .ref ak, .ref aP, .ref aC])) := hv
  have o12 := hO 12 (by decide) (by decide)
  have o36 := hO 36 (by decide) (by decide)
  have o37 := hO 37 (by decide) (by decide)
  obtain ⟨n, q, e, g, hL, hn8, hz1, hc13, h16⟩ := hg 1 (by decide)
  refine ⟨_, metL_deep l G tys htB ws hv (metX7_deep l hnt G tys ws htO hv hL.1 (fun i hi => (hL.2.2.2.1 i hi).1) x (fun i hi => (hc13 i hi).1)) (fun _ _ _ _ => hb.2.2.2) (by unfold cdOne; (repeat' split) <;> decide) (by unfold cdOne; (repeat' split) <;> decide), ?_⟩
  intro k w hM
  rcases hM with ⟨hc0, hk0, hw0⟩ | ⟨hc0, hk0, r, u, f, hp, ho, hw0⟩
  · rw [hw0, hk0]
    refine ⟨⟨_, hb.1⟩, mopD (metX8_deep (F := F) l G tys htI (ws) hb.1 (hb.r 13 8 (by decide)) (hb.r 16 8 (by decide)) hz1 hn8 (fun i hi => (hc13 i hi).1) x) (fun r u _ => ?_)⟩
    rw [if_neg hc0]
    exact ⟨⟨ad, _, wi, dm, va_ge hb.1, upd_at⟩, fun q => absurd q hc0, INV_ref hI0 _⟩
  · have hp : r = sDeep (F 13 x.toNatClampNeg) (F 16 x.toNatClampNeg) := hp
    have ho : ws[37]? = some (od, .inl (cB, 1, .inr (.inr (.inr (.inl f))))) := ho
    have hw0 : w = ws.set 37 (od, .inl (cB, 1, .inr (.inr (.inr (.inl (vf_upd f (0 : Int32).toNatClampNeg r)))))) := hw0
    have hcc := hc0
    unfold cdOne at hcc
    obtain ⟨k0, hcc⟩ := cd1 (by decide) hcc
    have hb2 := hb.d (vf_upd f (0 : Int32).toNatClampNeg r)
    rw [hw0, hk0]
    refine ⟨⟨_, hb2.1⟩, mopD (metX8_deep (F := F) l G tys htI (ws.set 37 (od, .inl (cB, 1, .inr (.inr (.inr (.inl (vf_upd f (0 : Int32).toNatClampNeg r))))))) hb2.1 (hb2.r 13 8 (by decide)) (hb2.r 16 8 (by decide)) hz1 hn8 (fun i hi => (hc13 i hi).1) x) (fun r2 u2 hp2 => ?_)⟩
    rw [if_pos hc0]
    refine ⟨⟨ad, _, _, _, va_ge hb2.1, rfl⟩, fun _ => ⟨_, va_gs (by decide) (va_ge ho), ?_⟩, INV_rd hI0 hb2 (chz.rf.set o37)⟩
    rw [updD_0]
    rw [hp2 hc0, hp]
set_option maxHeartbeats 4000000 in
set_option maxRecDepth 100000 in
theorem sem_sample (l : Launch) (hnt : l.stackTraces = false) (G : va_G) (tys : List (ClassId × FieldType)) {A : Nat → Prop} {tE mi : Nat} {cI cO cJ cB : ClassId} (htI : tI tys cI) (htO : tO tys cO) (htJ : tys[2]? = some (cJ, .long)) (htB : tys[3]? = some (cB, .double)) {v am oj od : Nat} {ws : va_W} (h : INV cI cO cJ cB tE v am oj od ws) (x y s : Int32) : ∃ Mid : Int32 → va_W → Prop, Met l yL_sample wsL_sample { frames := 9, cells := 6, slots := 229, locals := 248 } (pcX G tys ws A tE mi [.ref v, .int x, .int y, .int s, .ref oj]) (va_Qi (fun (r : Int32) (w : va_W) => Mid r w) (fun w t => va_P G vwCl w t.heap ∧ va_D A w) A) 6 229 A ∧ ∀ k w, Mid k w → (∃ vs, w[12]? = some (am, .inr (9, vs))) ∧ Met l yX8_sample wsX8_sample { frames := 1, cells := 0, slots := 0, locals := 22 } (pcM G tys w A [.ref am, .int x, .int y, .int s]) (va_Qi (fun (r : Int32) (w2 : va_W) => EndI cJ am oj (INV cI cO cJ cB tE v am oj od) w2 r k) (fun w2 t => va_P G vwCl w2 t.heap ∧ va_D A w2) A) 0 0 A := by
  obtain ⟨own, ad, z, F, wi, dm, ⟨aS, af, aR, ao, ak, aP, aC⟩, np, hI⟩ := h
  have hI0 := hI
  obtain ⟨hb, hv, o0, hO, hg⟩ := hI
  have hv : ws[0]? = some (v, .inr (8, [.ref aS, .ref af, .ref aR, .ref ao, .ref ak, .ref aP, .ref aC])) := hv
  have o12 := hO 12 (by decide) (by decide)
  have o36 := hO 36 (by decide) (by decide)
  have o37 := hO 37 (by decide) (by decide)
  obtain ⟨n, q, e, g, hL, hn8, hz1, hc13, h16⟩ := hg 1 (by decide)
  have hadd : ∀ u : Nat × va_W, lsA (ws ++ ([(u.1, .inr (7, [.int x, .int y, .int s, .int 0, .int 0]))] : va_W)) tE cO 1 aS n e q u.1 u.2 → ∃ q2, pfL (fun k => if k < ws.length then own k else 1) u.2 tE cO 1 1 aS (n + 1) q2 (va_up e n u.1) (va_up g n ws.length) 7 (fun i => if i = n then [.int x, .int y, .int s, .int 0, .int 0] else [.int (F 13 i), .int (F 14 i), .int (F 15 i), .int (F 16 i), .int (F 17 i)]) ∧ chg own (fun k => if k < ws.length then own k else 1) 1 ws u.2 ∧ (∀ j x, (([] : va_W))[j]? = some x → (u.2)[ws.length + 1 + j]? = some x) ∧ ∀ (p b : Nat) (c : ClassId) (m : Nat) (f : Nat → Int32), ws[p]? = some (b, .inl (c, m, .inl f)) → (u.2)[p]? = some (b, .inl (c, m, .inl f)) := fun u hu => hL.add (by decide) hu
  refine ⟨_, metL_sample l G tys htJ ws hv (metX7_sample l hnt G tys ws htO hv hL.1 (fun i hi => (hL.2.2.2.1 i hi).1) x y s (by omega)) (fun hc0 r u hp => by obtain ⟨q2, hL2, hc1, hmo, hki⟩ := hadd u hp.2; exact (hb.k (by decide) hO hc1).2.2.1) (by unfold cdSample; (repeat' split) <;> decide), ?_⟩
  intro k w hM
  rcases hM with ⟨hc0, hk0, hw0⟩ | ⟨hc0, hk0, r, u, f, hp, ho, hw0⟩
  · rw [hw0, hk0]
    refine ⟨⟨_, hb.1⟩, mopI (metX8_sample (F := F) l G tys htI (ws) hb.1 (hb.r 13 8 (by decide)) (hb.r 14 8 (by decide)) (hb.r 15 8 (by decide)) hz1 hn8 x y s) (fun r u _ => ?_)⟩
    rw [if_neg hc0]
    exact ⟨⟨ad, _, wi, dm, va_ge hb.1, upd_at⟩, fun q => absurd q hc0, INV_ref hI0 _⟩
  · have hp : r = nI n ∧ lsA (ws ++ ([(u.1, .inr (7, [.int x, .int y, .int s, .int 0, .int 0]))] : va_W)) tE cO 1 aS n e q u.1 u.2 := hp
    have ho : (u.2)[36]? = some (oj, .inl (cJ, 1, .inr (.inl f))) := ho
    have hw0 : w = (u.2).set 36 (oj, .inl (cJ, 1, .inr (.inl (vp_updL f (0 : Int32).toNatClampNeg r.toInt64)))) := hw0
    have hcc := hc0
    unfold cdSample at hcc
    obtain ⟨k0, hcc⟩ := cd1 (by decide) hcc
    obtain ⟨k1, hcc⟩ := cd1 (by decide) hcc
    obtain ⟨k2, hcc⟩ := cd1 (by decide) hcc
    obtain ⟨k3, hcc⟩ := cd1 (by decide) hcc
    obtain ⟨q2, hL2, hc1, hmo, hki⟩ := hadd u hp.2
    have hO2 := hb.ow (by decide) hO hc1
    have hb1 := hb.k (by decide) hO hc1
    have hb2 := hb1.o (vp_updL f (0 : Int32).toNatClampNeg r.toInt64)
    rw [hw0, hk0]
    refine ⟨⟨_, hb2.1⟩, mopI (metX8_sample (F := F) l G tys htI ((u.2).set 36 (oj, .inl (cJ, 1, .inr (.inl (vp_updL f (0 : Int32).toNatClampNeg r.toInt64))))) hb2.1 (hb2.r 13 8 (by decide)) (hb2.r 14 8 (by decide)) (hb2.r 15 8 (by decide)) hz1 hn8 x y s) (fun r2 u2 hp2 => ?_)⟩
    rw [if_pos hc0]
    have hb3 := (((((hb2).m (upd z 0 0) wi dm).a 13 8 (upd (F 13) (z 1).toNatClampNeg x) (by decide)).a 14 8 (upd (F 14) (z 1).toNatClampNeg y) (by decide)).a 15 8 (upd (F 15) (z 1).toNatClampNeg s) (by decide)).m (upd (upd z 0 0) 1 (z 1 + 1)) wi dm
    refine ⟨⟨ad, _, _, _, hb3.1, rfl⟩, fun _ => ⟨_, va_gs (by decide) (va_gs (by decide) (va_gs (by decide) (va_gs (by decide) (va_gs (by decide) (va_ge ho))))), ?_⟩, INV_next hI0 1 (by decide) hc1 (((((((chz.rf (own := (fun k => if k < ws.length then own k else 1))).set (hO2 36 (by decide) (by decide))).set (hO2 12 (by decide) (by decide))).set (hO2 13 (by decide) (by decide))).set (hO2 14 (by decide) (by decide))).set (hO2 15 (by decide) (by decide))).set (hO2 12 (by decide) (by decide))) hb3 (((((agb.rf.zz 0 0 (Or.inl rfl)).f 13 _ rfl).f 14 _ rfl).f 15 _ rfl).zz 1 _ (Or.inr rfl)) (Nat.le_refl _) (fun _ => rfl) ?_⟩
    · rw [updL_0]
      rw [hp2 hc0, hp.1, hz1]
    · have hz1n : (z 1).toNatClampNeg = n := by rw [hz1]; exact nI_clamp (by omega)
      have h8 := n8 (k := 8) k3 (by omega) (by decide)
      refine ⟨n + 1, q2, _, _, hL2.vs (fun i hi => ?_), by omega, ?_, fun i hi => ?_, fun i hi => h16 i (by omega)⟩
      · show _ = ([.int (upd (F 13) (z 1).toNatClampNeg x i), .int (upd (F 14) (z 1).toNatClampNeg y i), .int (upd (F 15) (z 1).toNatClampNeg s i), .int (F 16 i), .int (F 17 i)] : List Value)
        rw [hz1n]
        by_cases c : i = n
        · rw [if_pos c, c, upd_at, upd_at, upd_at, (h16 n (Nat.le_refl _)).1, (h16 n (Nat.le_refl _)).2]
        · rw [if_neg c, upd_ne c, upd_ne c, upd_ne c]
      · show z 1 + 1 = nI (n + 1)
        rw [hz1]
        exact nI_1 n
      · show ¬ upd (F 13) (z 1).toNatClampNeg x i = 0 ∧ ¬ upd (F 13) (z 1).toNatClampNeg x i * upd (F 13) (z 1).toNatClampNeg x i = 0
        rw [hz1n]
        by_cases c : i = n
        · rw [c, upd_at]; exact c13 k0
        · rw [upd_ne c]; exact hc13 i (by omega)
