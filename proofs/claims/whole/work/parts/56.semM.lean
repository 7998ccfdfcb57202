theorem pfL.keep {own : Nat → Nat} {ws : va_W} {tE : Nat} {cI cO : ClassId} {id pl al n q ci p b m : Nat} {e g : Nat → Nat} {vs : Nat → List Value} {f : Nat → Int32} {x : Nat × va_E} (h : pfL own ws tE cO id pl al n q e g ci vs) (hp : ws[p]? = some (b, .inl (cI, m, .inl f))) : pfL own (ws.set p x) tE cO id pl al n q e g ci vs := by
  obtain ⟨hL, o1, o2, hg, hi⟩ := h
  refine ⟨?_, o1, o2, fun i h9 => ⟨va_gs (ne_lr hp (hg i h9).1).symm (hg i h9).1, (hg i h9).2⟩, hi⟩
  obtain ⟨mo, ⟨h0, hc⟩ | ⟨h0, ae, k, a, hc, he, hr⟩⟩ := hL
  · exact ⟨mo, Or.inl ⟨h0, va_gs (ne_lr hp hc).symm hc⟩⟩
  · refine ⟨mo, Or.inr ⟨h0, ae, k, a, va_gs (ne_lr hp hc).symm hc, va_gs (fun c => ?_) he, hr⟩⟩
    rw [c, hp] at he
    cases he
set_option maxHeartbeats 4000000 in
set_option maxRecDepth 100000 in
theorem sem_repeats (l : Launch) (hnt : l.stackTraces = false) (G : va_G) (tys : List (ClassId × FieldType)) {A : Nat → Prop} {tE mi : Nat} {cI cO cJ cB : ClassId} (htI : tI tys cI) (htO : tO tys cO) (htJ : tys[2]? = some (cJ, .long)) (htB : tys[3]? = some (cB, .double)) {v am oj od : Nat} {ws : va_W} (h : INV cI cO cJ cB tE v am oj od ws) (x y s : Int32) : ∃ Mid : Int32 → va_W → Prop, Met l yL_repeats wsL_repeats { frames := 8, cells := 2, slots := 12, locals := 127 } (pcX G tys ws A tE mi [.ref v, .int x, .int y, .int s, .ref oj]) (va_Qi (fun (r : Int32) (w : va_W) => Mid r w) (fun w t => va_P G vwCl w t.heap ∧ va_D A w) A) 2 12 A ∧ ∀ k w, Mid k w → (∃ vs, w[12]? = some (am, .inr (9, vs))) ∧ Met l yX8_repeats wsX8_repeats { frames := 1, cells := 0, slots := 0, locals := 24 } (pcM G tys w A [.ref am, .int x, .int y, .int s]) (va_Qi (fun (r : Int32) (w2 : va_W) => EndI cJ am oj (INV cI cO cJ cB tE v am oj od) w2 r k) (fun w2 t => va_P G vwCl w2 t.heap ∧ va_D A w2) A) 0 0 A := by
  obtain ⟨own, ad, z, F, wi, dm, ⟨aS, af, aR, ao, ak, aP, aC⟩, np, hI⟩ := h
  have hI0 := hI
  obtain ⟨hb, hv, o0, hO, hg⟩ := hI
  have hv : ws[0]? = some (v, .inr (8, [.ref aS, .ref af, .ref aR, .ref ao, .ref ak, .ref aP, .ref aC])) := hv
  have o12 := hO 12 (by decide) (by decide)
  have o36 := hO 36 (by decide) (by decide)
  have o37 := hO 37 (by decide) (by decide)
  obtain ⟨q6, e6, g6, hL6, hn60, hz29⟩ := hg 6 (by decide)
  obtain ⟨n, q, e, g, gW, aW, wd, hL, hW, hWi, hwd, h35, hn8, hz33, hcl⟩ := hg 7 (by decide)
  have hc1 : cdRepeats x y (nI n) = 0 → chg own own 7 ws (ws.set (gW x.toNatClampNeg) (aW x.toNatClampNeg, .inl (cI, 7, .inl (upd (wd x.toNatClampNeg) y.toNatClampNeg (if s = 0 then 2 else 1))))) := fun hc0 => by
    exact chg.rf.set (hW _ (uKn hc0 (by decide))).2
  refine ⟨_, metL_repeats l G tys htJ ws hv (metX7_repeats l hnt G tys htI ws htO hv hL6.1 (fun i hi => (hL6.2.2.2.1 i hi).1) hL.1 (fun i hi => (hL.2.2.2.1 i hi).1) (fun i hi => (hW i hi).1) x y s) (fun hc0 r u hp => (hb.k (by decide) hO (hc1 hc0)).2.2.1) (by unfold cdRepeats; (repeat' split) <;> decide) (by unfold cdRepeats; (repeat' split) <;> decide), ?_⟩
  intro k w hM
  rcases hM with ⟨hc0, hk0, hw0⟩ | ⟨hc0, hk0, r, u, f, hp, ho, hw0⟩
  · rw [hw0, hk0]
    refine ⟨⟨_, hb.1⟩, mopI (metX8_repeats (F := F) l G tys htI (ws) hb.1 (hb.r 35 56 (by decide)) hz33 hn8 x y s) (fun r u _ => ?_)⟩
    rw [if_neg hc0]
    exact ⟨⟨ad, _, wi, dm, va_ge hb.1, upd_at⟩, fun q => absurd q hc0, INV_ref hI0 _⟩
  · have hp : r = hCnt (upd (wd x.toNatClampNeg) y.toNatClampNeg (if s = 0 then 2 else 1)) 1 7 := hp
    have ho : (ws.set (gW x.toNatClampNeg) (aW x.toNatClampNeg, .inl (cI, 7, .inl (upd (wd x.toNatClampNeg) y.toNatClampNeg (if s = 0 then 2 else 1)))))[36]? = some (oj, .inl (cJ, 1, .inr (.inl f))) := ho
    have hw0 : w = (ws.set (gW x.toNatClampNeg) (aW x.toNatClampNeg, .inl (cI, 7, .inl (upd (wd x.toNatClampNeg) y.toNatClampNeg (if s = 0 then 2 else 1))))).set 36 (oj, .inl (cJ, 1, .inr (.inl (vp_updL f (0 : Int32).toNatClampNeg r.toInt64)))) := hw0
    have hcc := hc0
    unfold cdRepeats at hcc
    obtain ⟨k0, hcc⟩ := cd1 (by decide) hcc
    obtain ⟨k1, hcc⟩ := cd1 (by decide) hcc
    have hx := (uK_ix k0).2
    have hy := (uK_ix (n := 7) k1).2
    have hwk : ∀ h, h < 7 → upd (wd x.toNatClampNeg) y.toNatClampNeg (if s = 0 then 2 else 1) h = upd (F 35) (7 * x.toNatClampNeg + y.toNatClampNeg) (if s = 0 then 2 else 1) (7 * x.toNatClampNeg + h) := by
      intro h h7
      by_cases c : h = y.toNatClampNeg
      · rw [c, upd_at, upd_at]
      · rw [upd_ne c, upd_ne (by omega)]; exact hwd _ hx h h7
    have hc1 := hc1 hc0
    have hO2 := hO
    have hb1 := hb.k (by decide) hO hc1
    have hb2 := hb1.o (vp_updL f (0 : Int32).toNatClampNeg r.toInt64)
    rw [hw0, hk0]
    refine ⟨⟨_, hb2.1⟩, mopI (metX8_repeats (F := F) l G tys htI ((ws.set (gW x.toNatClampNeg) (aW x.toNatClampNeg, .inl (cI, 7, .inl (upd (wd x.toNatClampNeg) y.toNatClampNeg (if s = 0 then 2 else 1))))).set 36 (oj, .inl (cJ, 1, .inr (.inl (vp_updL f (0 : Int32).toNatClampNeg r.toInt64))))) hb2.1 (hb2.r 35 56 (by decide)) hz33 hn8 x y s) (fun r2 u2 hp2 => ?_)⟩
    rw [if_pos hc0]
    have hb3 := ((hb2).m (upd z 0 0) wi dm).a 35 56 (upd (F 35) (7 * x.toNatClampNeg + y.toNatClampNeg) (if s = 0 then 2 else 1)) (by decide)
    refine ⟨⟨ad, _, _, _, hb3.1, rfl⟩, fun _ => ⟨_, va_gs (by decide) (va_gs (by decide) (va_ge ho)), ?_⟩, INV_next hI0 7 (by decide) hc1 ((((chz.rf (own := own)).set (hO2 36 (by decide) (by decide))).set (hO2 12 (by decide) (by decide))).set (hO2 35 (by decide) (by decide))) hb3 ((agb.rf.zz 0 0 (Or.inl rfl)).f 35 _ rfl) (Nat.le_refl _) (fun _ => rfl) ?_⟩
    · rw [updL_0]
      rw [hp2 hc0, hp, hCnt_eq 7 hwk]
    · refine ⟨n, q, e, g, gW, aW, fun i => if i = x.toNatClampNeg then upd (wd x.toNatClampNeg) y.toNatClampNeg (if s = 0 then 2 else 1) else wd i, hL.keep (hW _ hx).1, fun i hi => ⟨?_, (hW i hi).2⟩, hWi, fun i hi h h7 => ?_, fun j hj => ?_, hn8, hz33, hcl⟩
      · dsimp only
        by_cases c : i = x.toNatClampNeg
        · rw [if_pos c, c]; exact va_ge (hW _ hx).1
        · rw [if_neg c]; exact va_gs (fun c2 => c (hWi i _ hi hx c2)) (hW i hi).1
      · show _ = upd (F 35) (7 * x.toNatClampNeg + y.toNatClampNeg) (if s = 0 then 2 else 1) (7 * i + h)
        dsimp only
        by_cases c : i = x.toNatClampNeg
        · rw [if_pos c, c]; exact hwk h h7
        · rw [if_neg c, upd_ne (by omega)]; exact hwd i hi h h7
      · show upd (F 35) (7 * x.toNatClampNeg + y.toNatClampNeg) (if s = 0 then 2 else 1) j = 0
        rw [upd_ne (by omega)]
        exact h35 j hj
set_option maxHeartbeats 4000000 in
set_option maxRecDepth 100000 in
theorem sem_judge (l : Launch) (hnt : l.stackTraces = false) (G : va_G) (tys : List (ClassId × FieldType)) {A : Nat → Prop} {tE mi : Nat} {cI cO cJ cB : ClassId} (htI : tI tys cI) (htO : tO tys cO) (htJ : tys[2]? = some (cJ, .long)) (htB : tys[3]? = some (cB, .double)) {v am oj od : Nat} {ws : va_W} (h : INV cI cO cJ cB tE v am oj od ws) (x y : Int32) : ∃ Mid : Int32 → va_W → Prop, Met l yL_judge wsL_judge { frames := 8, cells := 2, slots := 12, locals := 136 } (pcX G tys ws A tE mi [.ref v, .int x, .int y, .ref oj]) (va_Qi (fun (r : Int32) (w : va_W) => Mid r w) (fun w t => va_P G vwCl w t.heap ∧ va_D A w) A) 2 12 A ∧ ∀ k w, Mid k w → (∃ vs, w[12]? = some (am, .inr (9, vs))) ∧ Met l yX8_judge wsX8_judge { frames := 2, cells := 0, slots := 0, locals := 49 } (pcM G tys w A [.ref am, .int x, .int y]) (va_Qi (fun (r : Int32) (w2 : va_W) => EndI cJ am oj (INV cI cO cJ cB tE v am oj od) w2 r k) (fun w2 t => va_P G vwCl w2 t.heap ∧ va_D A w2) A) 0 0 A := by
  obtain ⟨own, ad, z, F, wi, dm, ⟨aS, af, aR, ao, ak, aP, aC⟩, np, hI⟩ := h
  have hI0 := hI
  obtain ⟨hb, hv, o0, hO, hg⟩ := hI
  have hv : ws[0]? = some (v, .inr (8, [.ref aS, .ref af, .ref aR, .ref ao, .ref ak, .ref aP, .ref aC])) := hv
  have o12 := hO 12 (by decide) (by decide)
  have o36 := hO 36 (by decide) (by decide)
  have o37 := hO 37 (by decide) (by decide)
  obtain ⟨q6, e6, g6, hL6, hn60, hz29⟩ := hg 6 (by decide)
  obtain ⟨n, q, e, g, gW, aW, wd, hL, hW, hWi, hwd, h35, hn8, hz33, hcl⟩ := hg 7 (by decide)
  refine ⟨_, metL_judge l G tys htJ ws hv (metX7_judge l hnt G tys htI ws htO hv hL6.1 (fun i hi => (hL6.2.2.2.1 i hi).1) hL.1 (fun i hi => (hL.2.2.2.1 i hi).1) (fun i hi => (hW i hi).1) hn60 hcl x y) (fun _ _ _ _ => hb.2.2.1) (by unfold cdJudge; (repeat' split) <;> decide), ?_⟩
  intro k w hM
  rcases hM with ⟨hc0, hk0, hw0⟩ | ⟨hc0, hk0, r, u, f, hp, ho, hw0⟩
  · rw [hw0, hk0]
    refine ⟨⟨_, hb.1⟩, mopI (metX8_judge (F := F) l G tys htI (ws) hb.1 (hb.r 28 60 (by decide)) (hb.r 29 60 (by decide)) (hb.r 30 60 (by decide)) (hb.r 31 8 (by decide)) (hb.r 32 8 (by decide)) (hb.r 33 8 (by decide)) (hb.r 34 8 (by decide)) (hb.r 35 56 (by decide)) hz33 hn8 (fun i hi => by obtain ⟨a, b, h1, h2, h3, h4⟩ := hcl i hi; exact ⟨a, b, h1, h2, h3, by omega⟩) x y) (fun r u _ => ?_)⟩
    rw [if_neg hc0]
    exact ⟨⟨ad, _, wi, dm, va_ge hb.1, upd_at⟩, fun q => absurd q hc0, INV_ref hI0 _⟩
  · have hp : r = jVer (jOpen (F 28) (F 29) (F 30) y (F 31 x.toNatClampNeg) (F 32 x.toNatClampNeg).toNatClampNeg ((F 33 x.toNatClampNeg).toNatClampNeg + 1 - (F 32 x.toNatClampNeg).toNatClampNeg)) (F 32 x.toNatClampNeg) (F 33 x.toNatClampNeg) (F 34 x.toNatClampNeg) (wd x.toNatClampNeg) := hp
    have ho : ws[36]? = some (oj, .inl (cJ, 1, .inr (.inl f))) := ho
    have hw0 : w = ws.set 36 (oj, .inl (cJ, 1, .inr (.inl (vp_updL f (0 : Int32).toNatClampNeg r.toInt64)))) := hw0
    have hcc := hc0
    unfold cdJudge at hcc
    obtain ⟨k0, hcc⟩ := cd1 (by decide) hcc
    obtain ⟨k1, hcc⟩ := cd1 (by decide) hcc
    have hx := (uK_ix k0).2
    have hfr : (F 32 x.toNatClampNeg).toNatClampNeg + ((F 33 x.toNatClampNeg).toNatClampNeg + 1 - (F 32 x.toNatClampNeg).toNatClampNeg) ≤ np := by
      obtain ⟨a, b, h1, h2, h3, h4⟩ := hcl _ hx
      rw [h1, h2, nI_clamp (by omega), nI_clamp (by omega)]
      omega
    have hb2 := hb.o (vp_updL f (0 : Int32).toNatClampNeg r.toInt64)
    rw [hw0, hk0]
    refine ⟨⟨_, hb2.1⟩, mopI (metX8_judge (F := F) l G tys htI (ws.set 36 (oj, .inl (cJ, 1, .inr (.inl (vp_updL f (0 : Int32).toNatClampNeg r.toInt64))))) hb2.1 (hb2.r 28 60 (by decide)) (hb2.r 29 60 (by decide)) (hb2.r 30 60 (by decide)) (hb2.r 31 8 (by decide)) (hb2.r 32 8 (by decide)) (hb2.r 33 8 (by decide)) (hb2.r 34 8 (by decide)) (hb2.r 35 56 (by decide)) hz33 hn8 (fun i hi => by obtain ⟨a, b, h1, h2, h3, h4⟩ := hcl i hi; exact ⟨a, b, h1, h2, h3, by omega⟩) x y) (fun r2 u2 hp2 => ?_)⟩
    rw [if_pos hc0]
    refine ⟨⟨ad, _, _, _, va_ge hb2.1, rfl⟩, fun _ => ⟨_, va_gs (by decide) (va_ge ho), ?_⟩, INV_rd hI0 hb2 (chz.rf.set o36)⟩
    rw [updL_0]
    rw [hp2 hc0, hp, jVer_eq, hCnt_eq 7 (fun k hk => hwd _ hx k hk), hCnt_eq 7 (fun k hk => hwd _ hx k hk), jkOpen_eq (np := np) (x := x) (fun _ _ => rfl) (fun _ _ => rfl) (fun _ _ => rfl) rfl hn60 hfr]
set_option maxHeartbeats 4000000 in
set_option maxRecDepth 100000 in
theorem sem_claim (l : Launch) (hnt : l.stackTraces = false) (G : va_G) (tys : List (ClassId × FieldType)) {A : Nat → Prop} {tE mi : Nat} {cI cO cJ cB : ClassId} (htI : tI tys cI) (htO : tO tys cO) (htJ : tys[2]? = some (cJ, .long)) (htB : tys[3]? = some (cB, .double)) {v am oj od : Nat} {ws : va_W} (h : INV cI cO cJ cB tE v am oj od ws) (x y s : Int32) : ∃ Mid : Int32 → va_W → Prop, Met l yL_claim wsL_claim { frames := 9, cells := 8, slots := 242, locals := 248 } (pcX G tys ws A tE mi [.ref v, .int x, .int y, .int s, .ref oj]) (va_Qi (fun (r : Int32) (w : va_W) => Mid r w) (fun w t => va_P G vwCl w t.heap ∧ va_D A w) A) 8 242 A ∧ ∀ k w, Mid k w → (∃ vs, w[12]? = some (am, .inr (9, vs))) ∧ Met l yX8_claim wsX8_claim { frames := 1, cells := 0, slots := 0, locals := 22 } (pcM G tys w A [.ref am, .int x, .int y, .int s]) (va_Qi (fun (r : Int32) (w2 : va_W) => EndI cJ am oj (INV cI cO cJ cB tE v am oj od) w2 r k) (fun w2 t => va_P G vwCl w2 t.heap ∧ va_D A w2) A) 0 0 A := by
  obtain ⟨own, ad, z, F, wi, dm, ⟨aS, af, aR, ao, ak, aP, aC⟩, np, hI⟩ := h
  have hI0 := hI
  obtain ⟨hb, hv, o0, hO, hg⟩ := hI
  have hv : ws[0]? = some (v, .inr (8, [.ref aS, .ref af, .ref aR, .ref ao, .ref ak, .ref aP, .ref aC])) := hv
  have o12 := hO 12 (by decide) (by decide)
  have o36 := hO 36 (by decide) (by decide)
  have o37 := hO 37 (by decide) (by decide)
  obtain ⟨q6, e6, g6, hL6, hn60, hz29⟩ := hg 6 (by decide)
  obtain ⟨n, q, e, g, gW, aW, wd, hL, hW, hWi, hwd, h35, hn8, hz33, hcl⟩ := hg 7 (by decide)
  have hadd : ∀ u : Nat × Nat × va_W, lsA (ws ++ ([(u.1, .inr (1, [.int x, .int y, .int s, .int (nI np), .ref u.2.1])), (u.2.1, .inl (cI, 7, .inl (fun _ => 0)))] : va_W)) tE cO 11 aC n e q u.1 u.2.2 → ∃ q2, pfL (fun k => if k < ws.length then own k else 7) u.2.2 tE cO 7 11 aC (n + 1) q2 (va_up e n u.1) (va_up g n ws.length) 1 (fun i => if i = n then [.int x, .int y, .int s, .int (nI np), .ref u.2.1] else [.int (F 31 i), .int (F 32 i), .int (F 33 i), .int (F 34 i), .ref (aW i)]) ∧ chg own (fun k => if k < ws.length then own k else 7) 7 ws u.2.2 ∧ (∀ j x, (([(u.2.1, .inl (cI, 7, .inl (fun _ => 0)))] : va_W))[j]? = some x → (u.2.2)[ws.length + 1 + j]? = some x) ∧ ∀ (p b : Nat) (c : ClassId) (m : Nat) (f : Nat → Int32), ws[p]? = some (b, .inl (c, m, .inl f)) → (u.2.2)[p]? = some (b, .inl (c, m, .inl f)) := fun u hu => hL.add (by decide) hu
  refine ⟨_, metL_claim l G tys htJ ws hv (metX7_claim l hnt G tys htI ws htO hv hL6.1 (fun i hi => (hL6.2.2.2.1 i hi).1) hL.1 (fun i hi => (hL.2.2.2.1 i hi).1) (fun i hi => (hW i hi).1) x y s (by omega)) (fun hc0 r u hp => by obtain ⟨q2, hL2, hc1, hmo, hki⟩ := hadd u hp.2; exact (hb.k (by decide) hO hc1).2.2.1) , ?_⟩
  intro k w hM
  rcases hM with ⟨hc0, hk0, hw0⟩ | ⟨hc0, hk0, r, u, f, hp, ho, hw0⟩
  · rw [hw0, hk0]
    refine ⟨⟨_, hb.1⟩, mopI (metX8_claim (F := F) l G tys htI (ws) hb.1 (hb.r 31 8 (by decide)) (hb.r 32 8 (by decide)) (hb.r 33 8 (by decide)) (hb.r 34 8 (by decide)) hz29 hn60 hz33 hn8 x y s) (fun r u _ => ?_)⟩
    rw [if_neg hc0]
    exact ⟨⟨ad, _, wi, dm, va_ge hb.1, upd_at⟩, fun q => absurd q hc0, INV_ref hI0 _⟩
  · have hp : r = nI n ∧ lsA (ws ++ ([(u.1, .inr (1, [.int x, .int y, .int s, .int (nI np), .ref u.2.1])), (u.2.1, .inl (cI, 7, .inl (fun _ => 0)))] : va_W)) tE cO 11 aC n e q u.1 u.2.2 := hp
    have ho : (u.2.2)[36]? = some (oj, .inl (cJ, 1, .inr (.inl f))) := ho
    have hw0 : w = (u.2.2).set 36 (oj, .inl (cJ, 1, .inr (.inl (vp_updL f (0 : Int32).toNatClampNeg r.toInt64)))) := hw0
    have hcc := hc0
    unfold cdClaim at hcc
    obtain ⟨k0, hcc⟩ := cd1 (by decide) hcc
    obtain ⟨k1, hcc⟩ := cd1 (by decide) hcc
    obtain ⟨k2, hcc⟩ := cd1 (by decide) hcc
    obtain ⟨k3, hcc⟩ := cd1 (by decide) hcc
    obtain ⟨k4, hcc⟩ := cd1 (by decide) hcc
    obtain ⟨q2, hL2, hc1, hmo, hki⟩ := hadd u hp.2
    have hO2 := hb.ow (by decide) hO hc1
    have hb1 := hb.k (by decide) hO hc1
    have hb2 := hb1.o (vp_updL f (0 : Int32).toNatClampNeg r.toInt64)
    rw [hw0, hk0]
    refine ⟨⟨_, hb2.1⟩, mopI (metX8_claim (F := F) l G tys htI ((u.2.2).set 36 (oj, .inl (cJ, 1, .inr (.inl (vp_updL f (0 : Int32).toNatClampNeg r.toInt64))))) hb2.1 (hb2.r 31 8 (by decide)) (hb2.r 32 8 (by decide)) (hb2.r 33 8 (by decide)) (hb2.r 34 8 (by decide)) hz29 hn60 hz33 hn8 x y s) (fun r2 u2 hp2 => ?_)⟩
    rw [if_pos hc0]
    have hb3 := ((((((hb2).m (upd z 0 0) wi dm).a 31 8 (upd (F 31) (z 33).toNatClampNeg x) (by decide)).a 32 8 (upd (F 32) (z 33).toNatClampNeg y) (by decide)).a 33 8 (upd (F 33) (z 33).toNatClampNeg s) (by decide)).a 34 8 (upd (F 34) (z 33).toNatClampNeg (z 29)) (by decide)).m (upd (upd z 0 0) 33 (z 33 + 1)) wi dm
    refine ⟨⟨ad, _, _, _, hb3.1, rfl⟩, fun _ => ⟨_, va_gs (by decide) (va_gs (by decide) (va_gs (by decide) (va_gs (by decide) (va_gs (by decide) (va_gs (by decide) (va_ge ho)))))), ?_⟩, INV_next hI0 7 (by decide) hc1 ((((((((chz.rf (own := (fun k => if k < ws.length then own k else 7))).set (hO2 36 (by decide) (by decide))).set (hO2 12 (by decide) (by decide))).set (hO2 31 (by decide) (by decide))).set (hO2 32 (by decide) (by decide))).set (hO2 33 (by decide) (by decide))).set (hO2 34 (by decide) (by decide))).set (hO2 12 (by decide) (by decide))) hb3 ((((((agb.rf.zz 0 0 (Or.inl rfl)).f 31 _ rfl).f 32 _ rfl).f 33 _ rfl).f 34 _ rfl).zz 33 _ (Or.inr rfl)) (Nat.le_refl _) (fun _ => rfl) ?_⟩
    · rw [updL_0]
      rw [hp2 hc0, hp.1, hz33]
    · have hz1n : (z 33).toNatClampNeg = n := by rw [hz33]; exact nI_clamp (by omega)
      have h8 := n8 (k := 8) k4 (by omega) (by decide)
      refine ⟨n + 1, q2, _, _, va_up gW n (ws.length + 1), va_up aW n u.2.1, va_up wd n (fun _ => 0), hL2.vs (fun i hi => ?_), fun i hi => ?_, fun i j hi hj c => ?_, fun i hi h h7 => ?_, fun j hj => h35 j (by omega), by omega, ?_, fun i hi => ?_⟩
      · show _ = ([.int (upd (F 31) (z 33).toNatClampNeg x i), .int (upd (F 32) (z 33).toNatClampNeg y i), .int (upd (F 33) (z 33).toNatClampNeg s i), .int (upd (F 34) (z 33).toNatClampNeg (z 29) i), .ref (va_up aW n u.2.1 i)] : List Value)
        rw [hz1n, hz29]
        by_cases c : i = n
        · rw [if_pos c, c, upd_at, upd_at, upd_at, upd_at, va_up_self]
        · rw [if_neg c, upd_ne c, upd_ne c, upd_ne c, upd_ne c, va_up_ne _ _ c]
      · by_cases c : i = n
        · rw [c, va_up_self, va_up_self, va_up_self]
          exact ⟨hmo 0 _ rfl, if_neg (by omega)⟩
        · rw [va_up_ne _ _ c, va_up_ne _ _ c, va_up_ne _ _ c]
          have hwi := hW i (by omega)
          exact ⟨hki _ _ _ _ _ hwi.1, by dsimp only; rw [if_pos (pl_lt hwi.1)]; exact hwi.2⟩
      · by_cases c1 : i = n
        · by_cases c2 : j = n
          · omega
          · rw [c1, va_up_self, va_up_ne _ _ c2] at c
            have := pl_lt (hW j (by omega)).1
            omega
        · by_cases c2 : j = n
          · rw [c2, va_up_self, va_up_ne _ _ c1] at c
            have := pl_lt (hW i (by omega)).1
            omega
          · rw [va_up_ne _ _ c1, va_up_ne _ _ c2] at c
            exact hWi i j (by omega) (by omega) c
      · show va_up wd n (fun _ => 0) i h = F 35 (7 * i + h)
        by_cases c : i = n
        · rw [c, va_up_self]; exact (h35 _ (by omega)).symm
        · rw [va_up_ne _ _ c]; exact hwd i (by omega) h h7
      · show z 33 + 1 = nI (n + 1)
        rw [hz33]
        exact nI_1 n
      · show ∃ a b : Nat, upd (F 32) (z 33).toNatClampNeg y i = nI a ∧ upd (F 33) (z 33).toNatClampNeg s i = nI b ∧ a ≤ b ∧ b < np
        rw [hz1n]
        by_cases c : i = n
        · rw [c, upd_at, upd_at]
          obtain ⟨y1, y2⟩ := uK_ix k0
          obtain ⟨s1, s2⟩ := uK_ix k1
          refine ⟨_, _, y1, s1, Nat.le_of_not_lt (fun c2 => k3 (Or.inl ?_)), s2⟩
          rw [y1, s1]
          exact Int32.lt_of_le_of_ne (nI_le (Nat.le_of_lt c2) (by omega)) (fun c3 => by have := congrArg Int32.toNatClampNeg c3; rw [nI_clamp (by omega), nI_clamp (by omega)] at this; omega)
        · rw [upd_ne c, upd_ne c]; exact hcl i (by omega)
