set_option maxHeartbeats 4000000 in
set_option maxRecDepth 100000 in
theorem sem_point (l : Launch) (hnt : l.stackTraces = false) (G : va_G) (tys : List (ClassId × FieldType)) {A : Nat → Prop} {tE mi : Nat} {cI cO cJ cB : ClassId} (htI : tI tys cI) (htO : tO tys cO) (htJ : tys[2]? = some (cJ, .long)) (htB : tys[3]? = some (cB, .double)) {v am oj od : Nat} {ws : va_W} (h : INV cI cO cJ cB tE v am oj od ws) (x y s : Int32) : ∃ Mid : Int32 → va_W → Prop, Met l yL_point wsL_point { frames := 9, cells := 6, slots := 227, locals := 248 } (pcX G tys ws A tE mi [.ref v, .int x, .int y, .int s, .ref oj]) (va_Qi (fun (r : Int32) (w : va_W) => Mid r w) (fun w t => va_P G vwCl w t.heap ∧ va_D A w) A) 6 227 A ∧ ∀ k w, Mid k w → (∃ vs, w[12]? = some (am, .inr (9, vs))) ∧ Met l yX8_point wsX8_point { frames := 1, cells := 0, slots := 0, locals := 22 } (pcM G tys w A [.ref am, .int x, .int y, .int s]) (va_Qi (fun (r : Int32) (w2 : va_W) => EndI cJ am oj (INV cI cO cJ cB tE v am oj od) w2 r k) (fun w2 t => va_P G vwCl w2 t.heap ∧ va_D A w2) A) 0 0 A := by
  obtain ⟨own, ad, z, F, wi, dm, ⟨aS, af, aR, ao, ak, aP, aC⟩, np, hI⟩ := h
  have hI0 := hI
  obtain ⟨hb, hv, o0, hO, hg⟩ := hI
  have hv : ws[0]? = some (v, .inr (8, [.ref aS, .ref af, .ref aR, .ref ao, .ref ak, .ref aP, .ref aC])) := hv
  have o12 := hO 12 (by decide) (by decide)
  have o36 := hO 36 (by decide) (by decide)
  have o37 := hO 37 (by decide) (by decide)
  obtain ⟨q, e, g, hL, hn60, hz29⟩ := hg 6 (by decide)
  obtain ⟨n, hnp⟩ : ∃ n, n = np := ⟨_, rfl⟩
  rw [← hnp] at hL hn60 hz29
  have hadd : ∀ u : Nat × va_W, lsA (ws ++ ([(u.1, .inr (5, [.int x, .int y, .int s]))] : va_W)) tE cO 10 aP n e q u.1 u.2 → ∃ q2, pfL (fun k => if k < ws.length then own k else 6) u.2 tE cO 6 10 aP (n + 1) q2 (va_up e n u.1) (va_up g n ws.length) 5 (fun i => if i = n then [.int x, .int y, .int s] else [.int (F 28 i), .int (F 29 i), .int (F 30 i)]) ∧ chg own (fun k => if k < ws.length then own k else 6) 6 ws u.2 ∧ (∀ j x, (([] : va_W))[j]? = some x → (u.2)[ws.length + 1 + j]? = some x) ∧ ∀ (p b : Nat) (c : ClassId) (m : Nat) (f : Nat → Int32), ws[p]? = some (b, .inl (c, m, .inl f)) → (u.2)[p]? = some (b, .inl (c, m, .inl f)) := fun u hu => hL.add (by decide) hu
  refine ⟨_, metL_point l G tys htJ ws hv (metX7_point l hnt G tys ws htO hv hL.1 (fun i hi => (hL.2.2.2.1 i hi).1) x y s hn60) (fun hc0 r u hp => by obtain ⟨q2, hL2, hc1, hmo, hki⟩ := hadd u hp.2; exact (hb.k (by decide) hO hc1).2.2.1) (by unfold cdPoint; (repeat' split) <;> decide), ?_⟩
  intro k w hM
  rcases hM with ⟨hc0, hk0, hw0⟩ | ⟨hc0, hk0, r, u, f, hp, ho, hw0⟩
  · rw [hw0, hk0]
    refine ⟨⟨_, hb.1⟩, mopI (metX8_point (F := F) l G tys htI (ws) hb.1 (hb.r 28 60 (by decide)) (hb.r 29 60 (by decide)) (hb.r 30 60 (by decide)) hz29 hn60 x y s) (fun r u _ => ?_)⟩
    rw [if_neg hc0]
    exact ⟨⟨ad, _, wi, dm, va_ge hb.1, upd_at⟩, fun q => absurd q hc0, INV_ref hI0 _⟩
  · have hp : r = nI (n + 1) ∧ lsA (ws ++ ([(u.1, .inr (5, [.int x, .int y, .int s]))] : va_W)) tE cO 10 aP n e q u.1 u.2 := hp
    have ho : (u.2)[36]? = some (oj, .inl (cJ, 1, .inr (.inl f))) := ho
    have hw0 : w = (u.2).set 36 (oj, .inl (cJ, 1, .inr (.inl (vp_updL f (0 : Int32).toNatClampNeg r.toInt64)))) := hw0
    have hcc := hc0
    unfold cdPoint at hcc
    obtain ⟨k0, hcc⟩ := cd1 (by decide) hcc
    obtain ⟨k1, hcc⟩ := cd1 (by decide) hcc
    obtain ⟨k2, hcc⟩ := cd1 (by decide) hcc
    obtain ⟨k3, hcc⟩ := cd1 (by decide) hcc
    obtain ⟨q2, hL2, hc1, hmo, hki⟩ := hadd u hp.2
    have hO2 := hb.ow (by decide) hO hc1
    have hb1 := hb.k (by decide) hO hc1
    have hb2 := hb1.o (vp_updL f (0 : Int32).toNatClampNeg r.toInt64)
    rw [hw0, hk0]
    refine ⟨⟨_, hb2.1⟩, mopI (metX8_point (F := F) l G tys htI ((u.2).set 36 (oj, .inl (cJ, 1, .inr (.inl (vp_updL f (0 : Int32).toNatClampNeg r.toInt64))))) hb2.1 (hb2.r 28 60 (by decide)) (hb2.r 29 60 (by decide)) (hb2.r 30 60 (by decide)) hz29 hn60 x y s) (fun r2 u2 hp2 => ?_)⟩
    rw [if_pos hc0]
    have hb3 := (((((hb2).m (upd z 0 0) wi dm).a 28 60 (upd (F 28) (z 29).toNatClampNeg x) (by decide)).a 29 60 (upd (F 29) (z 29).toNatClampNeg y) (by decide)).a 30 60 (upd (F 30) (z 29).toNatClampNeg s) (by decide)).m (upd (upd z 0 0) 29 (z 29 + 1)) wi dm
    refine ⟨⟨ad, _, _, _, hb3.1, rfl⟩, fun _ => ⟨_, va_gs (by decide) (va_gs (by decide) (va_gs (by decide) (va_gs (by decide) (va_gs (by decide) (va_ge ho))))), ?_⟩, INV_next hI0 6 (by decide) hc1 (((((((chz.rf (own := (fun k => if k < ws.length then own k else 6))).set (hO2 36 (by decide) (by decide))).set (hO2 12 (by decide) (by decide))).set (hO2 28 (by decide) (by decide))).set (hO2 29 (by decide) (by decide))).set (hO2 30 (by decide) (by decide))).set (hO2 12 (by decide) (by decide))) hb3 (((((agb.rf.zz 0 0 (Or.inl rfl)).f 28 _ rfl).f 29 _ rfl).f 30 _ rfl).zz 29 _ (Or.inr rfl)) (Nat.le_succ _) (fun c => absurd rfl c) ?_⟩
    · rw [updL_0]
      rw [hp2 hc0, hp.1, hz29, nI_1]
    · have hz1n : (z 29).toNatClampNeg = n := by rw [hz29]; exact nI_clamp (by omega)
      have h8 := n8 (k := 60) k3 (by omega) (by decide)
      rw [← hnp]
      refine ⟨q2, _, _, hL2.vs (fun i hi => ?_), by omega, ?_⟩
      · show _ = ([.int (upd (F 28) (z 29).toNatClampNeg x i), .int (upd (F 29) (z 29).toNatClampNeg y i), .int (upd (F 30) (z 29).toNatClampNeg s i)] : List Value)
        rw [hz1n]
        by_cases c : i = n
        · rw [if_pos c, c, upd_at, upd_at, upd_at]
        · rw [if_neg c, upd_ne c, upd_ne c, upd_ne c]
      · show z 29 + 1 = nI (n + 1)
        rw [hz29]
        exact nI_1 n
