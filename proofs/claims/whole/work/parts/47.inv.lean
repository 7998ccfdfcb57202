/-! THE LAW'S STATE: what the class and the reference hold, by groups; own: to which group a place of the world belongs -/
def mN (k : Nat) : Nat := if k < 18 then 8 else if k < 20 then 48 else if k < 21 then 20 else if k < 26 then 6 else if k < 28 then 12 else if k < 31 then 60 else if k < 35 then 8 else 56
def uFk (F : Nat → Nat → Int32) (k : Nat) (f : Nat → Int32) : Nat → Nat → Int32 := fun j => if j = k then f else F j
theorem uFk_at {F : Nat → Nat → Int32} {k : Nat} {f : Nat → Int32} : uFk F k f k = f := by unfold uFk; rw [if_pos rfl]
theorem uFk_ne {F : Nat → Nat → Int32} {j k : Nat} {f : Nat → Int32} (h : j ≠ k) : uFk F k f j = F j := by unfold uFk; rw [if_neg h]
theorem upd_ne {f : Nat → Int32} {j k : Nat} {a : Int32} (h : j ≠ k) : upd f k a j = f j := by unfold upd; rw [if_neg h]
theorem updL_at {f : Nat → Int64} {k : Nat} {a : Int64} : vp_updL f k a k = a := by unfold vp_updL; rw [if_pos rfl]
theorem updD_at {f : Nat → UInt64} {k : Nat} {a : UInt64} : vf_upd f k a k = a := by unfold vf_upd; rw [if_pos rfl]
section Bas
variable {cI cJ cB : ClassId} {am oj od : Nat} {ad : Nat → Nat} {z : Nat → Int32} {F : Nat → Nat → Int32} {wi dm : Int64} {ws w2 : va_W} {own own2 : Nat → Nat}
/-- the reference's cells and the law's two rows -/
def bas (cI cJ cB : ClassId) (am oj od : Nat) (ad : Nat → Nat) (z : Nat → Int32) (F : Nat → Nat → Int32) (wi dm : Int64) (ws : va_W) : Prop :=
  ws[12]? = some (am, .inr (9, mF ad z wi dm)) ∧ (∀ k, 13 ≤ k → k < 36 → ws[k]? = some (ad k, .inl (cI, mN k, .inl (F k)))) ∧ (∃ f, ws[36]? = some (oj, .inl (cJ, 1, .inr (.inl f)))) ∧ ∃ f, ws[37]? = some (od, .inl (cB, 1, .inr (.inr (.inr (.inl f)))))
theorem bas.r (h : bas cI cJ cB am oj od ad z F wi dm ws) (k n : Nat) (hk : 13 ≤ k ∧ k < 36 ∧ mN k = n) : ws[k]? = some (ad k, .inl (cI, n, .inl (F k))) := by
  rw [h.2.1 k hk.1 hk.2.1, hk.2.2]
theorem bas.m (h : bas cI cJ cB am oj od ad z F wi dm ws) (z2 : Nat → Int32) (wi2 dm2 : Int64) : bas cI cJ cB am oj od ad z2 F wi2 dm2 (ws.set 12 (am, .inr (9, mF ad z2 wi2 dm2))) :=
  ⟨va_ge h.1, fun k h1 h2 => va_gs (by omega) (h.2.1 k h1 h2), h.2.2.1.imp (fun f q => va_gs (by decide) q), h.2.2.2.imp (fun f q => va_gs (by decide) q)⟩
theorem bas.a (h : bas cI cJ cB am oj od ad z F wi dm ws) (k n : Nat) (f : Nat → Int32) (hk : 13 ≤ k ∧ k < 36 ∧ mN k = n) : bas cI cJ cB am oj od ad z (uFk F k f) wi dm (ws.set k (ad k, .inl (cI, n, .inl f))) := by
  obtain ⟨h1, h2, rfl⟩ := hk
  refine ⟨va_gs (by omega) h.1, fun j h3 h4 => ?_, h.2.2.1.imp (fun f q => va_gs (by omega) q), h.2.2.2.imp (fun f q => va_gs (by omega) q)⟩
  by_cases q : j = k
  · subst q
    rw [uFk_at]
    exact va_ge (h.2.1 _ h3 h4)
  · rw [uFk_ne q]
    exact va_gs q (h.2.1 j h3 h4)
theorem bas.o (h : bas cI cJ cB am oj od ad z F wi dm ws) (g : Nat → Int64) : bas cI cJ cB am oj od ad z F wi dm (ws.set 36 (oj, .inl (cJ, 1, .inr (.inl g)))) :=
  ⟨va_gs (by decide) h.1, fun k h1 h2 => va_gs (by omega) (h.2.1 k h1 h2), ⟨g, va_ge h.2.2.1.choose_spec⟩, h.2.2.2.imp (fun f q => va_gs (by decide) q)⟩
theorem bas.d (h : bas cI cJ cB am oj od ad z F wi dm ws) (g : Nat → UInt64) : bas cI cJ cB am oj od ad z F wi dm (ws.set 37 (od, .inl (cB, 1, .inr (.inr (.inr (.inl g)))))) :=
  ⟨va_gs (by decide) h.1, fun k h1 h2 => va_gs (by omega) (h.2.1 k h1 h2), h.2.2.1.imp (fun f q => va_gs (by decide) q), ⟨g, va_ge h.2.2.2.choose_spec⟩⟩
theorem bas.lt (h : bas cI cJ cB am oj od ad z F wi dm ws) : 37 < ws.length := pl_lt h.2.2.2.choose_spec
/-- only places of group g changed -/
def chg (own own2 : Nat → Nat) (g : Nat) (ws w2 : va_W) : Prop := ∀ q x, own q ≠ g → ws[q]? = some x → w2[q]? = some x ∧ own2 q = own q
/-- only places of group 0 changed -/
def chz (own : Nat → Nat) (ws w2 : va_W) : Prop := ∀ q x, own q ≠ 0 → ws[q]? = some x → w2[q]? = some x
theorem chz.rf : chz own ws ws := fun _ _ _ h => h
theorem chz.set {p : Nat} {e : Nat × va_E} (h : chz own ws w2) (hp : own p = 0) : chz own ws (w2.set p e) := fun q x h1 h2 => va_gs (fun e => by subst e; exact h1 hp) (h q x h1 h2)
theorem chg.rf {g : Nat} : chg own own g ws ws := fun _ _ _ h => ⟨h, rfl⟩
theorem chg.set {g p : Nat} {e : Nat × va_E} (h : chg own own2 g ws w2) (hp : own2 p = g) : chg own own2 g ws (w2.set p e) := fun q x h1 h2 => by
  obtain ⟨h3, h4⟩ := h q x h1 h2
  exact ⟨va_gs (fun e => by subst e; exact h1 (h4.symm.trans hp)) h3, h4⟩
theorem bas.k (h : bas cI cJ cB am oj od ad z F wi dm ws) {g : Nat} (hg : g ≠ 0) (hO : ∀ k, 12 ≤ k → k < 38 → own k = 0) (hc : chg own own2 g ws w2) : bas cI cJ cB am oj od ad z F wi dm w2 :=
  have key : ∀ k x, 12 ≤ k → k < 38 → ws[k]? = some x → w2[k]? = some x := fun k x h1 h2 h3 => (hc k x (by rw [hO k h1 h2]; exact hg.symm) h3).1
  ⟨key 12 _ (by decide) (by decide) h.1, fun k h1 h2 => key k _ (by omega) (by omega) (h.2.1 k h1 h2), h.2.2.1.imp (fun f q => key 36 _ (by decide) (by decide) q), h.2.2.2.imp (fun f q => key 37 _ (by decide) (by decide) q)⟩
theorem bas.ow (h : bas cI cJ cB am oj od ad z F wi dm ws) {g : Nat} (hg : g ≠ 0) (hO : ∀ k, 12 ≤ k → k < 38 → own k = 0) (hc : chg own own2 g ws w2) : ∀ k, 12 ≤ k → k < 38 → own2 k = 0 := fun k h1 h2 => by
  have h3 : own k ≠ g := by rw [hO k h1 h2]; exact hg.symm
  obtain ⟨x, hx⟩ : ∃ x, ws[k]? = some x := ⟨_, List.getElem?_eq_getElem (Nat.lt_of_lt_of_le h2 h.lt)⟩
  rw [(hc k x h3 hx).2, hO k h1 h2]
end Bas
/-- the groups of the reference's numbers and rows -/
def zg (i : Nat) : Nat := if i = 1 then 1 else if i = 9 then 2 else if i = 11 then 2 else if i = 12 then 2 else if i = 13 then 3 else if i = 21 then 4 else if i = 22 then 4 else if i = 23 then 4 else if i = 26 then 5 else if i = 27 then 5 else if i = 28 then 5 else if i = 29 then 6 else if i = 33 then 7 else 0
def fg (k : Nat) : Nat := if k < 18 then 1 else if k < 21 then 2 else if k < 26 then 3 else if k < 28 then 4 else if k < 31 then 6 else 7
section Agb
variable {g : Nat} {z z2 : Nat → Int32} {F F2 : Nat → Nat → Int32} {wi dm wi2 dm2 : Int64}
def ag (j : Nat) (z : Nat → Int32) (F : Nat → Nat → Int32) (wi dm : Int64) (z2 : Nat → Int32) (F2 : Nat → Nat → Int32) (wi2 dm2 : Int64) : Prop := (∀ i, zg i = j → z2 i = z i) ∧ (∀ k, fg k = j → F2 k = F k) ∧ (j = 4 → wi2 = wi ∧ dm2 = dm)
/-- all groups but g and 0 agree -/
def agb (g : Nat) (z : Nat → Int32) (F : Nat → Nat → Int32) (wi dm : Int64) (z2 : Nat → Int32) (F2 : Nat → Nat → Int32) (wi2 dm2 : Int64) : Prop := (∀ i, zg i ≠ 0 → zg i ≠ g → z2 i = z i) ∧ (∀ k, fg k ≠ g → F2 k = F k) ∧ (g ≠ 4 → wi2 = wi ∧ dm2 = dm)
theorem agb.rf : agb g z F wi dm z F wi dm := ⟨fun _ _ _ => rfl, fun _ _ => rfl, fun _ => ⟨rfl, rfl⟩⟩
theorem agb.j (h : agb g z F wi dm z2 F2 wi2 dm2) {j : Nat} (h0 : j ≠ 0) (hj : j ≠ g) : ag j z F wi dm z2 F2 wi2 dm2 := ⟨fun i e => h.1 i (by rw [e]; exact h0) (by rw [e]; exact hj), fun k e => h.2.1 k (by rw [e]; exact hj), fun e => h.2.2 (fun e2 => hj (e.trans e2.symm))⟩
theorem agb.zz (h : agb g z F wi dm z2 F2 wi2 dm2) (i : Nat) (a : Int32) (hi : zg i = 0 ∨ zg i = g) : agb g z F wi dm (upd z2 i a) F2 wi2 dm2 := ⟨fun j h1 h2 => by
  rw [upd_ne (fun e => by subst e; exact hi.elim h1 h2)]
  exact h.1 j h1 h2, h.2.1, h.2.2⟩
theorem agb.f (h : agb g z F wi dm z2 F2 wi2 dm2) (k : Nat) (f : Nat → Int32) (hk : fg k = g) : agb g z F wi dm z2 (uFk F2 k f) wi2 dm2 := ⟨h.1, fun j h1 => by
  rw [uFk_ne (fun e => by subst e; exact h1 hk)]
  exact h.2.1 j h1, h.2.2⟩
end Agb
theorem lsL_pe {ws : va_W} {tE : Nat} {cO : ClassId} {pl al c pe : Nat} {el : Nat → Nat} (h : lsL ws tE cO pl al c el pe) (h0 : 0 < c) : ∃ x, ws[pe]? = some x := by
  obtain ⟨mo, ⟨h1, hL⟩ | ⟨h1, ae, n, a, hL, he, hr⟩⟩ := h
  · omega
  · exact ⟨_, he⟩
section Grp
variable {own own2 : Nat → Nat} {ws w2 : va_W} {tE : Nat} {cI cO : ClassId} {z z2 : Nat → Int32} {F F2 : Nat → Nat → Int32} {wi dm wi2 dm2 : Int64}
/-- a list at its place, its row, its elements at places g of class ci -/
def pfL (own : Nat → Nat) (ws : va_W) (tE : Nat) (cO : ClassId) (id pl al n q : Nat) (e g : Nat → Nat) (ci : Nat) (vs : Nat → List Value) : Prop :=
  lsL ws tE cO pl al n e q ∧ own pl = id ∧ (0 < n → own q = id) ∧ (∀ i, i < n → ws[g i]? = some (e i, .inr (ci, vs i)) ∧ own (g i) = id) ∧ ∀ i j, i < n → j < n → g i = g j → i = j
theorem pfL.kp {id pl al n q ci : Nat} {e g : Nat → Nat} {vs : Nat → List Value} (h : pfL own ws tE cO id pl al n q e g ci vs) (k : ∀ q x, own q = id → ws[q]? = some x → w2[q]? = some x ∧ own2 q = id) : pfL own2 w2 tE cO id pl al n q e g ci vs := by
  obtain ⟨hL, o1, o2, hg, hi⟩ := h
  obtain ⟨mo, ae, hc⟩ := lsL_cell hL
  exact ⟨lsL_of hL (fun x hx => (k pl x o1 hx).1) (fun h0 x hx => (k q x (o2 h0) hx).1), (k pl _ o1 hc).2, fun h0 => (k q _ (o2 h0) (lsL_pe hL h0).choose_spec).2, fun i hi => k _ _ (hg i hi).2 (hg i hi).1, hi⟩
theorem pfL.vs {id pl al n q ci : Nat} {e g : Nat → Nat} {vs vs2 : Nat → List Value} (h : pfL own ws tE cO id pl al n q e g ci vs) (hv : ∀ i, i < n → vs i = vs2 i) : pfL own ws tE cO id pl al n q e g ci vs2 := by
  obtain ⟨hL, o1, o2, hg, hi⟩ := h
  exact ⟨hL, o1, o2, fun i h9 => by rw [← hv i h9]; exact hg i h9, hi⟩
/-- an element's cell is written -/
theorem pfL.set {id pl al n q ci : Nat} {e g : Nat → Nat} {vs : Nat → List Value} (h : pfL own ws tE cO id pl al n q e g ci vs) (hci : ci ≠ 0) {x : Nat} (hx : x < n) (v2 : List Value) : pfL own (ws.set (g x) (e x, .inr (ci, v2))) tE cO id pl al n q e g ci (fun i => if i = x then v2 else vs i) ∧ chg own own id ws (ws.set (g x) (e x, .inr (ci, v2))) := by
  obtain ⟨hL, o1, o2, hg, hi⟩ := h
  obtain ⟨n1, n2⟩ := lsL_ne hL (hg x hx).1 hci
  refine ⟨⟨lsL_of hL (fun y hy => va_gs n1.symm hy) (fun h0 y hy => va_gs (n2 h0).symm hy), o1, o2, fun i hin => ⟨?_, (hg i hin).2⟩, hi⟩, chg.rf.set (hg x hx).2⟩
  by_cases c : i = x
  · subst c
    dsimp only
    rw [if_pos rfl]
    exact va_ge (hg i hin).1
  · dsimp only
    rw [if_neg c]
    exact va_gs (fun c2 => c (hi i x hin hx c2)) (hg i hin).1
/-- an element is added, with further cells behind it -/
theorem pfL.add {id pl al n q ci : Nat} {e g : Nat → Nat} {vs : Nat → List Value} (h : pfL own ws tE cO id pl al n q e g ci vs) (hci : ci ≠ 0) {a : Nat} {v2 : List Value} {more : va_W} (hA : lsA (ws ++ ((a, .inr (ci, v2)) :: more)) tE cO pl al n e q a w2) :
    ∃ q2, pfL (fun k => if k < ws.length then own k else id) w2 tE cO id pl al (n + 1) q2 (va_up e n a) (va_up g n ws.length) ci (fun i => if i = n then v2 else vs i) ∧ chg own (fun k => if k < ws.length then own k else id) id ws w2 ∧ (∀ j x, more[j]? = some x → w2[ws.length + 1 + j]? = some x) ∧ ∀ (p b : Nat) (c : ClassId) (m : Nat) (f : Nat → Int32), ws[p]? = some (b, .inl (c, m, .inl f)) → w2[p]? = some (b, .inl (c, m, .inl f)) := by
  obtain ⟨hL, o1, o2, hg, hi⟩ := h
  obtain ⟨pe2, hL2, hpe, hk⟩ := hA
  have hpl : pl < ws.length := by obtain ⟨mo, ae, hc⟩ := lsL_cell hL; exact pl_lt hc
  have hqn : 0 < n → q < ws.length := fun h0 => by obtain ⟨x, hx⟩ := lsL_pe hL h0; exact pl_lt hx
  have hkeep : chg own (fun k => if k < ws.length then own k else id) id ws w2 := fun p x h1 h2 => ⟨hk p x (fun c => by subst c; exact h1 o1) (fun h0 c => by subst c; exact h1 (o2 h0)) (va_ga h2), by dsimp only; rw [if_pos (pl_lt h2)]⟩
  refine ⟨pe2, ⟨hL2, by dsimp only; rw [if_pos hpl]; exact o1, fun _ => ?_, fun i hin => ?_, fun i j hin hjn c => ?_⟩, hkeep, fun j x hx => ?_, fun p b c m f hp => hk p _ ?_ ?_ (va_ga hp)⟩
  · dsimp only
    rcases hpe with ⟨c1, c2⟩ | c1
    · rw [c1, if_pos (hqn c2)]; exact o2 c2
    · rw [if_neg (by rw [c1, List.length_append]; omega)]
  · dsimp only
    by_cases c : i = n
    · subst c
      rw [if_pos rfl, va_up_self, va_up_self]
      refine ⟨hk _ _ (by omega) (fun h0 => by have := hqn h0; omega) ?_, if_neg (Nat.lt_irrefl _)⟩
      rw [List.getElem?_append_right (Nat.le_refl _), Nat.sub_self]
      rfl
    · rw [if_neg c, va_up_ne _ _ c, va_up_ne _ _ c]
      obtain ⟨g1, g2⟩ := hg i (by omega)
      obtain ⟨n1, n2⟩ := lsL_ne hL g1 hci
      refine ⟨hk _ _ n1 n2 (va_ga g1), ?_⟩
      rw [if_pos (pl_lt g1)]
      exact g2
  · by_cases c1 : i = n
    · by_cases c2 : j = n
      · omega
      · subst c1
        rw [va_up_self, va_up_ne _ _ c2] at c
        have := pl_lt (hg j (by omega)).1
        omega
    · by_cases c2 : j = n
      · subst c2
        rw [va_up_self, va_up_ne _ _ c1] at c
        have := pl_lt (hg i (by omega)).1
        omega
      · rw [va_up_ne _ _ c1, va_up_ne _ _ c2] at c
        exact hi i j (by omega) (by omega) c
  · refine hk _ _ (by omega) (fun h0 => by have := hqn h0; omega) ?_
    rw [List.getElem?_append_right (by omega), show ws.length + 1 + j - ws.length = j + 1 by omega]
    exact hx
  · obtain ⟨mo, ae, hc⟩ := lsL_cell hL
    exact ne_lr hp hc
  · intro h0 c9
    obtain ⟨mo, ⟨h1, hc⟩ | ⟨h1, ae, k, a9, hc, he, hr⟩⟩ := hL
    · omega
    · rw [← c9, hp] at he
      cases he
end Grp
