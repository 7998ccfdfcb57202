theorem upd_ne {f : Nat → Int32} {j k : Nat} {a : Int32} (h : j ≠ k) : upd f k a j = f j := by unfold upd; rw [if_neg h]
theorem updL_at {f : Nat → Int64} {k : Nat} {a : Int64} : vp_updL f k a k = a := by unfold vp_updL; rw [if_pos rfl]
section Bas
variable {cI cJ cB : ClassId} {am oj od : Nat} {ad : Nat → Nat} {z : Nat → Int32} {F : Nat → Nat → Int32} {wi dm : Int64} {ws w2 : va_W} {own own2 : Nat → Nat}
/-- only places of group g changed -/
def chg (own own2 : Nat → Nat) (g : Nat) (ws w2 : va_W) : Prop := ∀ q x, own q ≠ g → ws[q]? = some x → w2[q]? = some x ∧ own2 q = own q
theorem chg.rf {g : Nat} : chg own own g ws ws := fun _ _ _ h => ⟨h, rfl⟩
theorem chg.set {g p : Nat} {e : Nat × va_E} (h : chg own own2 g ws w2) (hp : own2 p = g) : chg own own2 g ws (w2.set p e) := fun q x h1 h2 => by
  obtain ⟨h3, h4⟩ := h q x h1 h2
  exact ⟨va_gs (fun e => by subst e; exact h1 (h4.symm.trans hp)) h3, h4⟩
end Bas
theorem lsL_pe {ws : va_W} {tE : Nat} {cO : ClassId} {pl al c pe : Nat} {el : Nat → Nat} (h : lsL ws tE cO pl al c el pe) (h0 : 0 < c) : ∃ x, ws[pe]? = some x := by
  obtain ⟨mo, ⟨h1, hL⟩ | ⟨h1, ae, n, a, hL, he, hr⟩⟩ := h
  · omega
  · exact ⟨_, he⟩
section Grp
variable {own own2 : Nat → Nat} {ws w2 : va_W} {tE : Nat} {cI cO : ClassId} {z z2 : Nat → Int32} {F F2 : Nat → Nat → Int32} {wi dm wi2 dm2 : Int64}
/-- a list at its place, its row, its elements at places g of class ci -/
def pfL (own : Nat → Nat) (ws : va_W) (tE : Nat) (cO : ClassId) (id pl al n q : Nat) (e g : Nat → Nat) (ci : Nat) (vs : Nat → List Value) : Prop :=
  lsL ws tE cO pl al n e q ∧ own pl = id ∧ (0 < n → own q = id) ∧ (∀ i, i < n → ws[g i]? = some (e i, .inr (ci, vs i)) ∧ own (g i) = id) ∧ ∀ i j, i < n → j < n → g i = g j → i = j
theorem pfL.kp {id pl al n q ci : Nat} {e g : Nat → Nat} {vs : Nat → List Value} (h : pfL own ws tE cO id pl al n q e g ci vs) (k : ∀ q x, own q = id → ws[q]? = some x → w2[q]? = some x ∧ own2 q = id) : pfL own2 w2 tE cO id pl al n q e g ci vs := by
  obtain ⟨hL, o1, o2, hg, hi⟩ := h
  obtain ⟨mo, ae, hc⟩ := lsL_cell hL
  exact ⟨lsL_of hL (fun x hx => (k pl x o1 hx).1) (fun h0 x hx => (k q x (o2 h0) hx).1), (k pl _ o1 hc).2, fun h0 => (k q _ (o2 h0) (lsL_pe hL h0).choose_spec).2, fun i hi => k _ _ (hg i hi).2 (hg i hi).1, hi⟩
theorem pfL.vs {id pl al n q ci : Nat} {e g : Nat → Nat} {vs vs2 : Nat → List Value} (h : pfL own ws tE cO id pl al n q e g ci vs) (hv : ∀ i, i < n → vs i = vs2 i) : pfL own ws tE cO id pl al n q e g ci vs2 := by
  obtain ⟨hL, o1, o2, hg, hi⟩ := h
  exact ⟨hL, o1, o2, fun i h9 => by rw [← hv i h9]; exact hg i h9, hi⟩
/-- an element's cell is written -/
theorem pfL.set {id pl al n q ci : Nat} {e g : Nat → Nat} {vs : Nat → List Value} (h : pfL own ws tE cO id pl al n q e g ci vs) (hci : ci ≠ 0) {x : Nat} (hx : x < n) (v2 : List Value) : pfL own (ws.set (g x) (e x, .inr (ci, v2))) tE cO id pl al n q e g ci (fun i => if i = x then v2 else vs i) ∧ chg own own id ws (ws.set (g x) (e x, .inr (ci, v2))) := by
  obtain ⟨hL, o1, o2, hg, hi⟩ := h
  obtain ⟨n1, n2⟩ := lsL_ne hL (hg x hx).1 hci
  refine ⟨⟨lsL_of hL (fun y hy => va_gs n1.symm hy) (fun h0 y hy => va_gs (n2 h0).symm hy), o1, o2, fun i hin => ⟨?_, (hg i hin).2⟩, hi⟩, chg.rf.set (hg x hx).2⟩
  by_cases c : i = x
  · subst c
    dsimp only
    rw [if_pos rfl]
    exact va_ge (hg i hin).1
  · dsimp only
    rw [if_neg c]
    exact va_gs (fun c2 => c (hi i x hin hx c2)) (hg i hin).1
/-- an element is added, with further cells behind it -/
theorem pfL.add {id pl al n q ci : Nat} {e g : Nat → Nat} {vs : Nat → List Value} (h : pfL own ws tE cO id pl al n q e g ci vs) (hci : ci ≠ 0) {a : Nat} {v2 : List Value} {more : va_W} (hA : lsA (ws ++ ((a, .inr (ci, v2)) :: more)) tE cO pl al n e q a w2) :
    ∃ q2, pfL (fun k => if k < ws.length then own k else id) w2 tE cO id pl al (n + 1) q2 (va_up e n a) (va_up g n ws.length) ci (fun i => if i = n then v2 else vs i) ∧ chg own (fun k => if k < ws.length then own k else id) id ws w2 ∧ (∀ j x, more[j]? = some x → w2[ws.length + 1 + j]? = some x) ∧ ∀ (p b : Nat) (c : ClassId) (m : Nat) (f : Nat → Int32), ws[p]? = some (b, .inl (c, m, .inl f)) → w2[p]? = some (b, .inl (c, m, .inl f)) := by
  obtain ⟨hL, o1, o2, hg, hi⟩ := h
  obtain ⟨pe2, hL2, hpe, hk⟩ := hA
  have hpl : pl < ws.length := by obtain ⟨mo, ae, hc⟩ := lsL_cell hL; exact pl_lt hc
  have hqn : 0 < n → q < ws.length := fun h0 => by obtain ⟨x, hx⟩ := lsL_pe hL h0; exact pl_lt hx
  have hkeep : chg own (fun k => if k < ws.length then own k else id) id ws w2 := fun p x h1 h2 => ⟨hk p x (fun c => by subst c; exact h1 o1) (fun h0 c => by subst c; exact h1 (o2 h0)) (va_ga h2), by dsimp only; rw [if_pos (pl_lt h2)]⟩
  refine ⟨pe2, ⟨hL2, by dsimp only; rw [if_pos hpl]; exact o1, fun _ => ?_, fun i hin => ?_, fun i j hin hjn c => ?_⟩, hkeep, fun j x hx => ?_, fun p b c m f hp => hk p _ ?_ ?_ (va_ga hp)⟩
  · dsimp only
    rcases hpe with ⟨c1, c2⟩ | c1
    · rw [c1, if_pos (hqn c2)]; exact o2 c2
    · rw [if_neg (by rw [c1, List.length_append]; omega)]
  · dsimp only
    by_cases c : i = n
    · subst c
      rw [if_pos rfl, va_up_self, va_up_self]
      refine ⟨hk _ _ (by omega) (fun h0 => by have := hqn h0; omega) ?_, if_neg (Nat.lt_irrefl _)⟩
      rw [List.getElem?_append_right (Nat.le_refl _), Nat.sub_self]
      rfl
    · rw [if_neg c, va_up_ne _ _ c, va_up_ne _ _ c]
      obtain ⟨g1, g2⟩ := hg i (by omega)
      obtain ⟨n1, n2⟩ := lsL_ne hL g1 hci
      refine ⟨hk _ _ n1 n2 (va_ga g1), ?_⟩
      rw [if_pos (pl_lt g1)]
      exact g2
  · by_cases c1 : i = n
    · by_cases c2 : j = n
      · omega
      · subst c1
        rw [va_up_self, va_up_ne _ _ c2] at c
        have := pl_lt (hg j (by omega)).1
        omega
    · by_cases c2 : j = n
      · subst c2
        rw [va_up_self, va_up_ne _ _ c1] at c
        have := pl_lt (hg i (by omega)).1
        omega
      · rw [va_up_ne _ _ c1, va_up_ne _ _ c2] at c
        exact hi i j (by omega) (by omega) c
  · refine hk _ _ (by omega) (fun h0 => by have := hqn h0; omega) ?_
    rw [List.getElem?_append_right (by omega), show ws.length + 1 + j - ws.length = j + 1 by omega]
    exact hx
  · obtain ⟨mo, ae, hc⟩ := lsL_cell hL
    exact ne_lr hp hc
  · intro h0 c9
    obtain ⟨mo, ⟨h1, hc⟩ | ⟨h1, ae, k, a9, hc, he, hr⟩⟩ := hL
    · omega
    · rw [← c9, hp] at he
      cases he
end Grp
