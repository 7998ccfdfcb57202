theorem pfL.keep {own : Nat → Nat} {ws : va_W} {tE : Nat} {cI cO : ClassId} {id pl al n q ci p b m : Nat} {e g : Nat → Nat} {vs : Nat → List Value} {f : Nat → Int32} {x : Nat × va_E} (h : pfL own ws tE cO id pl al n q e g ci vs) (hp : ws[p]? = some (b, .inl (cI, m, .inl f))) : pfL own (ws.set p x) tE cO id pl al n q e g ci vs := by
  obtain ⟨hL, o1, o2, hg, hi⟩ := h
  refine ⟨?_, o1, o2, fun i h9 => ⟨va_gs (ne_lr hp (hg i h9).1).symm (hg i h9).1, (hg i h9).2⟩, hi⟩
  obtain ⟨mo, ⟨h0, hc⟩ | ⟨h0, ae, k, a, hc, he, hr⟩⟩ := hL
  · exact ⟨mo, Or.inl ⟨h0, va_gs (ne_lr hp hc).symm hc⟩⟩
  · refine ⟨mo, Or.inr ⟨h0, ae, k, a, va_gs (ne_lr hp hc).symm hc, va_gs (fun c => ?_) he, hr⟩⟩
    rw [c, hp] at he
    cases he
