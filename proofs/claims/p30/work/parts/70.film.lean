/-! THE FILM: one whirl at most in a cell; whirls that left stay away -/
def gd (x : Int32) : Prop := ¬ x < 0 ∧ x ≤ 47
theorem gd_nat {x : Int32} (h : gd x) : ∃ c : Nat, c < 48 ∧ x = nI c := by
  obtain ⟨j, hj, e⟩ := nI_of2 (M := 47) (n := 47) (by decide) h.1 h.2
  exact ⟨j, by omega, e⟩
theorem fBes_gd : ∀ c : Nat, c < 48 → ∀ w : Nat, w < 4 → fBes (nI c) (nI w) = -1 ∨ (¬ fBes (nI c) (nI w) < 0 ∧ fBes (nI c) (nI w) ≤ 47) := by decide +kernel
theorem fCe_gd : ∀ k : Nat, k < 6 → ¬ nI k * 8 < 0 ∧ nI k * 8 ≤ 47 := by decide +kernel
theorem fFree_no {cel : Nat → Int32} {x : Int32} (h : ¬ fFree cel x = 0) : ∀ k, k < 20 → ¬ cel k = x := fun k hk e => h (by
  unfold fFree
  rw [if_pos ((fHas_iff cel x 20).mpr ⟨k, hk, e⟩)])
/-- a place to go to: none, or one in the film where no whirl is -/
def fNew (cel : Nat → Int32) (g : Int32) : Prop := g = -1 ∨ (gd g ∧ ∀ k, k < 20 → ¬ cel k = g)
section FilmOk
variable {cel dep : Nat → Int32} {dr he w x y : Int32} {n : Nat}
theorem fCb_new (hx : gd x) (k : Nat) (hk : k ≤ 4) : fNew cel (fCb cel dep dr w x y k).1 := by
  obtain ⟨c, hc, rfl⟩ := gd_nat hx
  induction k with
  | zero => exact Or.inl rfl
  | succ k ih =>
    have ih := ih (by omega)
    unfold fCb
    by_cases h1 : fBes (nI c) (nI k) = -1
    · rw [if_pos h1]; exact ih
    · rw [if_neg h1]
      by_cases h2 : fFree cel (fBes (nI c) (nI k)) = 0
      · rw [if_pos h2]; exact ih
      · rw [if_neg h2]
        by_cases h3 : (fCb cel dep dr w (nI c) y k).2 ≤ fEn cel dep dr w (fBes (nI c) (nI k))
        · rw [if_pos h3]; exact ih
        · rw [if_neg h3]
          exact Or.inr ⟨(fBes_gd c hc k (by omega)).resolve_left h1, fFree_no h2⟩
theorem fCreep_new (hx : gd x) : fNew cel (fCreep cel dep dr he w x y) := by
  obtain ⟨c, hc, rfl⟩ := gd_nat hx
  have hb : fBes (nI c) (if dr ≤ 0 then 3 else 1) = -1 ∨ (¬ fBes (nI c) (if dr ≤ 0 then 3 else 1) < 0 ∧ fBes (nI c) (if dr ≤ 0 then 3 else 1) ≤ 47) := by
    by_cases h : dr ≤ 0
    · rw [if_pos h]; exact fBes_gd c hc 3 (by decide)
    · rw [if_neg h]; exact fBes_gd c hc 1 (by decide)
  unfold fCreep
  generalize (if dr ≤ 0 then (3 : Int32) else 1) = d at hb ⊢
  by_cases h0 : dr = 0
  · rw [if_pos h0]; exact Or.inl rfl
  · rw [if_neg h0]
    by_cases h1 : fBes (nI c) d = -1
    · rw [if_pos h1]; exact Or.inl rfl
    · rw [if_neg h1]
      by_cases h2 : fFree cel (fBes (nI c) d) = 0
      · rw [if_pos h2]; exact Or.inl rfl
      · rw [if_neg h2]
        by_cases h3 : he < fEn cel dep dr w (fBes (nI c) d) - y
        · rw [if_pos h3]; exact Or.inl rfl
        · rw [if_neg h3]
          exact Or.inr ⟨hb.resolve_left h1, fFree_no h2⟩
theorem fGoal_new (hx : gd x) : fNew cel (fGoal cel dep dr he w x) := by
  unfold fGoal
  by_cases h : (fCb cel dep dr w x (fEn cel dep dr w x) 4).1 = -1
  · rw [if_pos h]; exact fCreep_new hx
  · rw [if_neg h]; exact fCb_new hx 4 (by decide)
theorem fCe_new (k : Nat) (hk : k ≤ 6) : fNew cel (fCe cel dep dr w k).1 := by
  induction k with
  | zero => exact Or.inl rfl
  | succ k ih =>
    have ih := ih (by omega)
    unfold fCe
    by_cases h1 : fFree cel (nI k * 8) = 0
    · rw [if_pos h1]; exact ih
    · rw [if_neg h1]
      have hn : fNew cel (nI k * 8) := Or.inr ⟨fCe_gd k (by omega), fFree_no h1⟩
      by_cases h2 : (fCe cel dep dr w k).1 = -1
      · rw [if_pos h2]; exact hn
      · rw [if_neg h2]
        by_cases h3 : (fCe cel dep dr w k).2 ≤ fEn cel dep dr w (nI k * 8)
        · rw [if_pos h3]; exact ih
        · rw [if_neg h3]; exact hn
/-- n whirls came in: each in the film, or gone; behind n none; no two in one cell -/
def fOK (n : Nat) (cel : Nat → Int32) : Prop := (∀ k, k < 20 → cel k = -1 ∨ gd (cel k)) ∧ (∀ k, n ≤ k → k < 20 → cel k = -1) ∧ ∀ j k, j < 20 → k < 20 → cel j = cel k → ¬ cel j = -1 → j = k
theorem fOK_set {k : Nat} {g : Int32} (h : fOK n cel) (hk : k < 20) (hn : k < n) (hg : fNew cel g) : fOK n (upd cel k g) := by
  obtain ⟨h1, h2, h3⟩ := h
  refine ⟨fun j hj => ?_, fun j h4 hj => ?_, fun i j hi hj e hne => ?_⟩
  · by_cases c : j = k
    · rw [c, upd_at]; exact hg.imp id And.left
    · rw [upd_ne c]; exact h1 j hj
  · rw [upd_ne (by omega)]; exact h2 j h4 hj
  · by_cases c1 : i = k
    · by_cases c2 : j = k
      · omega
      · rw [c1, upd_at, upd_ne c2] at e
        rw [c1, upd_at] at hne
        exact absurd e.symm ((hg.resolve_left hne).2 j hj)
    · by_cases c2 : j = k
      · rw [c2, upd_at, upd_ne c1] at e
        rw [upd_ne c1] at hne
        exact absurd e ((hg.resolve_left (by rw [← e]; exact hne)).2 i hi)
      · rw [upd_ne c1, upd_ne c2] at e
        rw [upd_ne c1] at hne
        exact h3 i j hi hj e hne
theorem fOK_enter {r : Int32} (h : fOK n cel) (hn : n < 20) (hr : fNew cel r) : fOK (n + 1) (upd cel n r) :=
  fOK_set (n := n + 1) ⟨h.1, fun k h1 h2 => h.2.1 k (by omega) h2, h.2.2⟩ hn (by omega) hr
theorem fStep_ok (h : fOK n cel) (k : Nat) (hk : k ≤ 20) : fOK n (fStep cel dep dr he k).1 ∧ (∀ j, j < 20 → cel j = -1 → (fStep cel dep dr he k).1 j = -1) ∧ ∃ m : Nat, m ≤ k ∧ (fStep cel dep dr he k).2 = nI m := by
  induction k with
  | zero => exact ⟨h, fun _ _ e => e, 0, Nat.le_refl 0, rfl⟩
  | succ k ih =>
    obtain ⟨i1, i2, m, hm, i3⟩ := ih (by omega)
    unfold fStep
    by_cases c1 : (fStep cel dep dr he k).1 k = -1
    · rw [if_pos c1]; exact ⟨i1, i2, m, by omega, i3⟩
    · rw [if_neg c1]
      have hkn : k < n := Nat.lt_of_not_le (fun q => c1 (i1.2.1 k q (by omega)))
      have hck : ¬ cel k = -1 := fun q => c1 (i2 k (by omega) q)
      have key : ∀ g, fNew (fStep cel dep dr he k).1 g → fOK n (upd (fStep cel dep dr he k).1 k g) ∧ (∀ j, j < 20 → cel j = -1 → upd (fStep cel dep dr he k).1 k g j = -1) ∧ ∃ m : Nat, m ≤ k + 1 ∧ (fStep cel dep dr he k).2 + 1 = nI m := fun g hg =>
        ⟨fOK_set i1 (by omega) hkn hg, fun j hj e => by rw [upd_ne (fun q => hck (by rw [← q]; exact e))]; exact i2 j hj e, m + 1, by omega, by rw [i3]; exact nI_1 m⟩
      by_cases c2 : fLeave dep dr he ((fStep cel dep dr he k).1 k) = 0
      · rw [if_pos c2]
        by_cases c3 : fGoal (fStep cel dep dr he k).1 dep dr he (nI k) ((fStep cel dep dr he k).1 k) = -1
        · rw [if_pos c3]; exact ⟨i1, i2, m, by omega, i3⟩
        · rw [if_neg c3]; exact key _ (fGoal_new ((i1.1 k (by omega)).resolve_left c1))
      · rw [if_neg c2]; exact key _ (Or.inl rfl)
theorem fAv_ok (h : fOK n cel) (k : Nat) : fOK n (fAv cel dep dr he k).1.1 ∧ (∀ j, j < 20 → cel j = -1 → (fAv cel dep dr he k).1.1 j = -1) ∧ ∃ m : Nat, m ≤ 20 * k ∧ (fAv cel dep dr he k).1.2 = nI m := by
  induction k with
  | zero => exact ⟨h, fun _ _ e => e, 0, by omega, rfl⟩
  | succ k ih =>
    obtain ⟨i1, i2, m, hm, i3⟩ := ih
    obtain ⟨s1, s2, m2, hm2, s3⟩ := fStep_ok (dep := dep) (dr := dr) (he := he) i1 20 (Nat.le_refl 20)
    unfold fAv
    generalize fStep (fAv cel dep dr he k).1.1 dep dr he 20 = st at s1 s2 s3 ⊢
    by_cases c1 : (fAv cel dep dr he k).2 = true
    · rw [if_pos c1]; exact ⟨i1, i2, m, by omega, i3⟩
    · rw [if_neg c1]
      by_cases c2 : st.2 = 0
      · rw [if_pos c2]; exact ⟨s1, fun j hj e => s2 j hj (i2 j hj e), m, by omega, i3⟩
      · rw [if_neg c2]
        refine ⟨s1, fun j hj e => s2 j hj (i2 j hj e), m + m2, by omega, ?_⟩
        show (fAv cel dep dr he k).1.2 + st.2 = nI (m + m2)
        rw [i3, s3]
        exact nI_add m m2
end FilmOk
