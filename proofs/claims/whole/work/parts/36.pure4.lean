theorem mGb_free {cel dep win : Nat → Int32} {dr w : Int32} {n : Nat} {x : Int32} : ∀ k, ¬ mGb cel dep win dr w n x k = -1 → win (mGb cel dep win dr w n x k).toNatClampNeg = -1 := by
  intro k
  induction k with
  | zero => exact fun h => absurd rfl h
  | succ k ih =>
    unfold mGb
    by_cases h1 : mBes x (nI k) = -1
    · rw [if_pos h1]; exact ih
    · rw [if_neg h1]
      by_cases h2 : win (mBes x (nI k)).toNatClampNeg = -1
      · rw [if_pos h2]
        by_cases h3 : mGb cel dep win dr w n x k = -1
        · rw [if_pos h3]; exact fun _ => h2
        · rw [if_neg h3]
          by_cases h4 : mEn cel dep dr w n (mGb cel dep win dr w n x k) ≤ mEn cel dep dr w n (mBes x (nI k))
          · rw [if_pos h4]; exact ih
          · rw [if_neg h4]; exact fun _ => h2
      · rw [if_neg h2]; exact ih
theorem mCr_free {cel dep win : Nat → Int32} {dr he w : Int32} {n : Nat} {x : Int32} : ¬ mCr cel dep win dr he w n x = -1 → win (mCr cel dep win dr he w n x).toNatClampNeg = -1 := by
  unfold mCr
  by_cases h1 : mCt dr x = -1
  · rw [if_pos h1]; exact fun q => absurd rfl q
  · rw [if_neg h1]
    by_cases h2 : win (mCt dr x).toNatClampNeg = -1
    · rw [if_pos h2]
      by_cases h3 : he < mEn cel dep dr w n (mCt dr x) - mEn cel dep dr w n x
      · rw [if_pos h3]; exact fun q => absurd rfl q
      · rw [if_neg h3]; exact fun _ => h2
    · rw [if_neg h2]; exact fun q => absurd rfl q
theorem mGoal_free {cel dep win : Nat → Int32} {dr he w : Int32} {n : Nat} {x : Int32} : ¬ mGoal cel dep win dr he w n x = -1 → win (mGoal cel dep win dr he w n x).toNatClampNeg = -1 := by
  unfold mGoal
  by_cases h1 : mGb cel dep win dr w n x 4 = -1
  · rw [if_pos h1]; exact mCr_free
  · rw [if_neg h1]
    by_cases h2 : mEn cel dep dr w n x ≤ mEn cel dep dr w n (mGb cel dep win dr w n x 4)
    · rw [if_pos h2]; exact mCr_free
    · rw [if_neg h2]; exact mGb_free 4
theorem fStep_eq {n : Nat} {cx cm win dep : Nat → Int32} {dr he : Int32} (h : filR n cx cm win) : ∀ k, k ≤ n → filR n (fStep cx dep dr he k).1 (mSt dep dr he n win cm k).1.2 (mSt dep dr he n win cm k).1.1 ∧ (fStep cx dep dr he k).2 = (mSt dep dr he n win cm k).2 := by
  intro k
  induction k with
  | zero => exact fun _ => ⟨h, rfl⟩
  | succ k ih =>
    intro hk
    have ih := ih (by omega)
    have hn := h.1
    unfold fStep mSt
    generalize fStep cx dep dr he k = S at ih ⊢
    generalize mSt dep dr he n win cm k = M at ih ⊢
    obtain ⟨hR, hc⟩ := ih
    have e1 : S.1 k = M.1.2 k := hR.2.1 k (by omega)
    rw [e1]
    by_cases h1 : M.1.2 k = -1
    · rw [if_pos h1, if_pos h1]; exact ⟨hR, hc⟩
    · have hX := (hR.2.2.2.1 k (by omega) h1).1
      rw [if_neg h1, if_neg h1, fLeave_eq (cm := M.1.2) (w := nI k) (by rw [nI_clamp (show k < 2 ^ 31 by omega)]) hX, fGoal_eq (n := n) (cm := M.1.2) (win := M.1.1) hR hX]
      by_cases h2 : mLeave M.1.2 dep dr he (nI k) = 0
      · rw [if_pos h2, if_pos h2]
        by_cases h3 : mGoal M.1.2 dep M.1.1 dr he (nI k) n (M.1.2 k) = -1
        · rw [if_pos h3, if_pos h3]; exact ⟨hR, hc⟩
        · rw [if_neg h3, if_neg h3]
          exact ⟨filR_go hR (by omega) h1 (Or.inr ⟨mGoal_ok hX h3, mGoal_free h3⟩), by dsimp only; rw [hc]⟩
      · rw [if_neg h2, if_neg h2]
        exact ⟨filR_go hR (by omega) h1 (Or.inl rfl), by dsimp only; rw [hc]⟩
theorem fStep_tail {cx dep : Nat → Int32} {dr he : Int32} {n : Nat} (h : ∀ k, n ≤ k → k < 20 → (fStep cx dep dr he n).1 k = -1) : ∀ m, n ≤ m → m ≤ 20 → fStep cx dep dr he m = fStep cx dep dr he n := by
  intro m
  induction m with
  | zero => intro h1 _; rw [show n = 0 by omega]
  | succ m ih =>
    intro h1 h2
    rcases Nat.lt_or_ge m n with q | q
    · rw [show n = m + 1 by omega]
    · have ih := ih q (by omega)
      have hm := h m q (by omega)
      rw [← ih] at hm
      have e : fStep cx dep dr he (m + 1) = fStep cx dep dr he m := by
        show (if (fStep cx dep dr he m).1 m = -1 then fStep cx dep dr he m else _) = _
        rw [if_pos hm]
      rw [e, ih]
/-- one step of the film: the same cells, the same count -/
theorem film_step {n : Nat} {cx cm win dep : Nat → Int32} {dr he : Int32} (h : filR n cx cm win) : filR n (fStep cx dep dr he 20).1 (mSt dep dr he n win cm n).1.2 (mSt dep dr he n win cm n).1.1 ∧ (fStep cx dep dr he 20).2 = (mSt dep dr he n win cm n).2 := by
  have k := fStep_eq (dep := dep) (dr := dr) (he := he) h n (Nat.le_refl _)
  rw [fStep_tail (fun j h1 h2 => k.1.2.2.1 j h1 h2) 20 h.1 (Nat.le_refl _)]
  exact k
