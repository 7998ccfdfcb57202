theorem fLeave_eq {cm dep : Nat → Int32} {dr he w x : Int32} (hc : cm w.toNatClampNeg = x) (hX : ¬ uK x 48) : fLeave dep dr he x = mLeave cm dep dr he w := by
  unfold fLeave mLeave
  rw [fDep_in hX, hc]
  by_cases h0 : dr = 0
  · subst h0
    rw [if_pos rfl, if_pos (Int32.le_refl _), if_pos (Int32.le_refl _)]
  · rw [if_neg h0]
    by_cases h1 : dr ≤ 0
    · have h2 : ¬ 0 ≤ dr := fun q => h0 (Int32.le_antisymm h1 q)
      rw [if_pos h1, if_pos h1, if_neg h2]
    · rw [if_neg h1, if_neg h1]
theorem fCe_eq {n : Nat} {cx cm win dep : Nat → Int32} {dr w : Int32} (h : filR n cx cm win) : ∀ k, k ≤ 6 → (mBt cm dep win dr w n k = -1 ∧ (fCe cx dep dr w k).1 = -1) ∨ (¬ mBt cm dep win dr w n k = -1 ∧ fCe cx dep dr w k = (mBt cm dep win dr w n k, mEn cm dep dr w n (mBt cm dep win dr w n k))) := by
  intro k
  induction k with
  | zero => exact fun _ => Or.inl ⟨rfl, rfl⟩
  | succ k ih =>
    intro hk
    have ih := ih (by omega)
    have e8 : nI k * 8 = nI (8 * k) := by rw [show (8 : Int32) = nI 8 from rfl, pk_mul, Nat.mul_comm]
    have h8 : ¬ uK (nI (8 * k)) 48 := uK_of (n := 48) (by omega) (by decide)
    have hf := fFree_eq h h8
    rw [nI_clamp (show 8 * k < 2 ^ 31 by omega)] at hf
    have hE : fEn cx dep dr w (nI (8 * k)) = mEn cm dep dr w n (nI (8 * k)) := fE_eq h h8
    have hne : ¬ nI (8 * k) = -1 := nI_ne_m1 (by omega)
    unfold mBt fCe
    rw [e8, hE]
    generalize mBt cm dep win dr w n k = b at ih ⊢
    generalize fCe cx dep dr w k = s at ih ⊢
    by_cases h2 : win (8 * k) = -1
    · rw [if_pos h2, if_neg (fun q => (hf.mp q) h2)]
      rcases ih with ⟨b1, s1⟩ | ⟨b1, s1⟩
      · rw [if_pos b1, if_pos s1]; exact Or.inr ⟨hne, rfl⟩
      · rw [if_neg b1, s1]
        rw [if_neg b1]
        by_cases h3 : mEn cm dep dr w n b ≤ mEn cm dep dr w n (nI (8 * k))
        · rw [if_pos h3, if_pos h3]; exact Or.inr ⟨b1, rfl⟩
        · rw [if_neg h3, if_neg h3]; exact Or.inr ⟨hne, rfl⟩
    · rw [if_neg h2, if_pos (hf.mpr h2)]; exact ih
theorem uK_inj {x y : Int32} (hx : ¬ uK x 48) (hy : ¬ uK y 48) (h : x.toNatClampNeg = y.toNatClampNeg) : x = y := by
  rw [(uK_ix (n := 48) hx).1, (uK_ix (n := 48) hy).1, h]
theorem filR_go {n k : Nat} {cx cm win : Nat → Int32} {to : Int32} (h : filR n cx cm win) (hk : k < n) (hc : ¬ cm k = -1) (hto : to = -1 ∨ (¬ uK to 48 ∧ win to.toNatClampNeg = -1)) : filR n (upd cx k to) (mGo win cm (nI k) to).2 (mGo win cm (nI k) to).1 := by
  obtain ⟨hn, h1, h2, h3, h4⟩ := h
  have ek : (nI k).toNatClampNeg = k := nI_clamp (by omega)
  have hck := h3 k hk hc
  have inj : ∀ j, j < n → ¬ cm j = -1 → (cm j).toNatClampNeg = (cm k).toNatClampNeg → j = k := by
    intro j hj hj1 q
    have a := (h3 j hj hj1).2
    rw [q, hck.2] at a
    exact ((nI_eq (by omega) (by omega)).mp a).symm
  have m1 : to = -1 ∨ ¬ to = -1 := Decidable.em _
  unfold mGo
  rw [ek]
  refine ⟨hn, fun j hj => ?_, fun j hj hj2 => ?_, fun j hj hj1 => ?_, fun c hc48 => ?_⟩
  · dsimp only
    unfold upd
    by_cases q : j = k
    · rw [if_pos q, if_pos q]
    · rw [if_neg q, if_neg q]; exact h1 j hj
  · unfold upd
    rw [if_neg (by omega)]
    exact h2 j hj hj2
  · dsimp only at hj1 ⊢
    by_cases q : j = k
    · subst q
      rw [upd_at] at hj1 ⊢
      rw [if_neg hj1, upd_at]
      exact ⟨(hto.resolve_left hj1).1, rfl⟩
    · have e : upd cm k to j = cm j := by unfold upd; rw [if_neg q]
      rw [e] at hj1 ⊢
      have a := h3 j hj hj1
      refine ⟨a.1, ?_⟩
      have b1 : ¬ (cm j).toNatClampNeg = (cm k).toNatClampNeg := fun z => q (inj j hj hj1 z)
      rcases m1 with t | t
      · rw [if_pos t]; unfold upd; rw [if_neg b1]; exact a.2
      · rw [if_neg t]
        have t2 := hto.resolve_left t
        have b2 : ¬ (cm j).toNatClampNeg = to.toNatClampNeg := fun z => by
          have z2 := a.2
          rw [z, t2.2] at z2
          exact nI_ne_m1 (by omega) z2.symm
        unfold upd; rw [if_neg b2, if_neg b1]; exact a.2
  · dsimp only
    have old : ¬ c = (cm k).toNatClampNeg → (¬ to = -1 → ¬ c = to.toNatClampNeg) → win c = -1 ∨ ∃ j, j < n ∧ upd cm k to j = nI c ∧ win c = nI j := by
      intro q1 _
      rcases h4 c hc48 with z | ⟨j, j1, j2, j3⟩
      · exact Or.inl z
      · refine Or.inr ⟨j, j1, ?_, j3⟩
        unfold upd
        rw [if_neg (fun z => q1 (by rw [← z, j2]; exact (nI_clamp (by omega)).symm))]
        exact j2
    rcases m1 with t | t
    · rw [if_pos t]
      by_cases q1 : c = (cm k).toNatClampNeg
      · left; unfold upd; rw [if_pos q1]
      · have o := old q1 (fun z => absurd t z)
        rw [show upd win (cm k).toNatClampNeg (-1) c = win c from by unfold upd; rw [if_neg q1]]
        exact o
    · rw [if_neg t]
      have t2 := hto.resolve_left t
      by_cases q2 : c = to.toNatClampNeg
      · right
        refine ⟨k, hk, ?_, ?_⟩
        · rw [upd_at, q2]; exact (uK_ix (n := 48) t2.1).1
        · unfold upd; rw [if_pos q2]
      · by_cases q1 : c = (cm k).toNatClampNeg
        · left; unfold upd; rw [if_neg q2, if_pos q1]
        · have o := old q1 (fun _ => q2)
          rw [show upd (upd win (cm k).toNatClampNeg (-1)) to.toNatClampNeg (nI k) c = win c from by unfold upd; rw [if_neg q2, if_neg q1]]
          exact o
