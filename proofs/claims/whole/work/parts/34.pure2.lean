/-- the film's cells, told by the class (cx) and by the reference (cm, win); n whirls have come -/
def filR (n : Nat) (cx cm win : Nat → Int32) : Prop := n ≤ 20 ∧ (∀ k, k < n → cx k = cm k) ∧ (∀ k, n ≤ k → k < 20 → cx k = -1) ∧ (∀ k, k < n → ¬ cm k = -1 → ¬ uK (cm k) 48 ∧ win (cm k).toNatClampNeg = nI k) ∧ ∀ c, c < 48 → win c = -1 ∨ ∃ k, k < n ∧ cm k = nI c ∧ win c = nI k
theorem nI_ne_m1 {k : Nat} (hk : k < 2 ^ 31) : ¬ nI k = -1 := fun h => by
  have e := congrArg Int32.toInt h
  rw [nI_toInt hk, show (-1 : Int32).toInt = -1 from by decide] at e
  omega
theorem fFree_eq {n : Nat} {cx cm win : Nat → Int32} (h : filR n cx cm win) {x : Int32} (hX : ¬ uK x 48) : fFree cx x = 0 ↔ ¬ win x.toNatClampNeg = -1 := by
  obtain ⟨hn, h1, h2, h3, h4⟩ := h
  obtain ⟨e1, e2⟩ := uK_ix (n := 48) hX
  have hx1 : ¬ x = -1 := fun q => hX (by rw [q]; exact Or.inl (by decide))
  have hf : fFree cx x = 0 ↔ fHas cx x 20 = true := by
    unfold fFree
    by_cases q : fHas cx x 20 = true
    · rw [if_pos q]; exact ⟨fun _ => q, fun _ => rfl⟩
    · rw [if_neg q]; exact ⟨fun z => absurd z (by decide), fun z => absurd z q⟩
  rw [hf, fHas_iff]
  constructor
  · rintro ⟨k, k1, k2⟩
    rcases Nat.lt_or_ge k n with q | q
    · have e := h1 k q
      rw [e] at k2
      have h5 := (h3 k q (by rw [k2]; exact hx1)).2
      rw [k2] at h5
      rw [h5]
      exact nI_ne_m1 (by omega)
    · exact absurd (k2.symm.trans (h2 k q k1)) hx1
  · intro hw
    rcases h4 _ e2 with q | ⟨k, k1, k2, k3⟩
    · exact absurd q hw
    · exact ⟨k, by omega, by rw [h1 k k1, k2, ← e1]⟩
section Goals
variable {n : Nat} {cx cm win dep : Nat → Int32} {dr he w x : Int32}
theorem fE_eq (h : filR n cx cm win) (hX : ¬ uK x 48) : fEn cx dep dr w x = mEn cm dep dr w n x := fEn_eq h.1 h.2.1 h.2.2.1 hX
theorem fCb_eq (h : filR n cx cm win) (hX : ¬ uK x 48) : ∀ i, (mGb cm dep win dr w n x i = -1 ∧ fCb cx dep dr w x (mEn cm dep dr w n x) i = (-1, mEn cm dep dr w n x)) ∨ (¬ mGb cm dep win dr w n x i = -1 ∧ ((mEn cm dep dr w n x ≤ mEn cm dep dr w n (mGb cm dep win dr w n x i) ∧ fCb cx dep dr w x (mEn cm dep dr w n x) i = (-1, mEn cm dep dr w n x)) ∨ (¬ mEn cm dep dr w n x ≤ mEn cm dep dr w n (mGb cm dep win dr w n x i) ∧ fCb cx dep dr w x (mEn cm dep dr w n x) i = (mGb cm dep win dr w n x i, mEn cm dep dr w n (mGb cm dep win dr w n x i))))) := by
  intro i
  induction i with
  | zero => exact Or.inl ⟨rfl, rfl⟩
  | succ i ih =>
    unfold mGb fCb
    rw [fBes_eq hX]
    generalize mGb cm dep win dr w n x i = b at ih ⊢
    generalize fCb cx dep dr w x (mEn cm dep dr w n x) i = s at ih ⊢
    by_cases h1 : mBes x (nI i) = -1
    · rw [if_pos h1, if_pos h1]; exact ih
    · have ht := mBes_ok hX h1
      have hf := fFree_eq h ht
      have hE : fEn cx dep dr w (mBes x (nI i)) = mEn cm dep dr w n (mBes x (nI i)) := fE_eq h ht
      rw [if_neg h1, if_neg h1, hE]
      by_cases h2 : win (mBes x (nI i)).toNatClampNeg = -1
      · rw [if_pos h2, if_neg (fun q => (hf.mp q) h2)]
        rcases ih with ⟨b1, s1⟩ | ⟨b1, ⟨b2, s1⟩ | ⟨b2, s1⟩⟩
        · rw [if_pos b1, s1]
          by_cases h3 : mEn cm dep dr w n x ≤ mEn cm dep dr w n (mBes x (nI i))
          · exact Or.inr ⟨h1, Or.inl ⟨h3, by rw [if_pos h3]⟩⟩
          · exact Or.inr ⟨h1, Or.inr ⟨h3, by rw [if_neg h3]⟩⟩
        · rw [if_neg b1, s1]
          by_cases h4 : mEn cm dep dr w n b ≤ mEn cm dep dr w n (mBes x (nI i))
          · rw [if_pos h4]
            exact Or.inr ⟨b1, Or.inl ⟨b2, by rw [if_pos (Int32.le_trans b2 h4)]⟩⟩
          · rw [if_neg h4]
            by_cases h3 : mEn cm dep dr w n x ≤ mEn cm dep dr w n (mBes x (nI i))
            · exact Or.inr ⟨h1, Or.inl ⟨h3, by rw [if_pos h3]⟩⟩
            · exact Or.inr ⟨h1, Or.inr ⟨h3, by rw [if_neg h3]⟩⟩
        · rw [if_neg b1, s1]
          by_cases h4 : mEn cm dep dr w n b ≤ mEn cm dep dr w n (mBes x (nI i))
          · rw [if_pos h4]
            exact Or.inr ⟨b1, Or.inr ⟨b2, by rw [if_pos h4]⟩⟩
          · rw [if_neg h4]
            have h5 : ¬ mEn cm dep dr w n x ≤ mEn cm dep dr w n (mBes x (nI i)) := fun q => b2 (Int32.le_trans q (Int32.le_of_lt (Int32.not_le.mp h4)))
            exact Or.inr ⟨h1, Or.inr ⟨h5, by rw [if_neg h4]⟩⟩
      · rw [if_neg h2, if_pos (hf.mpr h2)]; exact ih
theorem fCreep_eq (h : filR n cx cm win) (hX : ¬ uK x 48) : fCreep cx dep dr he w x (mEn cm dep dr w n x) = mCr cm dep win dr he w n x := by
  have key : ∀ t : Int32, (¬ t = -1 → ¬ uK t 48) → (if t = -1 then (-1 : Int32) else if fFree cx t = 0 then -1 else if he < fEn cx dep dr w t - mEn cm dep dr w n x then -1 else t) = (if t = -1 then -1 else if win t.toNatClampNeg = -1 then (if he < mEn cm dep dr w n t - mEn cm dep dr w n x then -1 else t) else -1) := by
    intro t ht
    by_cases h1 : t = -1
    · rw [if_pos h1, if_pos h1]
    · have ht := ht h1
      have hf := fFree_eq h ht
      rw [if_neg h1, if_neg h1, fE_eq h ht]
      by_cases h2 : win t.toNatClampNeg = -1
      · rw [if_pos h2, if_neg (fun q => (hf.mp q) h2)]
      · rw [if_neg h2, if_pos (hf.mpr h2)]
  unfold fCreep mCr mCt
  by_cases h0 : dr = 0
  · subst h0
    rw [if_pos rfl, if_pos (Int32.le_refl _), if_pos (Int32.le_refl _), if_pos rfl]
  · rw [if_neg h0]
    by_cases h1 : dr ≤ 0
    · have h2 : ¬ 0 ≤ dr := fun q => h0 (Int32.le_antisymm h1 q)
      rw [if_pos h1, if_pos h1, if_neg h2, fBes_eq hX]
      exact key _ (mBes_ok hX)
    · rw [if_neg h1, if_neg h1, fBes_eq hX]
      exact key _ (mBes_ok hX)
theorem fGoal_eq (h : filR n cx cm win) (hX : ¬ uK x 48) : fGoal cx dep dr he w x = mGoal cm dep win dr he w n x := by
  unfold fGoal mGoal
  rw [fE_eq h hX, fCreep_eq h hX]
  rcases fCb_eq (dep := dep) (dr := dr) (w := w) h hX 4 with ⟨b1, s1⟩ | ⟨b1, ⟨b2, s1⟩ | ⟨b2, s1⟩⟩
  · rw [s1, if_pos rfl, if_pos b1]
  · rw [s1, if_pos rfl, if_neg b1, if_pos b2]
  · rw [s1, if_neg b1, if_neg b1, if_neg b2]
end Goals
