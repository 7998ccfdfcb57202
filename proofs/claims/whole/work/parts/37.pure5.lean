def mAv (dep : Nat → Int32) (dr he : Int32) (n : Nat) (win cm : Nat → Int32) : Nat → (((Nat → Int32) × (Nat → Int32)) × Int32) × Int32
  | 0 => (((win, cm), 0), 1)
  | k + 1 => if (mAv dep dr he n win cm k).2 ≤ 0 then mAv dep dr he n win cm k else (((mSt dep dr he n (mAv dep dr he n win cm k).1.1.1 (mAv dep dr he n win cm k).1.1.2 n).1, (mAv dep dr he n win cm k).1.2 + (mSt dep dr he n (mAv dep dr he n win cm k).1.1.1 (mAv dep dr he n win cm k).1.1.2 n).2), (mSt dep dr he n (mAv dep dr he n win cm k).1.1.1 (mAv dep dr he n win cm k).1.1.2 n).2)
section MAv
variable {dep : Nat → Int32} {dr he : Int32} {n : Nat} {win cm : Nat → Int32} {k : Nat}
theorem mAv_no (h : (mAv dep dr he n win cm k).2 ≤ 0) : mAv dep dr he n win cm (k + 1) = mAv dep dr he n win cm k := by
  show (if (mAv dep dr he n win cm k).2 ≤ 0 then _ else _) = _
  rw [if_pos h]
theorem mAv_go (h : ¬ (mAv dep dr he n win cm k).2 ≤ 0) : mAv dep dr he n win cm (k + 1) = (((mSt dep dr he n (mAv dep dr he n win cm k).1.1.1 (mAv dep dr he n win cm k).1.1.2 n).1, (mAv dep dr he n win cm k).1.2 + (mSt dep dr he n (mAv dep dr he n win cm k).1.1.1 (mAv dep dr he n win cm k).1.1.2 n).2), (mSt dep dr he n (mAv dep dr he n win cm k).1.1.1 (mAv dep dr he n win cm k).1.1.2 n).2) := by
  show (if (mAv dep dr he n win cm k).2 ≤ 0 then _ else _) = _
  rw [if_neg h]
theorem mAv_stop (h : (mAv dep dr he n win cm k).2 ≤ 0) : ∀ j, k ≤ j → mAv dep dr he n win cm j = mAv dep dr he n win cm k := by
  intro j hj
  induction j with
  | zero => rw [show k = 0 by omega]
  | succ j ih =>
    rcases Nat.lt_or_ge j k with q | q
    · rw [show k = j + 1 by omega]
    · have e := ih q
      rw [mAv_no (by rw [e]; exact h), e]
theorem mSt_cnt : ∀ k, ∃ c, c ≤ k ∧ (mSt dep dr he n win cm k).2 = nI c := by
  intro k
  induction k with
  | zero => exact ⟨0, Nat.le_refl _, rfl⟩
  | succ k ih =>
    obtain ⟨c, h1, h2⟩ := ih
    unfold mSt
    generalize mSt dep dr he n win cm k = M at h2 ⊢
    by_cases a1 : M.1.2 k = -1
    · rw [if_pos a1]; exact ⟨c, by omega, h2⟩
    · rw [if_neg a1]
      by_cases a2 : mLeave M.1.2 dep dr he (nI k) = 0
      · rw [if_pos a2]
        by_cases a3 : mGoal M.1.2 dep M.1.1 dr he (nI k) n (M.1.2 k) = -1
        · rw [if_pos a3]; exact ⟨c, by omega, h2⟩
        · rw [if_neg a3]; exact ⟨c + 1, by omega, by dsimp only; rw [h2, nI_1]⟩
      · rw [if_neg a2]; exact ⟨c + 1, by omega, by dsimp only; rw [h2, nI_1]⟩
theorem cnt_0 {x : Int32} {c : Nat} (h : x = nI c) (hc : c < 2 ^ 31) : x = 0 ↔ x ≤ 0 := by
  subst h
  rw [show (0 : Int32) = nI 0 from rfl, nI_eq hc (by omega), nI_leI hc (by omega)]
  omega
end MAv
theorem av_key {n : Nat} {S : (Nat → Int32) × Int32} {M : ((Nat → Int32) × (Nat → Int32)) × Int32} {a b : Int32} {X : ((Nat → Int32) × Int32) × Bool} {Y : (((Nat → Int32) × (Nat → Int32)) × Int32) × Int32} (h1 : filR n S.1 M.1.2 M.1.1) (h2 : S.2 = M.2) (hz : M.2 = 0 ↔ M.2 ≤ 0) (hab : a = b) (x1 : S.2 = 0 → X = ((S.1, a), true)) (x2 : ¬ S.2 = 0 → X = ((S.1, a + S.2), false)) (y1 : Y = ((M.1, b + M.2), M.2)) : filR n X.1.1 Y.1.1.2 Y.1.1.1 ∧ X.1.2 = Y.1.2 ∧ (X.2 = true ↔ Y.2 ≤ 0) := by
  subst y1
  by_cases h3 : S.2 = 0
  · have e := x1 h3
    subst e
    refine ⟨h1, ?_, ⟨fun _ => hz.mp (by rw [← h2]; exact h3), fun _ => rfl⟩⟩
    show a = b + M.2
    rw [← h2, h3, Int32.add_zero, hab]
  · have e := x2 h3
    subst e
    refine ⟨h1, ?_, ⟨fun q => absurd q Bool.false_ne_true, fun q => absurd (h2.trans (hz.mpr q)) h3⟩⟩
    show a + S.2 = b + M.2
    rw [h2, hab]
/-- an avalanche: the same cells, the same sum -/
theorem film_av {n : Nat} {cx cm win dep : Nat → Int32} {dr he : Int32} (h : filR n cx cm win) : ∀ k, filR n (fAv cx dep dr he k).1.1 (mAv dep dr he n win cm k).1.1.2 (mAv dep dr he n win cm k).1.1.1 ∧ (fAv cx dep dr he k).1.2 = (mAv dep dr he n win cm k).1.2 ∧ ((fAv cx dep dr he k).2 = true ↔ (mAv dep dr he n win cm k).2 ≤ 0) := by
  intro k
  induction k with
  | zero => exact ⟨h, rfl, ⟨fun q => absurd q Bool.false_ne_true, fun q => absurd (show (1 : Int32) ≤ 0 from q) (by decide)⟩⟩
  | succ k ih =>
    obtain ⟨hR, hs, hb⟩ := ih
    by_cases h1 : (mAv dep dr he n win cm k).2 ≤ 0
    · rw [mAv_no h1, fAv_stop (hb.mpr h1) (k + 1) (by omega)]
      exact ⟨hR, hs, hb⟩
    · have h2 : (fAv cx dep dr he k).2 = false := by
        cases q : (fAv cx dep dr he k).2 with
        | false => rfl
        | true => exact absurd (hb.mp q) h1
      have st := film_step (dep := dep) (dr := dr) (he := he) hR
      obtain ⟨c, c1, c2⟩ := mSt_cnt (dep := dep) (dr := dr) (he := he) (n := n) (win := (mAv dep dr he n win cm k).1.1.1) (cm := (mAv dep dr he n win cm k).1.1.2) n
      have hn := h.1
      have hz := cnt_0 c2 (by omega)
      exact av_key st.1 st.2 hz hs (fAv_end h2) (fAv_go h2) (mAv_go h1)
