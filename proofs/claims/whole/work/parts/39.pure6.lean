theorem mBt_free {cel dep win : Nat → Int32} {dr w : Int32} {n : Nat} : ∀ k, k ≤ 6 → ¬ mBt cel dep win dr w n k = -1 → win (mBt cel dep win dr w n k).toNatClampNeg = -1 := by
  intro k
  induction k with
  | zero => exact fun _ h => absurd rfl h
  | succ k ih =>
    intro hk
    have ih := ih (by omega)
    have e8 : (nI (8 * k)).toNatClampNeg = 8 * k := nI_clamp (by omega)
    unfold mBt
    by_cases h1 : win (8 * k) = -1
    · rw [if_pos h1]
      by_cases h2 : mBt cel dep win dr w n k = -1
      · rw [if_pos h2, e8]; exact fun _ => h1
      · rw [if_neg h2]
        by_cases h3 : mEn cel dep dr w n (mBt cel dep win dr w n k) ≤ mEn cel dep dr w n (nI (8 * k))
        · rw [if_pos h3]; exact ih
        · rw [if_neg h3, e8]; exact fun _ => h1
    · rw [if_neg h1]; exact ih
theorem filR_enter {n : Nat} {cx cm win : Nat → Int32} {b : Int32} (h : filR n cx cm win) (hn : n < 20) (hb : ¬ uK b 48) (hw : win b.toNatClampNeg = -1) : filR (n + 1) (upd cx n b) (upd cm n b) (upd win b.toNatClampNeg (nI n)) := by
  obtain ⟨-, h1, h2, h3, h4⟩ := h
  refine ⟨by omega, fun j hj => ?_, fun j hj hj2 => ?_, fun j hj hj1 => ?_, fun c hc48 => ?_⟩
  · unfold upd
    by_cases q : j = n
    · rw [if_pos q, if_pos q]
    · rw [if_neg q, if_neg q]; exact h1 j (by omega)
  · unfold upd
    rw [if_neg (by omega)]
    exact h2 j (by omega) hj2
  · by_cases q : j = n
    · subst q
      rw [upd_at] at hj1 ⊢
      exact ⟨hb, upd_at⟩
    · have e : upd cm n b j = cm j := by unfold upd; rw [if_neg q]
      rw [e] at hj1 ⊢
      have a := h3 j (by omega) hj1
      refine ⟨a.1, ?_⟩
      have b2 : ¬ (cm j).toNatClampNeg = b.toNatClampNeg := fun z => by
        have z2 := a.2
        rw [z, hw] at z2
        exact nI_ne_m1 (by omega) z2.symm
      unfold upd; rw [if_neg b2]; exact a.2
  · by_cases q : c = b.toNatClampNeg
    · right
      refine ⟨n, by omega, ?_, ?_⟩
      · rw [upd_at, q]; exact (uK_ix (n := 48) hb).1
      · unfold upd; rw [if_pos q]
    · have e : upd win b.toNatClampNeg (nI n) c = win c := by unfold upd; rw [if_neg q]
      rw [e]
      rcases h4 c hc48 with z | ⟨j, j1, j2, j3⟩
      · exact Or.inl z
      · refine Or.inr ⟨j, by omega, ?_, j3⟩
        unfold upd
        rw [if_neg (by omega)]
        exact j2
/-- the counter: a count below its turn stays so -/
theorem kTake_eq {lo up be bi : Int32} {k : Nat} (hk : k < 65536) : kTake lo up (nI k) be bi = mTake lo up (nI k) be bi ∧ ∃ j, j < 65536 ∧ kTake lo up (nI k) be bi = nI j := by
  have e0 : jrem (nI k + 0) 65536 = nI k := by
    rw [Int32.add_zero]
    have q := pk_rem (a := k) (d := 65536) (by omega) (by decide) (by decide)
    rw [Nat.mod_eq_of_lt hk] at q
    exact q
  have ej : ∀ m, m < 3 → jrem (nI k + nI m) 65536 = nI ((k + m) % 65536) := by
    intro m hm
    rw [nI_add]
    exact pk_rem (a := k + m) (d := 65536) (by omega) (by decide) (by decide)
  unfold kTake mTake
  by_cases h1 : be < 5
  · rw [if_pos h1, if_pos h1, e0]; exact ⟨rfl, k, hk, rfl⟩
  · rw [if_neg h1, if_neg h1]
    by_cases h2 : bi < lo
    · rw [if_pos h2, if_neg (Int32.not_le.mpr h2), e0]; exact ⟨rfl, k, hk, rfl⟩
    · rw [if_neg h2, if_pos (Int32.not_lt.mp h2)]
      refine ⟨rfl, ?_⟩
      by_cases h3 : bi ≤ up
      · rw [if_pos h3]; exact ⟨_, Nat.mod_lt _ (by decide), ej 1 (by decide)⟩
      · rw [if_neg h3]; exact ⟨_, Nat.mod_lt _ (by decide), ej 2 (by decide)⟩
