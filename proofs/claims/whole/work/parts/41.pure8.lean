theorem cCnt_congr {cur : Int32} {f g : Nat → Int32} {a : Nat} : ∀ k, (∀ j, j < k → f (a + j) = g (a + j)) → cCnt cur f a k = cCnt cur g a k := by
  intro k
  induction k with
  | zero => exact fun _ => rfl
  | succ k ih =>
    intro h
    unfold cCnt
    rw [ih (fun j hj => h j (by omega)), h k (by omega)]
theorem cV4_congr {cur : Int32} {f g : Nat → Int32} (h : ∀ k, k < 12 → f k = g k) {i : Nat} (hi : i < 12) : cV4 cur f i = cV4 cur g i := by
  have h3 : cV3 cur f i = cV3 cur g i := by
    unfold cV3
    rw [h i hi, h (i - 1) (by omega)]
  unfold cV4
  rw [h3]
  by_cases q : 12 ≤ nI i + 1
  · rw [if_pos q, if_pos q]
  · rw [if_neg q, if_neg q]
    have q2 : i + 1 < 12 := by
      rw [nI_1, show (12 : Int32) = nI 12 from rfl, nI_leI (by omega) (by omega)] at q
      omega
    rw [h i hi, h (i + 1) q2]
theorem cSpr_congr {cur : Int32} {f g s t : Nat → Int32} (h : ∀ k, k < 12 → f k = g k) {k : Nat} (hk : k < 12) : cSpr cur f s 12 k = cCp (cSpr cur g t 12) g 12 k := by
  unfold cSpr cCp
  dsimp only
  rw [if_pos hk, if_pos hk, if_pos hk, cV4_congr h hk]
/-- the coil, told by the class and by the reference -/
def coilR (σ τ : cS) : Prop := (∀ k, k < 12 → σ.1 k = τ.1 k) ∧ σ.2.2.1 = τ.2.2.1 ∧ σ.2.2.2.1 = τ.2.2.2.1 ∧ (σ.2.2.2.1 = 0 ∨ σ.2.2.2.1 = 1) ∧ σ.2.2.2.2.1 = τ.2.2.2.2.1 ∧ σ.2.2.2.2.2.1 = τ.2.2.2.2.2.1 ∧ σ.2.2.2.2.2.2 = τ.2.2.2.2.2.2
theorem coil_pul {σ τ : cS} (h : coilR σ τ) : coilR (cPul σ) (mPul τ) := by
  obtain ⟨w1, s1, c1, d1, i1, a1, b1⟩ := σ
  obtain ⟨w2, s2, c2, d2, i2, a2, b2⟩ := τ
  obtain ⟨h1, h2, h3, h4, h5, h6, h7⟩ := h
  dsimp only at h1 h2 h3 h4 h5 h6 h7
  subst h2; subst h3; subst h5; subst h6; subst h7
  unfold cPul mPul coilR
  dsimp only
  generalize hcu : (if d1 = 0 then c1 else cCur c1) = cu
  have hsp : ∀ k, k < 12 → cSpr cu w1 s1 12 k = cCp (cSpr cu w2 s2 12) w2 12 k := fun k hk => cSpr_congr h1 hk
  have hdb : cDoubt cu (cSpr cu w1 s1 12) = cDoubt cu (cCp (cSpr cu w2 s2 12) w2 12) := by
    unfold cDoubt
    rw [cCnt_congr 6 (fun j hj => hsp (0 + j) (by omega)), cCnt_congr 6 (fun j hj => hsp (6 + j) (by omega))]
  have hir : cIr cu i1 (cSpr cu w1 s1 12) = cIr cu i1 (cCp (cSpr cu w2 s2 12) w2 12) := by
    unfold cIr
    rw [hdb]
  have hwr : cWir c1 w1 = cWir c1 w2 := by
    unfold cWir
    rw [cCnt_congr 12 (fun j hj => h1 (0 + j) (by omega))]
  rw [hir, hwr]
  generalize cIr cu i1 (cCp (cSpr cu w2 s2 12) w2 12) = ir
  refine ⟨hsp, rfl, ?_, ?_, rfl, rfl, rfl⟩
  · rcases h4 with h4 | h4
    · rw [h4, if_pos rfl]
    · rw [h4, ite_self, if_neg (show ¬ (1 : Int32) = 0 by decide)]
  · rcases h4 with h4 | h4
    · rw [h4]
      by_cases q : ir < 3
      · rw [if_pos q]; exact Or.inl rfl
      · rw [if_neg q]; exact Or.inr rfl
    · rw [h4, ite_self]; exact Or.inr rfl
theorem coil_it {σ τ : cS} (h : coilR σ τ) : ∀ k, coilR (cIt σ k) (mIt τ k) := by
  intro k
  induction k with
  | zero => exact h
  | succ k ih => exact coil_pul ih
