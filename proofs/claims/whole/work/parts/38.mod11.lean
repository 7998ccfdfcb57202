theorem mAv_ok {dep : Nat → Int32} {dr he : Int32} {n : Nat} {win cm : Nat → Int32} (hn : n ≤ 20) (h : ∀ j, ¬ cm j = -1 → ¬ uK (cm j) 48) : ∀ k j, ¬ (mAv dep dr he n win cm k).1.1.2 j = -1 → ¬ uK ((mAv dep dr he n win cm k).1.1.2 j) 48 := by
  intro k
  induction k with
  | zero => exact h
  | succ k ih =>
    by_cases h1 : (mAv dep dr he n win cm k).2 ≤ 0
    · rw [mAv_no h1]; exact ih
    · have e := mAv_go h1
      have ok := mSt_ok (dep := dep) (dr := dr) (he := he) (n := n) (win := (mAv dep dr he n win cm k).1.1.1) ih n (by omega)
      generalize mAv dep dr he n win cm (k + 1) = Y at e ⊢
      subst e
      exact ok
theorem mAv_g4 {dep : Nat → Int32} {dr he : Int32} {n : Nat} {win cm : Nat → Int32} {k : Nat} (h : ¬ (mAv dep dr he n win cm k).2 ≤ 0) : (mAv dep dr he n win cm (k + 1)).1.1.1 = (mSt dep dr he n (mAv dep dr he n win cm k).1.1.1 (mAv dep dr he n win cm k).1.1.2 n).1.1 ∧ (mAv dep dr he n win cm (k + 1)).1.1.2 = (mSt dep dr he n (mAv dep dr he n win cm k).1.1.1 (mAv dep dr he n win cm k).1.1.2 n).1.2 ∧ (mAv dep dr he n win cm (k + 1)).2 = (mSt dep dr he n (mAv dep dr he n win cm k).1.1.1 (mAv dep dr he n win cm k).1.1.2 n).2 ∧ (mAv dep dr he n win cm (k + 1)).1.2 = (mAv dep dr he n win cm k).1.2 + (mSt dep dr he n (mAv dep dr he n win cm k).1.1.1 (mAv dep dr he n win cm k).1.1.2 n).2 := by
  have e := mAv_go h
  generalize mAv dep dr he n win cm (k + 1) = Y at e ⊢
  subst e
  refine ⟨?_, ?_, ?_, ?_⟩ <;> dsimp only
theorem mAv_e4 {dep : Nat → Int32} {dr he : Int32} {n : Nat} {win cm : Nat → Int32} {k : Nat} (hk : k ≤ 60) (h : (mAv dep dr he n win cm k).2 ≤ 0) : (mAv dep dr he n win cm 60).1.1.1 = (mAv dep dr he n win cm k).1.1.1 ∧ (mAv dep dr he n win cm 60).1.1.2 = (mAv dep dr he n win cm k).1.1.2 ∧ (mAv dep dr he n win cm 60).1.2 = (mAv dep dr he n win cm k).1.2 := by
  have e := mAv_stop h 60 hk
  generalize mAv dep dr he n win cm 60 = Y at e ⊢
  subst e
  exact ⟨rfl, rfl, rfl⟩
theorem metX8_avalanche (l : Launch) (G : va_G) (tys : List (ClassId × FieldType)) {cI : ClassId} (htI : tI tys cI) {A : Nat → Prop} (ws : va_W) {am : Nat} {ad : Nat → Nat} {z : Nat → Int32} {wi dm : Int64} {F : Nat → Nat → Int32} (hm : ws[12]? = some (am, .inr (9, mF ad z wi dm))) (hA18 : ws[18]? = some (ad 18, .inl (cI, 48, .inl (F 18)))) (hA19 : ws[19]? = some (ad 19, .inl (cI, 48, .inl (F 19)))) (hA20 : ws[20]? = some (ad 20, .inl (cI, 20, .inl (F 20)))) {nW : Nat} (hnW : z 9 = nI nW) (hW20 : nW ≤ 20) (hce : ∀ j, ¬ F 20 j = -1 → ¬ uK (F 20 j) 48) : Met l yX8_avalanche wsX8_avalanche ({ frames := 4, cells := 0, slots := 0, locals := 95 }) (pcM G tys ws A [.ref am]) (va_Qi (fun (r : Int32) (_ : Unit) => r = (mAv (F 18) (z 11) (z 12) nW (F 19) (F 20) 60).1.2) (fun _ t => va_P G vwCl (((ws.set 12 (am, .inr (9, mF ad (upd z 0 0) wi dm))).set 19 (ad 19, .inl (cI, 48, .inl ((mAv (F 18) (z 11) (z 12) nW (F 19) (F 20) 60).1.1.1)))).set 20 (ad 20, .inl (cI, 20, .inl ((mAv (F 18) (z 11) (z 12) nW (F 19) (F 20) 60).1.1.2)))) t.heap ∧ va_D A (((ws.set 12 (am, .inr (9, mF ad (upd z 0 0) wi dm))).set 19 (ad 19, .inl (cI, 48, .inl ((mAv (F 18) (z 11) (z 12) nW (F 19) (F 20) 60).1.1.1)))).set 20 (ad 20, .inl (cI, 20, .inl ((mAv (F 18) (z 11) (z 12) nW (F 19) (F 20) 60).1.1.2))))) A) 0 0 A :=
  metX8_avalanche_g l G tys htI ws hm hA18 hA19 hA20 hnW hW20 (stp := fun a b => mSt (F 18) (z 11) (z 12) nW a b nW) (fun _ _ => rfl) (s19 := fun k => (mAv (F 18) (z 11) (z 12) nW (F 19) (F 20) k).1.1.1) (s20 := fun k => (mAv (F 18) (z 11) (z 12) nW (F 19) (F 20) k).1.1.2) (al := fun k => (mAv (F 18) (z 11) (z 12) nW (F 19) (F 20) k).1.2) (nn := fun k => (mAv (F 18) (z 11) (z 12) nW (F 19) (F 20) k).2) rfl rfl rfl rfl (fun k h => mAv_g4 h) (fun k h0 h => mAv_e4 h0 h) (mAv_ok hW20 hce)
