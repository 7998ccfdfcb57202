/-! doubles: no NaN comes of our divisions -/
theorem nn64 {x : UInt64} (h : Jvm.FP.Core.val64 x ≠ Jvm.FP.Core.Datum.nan) : vf_n64 x := by
  unfold vf_n64
  rw [UInt64.le_iff_toNat_le, UInt64.toNat_and]
  have e1 : (0x7fffffffffffffff : UInt64).toNat = 2 ^ 63 - 1 := by decide
  have e2 : (0x7ff0000000000000 : UInt64).toNat = 2047 * 2 ^ 52 := by decide
  rw [e1, e2, Nat.and_two_pow_sub_one_eq_mod]
  refine Nat.le_of_not_lt (fun hlt => h ?_)
  unfold Jvm.FP.Core.val64 Jvm.FP.Core.decode
  have f1 : Jvm.FP.Core.fieldE Jvm.FP.Core.b64 x.toNat = x.toNat / 2 ^ 52 % 2 ^ 11 := rfl
  have f2 : Jvm.FP.Core.fieldT Jvm.FP.Core.b64 x.toNat = x.toNat % 2 ^ 52 := rfl
  have f3 : Jvm.FP.Core.b64.exps = 2 ^ 11 := rfl
  rw [f1, f2, f3]
  have h1 : x.toNat / 2 ^ 52 % 2 ^ 11 = 2 ^ 11 - 1 := by omega
  have h2 : ¬ x.toNat % 2 ^ 52 = 0 := by omega
  rw [if_pos h1, if_neg h2]
theorem rr_nn (f : Jvm.FP.Core.Fmt) (s : Bool) (a b : Nat) (e : Int) : Jvm.FP.Core.roundRatio f s a b e ≠ Jvm.FP.Core.Datum.nan := by
  unfold Jvm.FP.Core.roundRatio
  split
  · exact fun h => by cases h
  · unfold Jvm.FP.Core.roundAt Jvm.FP.Core.settle Jvm.FP.Core.bound
    split <;> split <;> exact fun h => by cases h
theorem rn_nn (f : Jvm.FP.Core.Fmt) {d : Jvm.FP.Core.Datum} (h : d ≠ Jvm.FP.Core.Datum.nan) : Jvm.FP.Core.round f d ≠ Jvm.FP.Core.Datum.nan := by
  cases d with
  | nan => exact absurd rfl h
  | inf s => exact fun h => by cases h
  | fin s c q => exact rr_nn f s c 1 q
/-- a whole number of 64 digits at most becomes a number, zero if it is zero alone -/
theorem whole_fin {i : Int} (hi : i.natAbs < 2 ^ 64) : ∃ s c q, Jvm.FP.Core.round Jvm.FP.Core.b64 (Jvm.FP.Core.ofInt i) = .fin s c q ∧ (i ≠ 0 → c ≠ 0) := by
  have hfit := Jvm.FP.Core.round_fits Jvm.FP.Core.good_b64 (Jvm.FP.Core.ofInt i)
  unfold Jvm.FP.Core.ofInt at hfit ⊢
  show ∃ s c q, Jvm.FP.Core.roundRatio Jvm.FP.Core.b64 (decide (i < 0)) i.natAbs 1 0 = .fin s c q ∧ (i ≠ 0 → c ≠ 0)
  have hfit2 : Jvm.FP.Core.fits Jvm.FP.Core.b64 (Jvm.FP.Core.roundRatio Jvm.FP.Core.b64 (decide (i < 0)) i.natAbs 1 0) := hfit
  by_cases h0 : i.natAbs = 0
  · refine ⟨decide (i < 0), 0, Jvm.FP.Core.b64.qmin, ?_, fun h => absurd (Int.natAbs_eq_zero.mp h0) h⟩
    unfold Jvm.FP.Core.roundRatio
    rw [if_pos h0]
  · have hl : i.natAbs.log2 < 64 := (Nat.log2_lt h0).mpr hi
    have hq : Jvm.FP.Core.quantum Jvm.FP.Core.b64 i.natAbs 1 0 ≤ 12 ∧ Jvm.FP.Core.b64.qmin < Jvm.FP.Core.quantum Jvm.FP.Core.b64 i.natAbs 1 0 := by
      unfold Jvm.FP.Core.quantum Jvm.FP.Core.leading
      have e0 : Jvm.FP.Core.b64.qmin = -1074 := by decide
      have e1 : (Jvm.FP.Core.b64.p : Int) = 53 := by decide
      have e2 : Nat.log2 1 = 0 := by decide
      rw [e0, e1, e2]
      dsimp only
      split <;> omega
    have hm : Jvm.FP.Core.b64.qmax = 971 := by decide
    have ht : 0 < Jvm.FP.Core.b64.tails := Jvm.FP.Core.tails_pos Jvm.FP.Core.b64
    unfold Jvm.FP.Core.roundRatio at hfit2 ⊢
    rw [if_neg h0] at hfit2 ⊢
    unfold Jvm.FP.Core.roundAt Jvm.FP.Core.settle Jvm.FP.Core.bound at hfit2 ⊢
    by_cases h1 : Jvm.FP.Core.nearest (Jvm.FP.Core.unitsNum i.natAbs 0 (Jvm.FP.Core.quantum Jvm.FP.Core.b64 i.natAbs 1 0)) (Jvm.FP.Core.unitsDen 1 0 (Jvm.FP.Core.quantum Jvm.FP.Core.b64 i.natAbs 1 0)) < 2 ^ Jvm.FP.Core.b64.p
    · have h2 : Jvm.FP.Core.quantum Jvm.FP.Core.b64 i.natAbs 1 0 ≤ Jvm.FP.Core.b64.qmax := by omega
      rw [if_pos h1, if_pos h2] at hfit2 ⊢
      refine ⟨_, _, _, rfl, fun _ => ?_⟩
      have h3 := hfit2.2.2.2
      omega
    · have h2 : Jvm.FP.Core.quantum Jvm.FP.Core.b64 i.natAbs 1 0 + 1 ≤ Jvm.FP.Core.b64.qmax := by omega
      rw [if_neg h1, if_pos h2] at hfit2 ⊢
      exact ⟨_, _, _, rfl, fun _ => by omega⟩
theorem l2d_fin (a : Int64) : ∃ s c q, Jvm.FP.Core.val64 (FP.l2d a) = .fin s c q ∧ (a ≠ 0 → c ≠ 0) := by
  obtain ⟨s, c, q, h1, h2⟩ := whole_fin (i := a.toInt) (by have := Int64.toInt_lt a; have := Int64.le_toInt a; omega)
  refine ⟨s, c, q, (Jvm.FP.Core.val64_l2d a).trans h1, fun h => h2 (fun h3 => h (Int64.toInt_inj.mp (by rw [h3]; rfl)))⟩
theorem i2d_fin (a : Int32) : ∃ s c q, Jvm.FP.Core.val64 (FP.i2d a) = .fin s c q ∧ (a ≠ 0 → c ≠ 0) := by
  obtain ⟨s, c, q, h1, h2⟩ := whole_fin (i := a.toInt) (by have := Int32.toInt_lt a; have := Int32.le_toInt a; omega)
  refine ⟨s, c, q, (Jvm.FP.Core.val64_i2d a).trans h1, fun h => h2 (fun h3 => h (Int32.toInt_inj.mp (by rw [h3]; rfl)))⟩
theorem div_nn {x y : UInt64} {s c q t d r} (hx : Jvm.FP.Core.val64 x = .fin s c q) (hy : Jvm.FP.Core.val64 y = .fin t d r) (hd : d ≠ 0) : Jvm.FP.Core.val64 (FP.ddiv x y) ≠ Jvm.FP.Core.Datum.nan := by
  rw [show Jvm.FP.Core.val64 (FP.ddiv x y) = _ from Jvm.FP.Core.val64_ddiv x y, hx, hy]
  show (if d = 0 then (if c = 0 then _ else _) else Jvm.FP.Core.roundRatio Jvm.FP.Core.b64 _ _ _ _) ≠ Jvm.FP.Core.Datum.nan
  rw [if_neg hd]
  exact rr_nn _ _ _ _ _
theorem div_nn2 {x y : UInt64} {s c q} (hx : Jvm.FP.Core.val64 x = .fin s c q) (hc : c ≠ 0) (hy : Jvm.FP.Core.val64 y ≠ Jvm.FP.Core.Datum.nan) : Jvm.FP.Core.val64 (FP.ddiv x y) ≠ Jvm.FP.Core.Datum.nan := by
  rw [show Jvm.FP.Core.val64 (FP.ddiv x y) = _ from Jvm.FP.Core.val64_ddiv x y, hx]
  cases hv : Jvm.FP.Core.val64 y with
  | nan => exact absurd hv hy
  | inf t => exact fun h => by cases h
  | fin t d r =>
    show (if d = 0 then (if c = 0 then Jvm.FP.Core.Datum.nan else Jvm.FP.Core.Datum.inf _) else Jvm.FP.Core.roundRatio Jvm.FP.Core.b64 _ _ _ _) ≠ Jvm.FP.Core.Datum.nan
    by_cases hd : d = 0
    · rw [if_pos hd, if_neg hc]; exact fun h => by cases h
    · rw [if_neg hd]; exact rr_nn _ _ _ _ _
theorem sq_nn {x : UInt64} (hx : Jvm.FP.Core.val64 x ≠ Jvm.FP.Core.Datum.nan) : Jvm.FP.Core.val64 (FP.dmul x x) ≠ Jvm.FP.Core.Datum.nan := by
  rw [show Jvm.FP.Core.val64 (FP.dmul x x) = _ from Jvm.FP.Core.val64_dmul x x]
  refine rn_nn _ ?_
  cases hv : Jvm.FP.Core.val64 x with
  | nan => exact absurd hv hx
  | inf t => exact fun h => by cases h
  | fin t d r => exact fun h => by cases h
theorem sub_nn {x y : UInt64} {s c q} (hx : Jvm.FP.Core.val64 x = .fin s c q) (hy : Jvm.FP.Core.val64 y ≠ Jvm.FP.Core.Datum.nan) : Jvm.FP.Core.val64 (FP.dsub x y) ≠ Jvm.FP.Core.Datum.nan := by
  rw [show Jvm.FP.Core.val64 (FP.dsub x y) = _ from Jvm.FP.Core.val64_dsub x y, hx]
  refine rn_nn _ ?_
  cases hv : Jvm.FP.Core.val64 y with
  | nan => exact absurd hv hy
  | inf t => exact fun h => by cases h
  | fin t d r => exact fun h => by cases h
theorem sOK_all {cr : Int32} (hc : ¬ cr = 0) (te : Int32) : sOK cr te := by
  obtain ⟨s, c, q, h1, -⟩ := i2d_fin te
  obtain ⟨t, d, r, h2, h3⟩ := i2d_fin cr
  have kx : Jvm.FP.Core.val64 (sX cr te) ≠ Jvm.FP.Core.Datum.nan := div_nn h1 h2 (h3 hc)
  have ky : Jvm.FP.Core.val64 (sY cr te) ≠ Jvm.FP.Core.Datum.nan := sq_nn kx
  have kyy : Jvm.FP.Core.val64 (sYY cr te) ≠ Jvm.FP.Core.Datum.nan := sq_nn ky
  have k1 : Jvm.FP.Core.val64 FP.dconst1 = .fin false (2 ^ 52) (-52) := by decide +kernel
  have kz : Jvm.FP.Core.val64 (sZ cr te) ≠ Jvm.FP.Core.Datum.nan := sub_nn k1 kyy
  have k100 : Jvm.FP.Core.val64 4636737291354636288 = .fin false 7036874417766400 (-46) := by decide +kernel
  exact ⟨nn64 kx, nn64 ky, nn64 kyy, nn64 kz, nn64 (div_nn2 k100 (by decide) kz)⟩
theorem share_nn (a : Int64) {b : Int64} (hb : ¬ b = 0) : vf_n64 (FP.ddiv (FP.l2d a) (FP.l2d b)) := by
  obtain ⟨s, c, q, h1, -⟩ := l2d_fin a
  obtain ⟨t, d, r, h2, h3⟩ := l2d_fin b
  exact nn64 (div_nn h1 h2 (h3 hb))
