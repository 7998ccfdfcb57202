-- part 70
/-! THE FILM: one whirl at most in a cell; whirls that left stay away -/
def gd (x : Int32) : Prop := ¬ x < 0 ∧ x ≤ 47
theorem gd_nat {x : Int32} (h : gd x) : ∃ c : Nat, c < 48 ∧ x = nI c := by
  obtain ⟨j, hj, e⟩ := nI_of2 (M := 47) (n := 47) (by decide) h.1 h.2
  exact ⟨j, by omega, e⟩
theorem fBes_gd : ∀ c : Nat, c < 48 → ∀ w : Nat, w < 4 → fBes (nI c) (nI w) = -1 ∨ (¬ fBes (nI c) (nI w) < 0 ∧ fBes (nI c) (nI w) ≤ 47) := by decide +kernel
theorem fCe_gd : ∀ k : Nat, k < 6 → ¬ nI k * 8 < 0 ∧ nI k * 8 ≤ 47 := by decide +kernel
theorem fFree_no {cel : Nat → Int32} {x : Int32} (h : ¬ fFree cel x = 0) : ∀ k, k < 20 → ¬ cel k = x := fun k hk e => h (by
  unfold fFree
  rw [if_pos ((fHas_iff cel x 20).mpr ⟨k, hk, e⟩)])
/-- a place to go to: none, or one in the film where no whirl is -/
def fNew (cel : Nat → Int32) (g : Int32) : Prop := g = -1 ∨ (gd g ∧ ∀ k, k < 20 → ¬ cel k = g)
section FilmOk
variable {cel dep : Nat → Int32} {dr he w x y : Int32} {n : Nat}
theorem fCb_new (hx : gd x) (k : Nat) (hk : k ≤ 4) : fNew cel (fCb cel dep dr w x y k).1 := by
  obtain ⟨c, hc, rfl⟩ := gd_nat hx
  induction k with
  | zero => exact Or.inl rfl
  | succ k ih =>
    have ih := ih (by omega)
    unfold fCb
    by_cases h1 : fBes (nI c) (nI k) = -1
    · rw [if_pos h1]; exact ih
    · rw [if_neg h1]
      by_cases h2 : fFree cel (fBes (nI c) (nI k)) = 0
      · rw [if_pos h2]; exact ih
      · rw [if_neg h2]
        by_cases h3 : (fCb cel dep dr w (nI c) y k).2 ≤ fEn cel dep dr w (fBes (nI c) (nI k))
        · rw [if_pos h3]; exact ih
        · rw [if_neg h3]
          exact Or.inr ⟨(fBes_gd c hc k (by omega)).resolve_left h1, fFree_no h2⟩
theorem fCreep_new (hx : gd x) : fNew cel (fCreep cel dep dr he w x y) := by
  obtain ⟨c, hc, rfl⟩ := gd_nat hx
  have hb : fBes (nI c) (if dr ≤ 0 then 3 else 1) = -1 ∨ (¬ fBes (nI c) (if dr ≤ 0 then 3 else 1) < 0 ∧ fBes (nI c) (if dr ≤ 0 then 3 else 1) ≤ 47) := by
    by_cases h : dr ≤ 0
    · rw [if_pos h]; exact fBes_gd c hc 3 (by decide)
    · rw [if_neg h]; exact fBes_gd c hc 1 (by decide)
  unfold fCreep
  generalize (if dr ≤ 0 then (3 : Int32) else 1) = d at hb ⊢
  by_cases h0 : dr = 0
  · rw [if_pos h0]; exact Or.inl rfl
  · rw [if_neg h0]
    by_cases h1 : fBes (nI c) d = -1
    · rw [if_pos h1]; exact Or.inl rfl
    · rw [if_neg h1]
      by_cases h2 : fFree cel (fBes (nI c) d) = 0
      · rw [if_pos h2]; exact Or.inl rfl
      · rw [if_neg h2]
        by_cases h3 : he < fEn cel dep dr w (fBes (nI c) d) - y
        · rw [if_pos h3]; exact Or.inl rfl
        · rw [if_neg h3]
          exact Or.inr ⟨hb.resolve_left h1, fFree_no h2⟩
theorem fGoal_new (hx : gd x) : fNew cel (fGoal cel dep dr he w x) := by
  unfold fGoal
  by_cases h : (fCb cel dep dr w x (fEn cel dep dr w x) 4).1 = -1
  · rw [if_pos h]; exact fCreep_new hx
  · rw [if_neg h]; exact fCb_new hx 4 (by decide)
theorem fCe_new (k : Nat) (hk : k ≤ 6) : fNew cel (fCe cel dep dr w k).1 := by
  induction k with
  | zero => exact Or.inl rfl
  | succ k ih =>
    have ih := ih (by omega)
    unfold fCe
    by_cases h1 : fFree cel (nI k * 8) = 0
    · rw [if_pos h1]; exact ih
    · rw [if_neg h1]
      have hn : fNew cel (nI k * 8) := Or.inr ⟨fCe_gd k (by omega), fFree_no h1⟩
      by_cases h2 : (fCe cel dep dr w k).1 = -1
      · rw [if_pos h2]; exact hn
      · rw [if_neg h2]
        by_cases h3 : (fCe cel dep dr w k).2 ≤ fEn cel dep dr w (nI k * 8)
        · rw [if_pos h3]; exact ih
        · rw [if_neg h3]; exact hn
/-- n whirls came in: each in the film, or gone; behind n none; no two in one cell -/
def fOK (n : Nat) (cel : Nat → Int32) : Prop := (∀ k, k < 20 → cel k = -1 ∨ gd (cel k)) ∧ (∀ k, n ≤ k → k < 20 → cel k = -1) ∧ ∀ j k, j < 20 → k < 20 → cel j = cel k → ¬ cel j = -1 → j = k
theorem fOK_set {k : Nat} {g : Int32} (h : fOK n cel) (hk : k < 20) (hn : k < n) (hg : fNew cel g) : fOK n (upd cel k g) := by
  obtain ⟨h1, h2, h3⟩ := h
  refine ⟨fun j hj => ?_, fun j h4 hj => ?_, fun i j hi hj e hne => ?_⟩
  · by_cases c : j = k
    · rw [c, upd_at]; exact hg.imp id And.left
    · rw [upd_ne c]; exact h1 j hj
  · rw [upd_ne (by omega)]; exact h2 j h4 hj
  · by_cases c1 : i = k
    · by_cases c2 : j = k
      · omega
      · rw [c1, upd_at, upd_ne c2] at e
        rw [c1, upd_at] at hne
        exact absurd e.symm ((hg.resolve_left hne).2 j hj)
    · by_cases c2 : j = k
      · rw [c2, upd_at, upd_ne c1] at e
        rw [upd_ne c1] at hne
        exact absurd e ((hg.resolve_left (by rw [← e]; exact hne)).2 i hi)
      · rw [upd_ne c1, upd_ne c2] at e
        rw [upd_ne c1] at hne
        exact h3 i j hi hj e hne
theorem fOK_enter {r : Int32} (h : fOK n cel) (hn : n < 20) (hr : fNew cel r) : fOK (n + 1) (upd cel n r) :=
  fOK_set (n := n + 1) ⟨h.1, fun k h1 h2 => h.2.1 k (by omega) h2, h.2.2⟩ hn (by omega) hr
theorem fStep_ok (h : fOK n cel) (k : Nat) (hk : k ≤ 20) : fOK n (fStep cel dep dr he k).1 ∧ (∀ j, j < 20 → cel j = -1 → (fStep cel dep dr he k).1 j = -1) ∧ ∃ m : Nat, m ≤ k ∧ (fStep cel dep dr he k).2 = nI m := by
  induction k with
  | zero => exact ⟨h, fun _ _ e => e, 0, Nat.le_refl 0, rfl⟩
  | succ k ih =>
    obtain ⟨i1, i2, m, hm, i3⟩ := ih (by omega)
    unfold fStep
    by_cases c1 : (fStep cel dep dr he k).1 k = -1
    · rw [if_pos c1]; exact ⟨i1, i2, m, by omega, i3⟩
    · rw [if_neg c1]
      have hkn : k < n := Nat.lt_of_not_le (fun q => c1 (i1.2.1 k q (by omega)))
      have hck : ¬ cel k = -1 := fun q => c1 (i2 k (by omega) q)
      have key : ∀ g, fNew (fStep cel dep dr he k).1 g → fOK n (upd (fStep cel dep dr he k).1 k g) ∧ (∀ j, j < 20 → cel j = -1 → upd (fStep cel dep dr he k).1 k g j = -1) ∧ ∃ m : Nat, m ≤ k + 1 ∧ (fStep cel dep dr he k).2 + 1 = nI m := fun g hg =>
        ⟨fOK_set i1 (by omega) hkn hg, fun j hj e => by rw [upd_ne (fun q => hck (by rw [← q]; exact e))]; exact i2 j hj e, m + 1, by omega, by rw [i3]; exact nI_1 m⟩
      by_cases c2 : fLeave dep dr he ((fStep cel dep dr he k).1 k) = 0
      · rw [if_pos c2]
        by_cases c3 : fGoal (fStep cel dep dr he k).1 dep dr he (nI k) ((fStep cel dep dr he k).1 k) = -1
        · rw [if_pos c3]; exact ⟨i1, i2, m, by omega, i3⟩
        · rw [if_neg c3]; exact key _ (fGoal_new ((i1.1 k (by omega)).resolve_left c1))
      · rw [if_neg c2]; exact key _ (Or.inl rfl)
theorem fAv_ok (h : fOK n cel) (k : Nat) : fOK n (fAv cel dep dr he k).1.1 ∧ (∀ j, j < 20 → cel j = -1 → (fAv cel dep dr he k).1.1 j = -1) ∧ ∃ m : Nat, m ≤ 20 * k ∧ (fAv cel dep dr he k).1.2 = nI m := by
  induction k with
  | zero => exact ⟨h, fun _ _ e => e, 0, by omega, rfl⟩
  | succ k ih =>
    obtain ⟨i1, i2, m, hm, i3⟩ := ih
    obtain ⟨s1, s2, m2, hm2, s3⟩ := fStep_ok (dep := dep) (dr := dr) (he := he) i1 20 (Nat.le_refl 20)
    unfold fAv
    generalize fStep (fAv cel dep dr he k).1.1 dep dr he 20 = st at s1 s2 s3 ⊢
    by_cases c1 : (fAv cel dep dr he k).2 = true
    · rw [if_pos c1]; exact ⟨i1, i2, m, by omega, i3⟩
    · rw [if_neg c1]
      by_cases c2 : st.2 = 0
      · rw [if_pos c2]; exact ⟨s1, fun j hj e => s2 j hj (i2 j hj e), m, by omega, i3⟩
      · rw [if_neg c2]
        refine ⟨s1, fun j hj e => s2 j hj (i2 j hj e), m + m2, by omega, ?_⟩
        show (fAv cel dep dr he k).1.2 + st.2 = nI (m + m2)
        rw [i3, s3]
        exact nI_add m m2
end FilmOk
-- part 71
/-! THE PROPERTY'S STATE: what the object and the law's rows hold, by groups; own: to which group a place of the world belongs -/
def kpt (j : Nat) (own own2 : Nat → Nat) (ws w2 : va_W) : Prop := ∀ q x, own q = j → ws[q]? = some x → w2[q]? = some x ∧ own2 q = j
theorem chg.kpt {own own2 : Nat → Nat} {g : Nat} {ws w2 : va_W} (h : chg own own2 g ws w2) {j : Nat} (hj : j ≠ g) : kpt j own own2 ws w2 := fun q x h1 h2 => by
  obtain ⟨h3, h4⟩ := h q x (by rw [h1]; exact hj) h2
  exact ⟨h3, h4.trans h1⟩
section Inv30
variable {cI cO : ClassId} {tE : Nat} {ad : Nat → Nat} {own own2 : Nat → Nat} {ws w2 : va_W} {P M V S T cel ct cf co ca : Nat → Int32} {wd : Nat → Nat → Int32} {n np nc : Nat} {ind cr num cur du : Int32} {wi dm : Int64}
def iV (ad own : Nat → Nat) (ws : va_W) : Prop := ws[0]? = some (ad 0, .inr (7, [.ref (ad 1), .ref (ad 2), .ref (ad 5), .ref (ad 6), .ref (ad 9), .ref (ad 10), .ref (ad 11)])) ∧ own 0 = 8
/-- the law's five rows -/
def iL (cI : ClassId) (ad own : Nat → Nat) (ws : va_W) (P M V S T : Nat → Int32) : Prop := (ws[12]? = some (ad 12, .inl (cI, 60, .inl P)) ∧ own 12 = 0) ∧ (ws[13]? = some (ad 13, .inl (cI, 60, .inl M)) ∧ own 13 = 0) ∧ (ws[14]? = some (ad 14, .inl (cI, 60, .inl V)) ∧ own 14 = 0) ∧ (ws[15]? = some (ad 15, .inl (cI, 48, .inl S)) ∧ own 15 = 0) ∧ (ws[16]? = some (ad 16, .inl (cI, 20, .inl T)) ∧ own 16 = 0)
/-- the film -/
def iF (cI : ClassId) (ad own : Nat → Nat) (ws : va_W) (n : Nat) (cel : Nat → Int32) : Prop := ∃ (a3 a4 : Nat) (dr he : Int32) (dep : Nat → Int32), ws[2]? = some (ad 2, .inr (4, [.ref a3, .ref a4, .int (nI n), .int dr, .int he])) ∧ ws[3]? = some (a3, .inl (cI, 48, .inl dep)) ∧ ws[4]? = some (a4, .inl (cI, 20, .inl cel)) ∧ own 2 = 2 ∧ own 3 = 2 ∧ own 4 = 2 ∧ n ≤ 20 ∧ fOK n cel
/-- the ring -/
def iR (cO : ClassId) (tE : Nat) (ad own : Nat → Nat) (ws : va_W) (ind cr num : Int32) : Prop := ∃ (q : Nat) (e g : Nat → Nat) (fl sl : Int32), pfL own ws tE cO 3 5 (ad 5) 1 q e g 6 (fun _ => [.int ind, .int cr, .int fl, .int num, .int sl]) ∧ ¬ ind = 0 ∧ rgR ind cr fl num
/-- the coil -/
def iC (cI : ClassId) (ad own : Nat → Nat) (ws : va_W) (cur du : Int32) (wi dm : Int64) : Prop := ∃ (pw pz aw az : Nat) (wm sp : Nat → Int32) (ir : Int32), ws[6]? = some (ad 6, .inr (2, [.ref aw, .ref az, .int cur, .int du, .int ir, .long wi, .long dm])) ∧ ws[pw]? = some (aw, .inl (cI, 12, .inl wm)) ∧ ws[pz]? = some (az, .inl (cI, 12, .inl sp)) ∧ pw ≠ pz ∧ own 6 = 4 ∧ own pw = 4 ∧ own pz = 4
/-- the points, as the law's rows have them -/
def iP (cO : ClassId) (tE : Nat) (ad own : Nat → Nat) (ws : va_W) (P M V : Nat → Int32) (np : Nat) : Prop := ∃ (q : Nat) (e g : Nat → Nat), pfL own ws tE cO 6 10 (ad 10) np q e g 5 (fun i => [.int (P i), .int (M i), .int (V i)]) ∧ np ≤ 60
/-- the claims -/
def iM (cI cO : ClassId) (tE : Nat) (ad own : Nat → Nat) (ws : va_W) (np nc : Nat) (ct cf co ca : Nat → Int32) (wd : Nat → Nat → Int32) : Prop := ∃ (q : Nat) (e g gW aW : Nat → Nat), pfL own ws tE cO 7 11 (ad 11) nc q e g 1 (fun i => [.int (ct i), .int (cf i), .int (co i), .int (ca i), .ref (aW i)]) ∧ (∀ i, i < nc → ws[gW i]? = some (aW i, .inl (cI, 7, .inl (wd i))) ∧ own (gW i) = 7) ∧ (∀ i j, i < nc → j < nc → gW i = gW j → i = j) ∧ nc ≤ 8 ∧ ∀ i, i < nc → ∃ a b : Nat, cf i = nI a ∧ co i = nI b ∧ a ≤ b ∧ b < np
theorem iV.kp (h : iV ad own ws) (k : kpt 8 own own2 ws w2) : iV ad own2 w2 := k 0 _ h.2 h.1
theorem iL.kp (h : iL cI ad own ws P M V S T) (k : kpt 0 own own2 ws w2) : iL cI ad own2 w2 P M V S T := ⟨k _ _ h.1.2 h.1.1, k _ _ h.2.1.2 h.2.1.1, k _ _ h.2.2.1.2 h.2.2.1.1, k _ _ h.2.2.2.1.2 h.2.2.2.1.1, k _ _ h.2.2.2.2.2 h.2.2.2.2.1⟩
theorem iF.kp (h : iF cI ad own ws n cel) (k : kpt 2 own own2 ws w2) : iF cI ad own2 w2 n cel := by
  obtain ⟨a3, a4, dr, he, dep, h1, h2, h3, o1, o2, o3, h4, h5⟩ := h
  exact ⟨a3, a4, dr, he, dep, (k 2 _ o1 h1).1, (k 3 _ o2 h2).1, (k 4 _ o3 h3).1, (k 2 _ o1 h1).2, (k 3 _ o2 h2).2, (k 4 _ o3 h3).2, h4, h5⟩
theorem iR.kp (h : iR cO tE ad own ws ind cr num) (k : kpt 3 own own2 ws w2) : iR cO tE ad own2 w2 ind cr num := by
  obtain ⟨q, e, g, fl, sl, h1, h2⟩ := h
  exact ⟨q, e, g, fl, sl, h1.kp k, h2⟩
theorem iC.kp (h : iC cI ad own ws cur du wi dm) (k : kpt 4 own own2 ws w2) : iC cI ad own2 w2 cur du wi dm := by
  obtain ⟨pw, pz, aw, az, wm, sp, ir, h1, h2, h3, h4, o1, o2, o3⟩ := h
  exact ⟨pw, pz, aw, az, wm, sp, ir, (k 6 _ o1 h1).1, (k pw _ o2 h2).1, (k pz _ o3 h3).1, h4, (k 6 _ o1 h1).2, (k pw _ o2 h2).2, (k pz _ o3 h3).2⟩
theorem iP.kp (h : iP cO tE ad own ws P M V np) (k : kpt 6 own own2 ws w2) : iP cO tE ad own2 w2 P M V np := by
  obtain ⟨q, e, g, h1, h2⟩ := h
  exact ⟨q, e, g, h1.kp k, h2⟩
theorem iP.vs {P2 M2 V2 : Nat → Int32} (h : iP cO tE ad own ws P M V np) (hv : ∀ i, i < np → P i = P2 i ∧ M i = M2 i ∧ V i = V2 i) : iP cO tE ad own ws P2 M2 V2 np := by
  obtain ⟨q, e, g, h1, h2⟩ := h
  exact ⟨q, e, g, h1.vs (fun i hi => by obtain ⟨v1, v2, v3⟩ := hv i hi; rw [v1, v2, v3]), h2⟩
theorem iM.kp (h : iM cI cO tE ad own ws np nc ct cf co ca wd) (k : kpt 7 own own2 ws w2) : iM cI cO tE ad own2 w2 np nc ct cf co ca wd := by
  obtain ⟨q, e, g, gW, aW, h1, h2, h3, h4, h5⟩ := h
  exact ⟨q, e, g, gW, aW, h1.kp k, fun i hi => k _ _ (h2 i hi).2 (h2 i hi).1, h3, h4, h5⟩
theorem iM.more {np2 : Nat} (hn : np ≤ np2) (h : iM cI cO tE ad own ws np nc ct cf co ca wd) : iM cI cO tE ad own ws np2 nc ct cf co ca wd := by
  obtain ⟨q, e, g, gW, aW, h1, h2, h3, h4, h5⟩ := h
  refine ⟨q, e, g, gW, aW, h1, h2, h3, h4, fun i hi => ?_⟩
  obtain ⟨a, b, h6, h7, h8, h9⟩ := h5 i hi
  exact ⟨a, b, h6, h7, h8, Nat.lt_of_lt_of_le h9 hn⟩
/-- all of it -/
def inv (cI cO : ClassId) (tE : Nat) (ad own : Nat → Nat) (ws : va_W) (P M V S T : Nat → Int32) (n : Nat) (cel : Nat → Int32) (ind cr num cur du : Int32) (wi dm : Int64) (np nc : Nat) (ct cf co ca : Nat → Int32) (wd : Nat → Nat → Int32) : Prop :=
  iV ad own ws ∧ iL cI ad own ws P M V S T ∧ iF cI ad own ws n cel ∧ iR cO tE ad own ws ind cr num ∧ iC cI ad own ws cur du wi dm ∧ iP cO tE ad own ws P M V np ∧ iM cI cO tE ad own ws np nc ct cf co ca wd
theorem inv.l {P2 M2 V2 S2 T2 : Nat → Int32} (hv : ∀ i, i < np → P i = P2 i ∧ M i = M2 i ∧ V i = V2 i) (h : inv cI cO tE ad own ws P M V S T n cel ind cr num cur du wi dm np nc ct cf co ca wd) (hc : chg own own2 0 ws w2) (hn : iL cI ad own2 w2 P2 M2 V2 S2 T2) : inv cI cO tE ad own2 w2 P2 M2 V2 S2 T2 n cel ind cr num cur du wi dm np nc ct cf co ca wd :=
  ⟨h.1.kp (hc.kpt (by decide)), hn, h.2.2.1.kp (hc.kpt (by decide)), h.2.2.2.1.kp (hc.kpt (by decide)), h.2.2.2.2.1.kp (hc.kpt (by decide)), (h.2.2.2.2.2.1.kp (hc.kpt (by decide))).vs hv, h.2.2.2.2.2.2.kp (hc.kpt (by decide))⟩
theorem inv.f {n2 : Nat} {cel2 : Nat → Int32} (h : inv cI cO tE ad own ws P M V S T n cel ind cr num cur du wi dm np nc ct cf co ca wd) (hc : chg own own2 2 ws w2) (hn : iF cI ad own2 w2 n2 cel2) : inv cI cO tE ad own2 w2 P M V S T n2 cel2 ind cr num cur du wi dm np nc ct cf co ca wd :=
  ⟨h.1.kp (hc.kpt (by decide)), h.2.1.kp (hc.kpt (by decide)), hn, h.2.2.2.1.kp (hc.kpt (by decide)), h.2.2.2.2.1.kp (hc.kpt (by decide)), h.2.2.2.2.2.1.kp (hc.kpt (by decide)), h.2.2.2.2.2.2.kp (hc.kpt (by decide))⟩
theorem inv.r {ind2 cr2 num2 : Int32} (h : inv cI cO tE ad own ws P M V S T n cel ind cr num cur du wi dm np nc ct cf co ca wd) (hc : chg own own2 3 ws w2) (hn : iR cO tE ad own2 w2 ind2 cr2 num2) : inv cI cO tE ad own2 w2 P M V S T n cel ind2 cr2 num2 cur du wi dm np nc ct cf co ca wd :=
  ⟨h.1.kp (hc.kpt (by decide)), h.2.1.kp (hc.kpt (by decide)), h.2.2.1.kp (hc.kpt (by decide)), hn, h.2.2.2.2.1.kp (hc.kpt (by decide)), h.2.2.2.2.2.1.kp (hc.kpt (by decide)), h.2.2.2.2.2.2.kp (hc.kpt (by decide))⟩
theorem inv.c {cur2 du2 : Int32} {wi2 dm2 : Int64} (h : inv cI cO tE ad own ws P M V S T n cel ind cr num cur du wi dm np nc ct cf co ca wd) (hc : chg own own2 4 ws w2) (hn : iC cI ad own2 w2 cur2 du2 wi2 dm2) : inv cI cO tE ad own2 w2 P M V S T n cel ind cr num cur2 du2 wi2 dm2 np nc ct cf co ca wd :=
  ⟨h.1.kp (hc.kpt (by decide)), h.2.1.kp (hc.kpt (by decide)), h.2.2.1.kp (hc.kpt (by decide)), h.2.2.2.1.kp (hc.kpt (by decide)), hn, h.2.2.2.2.2.1.kp (hc.kpt (by decide)), h.2.2.2.2.2.2.kp (hc.kpt (by decide))⟩
theorem inv.p {np2 : Nat} (hnp : np ≤ np2) (h : inv cI cO tE ad own ws P M V S T n cel ind cr num cur du wi dm np nc ct cf co ca wd) (hc : chg own own2 6 ws w2) (hn : iP cO tE ad own2 w2 P M V np2) : inv cI cO tE ad own2 w2 P M V S T n cel ind cr num cur du wi dm np2 nc ct cf co ca wd :=
  ⟨h.1.kp (hc.kpt (by decide)), h.2.1.kp (hc.kpt (by decide)), h.2.2.1.kp (hc.kpt (by decide)), h.2.2.2.1.kp (hc.kpt (by decide)), h.2.2.2.2.1.kp (hc.kpt (by decide)), hn, (h.2.2.2.2.2.2.kp (hc.kpt (by decide))).more hnp⟩
theorem inv.m {nc2 : Nat} {ct2 cf2 co2 ca2 : Nat → Int32} {wd2 : Nat → Nat → Int32} (h : inv cI cO tE ad own ws P M V S T n cel ind cr num cur du wi dm np nc ct cf co ca wd) (hc : chg own own2 7 ws w2) (hn : iM cI cO tE ad own2 w2 np nc2 ct2 cf2 co2 ca2 wd2) : inv cI cO tE ad own2 w2 P M V S T n cel ind cr num cur du wi dm np nc2 ct2 cf2 co2 ca2 wd2 :=
  ⟨h.1.kp (hc.kpt (by decide)), h.2.1.kp (hc.kpt (by decide)), h.2.2.1.kp (hc.kpt (by decide)), h.2.2.2.1.kp (hc.kpt (by decide)), h.2.2.2.2.1.kp (hc.kpt (by decide)), h.2.2.2.2.2.1.kp (hc.kpt (by decide)), hn⟩
theorem inv.w12 (h : inv cI cO tE ad own ws P M V S T n cel ind cr num cur du wi dm np nc ct cf co ca wd) (i : Nat) (x : Int32) (hi : np ≤ i) : inv cI cO tE ad own (ws.set 12 (ad 12, .inl (cI, 60, .inl (upd P i x)))) (upd P i x) M V S T n cel ind cr num cur du wi dm np nc ct cf co ca wd :=
  h.l (fun q hq => ⟨(upd_ne (by omega)).symm, rfl, rfl⟩) (chg.rf.set h.2.1.1.2) ⟨⟨va_ge h.2.1.1.1, h.2.1.1.2⟩, ⟨va_gs (by decide) h.2.1.2.1.1, h.2.1.2.1.2⟩, ⟨va_gs (by decide) h.2.1.2.2.1.1, h.2.1.2.2.1.2⟩, ⟨va_gs (by decide) h.2.1.2.2.2.1.1, h.2.1.2.2.2.1.2⟩, ⟨va_gs (by decide) h.2.1.2.2.2.2.1, h.2.1.2.2.2.2.2⟩⟩
theorem inv.w13 (h : inv cI cO tE ad own ws P M V S T n cel ind cr num cur du wi dm np nc ct cf co ca wd) (i : Nat) (x : Int32) (hi : np ≤ i) : inv cI cO tE ad own (ws.set 13 (ad 13, .inl (cI, 60, .inl (upd M i x)))) P (upd M i x) V S T n cel ind cr num cur du wi dm np nc ct cf co ca wd :=
  h.l (fun q hq => ⟨rfl, (upd_ne (by omega)).symm, rfl⟩) (chg.rf.set h.2.1.2.1.2) ⟨⟨va_gs (by decide) h.2.1.1.1, h.2.1.1.2⟩, ⟨va_ge h.2.1.2.1.1, h.2.1.2.1.2⟩, ⟨va_gs (by decide) h.2.1.2.2.1.1, h.2.1.2.2.1.2⟩, ⟨va_gs (by decide) h.2.1.2.2.2.1.1, h.2.1.2.2.2.1.2⟩, ⟨va_gs (by decide) h.2.1.2.2.2.2.1, h.2.1.2.2.2.2.2⟩⟩
theorem inv.w14 (h : inv cI cO tE ad own ws P M V S T n cel ind cr num cur du wi dm np nc ct cf co ca wd) (i : Nat) (x : Int32) (hi : np ≤ i) : inv cI cO tE ad own (ws.set 14 (ad 14, .inl (cI, 60, .inl (upd V i x)))) P M (upd V i x) S T n cel ind cr num cur du wi dm np nc ct cf co ca wd :=
  h.l (fun q hq => ⟨rfl, rfl, (upd_ne (by omega)).symm⟩) (chg.rf.set h.2.1.2.2.1.2) ⟨⟨va_gs (by decide) h.2.1.1.1, h.2.1.1.2⟩, ⟨va_gs (by decide) h.2.1.2.1.1, h.2.1.2.1.2⟩, ⟨va_ge h.2.1.2.2.1.1, h.2.1.2.2.1.2⟩, ⟨va_gs (by decide) h.2.1.2.2.2.1.1, h.2.1.2.2.2.1.2⟩, ⟨va_gs (by decide) h.2.1.2.2.2.2.1, h.2.1.2.2.2.2.2⟩⟩
theorem inv.w15 (h : inv cI cO tE ad own ws P M V S T n cel ind cr num cur du wi dm np nc ct cf co ca wd) (i : Nat) (x : Int32) : inv cI cO tE ad own (ws.set 15 (ad 15, .inl (cI, 48, .inl (upd S i x)))) P M V (upd S i x) T n cel ind cr num cur du wi dm np nc ct cf co ca wd :=
  h.l (fun q hq => ⟨rfl, rfl, rfl⟩) (chg.rf.set h.2.1.2.2.2.1.2) ⟨⟨va_gs (by decide) h.2.1.1.1, h.2.1.1.2⟩, ⟨va_gs (by decide) h.2.1.2.1.1, h.2.1.2.1.2⟩, ⟨va_gs (by decide) h.2.1.2.2.1.1, h.2.1.2.2.1.2⟩, ⟨va_ge h.2.1.2.2.2.1.1, h.2.1.2.2.2.1.2⟩, ⟨va_gs (by decide) h.2.1.2.2.2.2.1, h.2.1.2.2.2.2.2⟩⟩
theorem inv.w16 (h : inv cI cO tE ad own ws P M V S T n cel ind cr num cur du wi dm np nc ct cf co ca wd) (i : Nat) (x : Int32) : inv cI cO tE ad own (ws.set 16 (ad 16, .inl (cI, 20, .inl (upd T i x)))) P M V S (upd T i x) n cel ind cr num cur du wi dm np nc ct cf co ca wd :=
  h.l (fun q hq => ⟨rfl, rfl, rfl⟩) (chg.rf.set h.2.1.2.2.2.2.2) ⟨⟨va_gs (by decide) h.2.1.1.1, h.2.1.1.2⟩, ⟨va_gs (by decide) h.2.1.2.1.1, h.2.1.2.1.2⟩, ⟨va_gs (by decide) h.2.1.2.2.1.1, h.2.1.2.2.1.2⟩, ⟨va_gs (by decide) h.2.1.2.2.2.1.1, h.2.1.2.2.2.1.2⟩, ⟨va_ge h.2.1.2.2.2.2.1, h.2.1.2.2.2.2.2⟩⟩
theorem inv.n20 (h : inv cI cO tE ad own ws P M V S T n cel ind cr num cur du wi dm np nc ct cf co ca wd) : n ≤ 20 := by
  obtain ⟨-, -, ⟨a3, a4, dr, he, dep, -, -, -, -, -, -, h7, -⟩, -⟩ := h
  exact h7
end Inv30
/-- a method that doesn't refuse returns -/
theorem vx_ok {l : Launch} {y : MethodName} {wy : List Cond} {rm : Room} {Pc : Array Value → State → Prop} {Qc : Array Value → State → Outcome → State → Prop} {cd : Int32} {e1 e2 e3 : String} {mc ms : Nat} {free : Addr → Prop} (h : vx_Met l y wy rm Pc Qc (xcT (fun E => xC cd e1 e2 e3 E)) mc ms free) (hcd : cd = 0) : Met l y wy rm Pc Qc mc ms free :=
  MetFree.mono h (fun _ _ q => q) (fun _ _ _ _ _ q => q) (fun a s o t _ hq => hq.resolve_right (fun ⟨q, _, E, ce, L, ⟨u, _, hx, _⟩, _⟩ => by
    subst hcd
    rcases hx with ⟨z, _⟩ | ⟨z, _⟩ | ⟨z, _⟩
    · exact absurd z (by decide)
    · exact absurd z (by decide)
    · exact absurd z (by decide)))
theorem oR_of {x lo hi : Int32} {a b c : Int} (ha : lo.toInt = a) (hb : hi.toInt = b) (hx : x.toInt = c) (h1 : a ≤ c) (h2 : c ≤ b) : ¬ oR x lo hi := by
  rintro (q | q)
  · rw [Int32.lt_iff_toInt_lt, hx, ha] at q; omega
  · rw [Int32.lt_iff_toInt_lt, hx, hb] at q; omega
theorem uK_no {x n : Int32} {a c : Int} (hn : n.toInt = a) (hx : x.toInt = c) (h1 : 0 ≤ c) (h2 : c < a) : ¬ uK x n := by
  have z0 : (0 : Int32).toInt = 0 := by decide
  rintro (q | q)
  · rw [Int32.lt_iff_toInt_lt, hx, z0] at q; omega
  · rw [Int32.le_iff_toInt_le, hx, hn] at q; omega
theorem cd_if {c : Prop} [Decidable c] {a b : Int32} (h : ¬ c) (hb : b = 0) : (if c then a else b) = 0 := by rw [if_neg h]; exact hb
-- part 72
section MopK
variable {l : Launch} {y : MethodName} {wy : List Cond} {rm : Room} {G : va_G} {A : Nat → Prop} {Pc : Array Value → State → Prop} {mc ms : Nat} {free : Addr → Prop} {U : Type} {B : U → State → Prop}
theorem mopKi {post post2 : Int32 → U → Prop} (hM : Met l y wy rm Pc (va_Qi post B A) mc ms free) (h : ∀ r u, post r u → post2 r u) : Met l y wy rm Pc (va_Qi post2 B A) mc ms free :=
  met_mono hM (fun _ _ q => q) (fun a s o t _ hq => by
    obtain ⟨⟨r, u, ho, hp, hB⟩, hF⟩ := hq
    exact ⟨⟨r, u, ho, h r u hp, hB⟩, hF⟩)
theorem mopKl {post post2 : Int64 → U → Prop} (hM : Met l y wy rm Pc (va_Ql post B A) mc ms free) (h : ∀ r u, post r u → post2 r u) : Met l y wy rm Pc (va_Ql post2 B A) mc ms free :=
  met_mono hM (fun _ _ q => q) (fun a s o t _ hq => by
    obtain ⟨⟨r, u, ho, hp, hB⟩, hF⟩ := hq
    exact ⟨⟨r, u, ho, h r u hp, hB⟩, hF⟩)
end MopK
/-- a pulse loses nothing -/
theorem cPul_sum (σ : cS) : (cPul σ).2.2.2.2.2.1 + (cPul σ).2.2.2.2.2.2 + cSto (cPul σ).2.2.1 = σ.2.2.2.2.2.1 + σ.2.2.2.2.2.2 + cSto σ.2.2.1 := by
  obtain ⟨wm, sp, cur, du, ir, wi, dm⟩ := σ
  show (if du = 0 then wi else wi + cWir cur wm) + (if du = 0 then dm else dm + (cLost cur - cWir cur wm)) + cSto (if du = 0 then cur else cCur cur) = wi + dm + cSto cur
  by_cases h : du = 0
  · rw [if_pos h, if_pos h, if_pos h]
  · rw [if_neg h, if_neg h, if_neg h]
    unfold cLost
    generalize cWir cur wm = c
    generalize cSto cur = a
    generalize cSto (cCur cur) = b
    have e : (wi + c) + (dm + (a - b - c)) + b = (wi + dm) + ((a - b - c) + c + b) := by ac_rfl
    rw [e, Int64.sub_add_cancel, Int64.sub_add_cancel]
theorem cIt_sum (σ : cS) (k : Nat) : (cIt σ k).2.2.2.2.2.1 + (cIt σ k).2.2.2.2.2.2 + cSto (cIt σ k).2.2.1 = σ.2.2.2.2.2.1 + σ.2.2.2.2.2.2 + cSto σ.2.2.1 := by
  induction k with
  | zero => rfl
  | succ k ih => exact (cPul_sum (cIt σ k)).trans ih
theorem coil_pass {own ad : Nat → Nat} {ws : va_W} {cI : ClassId} {pw pz aw az : Nat} {σ : cS} {x0 : Nat × va_E} {wm sp : Nat → Int32} (ho : ws[6]? = some x0) (hw : ws[pw]? = some (aw, .inl (cI, 12, .inl wm))) (hzp : ws[pz]? = some (az, .inl (cI, 12, .inl sp))) (nwz : pw ≠ pz) (nw6 : pw ≠ 6) (nz6 : pz ≠ 6) (o6 : own 6 = 4) (opw : own pw = 4) (opz : own pz = 4) (sw : Bool) : iC cI ad own (cW ws cI 6 pw pz (ad 6) aw az σ sw) σ.2.2.1 σ.2.2.2.1 σ.2.2.2.2.2.1 σ.2.2.2.2.2.2 := by
  unfold cW
  cases sw with
  | false => exact ⟨pw, pz, aw, az, σ.1, σ.2.1, σ.2.2.2.2.1, va_ge (va_gs nz6.symm (va_gs nw6.symm ho)), va_gs nw6 (va_gs nwz (va_ge hw)), va_gs nz6 (va_ge (va_gs nwz.symm hzp)), nwz, o6, opw, opz⟩
  | true => exact ⟨pz, pw, az, aw, σ.1, σ.2.1, σ.2.2.2.2.1, va_ge (va_gs nz6.symm (va_gs nw6.symm ho)), va_gs nz6 (va_ge (va_gs nwz.symm hzp)), va_gs nw6 (va_gs nwz (va_ge hw)), nwz.symm, o6, opz, opw⟩
theorem fCell_nI {cel : Nat → Int32} {k : Nat} (hk : k < 20) : fCell cel (nI k) = cel k := by
  unfold fCell
  rw [if_neg (nI_pos (by omega)), if_neg (show ¬ (20 : Int32) ≤ nI k from nI_ge (b := 20) hk (by decide)), nI_clamp (by omega)]
set_option maxHeartbeats 4000000 in
set_option maxRecDepth 100000 in
theorem op_ofCoil {l : Launch} (hnt : l.stackTraces = false) (G : va_G) (tys : List (ClassId × FieldType)) {A : Nat → Prop} {tE mi : Nat} {cI cO : ClassId} (htI : tI tys cI) (htO : tO tys cO) {ad own : Nat → Nat} {ws : va_W} {P M V S T cel ct cf co ca : Nat → Int32} {wd : Nat → Nat → Int32} {n np nc : Nat} {ind cr num cur du : Int32} {wi dm : Int64} (hI : inv cI cO tE ad own ws P M V S T n cel ind cr num cur du wi dm np nc ct cf co ca wd) (x : Int32) (hx : cdOfCoil x = 0) : Met l yX7_ofCoil wsX7_ofCoil { frames := 7, cells := 1, slots := 6, locals := 104 } (pcX G tys ws A tE mi [.ref (ad 0), .int x]) (va_Ql (fun (r : Int64) (_ : Unit) => ∃ wm : Nat → Int32, r = cOf cur du wi dm wm x) (fun _ t => va_P G vwCl ws t.heap ∧ va_D A ws) A) 1 6 A := by
  have hI0 := hI
  obtain ⟨hV, hL, hF, hR, hC, hP, hM⟩ := hI
  obtain ⟨pw, pz, aw, az, wm, sp, ir, ho, hw, hz, nwz, o6, opw, opz⟩ := hC
  have nw6 : pw ≠ 6 := ne_lr hw ho
  have nz6 : pz ≠ 6 := ne_lr hz ho
  exact mopKl (vx_ok (metX7_ofCoil l hnt G tys htI ws hV.1 ho hw hz nwz x) hx) (fun r u h => ⟨wm, h.2⟩)
set_option maxHeartbeats 4000000 in
set_option maxRecDepth 100000 in
theorem op_current {l : Launch} (hnt : l.stackTraces = false) (G : va_G) (tys : List (ClassId × FieldType)) {A : Nat → Prop} {tE mi : Nat} {cI cO : ClassId} (htI : tI tys cI) (htO : tO tys cO) {ad own : Nat → Nat} {ws : va_W} {P M V S T cel ct cf co ca : Nat → Int32} {wd : Nat → Nat → Int32} {n np nc : Nat} {ind cr num cur du : Int32} {wi dm : Int64} (hI : inv cI cO tE ad own ws P M V S T n cel ind cr num cur du wi dm np nc ct cf co ca wd) (x : Int32) (hx : cdCurrent x = 0) : Met l yX7_current wsX7_current { frames := 7, cells := 1, slots := 6, locals := 104 } (pcX G tys ws A tE mi [.ref (ad 0), .int x]) (va_Qi (fun (r : Int32) (w : va_W) => ∃ own2, inv cI cO tE ad own2 w P M V S T n cel ind cr num x 0 wi dm np nc ct cf co ca wd) (fun w t => va_P G vwCl w t.heap ∧ va_D A w) A) 1 6 A := by
  have hI0 := hI
  obtain ⟨hV, hL, hF, hR, hC, hP, hM⟩ := hI
  obtain ⟨pw, pz, aw, az, wm, sp, ir, ho, hw, hz, nwz, o6, opw, opz⟩ := hC
  have nw6 : pw ≠ 6 := ne_lr hw ho
  have nz6 : pz ≠ 6 := ne_lr hz ho
  exact mopI (vx_ok (metX7_current l hnt G tys htI ws hV.1 ho hw hz nwz x) hx) (fun r u h => ⟨own, hI0.c (chg.rf.set o6) ⟨pw, pz, aw, az, wm, sp, 0, va_ge ho, va_gs nw6 hw, va_gs nz6 hz, nwz, o6, opw, opz⟩⟩)
set_option maxHeartbeats 4000000 in
set_option maxRecDepth 100000 in
theorem op_heat {l : Launch} (hnt : l.stackTraces = false) (G : va_G) (tys : List (ClassId × FieldType)) {A : Nat → Prop} {tE mi : Nat} {cI cO : ClassId} (htI : tI tys cI) (htO : tO tys cO) {ad own : Nat → Nat} {ws : va_W} {P M V S T cel ct cf co ca : Nat → Int32} {wd : Nat → Nat → Int32} {n np nc : Nat} {ind cr num cur du : Int32} {wi dm : Int64} (hI : inv cI cO tE ad own ws P M V S T n cel ind cr num cur du wi dm np nc ct cf co ca wd) (x y : Int32) (hx : cdHeat x y = 0) : Met l yX7_heat wsX7_heat { frames := 7, cells := 2, slots := 12, locals := 104 } (pcX G tys ws A tE mi [.ref (ad 0), .int x, .int y]) (va_Qi (fun (r : Int32) (w : va_W) => ∃ own2, inv cI cO tE ad own2 w P M V S T n cel ind cr num cur du wi dm np nc ct cf co ca wd) (fun w t => va_P G vwCl w t.heap ∧ va_D A w) A) 2 12 A := by
  have hI0 := hI
  obtain ⟨hV, hL, hF, hR, hC, hP, hM⟩ := hI
  obtain ⟨pw, pz, aw, az, wm, sp, ir, ho, hw, hz, nwz, o6, opw, opz⟩ := hC
  have nw6 : pw ≠ 6 := ne_lr hw ho
  have nz6 : pz ≠ 6 := ne_lr hz ho
  exact mopI (vx_ok (metX7_heat l hnt G tys htI ws hV.1 ho hw hz nwz x y) hx) (fun r u h => ⟨own, hI0.c (chg.rf.set opw) ⟨pw, pz, aw, az, _, sp, ir, va_gs nw6.symm ho, va_ge hw, va_gs nwz.symm hz, nwz, o6, opw, opz⟩⟩)
set_option maxHeartbeats 4000000 in
set_option maxRecDepth 100000 in
theorem op_pass {l : Launch} (hnt : l.stackTraces = false) (G : va_G) (tys : List (ClassId × FieldType)) {A : Nat → Prop} {tE mi : Nat} {cI cO : ClassId} (htI : tI tys cI) (htO : tO tys cO) {ad own : Nat → Nat} {ws : va_W} {P M V S T cel ct cf co ca : Nat → Int32} {wd : Nat → Nat → Int32} {n np nc : Nat} {ind cr num cur du : Int32} {wi dm : Int64} (hI : inv cI cO tE ad own ws P M V S T n cel ind cr num cur du wi dm np nc ct cf co ca wd) (x : Int32) (hx : cdPass x = 0) : Met l yX7_pass wsX7_pass { frames := 7, cells := 1, slots := 6, locals := 105 } (pcX G tys ws A tE mi [.ref (ad 0), .int x]) (va_Qi (fun (r : Int32) (w : va_W) => ∃ (own2 : Nat → Nat) (cur2 du2 : Int32) (wi2 dm2 : Int64), inv cI cO tE ad own2 w P M V S T n cel ind cr num cur2 du2 wi2 dm2 np nc ct cf co ca wd ∧ wi2 + dm2 + cSto cur2 = wi + dm + cSto cur) (fun w t => va_P G vwCl w t.heap ∧ va_D A w) A) 1 6 A := by
  have hI0 := hI
  obtain ⟨hV, hL, hF, hR, hC, hP, hM⟩ := hI
  obtain ⟨pw, pz, aw, az, wm, sp, ir, ho, hw, hz, nwz, o6, opw, opz⟩ := hC
  have nw6 : pw ≠ 6 := ne_lr hw ho
  have nz6 : pz ≠ 6 := ne_lr hz ho
  exact mopI (vx_ok (metX7_pass l hnt G tys htI ws hV.1 ho hw hz nwz x) hx) (fun r u h => ⟨own, _, _, _, _, hI0.c (((chg.rf.set opw).set opz).set o6) (coil_pass ho hw hz nwz nw6 nz6 o6 opw opz _), cIt_sum (wm, sp, cur, du, ir, wi, dm) _⟩)
set_option maxHeartbeats 4000000 in
set_option maxRecDepth 100000 in
theorem op_drive {l : Launch} (hnt : l.stackTraces = false) (G : va_G) (tys : List (ClassId × FieldType)) {A : Nat → Prop} {tE mi : Nat} {cI cO : ClassId} (htI : tI tys cI) (htO : tO tys cO) {ad own : Nat → Nat} {ws : va_W} {P M V S T cel ct cf co ca : Nat → Int32} {wd : Nat → Nat → Int32} {n np nc : Nat} {ind cr num cur du : Int32} {wi dm : Int64} (hI : inv cI cO tE ad own ws P M V S T n cel ind cr num cur du wi dm np nc ct cf co ca wd) (x y : Int32) (hx : cdDrive x y = 0) : Met l yX7_drive wsX7_drive { frames := 7, cells := 2, slots := 12, locals := 104 } (pcX G tys ws A tE mi [.ref (ad 0), .int x, .int y]) (va_Qv (fun (w : va_W) => ∃ own2, inv cI cO tE ad own2 w P M V S T n cel ind cr num cur du wi dm np nc ct cf co ca wd) (fun w t => va_P G vwCl w t.heap ∧ va_D A w) A) 2 12 A := by
  have hI0 := hI
  obtain ⟨hV, hL, hF, hR, hC, hP, hM⟩ := hI
  obtain ⟨a3, a4, dr, he, dep, hf, hd, hk, o2, o3, o4, hn20, hok⟩ := hF
  exact mopV (vx_ok (metX7_drive l hnt G tys htI ws hV.1 hf hd hk (by decide) x y) hx) (fun u h => ⟨own, hI0.f (chg.rf.set o2) ⟨a3, a4, x, y, dep, va_ge hf, va_gs (by decide) hd, va_gs (by decide) hk, o2, o3, o4, hn20, hok⟩⟩)
set_option maxHeartbeats 4000000 in
set_option maxRecDepth 100000 in
theorem op_pin {l : Launch} (hnt : l.stackTraces = false) (G : va_G) (tys : List (ClassId × FieldType)) {A : Nat → Prop} {tE mi : Nat} {cI cO : ClassId} (htI : tI tys cI) (htO : tO tys cO) {ad own : Nat → Nat} {ws : va_W} {P M V S T cel ct cf co ca : Nat → Int32} {wd : Nat → Nat → Int32} {n np nc : Nat} {ind cr num cur du : Int32} {wi dm : Int64} (hI : inv cI cO tE ad own ws P M V S T n cel ind cr num cur du wi dm np nc ct cf co ca wd) (x y : Int32) (hx : cdPin x y = 0) : Met l yX7_pin wsX7_pin { frames := 7, cells := 2, slots := 12, locals := 104 } (pcX G tys ws A tE mi [.ref (ad 0), .int x, .int y]) (va_Qi (fun (r : Int32) (w : va_W) => ∃ own2, inv cI cO tE ad own2 w P M V S T n cel ind cr num cur du wi dm np nc ct cf co ca wd) (fun w t => va_P G vwCl w t.heap ∧ va_D A w) A) 2 12 A := by
  have hI0 := hI
  obtain ⟨hV, hL, hF, hR, hC, hP, hM⟩ := hI
  obtain ⟨a3, a4, dr, he, dep, hf, hd, hk, o2, o3, o4, hn20, hok⟩ := hF
  exact mopI (vx_ok (metX7_pin l hnt G tys htI ws hV.1 hf hd hk (by decide) x y) hx) (fun r u h => ⟨own, hI0.f (chg.rf.set o3) ⟨a3, a4, dr, he, _, va_gs (by decide) hf, va_ge hd, va_gs (by decide) hk, o2, o3, o4, hn20, hok⟩⟩)
set_option maxHeartbeats 4000000 in
set_option maxRecDepth 100000 in
theorem op_whirlAt {l : Launch} (hnt : l.stackTraces = false) (G : va_G) (tys : List (ClassId × FieldType)) {A : Nat → Prop} {tE mi : Nat} {cI cO : ClassId} (htI : tI tys cI) (htO : tO tys cO) {ad own : Nat → Nat} {ws : va_W} {P M V S T cel ct cf co ca : Nat → Int32} {wd : Nat → Nat → Int32} {n np nc : Nat} {ind cr num cur du : Int32} {wi dm : Int64} (hI : inv cI cO tE ad own ws P M V S T n cel ind cr num cur du wi dm np nc ct cf co ca wd) (k : Nat) (hkn : k < n) : Met l yX7_whirlAt wsX7_whirlAt { frames := 7, cells := 1, slots := 6, locals := 103 } (pcX G tys ws A tE mi [.ref (ad 0), .int (nI k)]) (va_Qi (fun (r : Int32) (_ : Unit) => r = cel k) (fun _ t => va_P G vwCl ws t.heap ∧ va_D A ws) A) 1 6 A := by
  have hI0 := hI
  obtain ⟨hV, hL, hF, hR, hC, hP, hM⟩ := hI
  obtain ⟨a3, a4, dr, he, dep, hf, hd, hk, o2, o3, o4, hn20, hok⟩ := hF
  exact mopKi (vx_ok (metX7_whirlAt l hnt G tys htI ws hV.1 hf hd hk (nI k)) (cd_if (uK_of hkn (by omega)) rfl)) (fun r u h => h.2.trans (fCell_nI (by omega)))
set_option maxHeartbeats 4000000 in
set_option maxRecDepth 100000 in
theorem op_enter {l : Launch} (hnt : l.stackTraces = false) (G : va_G) (tys : List (ClassId × FieldType)) {A : Nat → Prop} {tE mi : Nat} {cI cO : ClassId} (htI : tI tys cI) (htO : tO tys cO) {ad own : Nat → Nat} {ws : va_W} {P M V S T cel ct cf co ca : Nat → Int32} {wd : Nat → Nat → Int32} {n np nc : Nat} {ind cr num cur du : Int32} {wi dm : Int64} (hI : inv cI cO tE ad own ws P M V S T n cel ind cr num cur du wi dm np nc ct cf co ca wd) (x : Int32) (hx : cdEnter x (nI n) = 0) (hn : n < 20) : Met l yX7_enter wsX7_enter { frames := 7, cells := 2, slots := 12, locals := 104 } (pcX G tys ws A tE mi [.ref (ad 0), .int x]) (va_Qi (fun (r : Int32) (w : va_W) => (r = -1 ∧ ∃ own2, inv cI cO tE ad own2 w P M V S T n cel ind cr num cur du wi dm np nc ct cf co ca wd) ∨ (r = nI n ∧ ∃ (own2 : Nat → Nat) (g : Int32), inv cI cO tE ad own2 w P M V S T (n + 1) (upd cel n g) ind cr num cur du wi dm np nc ct cf co ca wd)) (fun w t => va_P G vwCl w t.heap ∧ va_D A w) A) 2 12 A := by
  have hI0 := hI
  obtain ⟨hV, hL, hF, hR, hC, hP, hM⟩ := hI
  obtain ⟨a3, a4, dr, he, dep, hf, hd, hk, o2, o3, o4, hn20, hok⟩ := hF
  have hcl := vx_ok (metX7_enter (A := A) (tE := tE) (mi := mi) l hnt G tys htI ws hV.1 hf hd hk (by decide) x (nI_pos' (by omega))) hx
  have hnew := fCe_new (cel := cel) (dep := dep) (dr := dr) (w := nI n) 6 (Nat.le_refl 6)
  have hnn : (nI n).toNatClampNeg = n := nI_clamp (by omega)
  by_cases c1 : (fCe cel dep dr (nI n) 6).1 = -1
  · simp only [if_pos c1] at hcl
    exact mopI hcl (fun r u h => Or.inl ⟨h.2, own, hI0⟩)
  · by_cases c2 : fEn cel dep dr (nI n) (fCe cel dep dr (nI n) 6).1 ≤ x
    · simp only [if_neg c1, if_pos c2] at hcl
      rw [hnn, nI_1] at hcl
      exact mopI hcl (fun r u h => Or.inr ⟨h.2, own, _, hI0.f ((chg.rf.set o4).set o2) ⟨a3, a4, dr, he, dep, va_ge (va_gs (by decide) hf), va_gs (by decide) (va_gs (by decide) hd), va_gs (by decide) (va_ge hk), o2, o3, o4, by omega, fOK_enter hok hn hnew⟩⟩)
    · simp only [if_neg c1, if_neg c2] at hcl
      exact mopI hcl (fun r u h => Or.inl ⟨h.2, own, hI0⟩)
set_option maxHeartbeats 4000000 in
set_option maxRecDepth 100000 in
theorem op_avalanche {l : Launch} (hnt : l.stackTraces = false) (G : va_G) (tys : List (ClassId × FieldType)) {A : Nat → Prop} {tE mi : Nat} {cI cO : ClassId} (htI : tI tys cI) (htO : tO tys cO) {ad own : Nat → Nat} {ws : va_W} {P M V S T cel ct cf co ca : Nat → Int32} {wd : Nat → Nat → Int32} {n np nc : Nat} {ind cr num cur du : Int32} {wi dm : Int64} (hI : inv cI cO tE ad own ws P M V S T n cel ind cr num cur du wi dm np nc ct cf co ca wd) : Met l yX7_avalanche wsX7_avalanche { frames := 6, cells := 0, slots := 0, locals := 144 } (pcM G tys ws A [.ref (ad 0)]) (va_Qi (fun (r : Int32) (w : va_W) => ∃ (own2 : Nat → Nat) (cel2 : Nat → Int32), inv cI cO tE ad own2 w P M V S T n cel2 ind cr num cur du wi dm np nc ct cf co ca wd ∧ (∀ j, j < 20 → cel j = -1 → cel2 j = -1) ∧ ∃ m : Nat, m ≤ 1200 ∧ r = nI m) (fun w t => va_P G vwCl w t.heap ∧ va_D A w) A) 0 0 A := by
  have hI0 := hI
  obtain ⟨hV, hL, hF, hR, hC, hP, hM⟩ := hI
  obtain ⟨a3, a4, dr, he, dep, hf, hd, hk, o2, o3, o4, hn20, hok⟩ := hF
  obtain ⟨k1, k2, m, hm, k3⟩ := fAv_ok (dep := dep) (dr := dr) (he := he) hok 60
  exact met_mono (metX7_avalanche l G tys htI ws hV.1 hf hd hk (A := A) (by decide)) (fun _ _ q => q) (fun a s o t hp hq => by
    obtain ⟨⟨r, u, ho, hp1, hB⟩, hF9⟩ := hq
    exact ⟨⟨r, _, ho, ⟨own, _, hI0.f (chg.rf.set o4) ⟨a3, a4, dr, he, dep, va_gs (by decide) hf, va_gs (by decide) hd, va_ge hk, o2, o3, o4, hn20, k1⟩, k2, m, hm, hp1.trans k3⟩, hB, hp.2.2.2.1.set hk⟩, hF9⟩)
set_option maxHeartbeats 4000000 in
set_option maxRecDepth 100000 in
theorem op_ofRing {l : Launch} (hnt : l.stackTraces = false) (G : va_G) (tys : List (ClassId × FieldType)) {A : Nat → Prop} {tE mi : Nat} {cI cO : ClassId} (htI : tI tys cI) (htO : tO tys cO) {ad own : Nat → Nat} {ws : va_W} {P M V S T cel ct cf co ca : Nat → Int32} {wd : Nat → Nat → Int32} {n np nc : Nat} {ind cr num cur du : Int32} {wi dm : Int64} (hI : inv cI cO tE ad own ws P M V S T n cel ind cr num cur du wi dm np nc ct cf co ca wd) : Met l yX7_ofRing wsX7_ofRing { frames := 7, cells := 2, slots := 12, locals := 104 } (pcX G tys ws A tE mi [.ref (ad 0), .int ((0 : Int32)), .int ((0 : Int32))]) (va_Qi (fun (r : Int32) (_ : Unit) => r = num) (fun _ t => va_P G vwCl ws t.heap ∧ va_D A ws) A) 2 12 A := by
  have hI0 := hI
  obtain ⟨hV, hL, hF, hR, hC, hP, hM⟩ := hI
  obtain ⟨q, e, g, fl, sl, hL9, hi0, hrg⟩ := hR
  exact mopKi (vx_ok (metX7_ofRing (ri := fun _ => ind) (rc := fun _ => cr) (rf := fun _ => fl) (rn := fun _ => num) (rs := fun _ => sl) l hnt G tys ws htO hV.1 hL9.1 (fun i hi => (hL9.2.2.2.1 i hi).1) 0 0) (by decide)) (fun r u h => h.2.trans (if_pos rfl))
set_option maxHeartbeats 4000000 in
set_option maxRecDepth 100000 in
theorem op_flux {l : Launch} (hnt : l.stackTraces = false) (G : va_G) (tys : List (ClassId × FieldType)) {A : Nat → Prop} {tE mi : Nat} {cI cO : ClassId} (htI : tI tys cI) (htO : tO tys cO) {ad own : Nat → Nat} {ws : va_W} {P M V S T cel ct cf co ca : Nat → Int32} {wd : Nat → Nat → Int32} {n np nc : Nat} {ind cr num cur du : Int32} {wi dm : Int64} (hI : inv cI cO tE ad own ws P M V S T n cel ind cr num cur du wi dm np nc ct cf co ca wd) (x : Int32) (h1 : -1000000 ≤ x.toInt) (h2 : x.toInt ≤ 1000000) : Met l yX7_flux wsX7_flux { frames := 7, cells := 2, slots := 12, locals := 104 } (pcX G tys ws A tE mi [.ref (ad 0), .int ((0 : Int32)), .int x]) (va_Qi (fun (r : Int32) (w : va_W) => ∃ (own2 : Nat → Nat) (num2 : Int32), inv cI cO tE ad own2 w P M V S T n cel ind cr num2 cur du wi dm np nc ct cf co ca wd ∧ ¬ ind = 0 ∧ r = num2 - num ∧ rStop ind cr x num2) (fun w t => va_P G vwCl w t.heap ∧ va_D A w) A) 2 12 A := by
  have hI0 := hI
  obtain ⟨hV, hL, hF, hR, hC, hP, hM⟩ := hI
  obtain ⟨q, e, g, fl, sl, hL9, hi0, hrg⟩ := hR
  have hcr0 : 0 ≤ cr.toInt := by have := hrg.2.1.1; omega
  have hz0 : (0 : Int32).toNatClampNeg < 1 := by decide
  have hcd : cdFlux 0 x (nI 1) = 0 := cd_if (by decide) (cd_if (oR_of (a := -1000000) (b := 1000000) (by decide) (by decide) rfl h1 h2) rfl)
  refine mopI (vx_ok (metX7_fluxT (ri := fun _ => ind) (rc := fun _ => cr) (rf := fun _ => fl) (rn := fun _ => num) (rs := fun _ => sl) l hnt G tys ws htO hV.1 hL9.1 (fun i hi => (hL9.2.2.2.1 i hi).1) 0 x (fun _ _ => flux_term rfl hrg.1.1 rfl h1 h2 rfl hcr0 hrg.2.2.2)) hcd) (fun r u h => ?_)
  obtain ⟨-, h3, h4, h5⟩ := h
  have hset := hL9.set (by decide) hz0 [.int ind, .int cr, .int x, .int (rIt ind x num u), .int (sl + nI u)]
  exact ⟨own, _, hI0.r hset.2 ⟨q, e, g, x, sl + nI u, hset.1.vs (fun i hi => if_pos (by omega)), hi0, hrg.1, hrg.2.1, ⟨h1, h2⟩, flux_rng rfl hrg.1.1 hrg.1.2 rfl h1 h2 rfl hcr0 hrg.2.1.2 hrg.2.2.2 h4 h5⟩, hi0, h3, h4⟩
set_option maxHeartbeats 4000000 in
set_option maxRecDepth 100000 in
theorem op_point {l : Launch} (hnt : l.stackTraces = false) (G : va_G) (tys : List (ClassId × FieldType)) {A : Nat → Prop} {tE mi : Nat} {cI cO : ClassId} (htI : tI tys cI) (htO : tO tys cO) {ad own : Nat → Nat} {ws : va_W} {P M V S T cel ct cf co ca : Nat → Int32} {wd : Nat → Nat → Int32} {n np nc : Nat} {ind cr num cur du : Int32} {wi dm : Int64} (hI : inv cI cO tE ad own ws P M V S T n cel ind cr num cur du wi dm np nc ct cf co ca wd) (x y z : Int32) (hx : cdPoint x y z (nI np) = 0) (hnp : np < 60) (e1 : P np = x) (e2 : M np = y) (e3 : V np = z) : Met l yX7_point wsX7_point { frames := 8, cells := 6, slots := 227, locals := 225 } (pcX G tys ws A tE mi [.ref (ad 0), .int x, .int y, .int z]) (va_Qi (fun (r : Int32) (w : va_W) => r = nI (np + 1) ∧ ∃ own2, inv cI cO tE ad own2 w P M V S T n cel ind cr num cur du wi dm (np + 1) nc ct cf co ca wd) (fun w t => va_P G vwCl w t.heap ∧ va_D A w) A) 6 227 A := by
  have hI0 := hI
  obtain ⟨hV, hL, hF, hR, hC, hP, hM⟩ := hI
  obtain ⟨q, e, g, hL9, hn60⟩ := hP
  refine mopI (vx_ok (metX7_point (pt := P) (pu := M) (pw := V) l hnt G tys ws htO hV.1 hL9.1 (fun i hi => (hL9.2.2.2.1 i hi).1) x y z hn60) hx) (fun r u h => ?_)
  obtain ⟨-, h3, h4⟩ := h
  obtain ⟨q2, hp2, hc, -, -⟩ := hL9.add (by decide) h4
  exact ⟨h3, _, hI0.p (Nat.le_succ np) hc ⟨q2, _, _, hp2.vs (fun i hi => by
    by_cases c : i = np
    · rw [if_pos c, c, e1, e2, e3]
    · rw [if_neg c]), by omega⟩⟩
set_option maxHeartbeats 4000000 in
set_option maxRecDepth 100000 in
theorem op_judge {l : Launch} (hnt : l.stackTraces = false) (G : va_G) (tys : List (ClassId × FieldType)) {A : Nat → Prop} {tE mi : Nat} {cI cO : ClassId} (htI : tI tys cI) (htO : tO tys cO) {ad own : Nat → Nat} {ws : va_W} {P M V S T cel ct cf co ca : Nat → Int32} {wd : Nat → Nat → Int32} {n np nc : Nat} {ind cr num cur du : Int32} {wi dm : Int64} (hI : inv cI cO tE ad own ws P M V S T n cel ind cr num cur du wi dm np nc ct cf co ca wd) (k : Nat) (hkn : k < nc) (x : Int32) (hx : ¬ oR x 0 1000000) : Met l yX7_judge wsX7_judge { frames := 7, cells := 2, slots := 12, locals := 114 } (pcX G tys ws A tE mi [.ref (ad 0), .int (nI k), .int x]) (va_Qi (fun (r : Int32) (_ : Unit) => r = jVer (jOpen P M V x (ct k) (cf k).toNatClampNeg ((co k).toNatClampNeg + 1 - (cf k).toNatClampNeg)) (cf k) (co k) (ca k) (wd k)) (fun _ t => va_P G vwCl ws t.heap ∧ va_D A ws) A) 2 12 A := by
  have hI0 := hI
  obtain ⟨hV, hL, hF, hR, hC, hP, hM⟩ := hI
  obtain ⟨q6, e6, g6, hL6, hn60⟩ := hP
  obtain ⟨q, e, g, gW, aW, hL9, hW, hWi, hn8, hcl⟩ := hM
  have hkk : (nI k).toNatClampNeg = k := nI_clamp (by omega)
  exact mopKi (vx_ok (metX7_judge (pt := P) (pu := M) (pw := V) (ct := ct) (cf := cf) (co2 := co) (ca := ca) (wd := wd) l hnt G tys htI ws htO hV.1 hL6.1 (fun i hi => (hL6.2.2.2.1 i hi).1) hL9.1 (fun i hi => (hL9.2.2.2.1 i hi).1) (fun i hi => (hW i hi).1) hn60 hcl (nI k) x) (cd_if (uK_of hkn (by omega)) (cd_if hx rfl))) (fun r u h => by rw [hkk] at h; exact h.2)
set_option maxHeartbeats 4000000 in
set_option maxRecDepth 100000 in
theorem op_repeats {l : Launch} (hnt : l.stackTraces = false) (G : va_G) (tys : List (ClassId × FieldType)) {A : Nat → Prop} {tE mi : Nat} {cI cO : ClassId} (htI : tI tys cI) (htO : tO tys cO) {ad own : Nat → Nat} {ws : va_W} {P M V S T cel ct cf co ca : Nat → Int32} {wd : Nat → Nat → Int32} {n np nc : Nat} {ind cr num cur du : Int32} {wi dm : Int64} (hI : inv cI cO tE ad own ws P M V S T n cel ind cr num cur du wi dm np nc ct cf co ca wd) (k h : Nat) (hkn : k < nc) (hh : h < 7) (x : Int32) : Met l yX7_repeats wsX7_repeats { frames := 7, cells := 2, slots := 12, locals := 103 } (pcX G tys ws A tE mi [.ref (ad 0), .int (nI k), .int (nI h), .int x]) (va_Qi (fun (r : Int32) (w : va_W) => r = hCnt (upd (wd k) h (if x = 0 then 2 else 1)) 1 7 ∧ ∃ own2, inv cI cO tE ad own2 w P M V S T n cel ind cr num cur du wi dm np nc ct cf co ca (fun i => if i = k then upd (wd k) h (if x = 0 then 2 else 1) else wd i)) (fun w t => va_P G vwCl w t.heap ∧ va_D A w) A) 2 12 A := by
  have hI0 := hI
  obtain ⟨hV, hL, hF, hR, hC, hP, hM⟩ := hI
  obtain ⟨q6, e6, g6, hL6, hn60⟩ := hP
  obtain ⟨q, e, g, gW, aW, hL9, hW, hWi, hn8, hcl⟩ := hM
  have hkk : (nI k).toNatClampNeg = k := nI_clamp (by omega)
  have hhh : (nI h).toNatClampNeg = h := nI_clamp (by omega)
  have hcl9 := vx_ok (metX7_repeats (A := A) (mi := mi) (pt := P) (pu := M) (pw := V) (ct := ct) (cf := cf) (co2 := co) (ca := ca) (wd := wd) l hnt G tys htI ws htO hV.1 hL6.1 (fun i hi => (hL6.2.2.2.1 i hi).1) hL9.1 (fun i hi => (hL9.2.2.2.1 i hi).1) (fun i hi => (hW i hi).1) (nI k) (nI h) x) (cd_if (uK_of hkn (by omega)) (cd_if (uK_of hh (by decide)) rfl))
  rw [hkk, hhh] at hcl9
  refine mopI hcl9 (fun r u hp => ⟨hp.2, own, hI0.m (chg.rf.set (hW k hkn).2) ⟨q, e, g, gW, aW, hL9.keep (hW k hkn).1, fun i hi => ⟨?_, (hW i hi).2⟩, hWi, hn8, hcl⟩⟩)
  dsimp only
  by_cases c : i = k
  · rw [if_pos c, c]; exact va_ge (hW k hkn).1
  · rw [if_neg c]; exact va_gs (fun c2 => c (hWi i k hi hkn c2)) (hW i hi).1
set_option maxHeartbeats 4000000 in
set_option maxRecDepth 100000 in
theorem op_claim {l : Launch} (hnt : l.stackTraces = false) (G : va_G) (tys : List (ClassId × FieldType)) {A : Nat → Prop} {tE mi : Nat} {cI cO : ClassId} (htI : tI tys cI) (htO : tO tys cO) {ad own : Nat → Nat} {ws : va_W} {P M V S T cel ct cf co ca : Nat → Int32} {wd : Nat → Nat → Int32} {n np nc : Nat} {ind cr num cur du : Int32} {wi dm : Int64} (hI : inv cI cO tE ad own ws P M V S T n cel ind cr num cur du wi dm np nc ct cf co ca wd) (x : Int32) (a b : Nat) (hx : ¬ oR x 1 300) (hab : a ≤ b) (hb : b < np) (hnc : nc < 8) : Met l yX7_claim wsX7_claim { frames := 8, cells := 8, slots := 242, locals := 225 } (pcX G tys ws A tE mi [.ref (ad 0), .int x, .int (nI a), .int (nI b)]) (va_Qi (fun (r : Int32) (w : va_W) => r = nI nc ∧ ∃ own2, inv cI cO tE ad own2 w P M V S T n cel ind cr num cur du wi dm np (nc + 1) (upd ct nc x) (upd cf nc (nI a)) (upd co nc (nI b)) (upd ca nc (nI np)) (va_up wd nc (fun _ => 0))) (fun w t => va_P G vwCl w t.heap ∧ va_D A w) A) 8 242 A := by
  have hI0 := hI
  obtain ⟨hV, hL, hF, hR, hC, hP, hM⟩ := hI
  obtain ⟨q6, e6, g6, hL6, hn60⟩ := hP
  obtain ⟨q, e, g, gW, aW, hL9, hW, hWi, hn8, hcl⟩ := hM
  have hto : ¬ oR (nI b) (nI a) (nI np - 1) := by
    rw [show nI np - 1 = nI (np - 1) from nI_m1' (by omega)]
    exact oR_of (a := (a : Int)) (b := ((np - 1 : Nat) : Int)) (c := (b : Int)) (nI_toInt (by omega)) (nI_toInt (by omega)) (nI_toInt (by omega)) (by omega) (by omega)
  have hcd : cdClaim x (nI a) (nI b) (nI np) (nI nc) = 0 := cd_if (uK_of (by omega) (by omega)) (cd_if (uK_of hb (by omega)) (cd_if hx (cd_if hto (cd_if (show ¬ nI 8 ≤ nI nc from nI_ge hnc (by decide)) rfl))))
  · refine mopI (vx_ok (metX7_claim (pt := P) (pu := M) (pw := V) (ct := ct) (cf := cf) (co2 := co) (ca := ca) (wd := wd) l hnt G tys htI ws htO hV.1 hL6.1 (fun i hi => (hL6.2.2.2.1 i hi).1) hL9.1 (fun i hi => (hL9.2.2.2.1 i hi).1) (fun i hi => (hW i hi).1) x (nI a) (nI b) (by omega)) hcd) (fun r u h => ?_)
    obtain ⟨-, h3, h4⟩ := h
    obtain ⟨q2, hL2, hc, hmo, hki⟩ := hL9.add (by decide) h4
    refine ⟨h3, _, hI0.m hc ⟨q2, _, _, va_up gW nc (ws.length + 1), va_up aW nc u.2.1, hL2.vs (fun i hi => ?_), fun i hi => ?_, fun i j hi hj c => ?_, by omega, fun i hi => ?_⟩⟩
    · by_cases c : i = nc
      · rw [if_pos c, c, upd_at, upd_at, upd_at, upd_at, va_up_self]
      · rw [if_neg c, upd_ne c, upd_ne c, upd_ne c, upd_ne c, va_up_ne _ _ c]
    · by_cases c : i = nc
      · rw [c, va_up_self, va_up_self, va_up_self]
        exact ⟨hmo 0 _ rfl, if_neg (by omega)⟩
      · rw [va_up_ne _ _ c, va_up_ne _ _ c, va_up_ne _ _ c]
        have hwi := hW i (by omega)
        exact ⟨hki _ _ _ _ _ hwi.1, by dsimp only; rw [if_pos (pl_lt hwi.1)]; exact hwi.2⟩
    · by_cases c1 : i = nc
      · by_cases c2 : j = nc
        · omega
        · rw [c1, va_up_self, va_up_ne _ _ c2] at c
          have := pl_lt (hW j (by omega)).1
          omega
      · by_cases c2 : j = nc
        · rw [c2, va_up_self, va_up_ne _ _ c1] at c
          have := pl_lt (hW i (by omega)).1
          omega
        · rw [va_up_ne _ _ c1, va_up_ne _ _ c2] at c
          exact hWi i j (by omega) (by omega) c
    · by_cases c : i = nc
      · rw [c, upd_at, upd_at]
        exact ⟨a, b, rfl, rfl, hab, hb⟩
      · rw [upd_ne c, upd_ne c]; exact hcl i (by omega)
-- part 73
/-! THE LAW'S OWN METHODS: a cell of the script, a number below another -/
def pcS (b L : Nat) (xs : Nat → Int32) (av : List Value) : Array Value → State → Prop := va_Pc av (fun U => va_X b L xs U U.heap)
theorem pcS_b {b L : Nat} {xs : Nat → Int32} {av : List Value} : FrameBlind (pcS b L xs av) := fun a U g mk q => ⟨q.1, va_X.moved (u := U) (U := U.calling g mk a) (Vm.Alike.refl U.vm) q.2⟩
theorem pcS_u {b L : Nat} {xs : Nat → Int32} {av : List Value} {s : State} {A : Nat → Prop} {H : Heap} {locs : List Loc} (hX : va_X b L xs s s.heap) (hbl : b < s.heap.size) (hbA : ¬ A b) (hS : va_S A s.heap H locs) : ∀ U : State, U.heap = H → s.WarmedH U.vm → pcS b L xs av av.toArray U :=
  fun U hU hW => ⟨rfl, by show va_X b L xs U U.heap; rw [hU]; exact (hX.kept (hS.2.1 b hbl hbA)).moved hW.alike⟩
theorem ofS {l : Launch} {y : MethodName} {wy wy' : List Cond} {rm : Room} {b L : Nat} {xs : Nat → Int32} {av : List Value} {Qc : Array Value → State → Outcome → State → Prop} {mc ms : Nat} {free : Addr → Prop} {cc : ByteArray} {maxL : Nat} {ret : Option FieldType} (hy : plainName y.cls = true) (hw : wy = Cond.code y cc maxL ret :: wy') (hn : (lg_sl av).length ≤ maxL)
    (body : ∀ (p : Program) (e : Env) (s : State) (m : MethodId) (below : List Frame) (meth : Method) (c : Code) (ls : Array Slot), p.tables.exec = Jvm.exec → c.code = cc → meth.sig.returnType = ret → meth.locks = false → c.maxLocals = maxL → s.vm.findClass y.cls = some m.cls → (∀ w ∈ wy, w.before av.toArray s = true) → lv_has ls maxL (lv_args 0 av) → va_X b L xs s s.heap →
      W p l e (headSpec wy rm).room s m av.toArray below meth c s.heap [] 0 0 (MQ below Qc av.toArray s mc ms free) (F0 m 0 ls [])) : Met l y wy rm (pcS b L xs av) Qc mc ms free := by
  refine Met.ofW (cc := cc) (maxL := maxL) (ret := ret) hy hw ?_
  intro p e s m args below meth c s₁ B hml hv
  obtain ⟨rfl, hX⟩ := hv
  have hl := lv_entry av (n := maxL) hn
  rw [lg_entry_eq]
  exact body p e s m below meth c _ B.exec B.bytes B.returns B.notSynchronized hml (findClass_of_methodNamed B.named) (atoms_spec (ws := wy) B.pre) hl hX
set_option maxHeartbeats 4000000 in
set_option maxRecDepth 100000 in
theorem metL_cell (l : Launch) {b L : Nat} {xs : Nat → Int32} (hL : L ≤ 260) (k : Nat) (hk : k < 2 ^ 31) : Met l yL_cell wsL_cell ({ frames := 0, cells := 0, slots := 0, locals := 0 }) (pcS b L xs [.ref b, .int (nI k)]) (vp_Si (fun _ => True)) 0 0 (fun _ => False) := by
  refine ofS (cc := cL_cell) (maxL := 2) (ret := some .int) (by decide) rfl (Nat.le_of_ble_eq_true rfl) ?_
  intro p e s m below meth c ls hx hb hr hlocks hml hown hts hl hX
  have hown : s.vm.findClass RL = some m.cls := hown
  have hl : lv_has ls 2 [(0, .ref b), (1, .int (nI k))] := hl
  have hbl : b < s.heap.size := by obtain ⟨scr, h1, -⟩ := hX; exact (Array.getElem?_eq_some_iff.mp h1).1
  have hS : va_S (fun _ => False) s.heap s.heap [] := va_S.rf
  refine lv_iload_n hx hb dL_cell_0 rfl (lv_at hl 1 rfl) ?_
  refine lv_aload_n hx hb dL_cell_1 rfl (lv_at hl 0 rfl) ?_
  refine va_slen hx hb hX hbl (fun q => q) hS dL_cell_2 ?_
  refine lv_icmp_ge (tgt := 12) hx hb dL_cell_3 (by decide) (fun c3 => ?_) (fun c3 => ?_)
  · refine lv_ldc (v := 1831816083) hx hb hown (hts (.constant RL 7 (1831816083)) (List.mem_of_getElem? (i := 1) rfl)) dL_cell_12 ?_
    refine lv_iload_n hx hb dL_cell_14 rfl (lv_at hl 1 rfl) ?_
    refine lv_iconst (v := 1) hx hb dL_cell_15 (by decide) ?_
    refine lv_iadd hx hb dL_cell_16 ?_
    refine lv_imul hx hb dL_cell_17 ?_
    exact W.iret (v := 1831816083 * (nI k + 1)) hx hb hr (fun t ht hW => ⟨_, rfl, trivial, ht⟩) (fun _ h => absurd h List.not_mem_nil) dL_cell_18
  · have c4 : ¬ nI L ≤ nI k := c3
    have hkL : k < L := Nat.lt_of_not_le (fun q => c4 ((nI_leI (by omega) hk).mpr q))
    refine lv_aload_n hx hb dL_cell_6 rfl (lv_at hl 0 rfl) ?_
    refine lv_iload_n hx hb dL_cell_7 rfl (lv_at hl 1 rfl) ?_
    refine va_sld hx hb hX hbl (fun q => q) hS (vp_in_nI hkL (by omega)) dL_cell_8 ?_
    refine lv_goto (tgt := 18) hx hb dL_cell_9 (by decide) ?_
    exact W.iret (v := xs (nI k).toNatClampNeg) hx hb hr (fun t ht hW => ⟨_, rfl, trivial, ht⟩) (fun _ h => absurd h List.not_mem_nil) dL_cell_18
set_option maxHeartbeats 4000000 in
set_option maxRecDepth 100000 in
theorem metL_at (l : Launch) (a N : Nat) (ha : a < 2 ^ 31) (h0 : 0 < N) (hN : N < 2 ^ 31) : Met l yL_at wsL_at ({ frames := 0, cells := 0, slots := 0, locals := 0 }) (pc0 [.int (nI a), .int (nI N)]) (vp_Si (fun r => ∃ k, k < N ∧ r = nI k)) 0 0 (fun _ => False) := by
  refine of0 (cc := cL_at) (maxL := 2) (ret := some .int) (by decide) rfl (Nat.le_of_ble_eq_true rfl) ?_
  intro p e s m below meth c ls hx hb hr hlocks hml hown hts hl
  have hl : lv_has ls 2 [(0, .int (nI a)), (1, .int (nI N))] := hl
  refine lv_iload_n hx hb dL_at_0 rfl (lv_at hl 0 rfl) ?_
  refine lv_iconst (v := 1) hx hb dL_at_1 (by decide) ?_
  refine lv_iushr hx hb dL_at_2 (pk_ushrN (by omega) 1 1 (by decide +kernel)) ?_
  refine lv_iload_n hx hb dL_at_3 rfl (lv_at hl 1 rfl) ?_
  refine lv_irem hx hb dL_at_4 (nI_ne0 h0 hN) ?_
  refine re_i (pk_rem (a := a / 2 ^ 1) (d := N) (by omega) h0 hN) ?_
  exact W.iret (v := nI (a / 2 ^ 1 % N)) hx hb hr (fun t ht hW => ⟨_, rfl, ⟨_, Nat.mod_lt _ h0, rfl⟩, ht⟩) (fun _ h => absurd h List.not_mem_nil) dL_at_5
theorem cOf2 {cur du : Int32} {wi dm : Int64} {wm : Nat → Int32} (h : du = 0) : cOf cur du wi dm wm 2 = 0 := by
  unfold cOf
  rw [if_neg (by decide), if_neg (by decide), if_pos rfl, if_pos h]
theorem cOf3 {cur du : Int32} {wi dm : Int64} {wm : Nat → Int32} : cOf cur du wi dm wm 3 = wi := by
  unfold cOf
  rw [if_neg (by decide), if_neg (by decide), if_neg (by decide), if_pos rfl]
theorem cOf4 {cur du : Int32} {wi dm : Int64} {wm : Nat → Int32} : cOf cur du wi dm wm 4 = dm := by
  unfold cOf
  rw [if_neg (by decide), if_neg (by decide), if_neg (by decide), if_neg (by decide), if_pos rfl]
theorem cOf5 {cur du : Int32} {wi dm : Int64} {wm : Nat → Int32} : cOf cur du wi dm wm 5 = cSto cur := by
  unfold cOf
  rw [if_neg (by decide), if_neg (by decide), if_neg (by decide), if_neg (by decide), if_neg (by decide)]
theorem sh_h : ∀ h : Nat, h < 10 → ((nI h &&& 31).toBitVec.smod 32).toNat = h := by decide +kernel
theorem cw_17 : Cond.constant RL 17 (2147483647) ∈ lw_tbl := by decide +kernel
theorem cw_55 : Cond.constant RL 55 (60001) ∈ lw_tbl := by decide +kernel
theorem cw_33 : Cond.constantLong RL 33 (50) ∈ lw_tbl := by decide +kernel
-- part 74
/-! PAIRS THAT WERE TURNED ROUND -/
def hitP (P M : Nat → Int32) (ct : Int32) (a b : Nat) : Prop := P a = P b ∧ P a < ct ∧ ¬ M a ≤ 0 ∧ M b = -M a
def farP (V : Nat → Int32) (no : Int32) (a b : Nat) : Prop := ¬ jabs (V a - V b) ≤ 2 * no
section Pairs
variable {P M V : Nat → Int32} {no p ct : Int32} {a b fr n k : Nat}
theorem hit_mir (h : P a < ct) : ¬ pMir (P a) (M a) (P b) (M b) = 0 ↔ hitP P M ct a b := by
  unfold pMir hitP
  by_cases h1 : M a ≤ 0
  · rw [if_pos h1]
    exact ⟨fun q => absurd rfl q, fun q => absurd h1 q.2.2.1⟩
  · rw [if_neg h1]
    by_cases h2 : M b = -M a
    · rw [if_pos h2]
      by_cases h3 : P b = P a
      · rw [if_pos h3]
        exact ⟨fun _ => ⟨h3.symm, h, h1, h2⟩, fun _ => by decide⟩
      · rw [if_neg h3]
        exact ⟨fun q => absurd rfl q, fun q => absurd q.1.symm h3⟩
    · rw [if_neg h2]
      exact ⟨fun q => absurd rfl q, fun q => absurd q.2.2.2 h2⟩
/-- a pair seen, and one too far, of the point a with k points from fr on -/
def hsP (P M : Nat → Int32) (ct : Int32) (a fr k : Nat) : Prop := ∃ j, j < k ∧ hitP P M ct a (fr + j)
def fsP (P M V : Nat → Int32) (no ct : Int32) (a fr k : Nat) : Prop := ∃ j, j < k ∧ hitP P M ct a (fr + j) ∧ farP V no a (fr + j)
theorem hsP_0 : ¬ hsP P M ct a fr 0 := fun ⟨_, h, _⟩ => Nat.not_lt_zero _ h
theorem fsP_0 : ¬ fsP P M V no ct a fr 0 := fun ⟨_, h, _⟩ => Nat.not_lt_zero _ h
theorem hsP_s : hsP P M ct a fr (k + 1) ↔ hsP P M ct a fr k ∨ hitP P M ct a (fr + k) := by
  constructor
  · rintro ⟨j, h1, h2⟩
    by_cases q : j = k
    · subst q; exact Or.inr h2
    · exact Or.inl ⟨j, by omega, h2⟩
  · rintro (⟨j, h1, h2⟩ | h)
    · exact ⟨j, by omega, h2⟩
    · exact ⟨k, by omega, h⟩
theorem fsP_s : fsP P M V no ct a fr (k + 1) ↔ fsP P M V no ct a fr k ∨ (hitP P M ct a (fr + k) ∧ farP V no a (fr + k)) := by
  constructor
  · rintro ⟨j, h1, h2⟩
    by_cases q : j = k
    · subst q; exact Or.inr h2
    · exact Or.inl ⟨j, by omega, h2⟩
  · rintro (⟨j, h1, h2⟩ | h)
    · exact ⟨j, by omega, h2⟩
    · exact ⟨k, by omega, h⟩
theorem jIn_val (ha : P a < ct) (hp : p = 0 ∨ p = 1) (k : Nat) : ((jIn P M V no p a fr k).2 = true ∧ fsP P M V no ct a fr k) ∨ ((jIn P M V no p a fr k).2 = false ∧ ¬ fsP P M V no ct a fr k ∧ (((jIn P M V no p a fr k).1 = 1 ∧ (p = 1 ∨ hsP P M ct a fr k)) ∨ ((jIn P M V no p a fr k).1 = 0 ∧ p = 0 ∧ ¬ hsP P M ct a fr k))) := by
  induction k with
  | zero =>
    refine Or.inr ⟨rfl, fsP_0, ?_⟩
    rcases hp with h | h
    · exact Or.inr ⟨h, h, hsP_0⟩
    · exact Or.inl ⟨h, Or.inl h⟩
  | succ k ih =>
    rw [fsP_s, hsP_s]
    rcases ih with ⟨h1, h2⟩ | ⟨h1, h2, h3⟩
    · exact Or.inl ⟨jIn_stop h1 (k + 1) (by omega), Or.inl h2⟩
    · by_cases c1 : pMir (P a) (M a) (P (fr + k)) (M (fr + k)) = 0
      · have nh : ¬ hitP P M ct a (fr + k) := fun q => ((hit_mir ha).mpr q) c1
        rw [jIn_no h1 c1]
        refine Or.inr ⟨h1, fun q => q.elim h2 (fun q => nh q.1), ?_⟩
        rcases h3 with ⟨h4, h5⟩ | ⟨h4, h5, h6⟩
        · exact Or.inl ⟨h4, h5.imp id Or.inl⟩
        · exact Or.inr ⟨h4, h5, fun q => q.elim h6 nh⟩
      · have yh : hitP P M ct a (fr + k) := (hit_mir ha).mp c1
        by_cases c2 : jabs (V a - V (fr + k)) ≤ 2 * no
        · rw [jIn_near h1 c1 c2]
          exact Or.inr ⟨rfl, fun q => q.elim h2 (fun q => q.2 c2), Or.inl ⟨rfl, Or.inr (Or.inr yh)⟩⟩
        · rw [jIn_far h1 c1 c2]
          exact Or.inl ⟨rfl, Or.inr ⟨yh, c2⟩⟩
/-- the same of k points from fr on with n points from fr on -/
def hoP (P M : Nat → Int32) (ct : Int32) (fr n k : Nat) : Prop := ∃ i, i < k ∧ hsP P M ct (fr + i) fr n
def foP (P M V : Nat → Int32) (no ct : Int32) (fr n k : Nat) : Prop := ∃ i, i < k ∧ fsP P M V no ct (fr + i) fr n
theorem hoP_0 : ¬ hoP P M ct fr n 0 := fun ⟨_, h, _⟩ => Nat.not_lt_zero _ h
theorem foP_0 : ¬ foP P M V no ct fr n 0 := fun ⟨_, h, _⟩ => Nat.not_lt_zero _ h
theorem hoP_s : hoP P M ct fr n (k + 1) ↔ hoP P M ct fr n k ∨ hsP P M ct (fr + k) fr n := by
  constructor
  · rintro ⟨j, h1, h2⟩
    by_cases q : j = k
    · subst q; exact Or.inr h2
    · exact Or.inl ⟨j, by omega, h2⟩
  · rintro (⟨j, h1, h2⟩ | h)
    · exact ⟨j, by omega, h2⟩
    · exact ⟨k, by omega, h⟩
theorem foP_s : foP P M V no ct fr n (k + 1) ↔ foP P M V no ct fr n k ∨ fsP P M V no ct (fr + k) fr n := by
  constructor
  · rintro ⟨j, h1, h2⟩
    by_cases q : j = k
    · subst q; exact Or.inr h2
    · exact Or.inl ⟨j, by omega, h2⟩
  · rintro (⟨j, h1, h2⟩ | h)
    · exact ⟨j, by omega, h2⟩
    · exact ⟨k, by omega, h⟩
theorem jOut_val (k : Nat) : ((jOut P M V no ct fr n k).2 = true ∧ foP P M V no ct fr n k) ∨ ((jOut P M V no ct fr n k).2 = false ∧ ¬ foP P M V no ct fr n k ∧ (((jOut P M V no ct fr n k).1 = 1 ∧ hoP P M ct fr n k) ∨ ((jOut P M V no ct fr n k).1 = 0 ∧ ¬ hoP P M ct fr n k))) := by
  induction k with
  | zero => exact Or.inr ⟨rfl, foP_0, Or.inr ⟨rfl, hoP_0⟩⟩
  | succ k ih =>
    rw [foP_s, hoP_s]
    rcases ih with ⟨h1, h2⟩ | ⟨h1, h2, h3⟩
    · exact Or.inl ⟨jOut_stop h1 (k + 1) (by omega), Or.inl h2⟩
    · by_cases c1 : P (fr + k) < ct
      · rw [jOut_in h1 c1]
        have hp : (jOut P M V no ct fr n k).1 = 0 ∨ (jOut P M V no ct fr n k).1 = 1 := h3.elim (fun q => Or.inr q.1) (fun q => Or.inl q.1)
        rcases jIn_val (M := M) (V := V) (no := no) (fr := fr) c1 hp n with ⟨g1, g2⟩ | ⟨g1, g2, g3⟩
        · exact Or.inl ⟨g1, Or.inr g2⟩
        · refine Or.inr ⟨g1, fun q => q.elim h2 g2, ?_⟩
          rcases g3 with ⟨g4, g5⟩ | ⟨g4, g5, g6⟩
          · refine Or.inl ⟨g4, ?_⟩
            rcases g5 with g5 | g5
            · rcases h3 with h3 | h3
              · exact Or.inl h3.2
              · rw [h3.1] at g5; exact absurd g5 (by decide)
            · exact Or.inr g5
          · refine Or.inr ⟨g4, fun q => q.elim (fun q => ?_) g6⟩
            rcases h3 with h3 | h3
            · rw [h3.1] at g5; exact absurd g5 (by decide)
            · exact h3.2 q
      · have nh : ¬ hsP P M ct (fr + k) fr n := fun ⟨_, _, q⟩ => c1 q.2.1
        have nf : ¬ fsP P M V no ct (fr + k) fr n := fun ⟨_, _, q, _⟩ => c1 q.2.1
        rw [jOut_out h1 c1]
        refine Or.inr ⟨h1, fun q => q.elim h2 nf, ?_⟩
        rcases h3 with ⟨h4, h5⟩ | ⟨h4, h5⟩
        · exact Or.inl ⟨h4, Or.inl h5⟩
        · exact Or.inr ⟨h4, fun q => q.elim h5 nh⟩
theorem jOpen_val (n : Nat) : (jOpen P M V no ct fr n = 1 ∧ (foP P M V no ct fr n n ∨ ¬ hoP P M ct fr n n)) ∨ (jOpen P M V no ct fr n = 0 ∧ ¬ foP P M V no ct fr n n ∧ hoP P M ct fr n n) := by
  unfold jOpen
  rcases jOut_val (P := P) (M := M) (V := V) (no := no) (ct := ct) (fr := fr) (n := n) n with ⟨h1, h2⟩ | ⟨h1, h2, h3⟩
  · rw [if_pos h1]; exact Or.inl ⟨rfl, Or.inl h2⟩
  · rw [if_neg (by rw [h1]; exact Bool.false_ne_true)]
    rcases h3 with ⟨h4, h5⟩ | ⟨h4, h5⟩
    · rw [h4, if_neg (by decide)]; exact Or.inr ⟨rfl, h2, h5⟩
    · rw [if_pos h4]; exact Or.inl ⟨rfl, Or.inr h5⟩
/-- what the law knows: has and agree, at the pair i, j -/
def lwP (P M V : Nat → Int32) (no ct : Int32) (fr n i j : Nat) (hh gg : Int32) : Prop := ((hh = 1 ∧ (hoP P M ct fr n i ∨ hsP P M ct (fr + i) fr j)) ∨ (hh = 0 ∧ ¬ (hoP P M ct fr n i ∨ hsP P M ct (fr + i) fr j))) ∧ ((gg = 0 ∧ (foP P M V no ct fr n i ∨ fsP P M V no ct (fr + i) fr j)) ∨ (gg = 1 ∧ ¬ (foP P M V no ct fr n i ∨ fsP P M V no ct (fr + i) fr j)))
variable {i j : Nat} {hh gg : Int32}
theorem lwP_0 : lwP P M V no ct fr n 0 0 0 1 := ⟨Or.inr ⟨rfl, fun q => q.elim hoP_0 hsP_0⟩, Or.inr ⟨rfl, fun q => q.elim foP_0 fsP_0⟩⟩
theorem lwP_no (h : lwP P M V no ct fr n i j hh gg) (q : ¬ hitP P M ct (fr + i) (fr + j)) : lwP P M V no ct fr n i (j + 1) hh gg := by
  unfold lwP at h ⊢
  rw [hsP_s, fsP_s]
  have e1 : (hoP P M ct fr n i ∨ hsP P M ct (fr + i) fr j ∨ hitP P M ct (fr + i) (fr + j)) ↔ (hoP P M ct fr n i ∨ hsP P M ct (fr + i) fr j) := ⟨fun z => z.imp id (fun z => z.elim id (fun z => absurd z q)), fun z => z.imp id Or.inl⟩
  have e2 : (foP P M V no ct fr n i ∨ fsP P M V no ct (fr + i) fr j ∨ (hitP P M ct (fr + i) (fr + j) ∧ farP V no (fr + i) (fr + j))) ↔ (foP P M V no ct fr n i ∨ fsP P M V no ct (fr + i) fr j) := ⟨fun z => z.imp id (fun z => z.elim id (fun z => absurd z.1 q)), fun z => z.imp id Or.inl⟩
  rw [e1, e2]
  exact h
theorem lwP_near (h : lwP P M V no ct fr n i j hh gg) (q : hitP P M ct (fr + i) (fr + j)) (q2 : ¬ farP V no (fr + i) (fr + j)) : lwP P M V no ct fr n i (j + 1) 1 gg := by
  unfold lwP at h ⊢
  rw [hsP_s, fsP_s]
  have e2 : (foP P M V no ct fr n i ∨ fsP P M V no ct (fr + i) fr j ∨ (hitP P M ct (fr + i) (fr + j) ∧ farP V no (fr + i) (fr + j))) ↔ (foP P M V no ct fr n i ∨ fsP P M V no ct (fr + i) fr j) := ⟨fun z => z.imp id (fun z => z.elim id (fun z => absurd z.2 q2)), fun z => z.imp id Or.inl⟩
  rw [e2]
  exact ⟨Or.inl ⟨rfl, Or.inr (Or.inr q)⟩, h.2⟩
theorem lwP_far (q : hitP P M ct (fr + i) (fr + j)) (q2 : farP V no (fr + i) (fr + j)) : lwP P M V no ct fr n i (j + 1) 1 0 := by
  unfold lwP
  rw [hsP_s, fsP_s]
  exact ⟨Or.inl ⟨rfl, Or.inr (Or.inr q)⟩, Or.inl ⟨rfl, Or.inr (Or.inr ⟨q, q2⟩)⟩⟩
theorem lwP_next (h : lwP P M V no ct fr n i n hh gg) : lwP P M V no ct fr n (i + 1) 0 hh gg := by
  unfold lwP at h ⊢
  rw [hoP_s, foP_s]
  have e1 : ((hoP P M ct fr n i ∨ hsP P M ct (fr + i) fr n) ∨ hsP P M ct (fr + (i + 1)) fr 0) ↔ (hoP P M ct fr n i ∨ hsP P M ct (fr + i) fr n) := ⟨fun z => z.elim id (fun z => absurd z hsP_0), Or.inl⟩
  have e2 : ((foP P M V no ct fr n i ∨ fsP P M V no ct (fr + i) fr n) ∨ fsP P M V no ct (fr + (i + 1)) fr 0) ↔ (foP P M V no ct fr n i ∨ fsP P M V no ct (fr + i) fr n) := ⟨fun z => z.elim id (fun z => absurd z fsP_0), Or.inl⟩
  rw [e1, e2]
  exact h
/-- behind all pairs -/
theorem lwP_end (h : lwP P M V no ct fr n n 0 hh gg) : (jOpen P M V no ct fr n = 1 ∧ (hh = 0 ∨ gg = 0)) ∨ (jOpen P M V no ct fr n = 0 ∧ hh = 1 ∧ gg = 1) := by
  obtain ⟨h1, h2⟩ := h
  rcases jOpen_val (P := P) (M := M) (V := V) (no := no) (ct := ct) (fr := fr) n with ⟨o1, o2⟩ | ⟨o1, o2, o3⟩
  · refine Or.inl ⟨o1, ?_⟩
    rcases o2 with o2 | o2
    · rcases h2 with h2 | h2
      · exact Or.inr h2.1
      · exact absurd (Or.inl o2) h2.2
    · rcases h1 with h1 | h1
      · exact absurd (h1.2.resolve_right hsP_0) o2
      · exact Or.inl h1.1
  · refine Or.inr ⟨o1, ?_, ?_⟩
    · rcases h1 with h1 | h1
      · exact h1.1
      · exact absurd (Or.inl o3) h1.2
    · rcases h2 with h2 | h2
      · exact absurd (h2.2.resolve_right fsP_0) o2
      · exact h2.1
end Pairs
/-- a difference without its sign, of small numbers -/
theorem off_1 {x y : Int32} (x0 : 0 ≤ x.toInt) (x1 : x.toInt ≤ 1000) (y0 : 0 ≤ y.toInt) (y1 : y.toInt ≤ 1000) (h : y < x) : jabs (x - y) = x - y := by
  rw [Int32.lt_iff_toInt_lt] at h
  have e := i_sub (x := x) (y := y) rfl rfl (by omega) (by omega)
  exact Int32.toInt_inj.mp (by rw [jabs_int e (by omega), e]; omega)
theorem off_2 {x y : Int32} (x0 : 0 ≤ x.toInt) (x1 : x.toInt ≤ 1000) (y0 : 0 ≤ y.toInt) (y1 : y.toInt ≤ 1000) (h : ¬ y < x) : jabs (x - y) = y - x := by
  rw [Int32.lt_iff_toInt_lt] at h
  have e := i_sub (x := x) (y := y) rfl rfl (by omega) (by omega)
  have e2 := i_sub (x := y) (y := x) rfl rfl (by omega) (by omega)
  exact Int32.toInt_inj.mp (by rw [jabs_int e (by omega), e2]; omega)
/-- a house tells its word -/
theorem hCnt_lo {f : Nat → Int32} {h : Nat} {x w : Int32} (k : Nat) (hk : k ≤ h) : hCnt (upd f h x) w k = hCnt f w k := by
  induction k with
  | zero => rfl
  | succ k ih =>
    have ih := ih (by omega)
    unfold hCnt
    rw [upd_ne (by omega), ih]
theorem hCnt_hi {f : Nat → Int32} {h : Nat} {x w : Int32} (hf : ¬ f h = w) (k : Nat) (hk : h < k) : hCnt (upd f h x) w k = if x = w then hCnt f w k + 1 else hCnt f w k := by
  induction k with
  | zero => omega
  | succ k ih =>
    by_cases c : h = k
    · subst c
      unfold hCnt
      rw [upd_at, hCnt_lo h (Nat.le_refl h), if_neg hf]
    · have ih := ih (by omega)
      unfold hCnt
      rw [upd_ne (by omega), ih]
      by_cases c1 : x = w
      · rw [if_pos c1, if_pos c1]
        by_cases c2 : f k = w
        · rw [if_pos c2, if_pos c2]
        · rw [if_neg c2, if_neg c2]
      · rw [if_neg c1, if_neg c1]
theorem hCnt_z (w : Int32) (hw : ¬ 0 = w) (k : Nat) : hCnt (fun _ => 0) w k = 0 := by
  induction k with
  | zero => rfl
  | succ k ih =>
    unfold hCnt
    rw [if_neg hw, ih]
/-- behind slips: no current above the critical one that a slip would make less -/
theorem slip_no {ind cr fl n : Int32} (h0 : ¬ ind = 0) (h : rStop ind cr fl n) : ((1000 * n - fl) / ind ≤ 0 → jabs ((1000 * n - fl) / ind) ≤ cr ∨ ¬ jabs ((1000 * (n + 1) - fl) / ind) < jabs ((1000 * n - fl) / ind)) ∧ (¬ (1000 * n - fl) / ind ≤ 0 → jabs ((1000 * n - fl) / ind) ≤ cr ∨ ¬ jabs ((1000 * (n + -1) - fl) / ind) < jabs ((1000 * n - fl) / ind)) := by
  have e : ∀ m, rCur ind fl m = (1000 * m - fl) / ind := fun m => by unfold rCur; rw [if_neg h0]
  unfold rStop rBy at h
  rw [e n] at h
  constructor
  · intro c
    rw [if_pos c, e] at h
    exact h
  · intro c
    rw [if_neg c, e, Int32.sub_eq_add_neg n 1] at h
    exact h
theorem jabs_neg {x : Int32} (h : ¬ 0 ≤ x) : jabs x = -x := by
  unfold jabs
  rw [if_neg h, Int32.zero_sub]
theorem jabs_pos {x : Int32} (h : 0 ≤ x) : jabs x = x := by
  unfold jabs
  rw [if_pos h]
-- part 76
/-- what holds between two turns of the law -/
def ti (cI cO : ClassId) (tE : Nat) (ad : Nat → Nat) (ind cr : Int32) (n np : Nat) (al : Int64) (ws : va_W) : Prop := ∃ (own : Nat → Nat) (P M V S T cel ct cf co ca : Nat → Int32) (wd : Nat → Nat → Int32) (num cur du : Int32) (wi dm : Int64), inv cI cO tE ad own ws P M V S T n cel ind cr num cur du wi dm np 0 ct cf co ca wd ∧ al = wi + dm + cSto cur ∧ (∀ k, k < 20 → T k = 1 → k < n ∧ cel k = -1) ∧ np ≤ 57 ∧ ∀ i, i < np → 0 ≤ (V i).toInt ∧ (V i).toInt ≤ 1000
set_option maxHeartbeats 4000000 in
set_option maxRecDepth 100000 in
theorem act_0 {p : Program} {l : Launch} {e : Env} {s : State} {m : MethodId} {below : List Frame} {meth : Method} {c : Code} (hnt : l.stackTraces = false) {G : va_G} {tys : List (ClassId × FieldType)} {tE mi : Nat} {cI cO : ClassId} (htI : tI tys cI) (htO : tO tys cO) {b L : Nat} {xs : Nat → Int32} (hL : L ≤ 260) (C0 : lw_At p s m meth c b L xs) {ad : Nat → Nat} (hK : va_K G vwCl tys s) (hE : env (fun q : Nat => s.heap.size ≤ q) tE mi s s.heap) {ind cr : Int32} {n np tu X : Nat} {al : Int64} {y15 : Int32} {ws : va_W} {H : Heap} {locs : List Loc} {cells slots : Nat} {Q : State → Prop} {ls : Array Slot} (hX31 : X < 2 ^ 31) (hti : ti cI cO tE ad ind cr n np al ws) (hP : va_P G vwCl ws H) (hD : va_D (fun q : Nat => s.heap.size ≤ q) ws) (hS : va_S (fun q : Nat => s.heap.size ≤ q) s.heap H locs) (hl : lv_has ls 26 [(0, .ref b), (1, .ref (ad 0)), (2, .ref (ad 12)), (3, .ref (ad 13)), (4, .ref (ad 14)), (5, .ref (ad 15)), (6, .ref (ad 16)), (7, .int (nI np)), (8, .int (nI n)), (9, .long al), (12, .int ind), (13, .int cr), (14, .int (nI tu)), (11, .int (nI X)), (15, .int y15)]) (hc : cells + 60 ≤ 600130) (hs : slots + 1200 ≤ 7301080) (kk : ∀ (n2 np2 : Nat) (al2 : Int64) (w : va_W) (H1 : Heap) (locs1 : List Loc) (ls1 : Array Slot), ti cI cO tE ad ind cr n2 np2 al2 w → va_P G vwCl w H1 → va_D (fun q : Nat => s.heap.size ≤ q) w → va_S (fun q : Nat => s.heap.size ≤ q) s.heap H1 locs1 → lv_has ls1 26 [(0, .ref b), (1, .ref (ad 0)), (2, .ref (ad 12)), (3, .ref (ad 13)), (4, .ref (ad 14)), (5, .ref (ad 15)), (6, .ref (ad 16)), (7, .int (nI np2)), (8, .int (nI n2)), (9, .long al2), (12, .int ind), (13, .int cr), (14, .int (nI tu))] → W p l e room_1 s m #[Value.ref b] below meth c H1 locs1 (cells + 60) (slots + 1200) Q (F0 m 661 ls1 [])) : W p l e room_1 s m #[Value.ref b] below meth c H locs (cells) (slots) Q (F0 m 132 ls []) := by
  obtain ⟨hx, hb, hr, hml, hown, hts0, hX, hbl, hlocks, hgv⟩ := C0
  have hts : ∀ w ∈ wsL_law, w.before #[Value.ref b] s = true := fun w h => hts0 w (wsL_law_in w h)
  have hown : s.vm.findClass RL = some m.cls := hown
  have hA : ∀ q : Nat, s.heap.size ≤ q → (fun q : Nat => s.heap.size ≤ q) q := fun _ h => h
  have hbA : ¬ (fun q : Nat => s.heap.size ≤ q) b := Nat.not_le.mpr hbl
  obtain ⟨own, P, M, V, S, T, cel, ct, cf, co, ca, wd, num, cur, du, wi, dm, hI, hal, hT, hnp, hV⟩ := hti
  refine lv_iload hx hb dL_law_132 (lv_at hl 13 rfl) ?_
  refine lv_iconst (v := 4) hx hb dL_law_134 (by decide) ?_
  refine lv_ishr hx hb dL_law_135 ?_
  refine re_i (y := nI (X / 2 ^ 4)) (pk_shrN hX31 _ 4 (by decide +kernel)) ?_
  refine lv_sipush (v := 1001) hx hb dL_law_136 (by decide) ?_
  refine re_i (y := nI 1001) (show (1001 : Int32) = nI 1001 from rfl) ?_
  refine vp_callSi (va_Run.run (va_runS (As := [.int (nI (X / 2 ^ 4)), .int (nI 1001)]) (rest := []) ⟨hx, hb, hml, hown, hts⟩ (metL_at l (X / 2 ^ 4) 1001 (by omega) (by decide) (by decide)) (va_cwS 2 hts gL_law_L_at rfl rfl rfl (by decide +kernel) ⟨Nat.le_of_ble_eq_true rfl, Nat.le_of_ble_eq_true rfl⟩) ⟨pc0_b, pc0_u⟩ rfl rfl hl.1 rfl (lv_room (Nat.le_of_ble_eq_true rfl)) dL_law_139 ⟨by show cells + 0 ≤ 600130; omega, by show slots + 0 ≤ 7301080; omega⟩)) (fun r h => ?_)
  obtain ⟨k139, hk139, rfl⟩ := h
  refine lv_istore (lv' := [(16, .int (nI k139)), (0, .ref b), (1, .ref (ad 0)), (2, .ref (ad 12)), (3, .ref (ad 13)), (4, .ref (ad 14)), (5, .ref (ad 15)), (6, .ref (ad 16)), (7, .int (nI np)), (8, .int (nI n)), (9, .long al), (12, .int ind), (13, .int cr), (14, .int (nI tu)), (11, .int (nI X)), (15, .int y15)]) hx hb dL_law_142 hl (by decide) rfl (fun ls hl => ?_)
  refine lv_aload_n hx hb dL_law_144 rfl (lv_at hl 2 rfl) ?_
  refine lv_iconst (v := 3) hx hb dL_law_145 (by decide) ?_
  refine va_calll (va_runV (As := [.int (3 : Int32)]) (rest := []) ⟨hx, hb, hml, hown, hts⟩ (op_ofCoil hnt G tys htI htO hI 3 (by decide)) (cwV 1 hts gL_law_X7_ofCoil rfl rfl rfl (by decide +kernel) ⟨Nat.le_of_ble_eq_true rfl, Nat.le_of_ble_eq_true rfl⟩) ⟨pcX_b, va_recv hK hP (ci := 7) (q0 := 0) rfl hI.1.1, pcX_u hP hK hD hS hA hE⟩ rfl rfl hl.1 rfl (lv_room (Nat.le_of_ble_eq_true rfl)) dL_law_146 ⟨by show cells + 1 ≤ 600130; omega, by show slots + 6 ≤ 7301080; omega⟩) hS (fun q _ h => h) (fun q h => h) (fun r u t H locs ht hvm hq hB hsz hk1 hS => ?_)
  rw [ht] at hB
  obtain ⟨hP, hD⟩ := hB
  obtain ⟨wm, hq⟩ := hq
  refine re_l (y := wi) (hq.trans cOf3) ?_
  refine lv_aload_n hx hb dL_law_149 rfl (lv_at hl 2 rfl) ?_
  refine lv_iconst (v := 4) hx hb dL_law_150 (by decide) ?_
  refine va_calll (va_runV (As := [.int (4 : Int32)]) (rest := [.long wi]) ⟨hx, hb, hml, hown, hts⟩ (op_ofCoil hnt G tys htI htO hI 4 (by decide)) (cwV 1 hts gL_law_X7_ofCoil rfl rfl rfl (by decide +kernel) ⟨Nat.le_of_ble_eq_true rfl, Nat.le_of_ble_eq_true rfl⟩) ⟨pcX_b, va_recv hK hP (ci := 7) (q0 := 0) rfl hI.1.1, pcX_u hP hK hD hS hA hE⟩ rfl rfl hl.1 rfl (lv_room (Nat.le_of_ble_eq_true rfl)) dL_law_151 ⟨by show cells + 1 + 1 ≤ 600130; omega, by show slots + 6 + 6 ≤ 7301080; omega⟩) hS (fun q _ h => h) (fun q h => h) (fun r u t H locs ht hvm hq hB hsz hk1 hS => ?_)
  rw [ht] at hB
  obtain ⟨hP, hD⟩ := hB
  obtain ⟨wm, hq⟩ := hq
  refine re_l (y := dm) (hq.trans cOf4) ?_
  refine lv_ladd hx hb dL_law_154 ?_
  refine lv_lstore (lv' := [(17, .long (wi + dm)), (16, .int (nI k139)), (0, .ref b), (1, .ref (ad 0)), (2, .ref (ad 12)), (3, .ref (ad 13)), (4, .ref (ad 14)), (5, .ref (ad 15)), (6, .ref (ad 16)), (7, .int (nI np)), (8, .int (nI n)), (9, .long al), (12, .int ind), (13, .int cr), (14, .int (nI tu)), (11, .int (nI X)), (15, .int y15)]) hx hb dL_law_155 hl (by decide) rfl (fun ls hl => ?_)
  refine lv_aload_n hx hb dL_law_157 rfl (lv_at hl 3 rfl) ?_
  refine lv_iload hx hb dL_law_158 (lv_at hl 1 rfl) ?_
  refine va_calli (va_runV (As := [.int (nI k139)]) (rest := []) ⟨hx, hb, hml, hown, hts⟩ (op_current hnt G tys htI htO hI (nI k139) (cd_if (oR_of (a := 0) (b := 1000) (by decide) (by decide) (nI_toInt (by omega)) (by omega) (by omega)) rfl)) (cwV 1 hts gL_law_X7_current rfl rfl rfl (by decide +kernel) ⟨Nat.le_of_ble_eq_true rfl, Nat.le_of_ble_eq_true rfl⟩) ⟨pcX_b, va_recv hK hP (ci := 7) (q0 := 0) rfl hI.1.1, pcX_u hP hK hD hS hA hE⟩ rfl rfl hl.1 rfl (lv_room (Nat.le_of_ble_eq_true rfl)) dL_law_160 ⟨by show cells + 1 + 1 + 1 ≤ 600130; omega, by show slots + 6 + 6 + 6 ≤ 7301080; omega⟩) hS (fun q _ h => h) (fun q h => h) (fun r w t H locs ht hvm hq hB hsz hk1 hS => ?_)
  rw [ht] at hB
  obtain ⟨hP, hD⟩ := hB
  obtain ⟨own2, hI⟩ := hq
  refine lv_pop hx hb dL_law_163 rfl ?_
  refine lv_aload_n hx hb dL_law_164 rfl (lv_at hl 3 rfl) ?_
  refine lv_iconst (v := 3) hx hb dL_law_165 (by decide) ?_
  refine va_calll (va_runV (As := [.int (3 : Int32)]) (rest := []) ⟨hx, hb, hml, hown, hts⟩ (op_ofCoil hnt G tys htI htO hI 3 (by decide)) (cwV 1 hts gL_law_X7_ofCoil rfl rfl rfl (by decide +kernel) ⟨Nat.le_of_ble_eq_true rfl, Nat.le_of_ble_eq_true rfl⟩) ⟨pcX_b, va_recv hK hP (ci := 7) (q0 := 0) rfl hI.1.1, pcX_u hP hK hD hS hA hE⟩ rfl rfl hl.1 rfl (lv_room (Nat.le_of_ble_eq_true rfl)) dL_law_166 ⟨by show cells + 1 + 1 + 1 + 1 ≤ 600130; omega, by show slots + 6 + 6 + 6 + 6 ≤ 7301080; omega⟩) hS (fun q _ h => h) (fun q h => h) (fun r u t H locs ht hvm hq hB hsz hk1 hS => ?_)
  rw [ht] at hB
  obtain ⟨hP, hD⟩ := hB
  obtain ⟨wm, hq⟩ := hq
  refine re_l (y := wi) (hq.trans cOf3) ?_
  refine lv_aload_n hx hb dL_law_169 rfl (lv_at hl 3 rfl) ?_
  refine lv_iconst (v := 4) hx hb dL_law_170 (by decide) ?_
  refine va_calll (va_runV (As := [.int (4 : Int32)]) (rest := [.long wi]) ⟨hx, hb, hml, hown, hts⟩ (op_ofCoil hnt G tys htI htO hI 4 (by decide)) (cwV 1 hts gL_law_X7_ofCoil rfl rfl rfl (by decide +kernel) ⟨Nat.le_of_ble_eq_true rfl, Nat.le_of_ble_eq_true rfl⟩) ⟨pcX_b, va_recv hK hP (ci := 7) (q0 := 0) rfl hI.1.1, pcX_u hP hK hD hS hA hE⟩ rfl rfl hl.1 rfl (lv_room (Nat.le_of_ble_eq_true rfl)) dL_law_171 ⟨by show cells + 1 + 1 + 1 + 1 + 1 ≤ 600130; omega, by show slots + 6 + 6 + 6 + 6 + 6 ≤ 7301080; omega⟩) hS (fun q _ h => h) (fun q h => h) (fun r u t H locs ht hvm hq hB hsz hk1 hS => ?_)
  rw [ht] at hB
  obtain ⟨hP, hD⟩ := hB
  obtain ⟨wm, hq⟩ := hq
  refine re_l (y := dm) (hq.trans cOf4) ?_
  refine lv_ladd hx hb dL_law_174 ?_
  refine lv_lload hx hb dL_law_175 (lv_at hl 0 rfl) ?_
  refine W.lcmp hx hb dL_law_177 ?_
  refine re_i (y := (0 : Int32)) (lg_cmp_self _) ?_
  refine lv_if_ne (tgt := 191) hx hb dL_law_178 (by decide) (fun c178 => absurd (by decide) c178) (fun c178 => ?_)
  refine lv_aload_n hx hb dL_law_181 rfl (lv_at hl 3 rfl) ?_
  refine lv_iconst (v := 2) hx hb dL_law_182 (by decide) ?_
  refine va_calll (va_runV (As := [.int (2 : Int32)]) (rest := []) ⟨hx, hb, hml, hown, hts⟩ (op_ofCoil hnt G tys htI htO hI 2 (by decide)) (cwV 1 hts gL_law_X7_ofCoil rfl rfl rfl (by decide +kernel) ⟨Nat.le_of_ble_eq_true rfl, Nat.le_of_ble_eq_true rfl⟩) ⟨pcX_b, va_recv hK hP (ci := 7) (q0 := 0) rfl hI.1.1, pcX_u hP hK hD hS hA hE⟩ rfl rfl hl.1 rfl (lv_room (Nat.le_of_ble_eq_true rfl)) dL_law_183 ⟨by show cells + 1 + 1 + 1 + 1 + 1 + 1 ≤ 600130; omega, by show slots + 6 + 6 + 6 + 6 + 6 + 6 ≤ 7301080; omega⟩) hS (fun q _ h => h) (fun q h => h) (fun r u t H locs ht hvm hq hB hsz hk1 hS => ?_)
  rw [ht] at hB
  obtain ⟨hP, hD⟩ := hB
  obtain ⟨wm, hq⟩ := hq
  refine re_l (y := 0) (hq.trans (cOf2 rfl)) ?_
  refine lv_lconst (v := 0) hx hb dL_law_186 (by decide) ?_
  refine W.lcmp hx hb dL_law_187 ?_
  refine re_i (y := (0 : Int32)) (lg_cmp_self _) ?_
  refine lv_if_eq (tgt := 193) hx hb dL_law_188 (by decide) (fun c188 => ?_) (fun c188 => absurd (by decide) c188)
  refine lv_lload hx hb dL_law_193 (lv_at hl 0 rfl) ?_
  refine lv_ldc2 (v := 50) hx hb hown (hts0 _ cw_33) dL_law_195 ?_
  refine lv_iload hx hb dL_law_198 (lv_at hl 1 rfl) ?_
  refine lv_i2l hx hb dL_law_200 rfl ?_
  refine lv_lmul hx hb dL_law_201 ?_
  refine lv_iload hx hb dL_law_202 (lv_at hl 1 rfl) ?_
  refine lv_i2l hx hb dL_law_204 rfl ?_
  refine lv_lmul hx hb dL_law_205 ?_
  refine lv_ladd hx hb dL_law_206 ?_
  refine lv_lstore (lv' := [(9, .long ((wi + dm) + ((50 * ((nI k139).toInt64)) * ((nI k139).toInt64)))), (17, .long (wi + dm)), (16, .int (nI k139)), (0, .ref b), (1, .ref (ad 0)), (2, .ref (ad 12)), (3, .ref (ad 13)), (4, .ref (ad 14)), (5, .ref (ad 15)), (6, .ref (ad 16)), (7, .int (nI np)), (8, .int (nI n)), (12, .int ind), (13, .int cr), (14, .int (nI tu)), (11, .int (nI X)), (15, .int y15)]) hx hb dL_law_207 hl (by decide) rfl (fun ls hl => ?_)
  refine lv_goto (tgt := 661) hx hb dL_law_209 (by decide) ?_
  refine W.widen (k := cells + 60) (n := slots + 1200) (by omega) (by omega) ?_
  exact kk n np (wi + dm + 50 * (nI k139).toInt64 * (nI k139).toInt64) _ _ _ _ ⟨_, _, _, _, _, _, _, _, _, _, _, _, _, _, _, _, _, hI, rfl, hT, hnp, hV⟩ hP hD hS (lv_sub hl [3, 4, 5, 6, 7, 8, 9, 10, 11, 0, 12, 13, 14] rfl)
set_option maxHeartbeats 4000000 in
set_option maxRecDepth 100000 in
theorem act_1 {p : Program} {l : Launch} {e : Env} {s : State} {m : MethodId} {below : List Frame} {meth : Method} {c : Code} (hnt : l.stackTraces = false) {G : va_G} {tys : List (ClassId × FieldType)} {tE mi : Nat} {cI cO : ClassId} (htI : tI tys cI) (htO : tO tys cO) {b L : Nat} {xs : Nat → Int32} (hL : L ≤ 260) (C0 : lw_At p s m meth c b L xs) {ad : Nat → Nat} (hK : va_K G vwCl tys s) (hE : env (fun q : Nat => s.heap.size ≤ q) tE mi s s.heap) {ind cr : Int32} {n np tu X : Nat} {al : Int64} {y15 : Int32} {ws : va_W} {H : Heap} {locs : List Loc} {cells slots : Nat} {Q : State → Prop} {ls : Array Slot} (hX31 : X < 2 ^ 31) (hti : ti cI cO tE ad ind cr n np al ws) (hP : va_P G vwCl ws H) (hD : va_D (fun q : Nat => s.heap.size ≤ q) ws) (hS : va_S (fun q : Nat => s.heap.size ≤ q) s.heap H locs) (hl : lv_has ls 26 [(0, .ref b), (1, .ref (ad 0)), (2, .ref (ad 12)), (3, .ref (ad 13)), (4, .ref (ad 14)), (5, .ref (ad 15)), (6, .ref (ad 16)), (7, .int (nI np)), (8, .int (nI n)), (9, .long al), (12, .int ind), (13, .int cr), (14, .int (nI tu)), (11, .int (nI X)), (15, .int y15)]) (hc : cells + 60 ≤ 600130) (hs : slots + 1200 ≤ 7301080) (kk : ∀ (n2 np2 : Nat) (al2 : Int64) (w : va_W) (H1 : Heap) (locs1 : List Loc) (ls1 : Array Slot), ti cI cO tE ad ind cr n2 np2 al2 w → va_P G vwCl w H1 → va_D (fun q : Nat => s.heap.size ≤ q) w → va_S (fun q : Nat => s.heap.size ≤ q) s.heap H1 locs1 → lv_has ls1 26 [(0, .ref b), (1, .ref (ad 0)), (2, .ref (ad 12)), (3, .ref (ad 13)), (4, .ref (ad 14)), (5, .ref (ad 15)), (6, .ref (ad 16)), (7, .int (nI np2)), (8, .int (nI n2)), (9, .long al2), (12, .int ind), (13, .int cr), (14, .int (nI tu))] → W p l e room_1 s m #[Value.ref b] below meth c H1 locs1 (cells + 60) (slots + 1200) Q (F0 m 661 ls1 [])) : W p l e room_1 s m #[Value.ref b] below meth c H locs (cells) (slots) Q (F0 m 218 ls []) := by
  obtain ⟨hx, hb, hr, hml, hown, hts0, hX, hbl, hlocks, hgv⟩ := C0
  have hts : ∀ w ∈ wsL_law, w.before #[Value.ref b] s = true := fun w h => hts0 w (wsL_law_in w h)
  have hown : s.vm.findClass RL = some m.cls := hown
  have hA : ∀ q : Nat, s.heap.size ≤ q → (fun q : Nat => s.heap.size ≤ q) q := fun _ h => h
  have hbA : ¬ (fun q : Nat => s.heap.size ≤ q) b := Nat.not_le.mpr hbl
  obtain ⟨own, P, M, V, S, T, cel, ct, cf, co, ca, wd, num, cur, du, wi, dm, hI, hal, hT, hnp, hV⟩ := hti
  refine lv_aload_n hx hb dL_law_218 rfl (lv_at hl 1 rfl) ?_
  refine lv_iload hx hb dL_law_219 (lv_at hl 13 rfl) ?_
  refine lv_iconst (v := 4) hx hb dL_law_221 (by decide) ?_
  refine lv_ishr hx hb dL_law_222 ?_
  refine re_i (y := nI (X / 2 ^ 4)) (pk_shrN hX31 _ 4 (by decide +kernel)) ?_
  refine lv_bipush (v := 12) hx hb dL_law_223 (by decide) ?_
  refine re_i (y := nI 12) (show (12 : Int32) = nI 12 from rfl) ?_
  refine vp_callSi (va_Run.run (va_runS (As := [.int (nI (X / 2 ^ 4)), .int (nI 12)]) (rest := [.ref (ad 0)]) ⟨hx, hb, hml, hown, hts⟩ (metL_at l (X / 2 ^ 4) 12 (by omega) (by decide) (by decide)) (va_cwS 2 hts gL_law_L_at rfl rfl rfl (by decide +kernel) ⟨Nat.le_of_ble_eq_true rfl, Nat.le_of_ble_eq_true rfl⟩) ⟨pc0_b, pc0_u⟩ rfl rfl hl.1 rfl (lv_room (Nat.le_of_ble_eq_true rfl)) dL_law_225 ⟨by show cells + 0 ≤ 600130; omega, by show slots + 0 ≤ 7301080; omega⟩)) (fun r h => ?_)
  obtain ⟨k225, hk225, rfl⟩ := h
  refine lv_iconst (v := 1) hx hb dL_law_228 (by decide) ?_
  refine lv_iload hx hb dL_law_229 (lv_at hl 13 rfl) ?_
  refine lv_bipush (v := 8) hx hb dL_law_231 (by decide) ?_
  refine lv_ishr hx hb dL_law_233 ?_
  refine re_i (y := nI (X / 2 ^ 8)) (pk_shrN hX31 _ 8 (by decide +kernel)) ?_
  refine lv_sipush (v := 500) hx hb dL_law_234 (by decide) ?_
  refine re_i (y := nI 500) (show (500 : Int32) = nI 500 from rfl) ?_
  refine vp_callSi (va_Run.run (va_runS (As := [.int (nI (X / 2 ^ 8)), .int (nI 500)]) (rest := [.int (1 : Int32), .int (nI k225), .ref (ad 0)]) ⟨hx, hb, hml, hown, hts⟩ (metL_at l (X / 2 ^ 8) 500 (by omega) (by decide) (by decide)) (va_cwS 2 hts gL_law_L_at rfl rfl rfl (by decide +kernel) ⟨Nat.le_of_ble_eq_true rfl, Nat.le_of_ble_eq_true rfl⟩) ⟨pc0_b, pc0_u⟩ rfl rfl hl.1 rfl (lv_room (Nat.le_of_ble_eq_true rfl)) dL_law_237 ⟨by show cells + 0 ≤ 600130; omega, by show slots + 0 ≤ 7301080; omega⟩)) (fun r h => ?_)
  obtain ⟨k237, hk237, rfl⟩ := h
  refine lv_iadd hx hb dL_law_240 ?_
  refine re_i (y := nI (1 + k237)) (nI_add 1 k237) ?_
  refine va_calli (va_runV (As := [.int (nI k225), .int (nI (1 + k237))]) (rest := []) ⟨hx, hb, hml, hown, hts⟩ (op_heat hnt G tys htI htO hI (nI k225) (nI (1 + k237)) (cd_if (uK_of (n := 12) hk225 (by decide)) (cd_if (oR_of (a := 1) (b := 500) (by decide) (by decide) (nI_toInt (by omega)) (by omega) (by omega)) rfl))) (cwV 2 hts gL_law_X7_heat rfl rfl rfl (by decide +kernel) ⟨Nat.le_of_ble_eq_true rfl, Nat.le_of_ble_eq_true rfl⟩) ⟨pcX_b, va_recv hK hP (ci := 7) (q0 := 0) rfl hI.1.1, pcX_u hP hK hD hS hA hE⟩ rfl rfl hl.1 rfl (lv_room (Nat.le_of_ble_eq_true rfl)) dL_law_241 ⟨by show cells + 2 ≤ 600130; omega, by show slots + 12 ≤ 7301080; omega⟩) hS (fun q _ h => h) (fun q h => h) (fun r w t H locs ht hvm hq hB hsz hk1 hS => ?_)
  rw [ht] at hB
  obtain ⟨hP, hD⟩ := hB
  obtain ⟨own2, hI⟩ := hq
  refine lv_pop hx hb dL_law_244 rfl ?_
  refine lv_goto (tgt := 661) hx hb dL_law_245 (by decide) ?_
  refine W.widen (k := cells + 60) (n := slots + 1200) (by omega) (by omega) ?_
  exact kk n np al _ _ _ _ ⟨_, _, _, _, _, _, _, _, _, _, _, _, _, _, _, _, _, hI, hal, hT, hnp, hV⟩ hP hD hS (lv_sub hl [0, 1, 2, 3, 4, 5, 6, 7, 8, 9, 10, 11, 12] rfl)
set_option maxHeartbeats 4000000 in
set_option maxRecDepth 100000 in
theorem act_2 {p : Program} {l : Launch} {e : Env} {s : State} {m : MethodId} {below : List Frame} {meth : Method} {c : Code} (hnt : l.stackTraces = false) {G : va_G} {tys : List (ClassId × FieldType)} {tE mi : Nat} {cI cO : ClassId} (htI : tI tys cI) (htO : tO tys cO) {b L : Nat} {xs : Nat → Int32} (hL : L ≤ 260) (C0 : lw_At p s m meth c b L xs) {ad : Nat → Nat} (hK : va_K G vwCl tys s) (hE : env (fun q : Nat => s.heap.size ≤ q) tE mi s s.heap) {ind cr : Int32} {n np tu X : Nat} {al : Int64} {y15 : Int32} {ws : va_W} {H : Heap} {locs : List Loc} {cells slots : Nat} {Q : State → Prop} {ls : Array Slot} (hX31 : X < 2 ^ 31) (hti : ti cI cO tE ad ind cr n np al ws) (hP : va_P G vwCl ws H) (hD : va_D (fun q : Nat => s.heap.size ≤ q) ws) (hS : va_S (fun q : Nat => s.heap.size ≤ q) s.heap H locs) (hl : lv_has ls 26 [(0, .ref b), (1, .ref (ad 0)), (2, .ref (ad 12)), (3, .ref (ad 13)), (4, .ref (ad 14)), (5, .ref (ad 15)), (6, .ref (ad 16)), (7, .int (nI np)), (8, .int (nI n)), (9, .long al), (12, .int ind), (13, .int cr), (14, .int (nI tu)), (11, .int (nI X)), (15, .int y15)]) (hc : cells + 60 ≤ 600130) (hs : slots + 1200 ≤ 7301080) (kk : ∀ (n2 np2 : Nat) (al2 : Int64) (w : va_W) (H1 : Heap) (locs1 : List Loc) (ls1 : Array Slot), ti cI cO tE ad ind cr n2 np2 al2 w → va_P G vwCl w H1 → va_D (fun q : Nat => s.heap.size ≤ q) w → va_S (fun q : Nat => s.heap.size ≤ q) s.heap H1 locs1 → lv_has ls1 26 [(0, .ref b), (1, .ref (ad 0)), (2, .ref (ad 12)), (3, .ref (ad 13)), (4, .ref (ad 14)), (5, .ref (ad 15)), (6, .ref (ad 16)), (7, .int (nI np2)), (8, .int (nI n2)), (9, .long al2), (12, .int ind), (13, .int cr), (14, .int (nI tu))] → W p l e room_1 s m #[Value.ref b] below meth c H1 locs1 (cells + 60) (slots + 1200) Q (F0 m 661 ls1 [])) : W p l e room_1 s m #[Value.ref b] below meth c H locs (cells) (slots) Q (F0 m 254 ls []) := by
  obtain ⟨hx, hb, hr, hml, hown, hts0, hX, hbl, hlocks, hgv⟩ := C0
  have hts : ∀ w ∈ wsL_law, w.before #[Value.ref b] s = true := fun w h => hts0 w (wsL_law_in w h)
  have hown : s.vm.findClass RL = some m.cls := hown
  have hA : ∀ q : Nat, s.heap.size ≤ q → (fun q : Nat => s.heap.size ≤ q) q := fun _ h => h
  have hbA : ¬ (fun q : Nat => s.heap.size ≤ q) b := Nat.not_le.mpr hbl
  obtain ⟨own, P, M, V, S, T, cel, ct, cf, co, ca, wd, num, cur, du, wi, dm, hI, hal, hT, hnp, hV⟩ := hti
  refine lv_aload_n hx hb dL_law_254 rfl (lv_at hl 1 rfl) ?_
  refine lv_iconst (v := 1) hx hb dL_law_255 (by decide) ?_
  refine lv_iload hx hb dL_law_256 (lv_at hl 13 rfl) ?_
  refine lv_iconst (v := 4) hx hb dL_law_258 (by decide) ?_
  refine lv_ishr hx hb dL_law_259 ?_
  refine re_i (y := nI (X / 2 ^ 4)) (pk_shrN hX31 _ 4 (by decide +kernel)) ?_
  refine lv_bipush (v := 10) hx hb dL_law_260 (by decide) ?_
  refine re_i (y := nI 10) (show (10 : Int32) = nI 10 from rfl) ?_
  refine vp_callSi (va_Run.run (va_runS (As := [.int (nI (X / 2 ^ 4)), .int (nI 10)]) (rest := [.int (1 : Int32), .ref (ad 0)]) ⟨hx, hb, hml, hown, hts⟩ (metL_at l (X / 2 ^ 4) 10 (by omega) (by decide) (by decide)) (va_cwS 2 hts gL_law_L_at rfl rfl rfl (by decide +kernel) ⟨Nat.le_of_ble_eq_true rfl, Nat.le_of_ble_eq_true rfl⟩) ⟨pc0_b, pc0_u⟩ rfl rfl hl.1 rfl (lv_room (Nat.le_of_ble_eq_true rfl)) dL_law_262 ⟨by show cells + 0 ≤ 600130; omega, by show slots + 0 ≤ 7301080; omega⟩)) (fun r h => ?_)
  obtain ⟨k262, hk262, rfl⟩ := h
  refine lv_iadd hx hb dL_law_265 ?_
  refine re_i (y := nI (1 + k262)) (nI_add 1 k262) ?_
  refine va_calli (va_runV (As := [.int (nI (1 + k262))]) (rest := []) ⟨hx, hb, hml, hown, hts⟩ (op_pass hnt G tys htI htO hI (nI (1 + k262)) (cd_if (oR_of (a := 1) (b := 50) (by decide) (by decide) (nI_toInt (by omega)) (by omega) (by omega)) rfl)) (cwV 1 hts gL_law_X7_pass rfl rfl rfl (by decide +kernel) ⟨Nat.le_of_ble_eq_true rfl, Nat.le_of_ble_eq_true rfl⟩) ⟨pcX_b, va_recv hK hP (ci := 7) (q0 := 0) rfl hI.1.1, pcX_u hP hK hD hS hA hE⟩ rfl rfl hl.1 rfl (lv_room (Nat.le_of_ble_eq_true rfl)) dL_law_266 ⟨by show cells + 1 ≤ 600130; omega, by show slots + 6 ≤ 7301080; omega⟩) hS (fun q _ h => h) (fun q h => h) (fun r w t H locs ht hvm hq hB hsz hk1 hS => ?_)
  rw [ht] at hB
  obtain ⟨hP, hD⟩ := hB
  obtain ⟨own2, cur2, du2, wi2, dm2, hI, hsum⟩ := hq
  refine lv_pop hx hb dL_law_269 rfl ?_
  refine lv_goto (tgt := 661) hx hb dL_law_270 (by decide) ?_
  refine W.widen (k := cells + 60) (n := slots + 1200) (by omega) (by omega) ?_
  exact kk n np al _ _ _ _ ⟨_, _, _, _, _, _, _, _, _, _, _, _, _, _, _, _, _, hI, hal.trans hsum.symm, hT, hnp, hV⟩ hP hD hS (lv_sub hl [0, 1, 2, 3, 4, 5, 6, 7, 8, 9, 10, 11, 12] rfl)
set_option maxHeartbeats 4000000 in
set_option maxRecDepth 100000 in
theorem act_3 {p : Program} {l : Launch} {e : Env} {s : State} {m : MethodId} {below : List Frame} {meth : Method} {c : Code} (hnt : l.stackTraces = false) {G : va_G} {tys : List (ClassId × FieldType)} {tE mi : Nat} {cI cO : ClassId} (htI : tI tys cI) (htO : tO tys cO) {b L : Nat} {xs : Nat → Int32} (hL : L ≤ 260) (C0 : lw_At p s m meth c b L xs) {ad : Nat → Nat} (hK : va_K G vwCl tys s) (hE : env (fun q : Nat => s.heap.size ≤ q) tE mi s s.heap) {ind cr : Int32} {n np tu X : Nat} {al : Int64} {y15 : Int32} {ws : va_W} {H : Heap} {locs : List Loc} {cells slots : Nat} {Q : State → Prop} {ls : Array Slot} (hX31 : X < 2 ^ 31) (hn20 : n < 20) (hti : ti cI cO tE ad ind cr n np al ws) (hP : va_P G vwCl ws H) (hD : va_D (fun q : Nat => s.heap.size ≤ q) ws) (hS : va_S (fun q : Nat => s.heap.size ≤ q) s.heap H locs) (hl : lv_has ls 26 [(0, .ref b), (1, .ref (ad 0)), (2, .ref (ad 12)), (3, .ref (ad 13)), (4, .ref (ad 14)), (5, .ref (ad 15)), (6, .ref (ad 16)), (7, .int (nI np)), (8, .int (nI n)), (9, .long al), (12, .int ind), (13, .int cr), (14, .int (nI tu)), (11, .int (nI X)), (15, .int y15)]) (hc : cells + 60 ≤ 600130) (hs : slots + 1200 ≤ 7301080) (kk : ∀ (n2 np2 : Nat) (al2 : Int64) (w : va_W) (H1 : Heap) (locs1 : List Loc) (ls1 : Array Slot), ti cI cO tE ad ind cr n2 np2 al2 w → va_P G vwCl w H1 → va_D (fun q : Nat => s.heap.size ≤ q) w → va_S (fun q : Nat => s.heap.size ≤ q) s.heap H1 locs1 → lv_has ls1 26 [(0, .ref b), (1, .ref (ad 0)), (2, .ref (ad 12)), (3, .ref (ad 13)), (4, .ref (ad 14)), (5, .ref (ad 15)), (6, .ref (ad 16)), (7, .int (nI np2)), (8, .int (nI n2)), (9, .long al2), (12, .int ind), (13, .int cr), (14, .int (nI tu))] → W p l e room_1 s m #[Value.ref b] below meth c H1 locs1 (cells + 60) (slots + 1200) Q (F0 m 661 ls1 [])) : W p l e room_1 s m #[Value.ref b] below meth c H locs (cells) (slots) Q (F0 m 286 ls []) := by
  obtain ⟨hx, hb, hr, hml, hown, hts0, hX, hbl, hlocks, hgv⟩ := C0
  have hts : ∀ w ∈ wsL_law, w.before #[Value.ref b] s = true := fun w h => hts0 w (wsL_law_in w h)
  have hown : s.vm.findClass RL = some m.cls := hown
  have hA : ∀ q : Nat, s.heap.size ≤ q → (fun q : Nat => s.heap.size ≤ q) q := fun _ h => h
  have hbA : ¬ (fun q : Nat => s.heap.size ≤ q) b := Nat.not_le.mpr hbl
  obtain ⟨own, P, M, V, S, T, cel, ct, cf, co, ca, wd, num, cur, du, wi, dm, hI, hal, hT, hnp, hV⟩ := hti
  refine lv_aload_n hx hb dL_law_286 rfl (lv_at hl 1 rfl) ?_
  refine lv_iload hx hb dL_law_287 (lv_at hl 13 rfl) ?_
  refine lv_iconst (v := 4) hx hb dL_law_289 (by decide) ?_
  refine lv_ishr hx hb dL_law_290 ?_
  refine re_i (y := nI (X / 2 ^ 4)) (pk_shrN hX31 _ 4 (by decide +kernel)) ?_
  refine lv_bipush (v := 19) hx hb dL_law_291 (by decide) ?_
  refine re_i (y := nI 19) (show (19 : Int32) = nI 19 from rfl) ?_
  refine vp_callSi (va_Run.run (va_runS (As := [.int (nI (X / 2 ^ 4)), .int (nI 19)]) (rest := [.ref (ad 0)]) ⟨hx, hb, hml, hown, hts⟩ (metL_at l (X / 2 ^ 4) 19 (by omega) (by decide) (by decide)) (va_cwS 2 hts gL_law_L_at rfl rfl rfl (by decide +kernel) ⟨Nat.le_of_ble_eq_true rfl, Nat.le_of_ble_eq_true rfl⟩) ⟨pc0_b, pc0_u⟩ rfl rfl hl.1 rfl (lv_room (Nat.le_of_ble_eq_true rfl)) dL_law_293 ⟨by show cells + 0 ≤ 600130; omega, by show slots + 0 ≤ 7301080; omega⟩)) (fun r h => ?_)
  obtain ⟨k293, hk293, rfl⟩ := h
  refine lv_bipush (v := 9) hx hb dL_law_296 (by decide) ?_
  refine lv_isub hx hb dL_law_298 ?_
  refine lv_iload hx hb dL_law_299 (lv_at hl 13 rfl) ?_
  refine lv_bipush (v := 9) hx hb dL_law_301 (by decide) ?_
  refine lv_ishr hx hb dL_law_303 ?_
  refine re_i (y := nI (X / 2 ^ 9)) (pk_shrN hX31 _ 9 (by decide +kernel)) ?_
  refine lv_bipush (v := 31) hx hb dL_law_304 (by decide) ?_
  refine re_i (y := nI 31) (show (31 : Int32) = nI 31 from rfl) ?_
  refine vp_callSi (va_Run.run (va_runS (As := [.int (nI (X / 2 ^ 9)), .int (nI 31)]) (rest := [.int ((nI k293) - (9 : Int32)), .ref (ad 0)]) ⟨hx, hb, hml, hown, hts⟩ (metL_at l (X / 2 ^ 9) 31 (by omega) (by decide) (by decide)) (va_cwS 2 hts gL_law_L_at rfl rfl rfl (by decide +kernel) ⟨Nat.le_of_ble_eq_true rfl, Nat.le_of_ble_eq_true rfl⟩) ⟨pc0_b, pc0_u⟩ rfl rfl hl.1 rfl (lv_room (Nat.le_of_ble_eq_true rfl)) dL_law_306 ⟨by show cells + 0 ≤ 600130; omega, by show slots + 0 ≤ 7301080; omega⟩)) (fun r h => ?_)
  obtain ⟨k306, hk306, rfl⟩ := h
  refine va_callv (va_runV (As := [.int ((nI k293) - (9 : Int32)), .int (nI k306)]) (rest := []) ⟨hx, hb, hml, hown, hts⟩ (op_drive hnt G tys htI htO hI (nI k293 - 9) (nI k306) (cd_if (oR_of (a := -9) (b := 9) (by decide) (by decide) (i_sub (nI_toInt (by omega)) (show (9 : Int32).toInt = 9 by decide) (by omega) (by omega)) (by omega) (by omega)) (cd_if (oR_of (a := 0) (b := 30) (by decide) (by decide) (nI_toInt (by omega)) (by omega) (by omega)) rfl))) (cwV 2 hts gL_law_X7_drive rfl rfl rfl (by decide +kernel) ⟨Nat.le_of_ble_eq_true rfl, Nat.le_of_ble_eq_true rfl⟩) ⟨pcX_b, va_recv hK hP (ci := 7) (q0 := 0) rfl hI.1.1, pcX_u hP hK hD hS hA hE⟩ rfl rfl hl.1 rfl (lv_room (Nat.le_of_ble_eq_true rfl)) dL_law_309 ⟨by show cells + 2 ≤ 600130; omega, by show slots + 12 ≤ 7301080; omega⟩) hS (fun q _ h => h) (fun q h => h) (fun w t H locs ht hvm hq hB hsz hk1 hS => ?_)
  rw [ht] at hB
  obtain ⟨hP, hD⟩ := hB
  obtain ⟨own2, hI⟩ := hq
  refine lv_aload_n hx hb dL_law_312 rfl (lv_at hl 1 rfl) ?_
  refine lv_iload hx hb dL_law_313 (lv_at hl 13 rfl) ?_
  refine lv_bipush (v := 14) hx hb dL_law_315 (by decide) ?_
  refine lv_ishr hx hb dL_law_317 ?_
  refine re_i (y := nI (X / 2 ^ 14)) (pk_shrN hX31 _ 14 (by decide +kernel)) ?_
  refine lv_sipush (v := 200) hx hb dL_law_318 (by decide) ?_
  refine re_i (y := nI 200) (show (200 : Int32) = nI 200 from rfl) ?_
  refine vp_callSi (va_Run.run (va_runS (As := [.int (nI (X / 2 ^ 14)), .int (nI 200)]) (rest := [.ref (ad 0)]) ⟨hx, hb, hml, hown, hts⟩ (metL_at l (X / 2 ^ 14) 200 (by omega) (by decide) (by decide)) (va_cwS 2 hts gL_law_L_at rfl rfl rfl (by decide +kernel) ⟨Nat.le_of_ble_eq_true rfl, Nat.le_of_ble_eq_true rfl⟩) ⟨pc0_b, pc0_u⟩ rfl rfl hl.1 rfl (lv_room (Nat.le_of_ble_eq_true rfl)) dL_law_321 ⟨by show cells + 2 + 0 ≤ 600130; omega, by show slots + 12 + 0 ≤ 7301080; omega⟩)) (fun r h => ?_)
  obtain ⟨k321, hk321, rfl⟩ := h
  refine va_calli (va_runV (As := [.int (nI k321)]) (rest := []) ⟨hx, hb, hml, hown, hts⟩ (op_enter hnt G tys htI htO hI (nI k321) (cd_if (oR_of (a := -100) (b := 1000) (by decide) (by decide) (nI_toInt (by omega)) (by omega) (by omega)) (cd_if (show ¬ nI 20 ≤ nI n from nI_ge hn20 (by decide)) rfl)) hn20) (cwV 1 hts gL_law_X7_enter rfl rfl rfl (by decide +kernel) ⟨Nat.le_of_ble_eq_true rfl, Nat.le_of_ble_eq_true rfl⟩) ⟨pcX_b, va_recv hK hP (ci := 7) (q0 := 0) rfl hI.1.1, pcX_u hP hK hD hS hA hE⟩ rfl rfl hl.1 rfl (lv_room (Nat.le_of_ble_eq_true rfl)) dL_law_324 ⟨by show cells + 2 + 2 ≤ 600130; omega, by show slots + 12 + 12 ≤ 7301080; omega⟩) hS (fun q _ h => h) (fun q h => h) (fun r w t H locs ht hvm hq hB hsz hk1 hS => ?_)
  rw [ht] at hB
  obtain ⟨hP, hD⟩ := hB
  rcases hq with ⟨er, own3, hI⟩ | ⟨er, own3, g, hI⟩
  · subst er
    refine lv_if_lt (tgt := 333) hx hb dL_law_327 (by decide) (fun c327 => ?_) (fun c327 => absurd (by decide) c327)
    refine lv_aload_n hx hb dL_law_333 rfl (lv_at hl 1 rfl) ?_
    refine lv_iload hx hb dL_law_334 (lv_at hl 13 rfl) ?_
    refine lv_iconst (v := 5) hx hb dL_law_336 (by decide) ?_
    refine lv_ishr hx hb dL_law_337 ?_
    refine re_i (y := nI (X / 2 ^ 5)) (pk_shrN hX31 _ 5 (by decide +kernel)) ?_
    refine lv_bipush (v := 48) hx hb dL_law_338 (by decide) ?_
    refine re_i (y := nI 48) (show (48 : Int32) = nI 48 from rfl) ?_
    refine vp_callSi (va_Run.run (va_runS (As := [.int (nI (X / 2 ^ 5)), .int (nI 48)]) (rest := [.ref (ad 0)]) ⟨hx, hb, hml, hown, hts⟩ (metL_at l (X / 2 ^ 5) 48 (by omega) (by decide) (by decide)) (va_cwS 2 hts gL_law_L_at rfl rfl rfl (by decide +kernel) ⟨Nat.le_of_ble_eq_true rfl, Nat.le_of_ble_eq_true rfl⟩) ⟨pc0_b, pc0_u⟩ rfl rfl hl.1 rfl (lv_room (Nat.le_of_ble_eq_true rfl)) dL_law_340 ⟨by show cells + 2 + 2 + 0 ≤ 600130; omega, by show slots + 12 + 12 + 0 ≤ 7301080; omega⟩)) (fun r h => ?_)
    obtain ⟨k340, hk340, rfl⟩ := h
    refine lv_iload hx hb dL_law_343 (lv_at hl 13 rfl) ?_
    refine lv_bipush (v := 11) hx hb dL_law_345 (by decide) ?_
    refine lv_ishr hx hb dL_law_347 ?_
    refine re_i (y := nI (X / 2 ^ 11)) (pk_shrN hX31 _ 11 (by decide +kernel)) ?_
    refine lv_bipush (v := 51) hx hb dL_law_348 (by decide) ?_
    refine re_i (y := nI 51) (show (51 : Int32) = nI 51 from rfl) ?_
    refine vp_callSi (va_Run.run (va_runS (As := [.int (nI (X / 2 ^ 11)), .int (nI 51)]) (rest := [.int (nI k340), .ref (ad 0)]) ⟨hx, hb, hml, hown, hts⟩ (metL_at l (X / 2 ^ 11) 51 (by omega) (by decide) (by decide)) (va_cwS 2 hts gL_law_L_at rfl rfl rfl (by decide +kernel) ⟨Nat.le_of_ble_eq_true rfl, Nat.le_of_ble_eq_true rfl⟩) ⟨pc0_b, pc0_u⟩ rfl rfl hl.1 rfl (lv_room (Nat.le_of_ble_eq_true rfl)) dL_law_350 ⟨by show cells + 2 + 2 + 0 ≤ 600130; omega, by show slots + 12 + 12 + 0 ≤ 7301080; omega⟩)) (fun r h => ?_)
    obtain ⟨k350, hk350, rfl⟩ := h
    refine va_calli (va_runV (As := [.int (nI k340), .int (nI k350)]) (rest := []) ⟨hx, hb, hml, hown, hts⟩ (op_pin hnt G tys htI htO hI (nI k340) (nI k350) (cd_if (uK_of (n := 48) hk340 (by decide)) (cd_if (oR_of (a := 0) (b := 50) (by decide) (by decide) (nI_toInt (by omega)) (by omega) (by omega)) rfl))) (cwV 2 hts gL_law_X7_pin rfl rfl rfl (by decide +kernel) ⟨Nat.le_of_ble_eq_true rfl, Nat.le_of_ble_eq_true rfl⟩) ⟨pcX_b, va_recv hK hP (ci := 7) (q0 := 0) rfl hI.1.1, pcX_u hP hK hD hS hA hE⟩ rfl rfl hl.1 rfl (lv_room (Nat.le_of_ble_eq_true rfl)) dL_law_353 ⟨by show cells + 2 + 2 + 2 ≤ 600130; omega, by show slots + 12 + 12 + 12 ≤ 7301080; omega⟩) hS (fun q _ h => h) (fun q h => h) (fun r w t H locs ht hvm hq hB hsz hk1 hS => ?_)
    rw [ht] at hB
    obtain ⟨hP, hD⟩ := hB
    obtain ⟨own4, hI⟩ := hq
    refine lv_pop hx hb dL_law_356 rfl ?_
    refine lv_goto (tgt := 661) hx hb dL_law_357 (by decide) ?_
    refine W.widen (k := cells + 60) (n := slots + 1200) (by omega) (by omega) ?_
    exact kk n np al _ _ _ _ ⟨_, _, _, _, _, _, _, _, _, _, _, _, _, _, _, _, _, hI, hal, hT, hnp, hV⟩ hP hD hS (lv_sub hl [0, 1, 2, 3, 4, 5, 6, 7, 8, 9, 10, 11, 12] rfl)
  · subst er
    refine lv_if_lt (tgt := 333) hx hb dL_law_327 (by decide) (fun c327 => absurd c327 (nI_pos (by omega))) (fun c327 => ?_)
    refine lv_iinc (v := nI (n + 1)) (lv' := [(8, .int (nI (n + 1))), (0, .ref b), (1, .ref (ad 0)), (2, .ref (ad 12)), (3, .ref (ad 13)), (4, .ref (ad 14)), (5, .ref (ad 15)), (6, .ref (ad 16)), (7, .int (nI np)), (9, .long al), (12, .int ind), (13, .int cr), (14, .int (nI tu)), (11, .int (nI X)), (15, .int y15)]) hx hb dL_law_330 hl (k := 8) rfl (nI_1 n) (by decide) rfl (fun ls hl => ?_)
    refine lv_aload_n hx hb dL_law_333 rfl (lv_at hl 2 rfl) ?_
    refine lv_iload hx hb dL_law_334 (lv_at hl 13 rfl) ?_
    refine lv_iconst (v := 5) hx hb dL_law_336 (by decide) ?_
    refine lv_ishr hx hb dL_law_337 ?_
    refine re_i (y := nI (X / 2 ^ 5)) (pk_shrN hX31 _ 5 (by decide +kernel)) ?_
    refine lv_bipush (v := 48) hx hb dL_law_338 (by decide) ?_
    refine re_i (y := nI 48) (show (48 : Int32) = nI 48 from rfl) ?_
    refine vp_callSi (va_Run.run (va_runS (As := [.int (nI (X / 2 ^ 5)), .int (nI 48)]) (rest := [.ref (ad 0)]) ⟨hx, hb, hml, hown, hts⟩ (metL_at l (X / 2 ^ 5) 48 (by omega) (by decide) (by decide)) (va_cwS 2 hts gL_law_L_at rfl rfl rfl (by decide +kernel) ⟨Nat.le_of_ble_eq_true rfl, Nat.le_of_ble_eq_true rfl⟩) ⟨pc0_b, pc0_u⟩ rfl rfl hl.1 rfl (lv_room (Nat.le_of_ble_eq_true rfl)) dL_law_340 ⟨by show cells + 2 + 2 + 0 ≤ 600130; omega, by show slots + 12 + 12 + 0 ≤ 7301080; omega⟩)) (fun r h => ?_)
    obtain ⟨k340, hk340, rfl⟩ := h
    refine lv_iload hx hb dL_law_343 (lv_at hl 13 rfl) ?_
    refine lv_bipush (v := 11) hx hb dL_law_345 (by decide) ?_
    refine lv_ishr hx hb dL_law_347 ?_
    refine re_i (y := nI (X / 2 ^ 11)) (pk_shrN hX31 _ 11 (by decide +kernel)) ?_
    refine lv_bipush (v := 51) hx hb dL_law_348 (by decide) ?_
    refine re_i (y := nI 51) (show (51 : Int32) = nI 51 from rfl) ?_
    refine vp_callSi (va_Run.run (va_runS (As := [.int (nI (X / 2 ^ 11)), .int (nI 51)]) (rest := [.int (nI k340), .ref (ad 0)]) ⟨hx, hb, hml, hown, hts⟩ (metL_at l (X / 2 ^ 11) 51 (by omega) (by decide) (by decide)) (va_cwS 2 hts gL_law_L_at rfl rfl rfl (by decide +kernel) ⟨Nat.le_of_ble_eq_true rfl, Nat.le_of_ble_eq_true rfl⟩) ⟨pc0_b, pc0_u⟩ rfl rfl hl.1 rfl (lv_room (Nat.le_of_ble_eq_true rfl)) dL_law_350 ⟨by show cells + 2 + 2 + 0 ≤ 600130; omega, by show slots + 12 + 12 + 0 ≤ 7301080; omega⟩)) (fun r h => ?_)
    obtain ⟨k350, hk350, rfl⟩ := h
    refine va_calli (va_runV (As := [.int (nI k340), .int (nI k350)]) (rest := []) ⟨hx, hb, hml, hown, hts⟩ (op_pin hnt G tys htI htO hI (nI k340) (nI k350) (cd_if (uK_of (n := 48) hk340 (by decide)) (cd_if (oR_of (a := 0) (b := 50) (by decide) (by decide) (nI_toInt (by omega)) (by omega) (by omega)) rfl))) (cwV 2 hts gL_law_X7_pin rfl rfl rfl (by decide +kernel) ⟨Nat.le_of_ble_eq_true rfl, Nat.le_of_ble_eq_true rfl⟩) ⟨pcX_b, va_recv hK hP (ci := 7) (q0 := 0) rfl hI.1.1, pcX_u hP hK hD hS hA hE⟩ rfl rfl hl.1 rfl (lv_room (Nat.le_of_ble_eq_true rfl)) dL_law_353 ⟨by show cells + 2 + 2 + 2 ≤ 600130; omega, by show slots + 12 + 12 + 12 ≤ 7301080; omega⟩) hS (fun q _ h => h) (fun q h => h) (fun r w t H locs ht hvm hq hB hsz hk1 hS => ?_)
    rw [ht] at hB
    obtain ⟨hP, hD⟩ := hB
    obtain ⟨own4, hI⟩ := hq
    refine lv_pop hx hb dL_law_356 rfl ?_
    refine lv_goto (tgt := 661) hx hb dL_law_357 (by decide) ?_
    refine W.widen (k := cells + 60) (n := slots + 1200) (by omega) (by omega) ?_
    exact kk (n + 1) np al _ _ _ _ ⟨_, _, _, _, _, _, _, _, _, _, _, _, _, _, _, _, _, hI, hal, (fun k hk h9 => ⟨by have := (hT k hk h9).1; omega, by rw [upd_ne (by have := (hT k hk h9).1; omega)]; exact (hT k hk h9).2⟩), hnp, hV⟩ hP hD hS (lv_sub hl [1, 2, 3, 4, 5, 6, 7, 8, 0, 9, 10, 11, 12] rfl)
set_option maxHeartbeats 4000000 in
set_option maxRecDepth 100000 in
theorem act_4 {p : Program} {l : Launch} {e : Env} {s : State} {m : MethodId} {below : List Frame} {meth : Method} {c : Code} (hnt : l.stackTraces = false) {G : va_G} {tys : List (ClassId × FieldType)} {tE mi : Nat} {cI cO : ClassId} (htI : tI tys cI) (htO : tO tys cO) {b L : Nat} {xs : Nat → Int32} (hL : L ≤ 260) (C0 : lw_At p s m meth c b L xs) {ad : Nat → Nat} (hK : va_K G vwCl tys s) (hE : env (fun q : Nat => s.heap.size ≤ q) tE mi s s.heap) {ind cr : Int32} {n np tu X : Nat} {al : Int64} {y15 : Int32} {ws : va_W} {H : Heap} {locs : List Loc} {cells slots : Nat} {Q : State → Prop} {ls : Array Slot} (hX31 : X < 2 ^ 31) (hti : ti cI cO tE ad ind cr n np al ws) (hP : va_P G vwCl ws H) (hD : va_D (fun q : Nat => s.heap.size ≤ q) ws) (hS : va_S (fun q : Nat => s.heap.size ≤ q) s.heap H locs) (hl : lv_has ls 26 [(0, .ref b), (1, .ref (ad 0)), (2, .ref (ad 12)), (3, .ref (ad 13)), (4, .ref (ad 14)), (5, .ref (ad 15)), (6, .ref (ad 16)), (7, .int (nI np)), (8, .int (nI n)), (9, .long al), (12, .int ind), (13, .int cr), (14, .int (nI tu)), (11, .int (nI X)), (15, .int y15)]) (hc : cells + 60 ≤ 600130) (hs : slots + 1200 ≤ 7301080) (kk : ∀ (n2 np2 : Nat) (al2 : Int64) (w : va_W) (H1 : Heap) (locs1 : List Loc) (ls1 : Array Slot), ti cI cO tE ad ind cr n2 np2 al2 w → va_P G vwCl w H1 → va_D (fun q : Nat => s.heap.size ≤ q) w → va_S (fun q : Nat => s.heap.size ≤ q) s.heap H1 locs1 → lv_has ls1 26 [(0, .ref b), (1, .ref (ad 0)), (2, .ref (ad 12)), (3, .ref (ad 13)), (4, .ref (ad 14)), (5, .ref (ad 15)), (6, .ref (ad 16)), (7, .int (nI np2)), (8, .int (nI n2)), (9, .long al2), (12, .int ind), (13, .int cr), (14, .int (nI tu))] → W p l e room_1 s m #[Value.ref b] below meth c H1 locs1 (cells + 60) (slots + 1200) Q (F0 m 661 ls1 [])) : W p l e room_1 s m #[Value.ref b] below meth c H locs (cells) (slots) Q (F0 m 366 ls []) := by
  obtain ⟨hx, hb, hr, hml, hown, hts0, hX, hbl, hlocks, hgv⟩ := C0
  have hts : ∀ w ∈ wsL_law, w.before #[Value.ref b] s = true := fun w h => hts0 w (wsL_law_in w h)
  have hown : s.vm.findClass RL = some m.cls := hown
  have hA : ∀ q : Nat, s.heap.size ≤ q → (fun q : Nat => s.heap.size ≤ q) q := fun _ h => h
  have hbA : ¬ (fun q : Nat => s.heap.size ≤ q) b := Nat.not_le.mpr hbl
  obtain ⟨own, P, M, V, S, T, cel, ct, cf, co, ca, wd, num, cur, du, wi, dm, hI, hal, hT, hnp, hV⟩ := hti
  refine lv_aload_n hx hb dL_law_366 rfl (lv_at hl 1 rfl) ?_
  refine va_calli (va_runV (As := []) (rest := []) ⟨hx, hb, hml, hown, hts⟩ (op_avalanche (mi := mi) hnt G tys htI htO hI) (cwV 0 hts gL_law_X7_avalanche rfl rfl rfl (by decide +kernel) ⟨Nat.le_of_ble_eq_true rfl, Nat.le_of_ble_eq_true rfl⟩) ⟨pcM_b, va_recv hK hP (ci := 7) (q0 := 0) rfl hI.1.1, pcM_u hP hK hD hS hA⟩ rfl rfl hl.1 rfl (lv_room (Nat.le_of_ble_eq_true rfl)) dL_law_367 ⟨by show cells + 0 ≤ 600130; omega, by show slots + 0 ≤ 7301080; omega⟩) hS (fun q _ h => h) (fun q h => h) (fun r w t H locs ht hvm hq hB hsz hk1 hS => ?_)
  rw [ht] at hB
  obtain ⟨hP, hD⟩ := hB
  obtain ⟨own2, cel2, hI, hst, mv, hmv, er⟩ := hq
  subst er
  refine lv_istore (lv' := [(16, .int (nI mv)), (0, .ref b), (1, .ref (ad 0)), (2, .ref (ad 12)), (3, .ref (ad 13)), (4, .ref (ad 14)), (5, .ref (ad 15)), (6, .ref (ad 16)), (7, .int (nI np)), (8, .int (nI n)), (9, .long al), (12, .int ind), (13, .int cr), (14, .int (nI tu)), (11, .int (nI X)), (15, .int y15)]) hx hb dL_law_370 hl (by decide) rfl (fun ls hl => ?_)
  refine lv_iload hx hb dL_law_372 (lv_at hl 0 rfl) ?_
  refine lv_if_lt (tgt := 385) hx hb dL_law_374 (by decide) (fun c374 => absurd c374 (nI_pos (by omega))) (fun c374 => ?_)
  refine lv_iload hx hb dL_law_377 (lv_at hl 0 rfl) ?_
  refine lv_sipush (v := 1200) hx hb dL_law_379 (by decide) ?_
  refine lv_icmp_le (tgt := 387) hx hb dL_law_382 (by decide) (fun c382 => ?_) (fun c382 => absurd (show nI mv ≤ nI 1200 from nI_le hmv (by decide)) c382)
  refine lv_goto (tgt := 661) hx hb dL_law_387 (by decide) ?_
  refine W.widen (k := cells + 60) (n := slots + 1200) (by omega) (by omega) ?_
  exact kk n np al _ _ _ _ ⟨_, _, _, _, _, _, _, _, _, _, _, _, _, _, _, _, _, hI, hal, (fun k hk h9 => ⟨(hT k hk h9).1, hst k hk (hT k hk h9).2⟩), hnp, hV⟩ hP hD hS (lv_sub hl [1, 2, 3, 4, 5, 6, 7, 8, 9, 10, 11, 12, 13] rfl)
-- part 77
set_option maxHeartbeats 4000000 in
set_option maxRecDepth 100000 in
theorem act_5 {p : Program} {l : Launch} {e : Env} {s : State} {m : MethodId} {below : List Frame} {meth : Method} {c : Code} (hnt : l.stackTraces = false) {G : va_G} {tys : List (ClassId × FieldType)} {tE mi : Nat} {cI cO : ClassId} (htI : tI tys cI) (htO : tO tys cO) {b L : Nat} {xs : Nat → Int32} (hL : L ≤ 260) (C0 : lw_At p s m meth c b L xs) {ad : Nat → Nat} (hK : va_K G vwCl tys s) (hE : env (fun q : Nat => s.heap.size ≤ q) tE mi s s.heap) {ind cr : Int32} {n np tu X : Nat} {al : Int64} {y15 : Int32} {ws : va_W} {H : Heap} {locs : List Loc} {cells slots : Nat} {Q : State → Prop} {ls : Array Slot} (hX31 : X < 2 ^ 31) (hti : ti cI cO tE ad ind cr n np al ws) (hP : va_P G vwCl ws H) (hD : va_D (fun q : Nat => s.heap.size ≤ q) ws) (hS : va_S (fun q : Nat => s.heap.size ≤ q) s.heap H locs) (hl : lv_has ls 26 [(0, .ref b), (1, .ref (ad 0)), (2, .ref (ad 12)), (3, .ref (ad 13)), (4, .ref (ad 14)), (5, .ref (ad 15)), (6, .ref (ad 16)), (7, .int (nI np)), (8, .int (nI n)), (9, .long al), (12, .int ind), (13, .int cr), (14, .int (nI tu)), (11, .int (nI X)), (15, .int y15)]) (hc : cells + 60 ≤ 600130) (hs : slots + 1200 ≤ 7301080) (kk : ∀ (n2 np2 : Nat) (al2 : Int64) (w : va_W) (H1 : Heap) (locs1 : List Loc) (ls1 : Array Slot), ti cI cO tE ad ind cr n2 np2 al2 w → va_P G vwCl w H1 → va_D (fun q : Nat => s.heap.size ≤ q) w → va_S (fun q : Nat => s.heap.size ≤ q) s.heap H1 locs1 → lv_has ls1 26 [(0, .ref b), (1, .ref (ad 0)), (2, .ref (ad 12)), (3, .ref (ad 13)), (4, .ref (ad 14)), (5, .ref (ad 15)), (6, .ref (ad 16)), (7, .int (nI np2)), (8, .int (nI n2)), (9, .long al2), (12, .int ind), (13, .int cr), (14, .int (nI tu))] → W p l e room_1 s m #[Value.ref b] below meth c H1 locs1 (cells + 60) (slots + 1200) Q (F0 m 661 ls1 [])) : W p l e room_1 s m #[Value.ref b] below meth c H locs (cells) (slots) Q (F0 m 396 ls []) := by
  obtain ⟨hx, hb, hr, hml, hown, hts0, hX, hbl, hlocks, hgv⟩ := C0
  have hts : ∀ w ∈ wsL_law, w.before #[Value.ref b] s = true := fun w h => hts0 w (wsL_law_in w h)
  have hown : s.vm.findClass RL = some m.cls := hown
  have hA : ∀ q : Nat, s.heap.size ≤ q → (fun q : Nat => s.heap.size ≤ q) q := fun _ h => h
  have hbA : ¬ (fun q : Nat => s.heap.size ≤ q) b := Nat.not_le.mpr hbl
  obtain ⟨own, P, M, V, S, T, cel, ct, cf, co, ca, wd, num, cur, du, wi, dm, hI, hal, hT, hnp, hV⟩ := hti
  refine lv_iload hx hb dL_law_396 (lv_at hl 13 rfl) ?_
  refine lv_iconst (v := 4) hx hb dL_law_398 (by decide) ?_
  refine lv_ishr hx hb dL_law_399 ?_
  refine re_i (y := nI (X / 2 ^ 4)) (pk_shrN hX31 _ 4 (by decide +kernel)) ?_
  refine lv_ldc (v := 60001) hx hb hown (hts0 _ cw_55) dL_law_400 ?_
  refine re_i (y := nI 60001) (show (60001 : Int32) = nI 60001 from rfl) ?_
  refine vp_callSi (va_Run.run (va_runS (As := [.int (nI (X / 2 ^ 4)), .int (nI 60001)]) (rest := []) ⟨hx, hb, hml, hown, hts⟩ (metL_at l (X / 2 ^ 4) 60001 (by omega) (by decide) (by decide)) (va_cwS 2 hts gL_law_L_at rfl rfl rfl (by decide +kernel) ⟨Nat.le_of_ble_eq_true rfl, Nat.le_of_ble_eq_true rfl⟩) ⟨pc0_b, pc0_u⟩ rfl rfl hl.1 rfl (lv_room (Nat.le_of_ble_eq_true rfl)) dL_law_402 ⟨by show cells + 0 ≤ 600130; omega, by show slots + 0 ≤ 7301080; omega⟩)) (fun r h => ?_)
  obtain ⟨k402, hk402, rfl⟩ := h
  refine lv_sipush (v := 30000) hx hb dL_law_405 (by decide) ?_
  refine lv_isub hx hb dL_law_408 ?_
  obtain ⟨F, eF⟩ : ∃ z : Int32, z = nI k402 - 30000 := ⟨_, rfl⟩
  refine re_i (y := F) (eF.symm) ?_
  have hF : F.toInt = (k402 : Int) - 30000 := by rw [eF]; exact i_sub (nI_toInt (by omega)) (show (30000 : Int32).toInt = 30000 by decide) (by omega) (by omega)
  refine lv_istore (lv' := [(16, .int F), (0, .ref b), (1, .ref (ad 0)), (2, .ref (ad 12)), (3, .ref (ad 13)), (4, .ref (ad 14)), (5, .ref (ad 15)), (6, .ref (ad 16)), (7, .int (nI np)), (8, .int (nI n)), (9, .long al), (12, .int ind), (13, .int cr), (14, .int (nI tu)), (11, .int (nI X)), (15, .int y15)]) hx hb dL_law_409 hl (by decide) rfl (fun ls hl => ?_)
  refine lv_aload_n hx hb dL_law_411 rfl (lv_at hl 2 rfl) ?_
  refine lv_iconst (v := 0) hx hb dL_law_412 (by decide) ?_
  refine lv_iconst (v := 0) hx hb dL_law_413 (by decide) ?_
  refine va_calli (va_runV (As := [.int (0 : Int32), .int (0 : Int32)]) (rest := []) ⟨hx, hb, hml, hown, hts⟩ (op_ofRing hnt G tys htI htO hI) (cwV 2 hts gL_law_X7_ofRing rfl rfl rfl (by decide +kernel) ⟨Nat.le_of_ble_eq_true rfl, Nat.le_of_ble_eq_true rfl⟩) ⟨pcX_b, va_recv hK hP (ci := 7) (q0 := 0) rfl hI.1.1, pcX_u hP hK hD hS hA hE⟩ rfl rfl hl.1 rfl (lv_room (Nat.le_of_ble_eq_true rfl)) dL_law_414 ⟨by show cells + 2 ≤ 600130; omega, by show slots + 12 ≤ 7301080; omega⟩) hS (fun q _ h => h) (fun q h => h) (fun r u t H locs ht hvm hq hB hsz hk1 hS => ?_)
  rw [ht] at hB
  obtain ⟨hP, hD⟩ := hB
  refine re_i (y := num) (hq) ?_
  refine lv_istore (lv' := [(17, .int num), (16, .int F), (0, .ref b), (1, .ref (ad 0)), (2, .ref (ad 12)), (3, .ref (ad 13)), (4, .ref (ad 14)), (5, .ref (ad 15)), (6, .ref (ad 16)), (7, .int (nI np)), (8, .int (nI n)), (9, .long al), (12, .int ind), (13, .int cr), (14, .int (nI tu)), (11, .int (nI X)), (15, .int y15)]) hx hb dL_law_417 hl (by decide) rfl (fun ls hl => ?_)
  refine lv_aload_n hx hb dL_law_419 rfl (lv_at hl 3 rfl) ?_
  refine lv_iconst (v := 0) hx hb dL_law_420 (by decide) ?_
  refine lv_iload hx hb dL_law_421 (lv_at hl 1 rfl) ?_
  refine va_calli (va_runV (As := [.int (0 : Int32), .int F]) (rest := []) ⟨hx, hb, hml, hown, hts⟩ (op_flux hnt G tys htI htO hI F (by omega) (by omega)) (cwV 2 hts gL_law_X7_flux rfl rfl rfl (by decide +kernel) ⟨Nat.le_of_ble_eq_true rfl, Nat.le_of_ble_eq_true rfl⟩) ⟨pcX_b, va_recv hK hP (ci := 7) (q0 := 0) rfl hI.1.1, pcX_u hP hK hD hS hA hE⟩ rfl rfl hl.1 rfl (lv_room (Nat.le_of_ble_eq_true rfl)) dL_law_423 ⟨by show cells + 2 + 2 ≤ 600130; omega, by show slots + 12 + 12 ≤ 7301080; omega⟩) hS (fun q _ h => h) (fun q h => h) (fun r2 w t H locs ht hvm hq hB hsz hk1 hS => ?_)
  rw [ht] at hB
  obtain ⟨hP, hD⟩ := hB
  obtain ⟨own2, num2, hI, hi0, er, hstop⟩ := hq
  refine lv_istore (lv' := [(18, .int r2), (17, .int num), (16, .int F), (0, .ref b), (1, .ref (ad 0)), (2, .ref (ad 12)), (3, .ref (ad 13)), (4, .ref (ad 14)), (5, .ref (ad 15)), (6, .ref (ad 16)), (7, .int (nI np)), (8, .int (nI n)), (9, .long al), (12, .int ind), (13, .int cr), (14, .int (nI tu)), (11, .int (nI X)), (15, .int y15)]) hx hb dL_law_426 hl (by decide) rfl (fun ls hl => ?_)
  have esum : num + r2 = num2 := by rw [er, Int32.add_comm, Int32.sub_add_cancel]
  refine lv_aload_n hx hb dL_law_428 rfl (lv_at hl 4 rfl) ?_
  refine lv_iconst (v := 0) hx hb dL_law_429 (by decide) ?_
  refine lv_iconst (v := 0) hx hb dL_law_430 (by decide) ?_
  refine va_calli (va_runV (As := [.int (0 : Int32), .int (0 : Int32)]) (rest := []) ⟨hx, hb, hml, hown, hts⟩ (op_ofRing hnt G tys htI htO hI) (cwV 2 hts gL_law_X7_ofRing rfl rfl rfl (by decide +kernel) ⟨Nat.le_of_ble_eq_true rfl, Nat.le_of_ble_eq_true rfl⟩) ⟨pcX_b, va_recv hK hP (ci := 7) (q0 := 0) rfl hI.1.1, pcX_u hP hK hD hS hA hE⟩ rfl rfl hl.1 rfl (lv_room (Nat.le_of_ble_eq_true rfl)) dL_law_431 ⟨by show cells + 2 + 2 + 2 ≤ 600130; omega, by show slots + 12 + 12 + 12 ≤ 7301080; omega⟩) hS (fun q _ h => h) (fun q h => h) (fun r u t H locs ht hvm hq hB hsz hk1 hS => ?_)
  rw [ht] at hB
  obtain ⟨hP, hD⟩ := hB
  refine re_i (y := num2) (hq) ?_
  refine lv_iload hx hb dL_law_434 (lv_at hl 1 rfl) ?_
  refine lv_iload hx hb dL_law_436 (lv_at hl 0 rfl) ?_
  refine lv_iadd hx hb dL_law_438 ?_
  refine re_i (y := num2) (esum) ?_
  refine lv_icmp_eq (tgt := 444) hx hb dL_law_439 (by decide) (fun c439 => ?_) (fun c439 => absurd (rfl) c439)
  refine lv_sipush (v := 1000) hx hb dL_law_444 (by decide) ?_
  refine lv_iload hx hb dL_law_447 (lv_at hl 1 rfl) ?_
  refine lv_iload hx hb dL_law_449 (lv_at hl 0 rfl) ?_
  refine lv_iadd hx hb dL_law_451 ?_
  refine re_i (y := num2) (esum) ?_
  refine lv_imul hx hb dL_law_452 ?_
  refine lv_iload hx hb dL_law_453 (lv_at hl 2 rfl) ?_
  refine lv_isub hx hb dL_law_455 ?_
  refine lv_iload hx hb dL_law_456 (lv_at hl 13 rfl) ?_
  refine lv_idiv hx hb dL_law_458 hi0 ?_
  obtain ⟨now, eN⟩ : ∃ z : Int32, z = (1000 * num2 - F) / ind := ⟨_, rfl⟩
  refine re_i eN.symm ?_
  have hslip := slip_no hi0 hstop
  rw [← eN] at hslip
  refine lv_istore (lv' := [(19, .int now), (18, .int r2), (17, .int num), (16, .int F), (0, .ref b), (1, .ref (ad 0)), (2, .ref (ad 12)), (3, .ref (ad 13)), (4, .ref (ad 14)), (5, .ref (ad 15)), (6, .ref (ad 16)), (7, .int (nI np)), (8, .int (nI n)), (9, .long al), (12, .int ind), (13, .int cr), (14, .int (nI tu)), (11, .int (nI X)), (15, .int y15)]) hx hb dL_law_459 hl (by decide) rfl (fun ls hl => ?_)
  refine lv_sipush (v := 1000) hx hb dL_law_461 (by decide) ?_
  refine lv_iload hx hb dL_law_464 (lv_at hl 2 rfl) ?_
  refine lv_iload hx hb dL_law_466 (lv_at hl 1 rfl) ?_
  refine lv_iadd hx hb dL_law_468 ?_
  refine re_i (y := num2) (esum) ?_
  refine lv_iload hx hb dL_law_469 (lv_at hl 0 rfl) ?_
  refine lv_if_le (tgt := 478) hx hb dL_law_471 (by decide) (fun c471 => ?_) (fun c471 => ?_)
  · refine lv_iconst (v := 1) hx hb dL_law_478 (by decide) ?_
    refine lv_iadd hx hb dL_law_479 ?_
    refine lv_imul hx hb dL_law_480 ?_
    refine lv_iload hx hb dL_law_481 (lv_at hl 3 rfl) ?_
    refine lv_isub hx hb dL_law_483 ?_
    refine lv_iload hx hb dL_law_484 (lv_at hl 14 rfl) ?_
    refine lv_idiv hx hb dL_law_486 hi0 ?_
    obtain ⟨less, eL⟩ : ∃ z : Int32, z = (1000 * (num2 + 1) - F) / ind := ⟨_, rfl⟩
    refine re_i eL.symm ?_
    have hsl := hslip.1 c471
    rw [← eL] at hsl
    refine lv_istore (lv' := [(20, .int less), (19, .int now), (18, .int r2), (17, .int num), (16, .int F), (0, .ref b), (1, .ref (ad 0)), (2, .ref (ad 12)), (3, .ref (ad 13)), (4, .ref (ad 14)), (5, .ref (ad 15)), (6, .ref (ad 16)), (7, .int (nI np)), (8, .int (nI n)), (9, .long al), (12, .int ind), (13, .int cr), (14, .int (nI tu)), (11, .int (nI X)), (15, .int y15)]) hx hb dL_law_487 hl (by decide) rfl (fun ls hl => ?_)
    refine lv_iload hx hb dL_law_489 (lv_at hl 1 rfl) ?_
    refine lv_if_ge (tgt := 499) hx hb dL_law_491 (by decide) (fun cn => ?_) (fun cn => ?_)
    · refine lv_iload hx hb dL_law_499 (lv_at hl 0 rfl) ?_
      refine lv_if_ge (tgt := 509) hx hb dL_law_501 (by decide) (fun cl => ?_) (fun cl => ?_)
      · rw [jabs_pos cn, jabs_pos cl] at hsl
        refine lv_iload hx hb dL_law_509 (lv_at hl 1 rfl) ?_
        refine lv_iload hx hb dL_law_511 (lv_at hl 16 rfl) ?_
        refine lv_icmp_le (tgt := 525) hx hb dL_law_513 (by decide) (fun cm => ?_) (fun cm => ?_)
        · refine lv_goto (tgt := 661) hx hb dL_law_525 (by decide) ?_
          refine W.widen (k := cells + 60) (n := slots + 1200) (by omega) (by omega) ?_
          exact kk n np al _ _ _ _ ⟨_, _, _, _, _, _, _, _, _, _, _, _, _, _, _, _, _, hI, hal, hT, hnp, hV⟩ hP hD hS (lv_sub hl [5, 6, 7, 8, 9, 10, 11, 12, 13, 14, 15, 16, 17] rfl)
        · refine lv_iload hx hb dL_law_516 (lv_at hl 0 rfl) ?_
          refine lv_iload hx hb dL_law_518 (lv_at hl 1 rfl) ?_
          refine lv_icmp_ge (tgt := 525) hx hb dL_law_520 (by decide) (fun c520 => ?_) (fun c520 => absurd (Int32.not_lt.mp (hsl.resolve_left cm)) c520)
          refine lv_goto (tgt := 661) hx hb dL_law_525 (by decide) ?_
          refine W.widen (k := cells + 60) (n := slots + 1200) (by omega) (by omega) ?_
          exact kk n np al _ _ _ _ ⟨_, _, _, _, _, _, _, _, _, _, _, _, _, _, _, _, _, hI, hal, hT, hnp, hV⟩ hP hD hS (lv_sub hl [5, 6, 7, 8, 9, 10, 11, 12, 13, 14, 15, 16, 17] rfl)
      · refine lv_iload hx hb dL_law_504 (lv_at hl 0 rfl) ?_
        refine lv_ineg hx hb dL_law_506 ?_
        refine lv_istore (lv' := [(20, .int (-less)), (19, .int now), (18, .int r2), (17, .int num), (16, .int F), (0, .ref b), (1, .ref (ad 0)), (2, .ref (ad 12)), (3, .ref (ad 13)), (4, .ref (ad 14)), (5, .ref (ad 15)), (6, .ref (ad 16)), (7, .int (nI np)), (8, .int (nI n)), (9, .long al), (12, .int ind), (13, .int cr), (14, .int (nI tu)), (11, .int (nI X)), (15, .int y15)]) hx hb dL_law_507 hl (by decide) rfl (fun ls hl => ?_)
        rw [jabs_pos cn, jabs_neg cl] at hsl
        refine lv_iload hx hb dL_law_509 (lv_at hl 1 rfl) ?_
        refine lv_iload hx hb dL_law_511 (lv_at hl 16 rfl) ?_
        refine lv_icmp_le (tgt := 525) hx hb dL_law_513 (by decide) (fun cm => ?_) (fun cm => ?_)
        · refine lv_goto (tgt := 661) hx hb dL_law_525 (by decide) ?_
          refine W.widen (k := cells + 60) (n := slots + 1200) (by omega) (by omega) ?_
          exact kk n np al _ _ _ _ ⟨_, _, _, _, _, _, _, _, _, _, _, _, _, _, _, _, _, hI, hal, hT, hnp, hV⟩ hP hD hS (lv_sub hl [5, 6, 7, 8, 9, 10, 11, 12, 13, 14, 15, 16, 17] rfl)
        · refine lv_iload hx hb dL_law_516 (lv_at hl 0 rfl) ?_
          refine lv_iload hx hb dL_law_518 (lv_at hl 1 rfl) ?_
          refine lv_icmp_ge (tgt := 525) hx hb dL_law_520 (by decide) (fun c520 => ?_) (fun c520 => absurd (Int32.not_lt.mp (hsl.resolve_left cm)) c520)
          refine lv_goto (tgt := 661) hx hb dL_law_525 (by decide) ?_
          refine W.widen (k := cells + 60) (n := slots + 1200) (by omega) (by omega) ?_
          exact kk n np al _ _ _ _ ⟨_, _, _, _, _, _, _, _, _, _, _, _, _, _, _, _, _, hI, hal, hT, hnp, hV⟩ hP hD hS (lv_sub hl [5, 6, 7, 8, 9, 10, 11, 12, 13, 14, 15, 16, 17] rfl)
    · refine lv_iload hx hb dL_law_494 (lv_at hl 1 rfl) ?_
      refine lv_ineg hx hb dL_law_496 ?_
      refine lv_istore (lv' := [(19, .int (-now)), (20, .int less), (18, .int r2), (17, .int num), (16, .int F), (0, .ref b), (1, .ref (ad 0)), (2, .ref (ad 12)), (3, .ref (ad 13)), (4, .ref (ad 14)), (5, .ref (ad 15)), (6, .ref (ad 16)), (7, .int (nI np)), (8, .int (nI n)), (9, .long al), (12, .int ind), (13, .int cr), (14, .int (nI tu)), (11, .int (nI X)), (15, .int y15)]) hx hb dL_law_497 hl (by decide) rfl (fun ls hl => ?_)
      refine lv_iload hx hb dL_law_499 (lv_at hl 1 rfl) ?_
      refine lv_if_ge (tgt := 509) hx hb dL_law_501 (by decide) (fun cl => ?_) (fun cl => ?_)
      · rw [jabs_neg cn, jabs_pos cl] at hsl
        refine lv_iload hx hb dL_law_509 (lv_at hl 0 rfl) ?_
        refine lv_iload hx hb dL_law_511 (lv_at hl 16 rfl) ?_
        refine lv_icmp_le (tgt := 525) hx hb dL_law_513 (by decide) (fun cm => ?_) (fun cm => ?_)
        · refine lv_goto (tgt := 661) hx hb dL_law_525 (by decide) ?_
          refine W.widen (k := cells + 60) (n := slots + 1200) (by omega) (by omega) ?_
          exact kk n np al _ _ _ _ ⟨_, _, _, _, _, _, _, _, _, _, _, _, _, _, _, _, _, hI, hal, hT, hnp, hV⟩ hP hD hS (lv_sub hl [5, 6, 7, 8, 9, 10, 11, 12, 13, 14, 15, 16, 17] rfl)
        · refine lv_iload hx hb dL_law_516 (lv_at hl 1 rfl) ?_
          refine lv_iload hx hb dL_law_518 (lv_at hl 0 rfl) ?_
          refine lv_icmp_ge (tgt := 525) hx hb dL_law_520 (by decide) (fun c520 => ?_) (fun c520 => absurd (Int32.not_lt.mp (hsl.resolve_left cm)) c520)
          refine lv_goto (tgt := 661) hx hb dL_law_525 (by decide) ?_
          refine W.widen (k := cells + 60) (n := slots + 1200) (by omega) (by omega) ?_
          exact kk n np al _ _ _ _ ⟨_, _, _, _, _, _, _, _, _, _, _, _, _, _, _, _, _, hI, hal, hT, hnp, hV⟩ hP hD hS (lv_sub hl [5, 6, 7, 8, 9, 10, 11, 12, 13, 14, 15, 16, 17] rfl)
      · refine lv_iload hx hb dL_law_504 (lv_at hl 1 rfl) ?_
        refine lv_ineg hx hb dL_law_506 ?_
        refine lv_istore (lv' := [(20, .int (-less)), (19, .int (-now)), (18, .int r2), (17, .int num), (16, .int F), (0, .ref b), (1, .ref (ad 0)), (2, .ref (ad 12)), (3, .ref (ad 13)), (4, .ref (ad 14)), (5, .ref (ad 15)), (6, .ref (ad 16)), (7, .int (nI np)), (8, .int (nI n)), (9, .long al), (12, .int ind), (13, .int cr), (14, .int (nI tu)), (11, .int (nI X)), (15, .int y15)]) hx hb dL_law_507 hl (by decide) rfl (fun ls hl => ?_)
        rw [jabs_neg cn, jabs_neg cl] at hsl
        refine lv_iload hx hb dL_law_509 (lv_at hl 1 rfl) ?_
        refine lv_iload hx hb dL_law_511 (lv_at hl 16 rfl) ?_
        refine lv_icmp_le (tgt := 525) hx hb dL_law_513 (by decide) (fun cm => ?_) (fun cm => ?_)
        · refine lv_goto (tgt := 661) hx hb dL_law_525 (by decide) ?_
          refine W.widen (k := cells + 60) (n := slots + 1200) (by omega) (by omega) ?_
          exact kk n np al _ _ _ _ ⟨_, _, _, _, _, _, _, _, _, _, _, _, _, _, _, _, _, hI, hal, hT, hnp, hV⟩ hP hD hS (lv_sub hl [5, 6, 7, 8, 9, 10, 11, 12, 13, 14, 15, 16, 17] rfl)
        · refine lv_iload hx hb dL_law_516 (lv_at hl 0 rfl) ?_
          refine lv_iload hx hb dL_law_518 (lv_at hl 1 rfl) ?_
          refine lv_icmp_ge (tgt := 525) hx hb dL_law_520 (by decide) (fun c520 => ?_) (fun c520 => absurd (Int32.not_lt.mp (hsl.resolve_left cm)) c520)
          refine lv_goto (tgt := 661) hx hb dL_law_525 (by decide) ?_
          refine W.widen (k := cells + 60) (n := slots + 1200) (by omega) (by omega) ?_
          exact kk n np al _ _ _ _ ⟨_, _, _, _, _, _, _, _, _, _, _, _, _, _, _, _, _, hI, hal, hT, hnp, hV⟩ hP hD hS (lv_sub hl [5, 6, 7, 8, 9, 10, 11, 12, 13, 14, 15, 16, 17] rfl)
  · refine lv_iconst (v := -1) hx hb dL_law_474 (by decide) ?_
    refine lv_goto (tgt := 479) hx hb dL_law_475 (by decide) ?_
    refine lv_iadd hx hb dL_law_479 ?_
    refine lv_imul hx hb dL_law_480 ?_
    refine lv_iload hx hb dL_law_481 (lv_at hl 3 rfl) ?_
    refine lv_isub hx hb dL_law_483 ?_
    refine lv_iload hx hb dL_law_484 (lv_at hl 14 rfl) ?_
    refine lv_idiv hx hb dL_law_486 hi0 ?_
    obtain ⟨less, eL⟩ : ∃ z : Int32, z = (1000 * (num2 + -1) - F) / ind := ⟨_, rfl⟩
    refine re_i eL.symm ?_
    have hsl := hslip.2 c471
    rw [← eL] at hsl
    refine lv_istore (lv' := [(20, .int less), (19, .int now), (18, .int r2), (17, .int num), (16, .int F), (0, .ref b), (1, .ref (ad 0)), (2, .ref (ad 12)), (3, .ref (ad 13)), (4, .ref (ad 14)), (5, .ref (ad 15)), (6, .ref (ad 16)), (7, .int (nI np)), (8, .int (nI n)), (9, .long al), (12, .int ind), (13, .int cr), (14, .int (nI tu)), (11, .int (nI X)), (15, .int y15)]) hx hb dL_law_487 hl (by decide) rfl (fun ls hl => ?_)
    refine lv_iload hx hb dL_law_489 (lv_at hl 1 rfl) ?_
    refine lv_if_ge (tgt := 499) hx hb dL_law_491 (by decide) (fun cn => ?_) (fun cn => ?_)
    · refine lv_iload hx hb dL_law_499 (lv_at hl 0 rfl) ?_
      refine lv_if_ge (tgt := 509) hx hb dL_law_501 (by decide) (fun cl => ?_) (fun cl => ?_)
      · rw [jabs_pos cn, jabs_pos cl] at hsl
        refine lv_iload hx hb dL_law_509 (lv_at hl 1 rfl) ?_
        refine lv_iload hx hb dL_law_511 (lv_at hl 16 rfl) ?_
        refine lv_icmp_le (tgt := 525) hx hb dL_law_513 (by decide) (fun cm => ?_) (fun cm => ?_)
        · refine lv_goto (tgt := 661) hx hb dL_law_525 (by decide) ?_
          refine W.widen (k := cells + 60) (n := slots + 1200) (by omega) (by omega) ?_
          exact kk n np al _ _ _ _ ⟨_, _, _, _, _, _, _, _, _, _, _, _, _, _, _, _, _, hI, hal, hT, hnp, hV⟩ hP hD hS (lv_sub hl [5, 6, 7, 8, 9, 10, 11, 12, 13, 14, 15, 16, 17] rfl)
        · refine lv_iload hx hb dL_law_516 (lv_at hl 0 rfl) ?_
          refine lv_iload hx hb dL_law_518 (lv_at hl 1 rfl) ?_
          refine lv_icmp_ge (tgt := 525) hx hb dL_law_520 (by decide) (fun c520 => ?_) (fun c520 => absurd (Int32.not_lt.mp (hsl.resolve_left cm)) c520)
          refine lv_goto (tgt := 661) hx hb dL_law_525 (by decide) ?_
          refine W.widen (k := cells + 60) (n := slots + 1200) (by omega) (by omega) ?_
          exact kk n np al _ _ _ _ ⟨_, _, _, _, _, _, _, _, _, _, _, _, _, _, _, _, _, hI, hal, hT, hnp, hV⟩ hP hD hS (lv_sub hl [5, 6, 7, 8, 9, 10, 11, 12, 13, 14, 15, 16, 17] rfl)
      · refine lv_iload hx hb dL_law_504 (lv_at hl 0 rfl) ?_
        refine lv_ineg hx hb dL_law_506 ?_
        refine lv_istore (lv' := [(20, .int (-less)), (19, .int now), (18, .int r2), (17, .int num), (16, .int F), (0, .ref b), (1, .ref (ad 0)), (2, .ref (ad 12)), (3, .ref (ad 13)), (4, .ref (ad 14)), (5, .ref (ad 15)), (6, .ref (ad 16)), (7, .int (nI np)), (8, .int (nI n)), (9, .long al), (12, .int ind), (13, .int cr), (14, .int (nI tu)), (11, .int (nI X)), (15, .int y15)]) hx hb dL_law_507 hl (by decide) rfl (fun ls hl => ?_)
        rw [jabs_pos cn, jabs_neg cl] at hsl
        refine lv_iload hx hb dL_law_509 (lv_at hl 1 rfl) ?_
        refine lv_iload hx hb dL_law_511 (lv_at hl 16 rfl) ?_
        refine lv_icmp_le (tgt := 525) hx hb dL_law_513 (by decide) (fun cm => ?_) (fun cm => ?_)
        · refine lv_goto (tgt := 661) hx hb dL_law_525 (by decide) ?_
          refine W.widen (k := cells + 60) (n := slots + 1200) (by omega) (by omega) ?_
          exact kk n np al _ _ _ _ ⟨_, _, _, _, _, _, _, _, _, _, _, _, _, _, _, _, _, hI, hal, hT, hnp, hV⟩ hP hD hS (lv_sub hl [5, 6, 7, 8, 9, 10, 11, 12, 13, 14, 15, 16, 17] rfl)
        · refine lv_iload hx hb dL_law_516 (lv_at hl 0 rfl) ?_
          refine lv_iload hx hb dL_law_518 (lv_at hl 1 rfl) ?_
          refine lv_icmp_ge (tgt := 525) hx hb dL_law_520 (by decide) (fun c520 => ?_) (fun c520 => absurd (Int32.not_lt.mp (hsl.resolve_left cm)) c520)
          refine lv_goto (tgt := 661) hx hb dL_law_525 (by decide) ?_
          refine W.widen (k := cells + 60) (n := slots + 1200) (by omega) (by omega) ?_
          exact kk n np al _ _ _ _ ⟨_, _, _, _, _, _, _, _, _, _, _, _, _, _, _, _, _, hI, hal, hT, hnp, hV⟩ hP hD hS (lv_sub hl [5, 6, 7, 8, 9, 10, 11, 12, 13, 14, 15, 16, 17] rfl)
    · refine lv_iload hx hb dL_law_494 (lv_at hl 1 rfl) ?_
      refine lv_ineg hx hb dL_law_496 ?_
      refine lv_istore (lv' := [(19, .int (-now)), (20, .int less), (18, .int r2), (17, .int num), (16, .int F), (0, .ref b), (1, .ref (ad 0)), (2, .ref (ad 12)), (3, .ref (ad 13)), (4, .ref (ad 14)), (5, .ref (ad 15)), (6, .ref (ad 16)), (7, .int (nI np)), (8, .int (nI n)), (9, .long al), (12, .int ind), (13, .int cr), (14, .int (nI tu)), (11, .int (nI X)), (15, .int y15)]) hx hb dL_law_497 hl (by decide) rfl (fun ls hl => ?_)
      refine lv_iload hx hb dL_law_499 (lv_at hl 1 rfl) ?_
      refine lv_if_ge (tgt := 509) hx hb dL_law_501 (by decide) (fun cl => ?_) (fun cl => ?_)
      · rw [jabs_neg cn, jabs_pos cl] at hsl
        refine lv_iload hx hb dL_law_509 (lv_at hl 0 rfl) ?_
        refine lv_iload hx hb dL_law_511 (lv_at hl 16 rfl) ?_
        refine lv_icmp_le (tgt := 525) hx hb dL_law_513 (by decide) (fun cm => ?_) (fun cm => ?_)
        · refine lv_goto (tgt := 661) hx hb dL_law_525 (by decide) ?_
          refine W.widen (k := cells + 60) (n := slots + 1200) (by omega) (by omega) ?_
          exact kk n np al _ _ _ _ ⟨_, _, _, _, _, _, _, _, _, _, _, _, _, _, _, _, _, hI, hal, hT, hnp, hV⟩ hP hD hS (lv_sub hl [5, 6, 7, 8, 9, 10, 11, 12, 13, 14, 15, 16, 17] rfl)
        · refine lv_iload hx hb dL_law_516 (lv_at hl 1 rfl) ?_
          refine lv_iload hx hb dL_law_518 (lv_at hl 0 rfl) ?_
          refine lv_icmp_ge (tgt := 525) hx hb dL_law_520 (by decide) (fun c520 => ?_) (fun c520 => absurd (Int32.not_lt.mp (hsl.resolve_left cm)) c520)
          refine lv_goto (tgt := 661) hx hb dL_law_525 (by decide) ?_
          refine W.widen (k := cells + 60) (n := slots + 1200) (by omega) (by omega) ?_
          exact kk n np al _ _ _ _ ⟨_, _, _, _, _, _, _, _, _, _, _, _, _, _, _, _, _, hI, hal, hT, hnp, hV⟩ hP hD hS (lv_sub hl [5, 6, 7, 8, 9, 10, 11, 12, 13, 14, 15, 16, 17] rfl)
      · refine lv_iload hx hb dL_law_504 (lv_at hl 1 rfl) ?_
        refine lv_ineg hx hb dL_law_506 ?_
        refine lv_istore (lv' := [(20, .int (-less)), (19, .int (-now)), (18, .int r2), (17, .int num), (16, .int F), (0, .ref b), (1, .ref (ad 0)), (2, .ref (ad 12)), (3, .ref (ad 13)), (4, .ref (ad 14)), (5, .ref (ad 15)), (6, .ref (ad 16)), (7, .int (nI np)), (8, .int (nI n)), (9, .long al), (12, .int ind), (13, .int cr), (14, .int (nI tu)), (11, .int (nI X)), (15, .int y15)]) hx hb dL_law_507 hl (by decide) rfl (fun ls hl => ?_)
        rw [jabs_neg cn, jabs_neg cl] at hsl
        refine lv_iload hx hb dL_law_509 (lv_at hl 1 rfl) ?_
        refine lv_iload hx hb dL_law_511 (lv_at hl 16 rfl) ?_
        refine lv_icmp_le (tgt := 525) hx hb dL_law_513 (by decide) (fun cm => ?_) (fun cm => ?_)
        · refine lv_goto (tgt := 661) hx hb dL_law_525 (by decide) ?_
          refine W.widen (k := cells + 60) (n := slots + 1200) (by omega) (by omega) ?_
          exact kk n np al _ _ _ _ ⟨_, _, _, _, _, _, _, _, _, _, _, _, _, _, _, _, _, hI, hal, hT, hnp, hV⟩ hP hD hS (lv_sub hl [5, 6, 7, 8, 9, 10, 11, 12, 13, 14, 15, 16, 17] rfl)
        · refine lv_iload hx hb dL_law_516 (lv_at hl 0 rfl) ?_
          refine lv_iload hx hb dL_law_518 (lv_at hl 1 rfl) ?_
          refine lv_icmp_ge (tgt := 525) hx hb dL_law_520 (by decide) (fun c520 => ?_) (fun c520 => absurd (Int32.not_lt.mp (hsl.resolve_left cm)) c520)
          refine lv_goto (tgt := 661) hx hb dL_law_525 (by decide) ?_
          refine W.widen (k := cells + 60) (n := slots + 1200) (by omega) (by omega) ?_
          exact kk n np al _ _ _ _ ⟨_, _, _, _, _, _, _, _, _, _, _, _, _, _, _, _, _, hI, hal, hT, hnp, hV⟩ hP hD hS (lv_sub hl [5, 6, 7, 8, 9, 10, 11, 12, 13, 14, 15, 16, 17] rfl)
-- part 78
set_option maxHeartbeats 4000000 in
set_option maxRecDepth 100000 in
theorem act_6 {p : Program} {l : Launch} {e : Env} {s : State} {m : MethodId} {below : List Frame} {meth : Method} {c : Code} (hnt : l.stackTraces = false) {G : va_G} {tys : List (ClassId × FieldType)} {tE mi : Nat} {cI cO : ClassId} (htI : tI tys cI) (htO : tO tys cO) {b L : Nat} {xs : Nat → Int32} (hL : L ≤ 260) (C0 : lw_At p s m meth c b L xs) {ad : Nat → Nat} (hK : va_K G vwCl tys s) (hE : env (fun q : Nat => s.heap.size ≤ q) tE mi s s.heap) {ind cr : Int32} {n np tu X : Nat} {al : Int64} {y15 : Int32} {ws : va_W} {H : Heap} {locs : List Loc} {cells slots : Nat} {Q : State → Prop} {ls : Array Slot} (hX31 : X < 2 ^ 31) (hti : ti cI cO tE ad ind cr n np al ws) (hP : va_P G vwCl ws H) (hD : va_D (fun q : Nat => s.heap.size ≤ q) ws) (hS : va_S (fun q : Nat => s.heap.size ≤ q) s.heap H locs) (hl : lv_has ls 26 [(0, .ref b), (1, .ref (ad 0)), (2, .ref (ad 12)), (3, .ref (ad 13)), (4, .ref (ad 14)), (5, .ref (ad 15)), (6, .ref (ad 16)), (7, .int (nI np)), (8, .int (nI n)), (9, .long al), (12, .int ind), (13, .int cr), (14, .int (nI tu)), (11, .int (nI X)), (15, .int y15)]) (hc : cells + 60 ≤ 600130) (hs : slots + 1200 ≤ 7301080) (kk : ∀ (n2 np2 : Nat) (al2 : Int64) (w : va_W) (H1 : Heap) (locs1 : List Loc) (ls1 : Array Slot), ti cI cO tE ad ind cr n2 np2 al2 w → va_P G vwCl w H1 → va_D (fun q : Nat => s.heap.size ≤ q) w → va_S (fun q : Nat => s.heap.size ≤ q) s.heap H1 locs1 → lv_has ls1 26 [(0, .ref b), (1, .ref (ad 0)), (2, .ref (ad 12)), (3, .ref (ad 13)), (4, .ref (ad 14)), (5, .ref (ad 15)), (6, .ref (ad 16)), (7, .int (nI np2)), (8, .int (nI n2)), (9, .long al2), (12, .int ind), (13, .int cr), (14, .int (nI tu))] → W p l e room_1 s m #[Value.ref b] below meth c H1 locs1 (cells + 60) (slots + 1200) Q (F0 m 661 ls1 [])) : W p l e room_1 s m #[Value.ref b] below meth c H locs (cells) (slots) Q (F0 m 528 ls []) := by
  obtain ⟨hx, hb, hr, hml, hown, hts0, hX, hbl, hlocks, hgv⟩ := C0
  have hts : ∀ w ∈ wsL_law, w.before #[Value.ref b] s = true := fun w h => hts0 w (wsL_law_in w h)
  have hown : s.vm.findClass RL = some m.cls := hown
  have hA : ∀ q : Nat, s.heap.size ≤ q → (fun q : Nat => s.heap.size ≤ q) q := fun _ h => h
  have hbA : ¬ (fun q : Nat => s.heap.size ≤ q) b := Nat.not_le.mpr hbl
  obtain ⟨own, P, M, V, S, T, cel, ct, cf, co, ca, wd, num, cur, du, wi, dm, hI, hal, hT, hnp, hV⟩ := hti
  refine lv_iload hx hb dL_law_528 (lv_at hl 7 rfl) ?_
  refine lv_bipush (v := 56) hx hb dL_law_530 (by decide) ?_
  refine lv_icmp_ge (tgt := 661) hx hb dL_law_532 (by decide) (fun c532 => ?_) (fun c532 => ?_)
  · refine W.widen (k := cells + 60) (n := slots + 1200) (by omega) (by omega) ?_
    exact kk n np al _ _ _ _ ⟨_, _, _, _, _, _, _, _, _, _, _, _, _, _, _, _, _, hI, hal, hT, hnp, hV⟩ hP hD hS (lv_sub hl [0, 1, 2, 3, 4, 5, 6, 7, 8, 9, 10, 11, 12] rfl)
  · have hnp56 : np < 56 := Nat.lt_of_not_le (fun q => c532 (show nI 56 ≤ nI np from nI_le q (by omega)))
    refine lv_iconst (v := 0) hx hb dL_law_535 (by decide) ?_
    refine lv_istore (lv' := [(16, .int (0 : Int32)), (0, .ref b), (1, .ref (ad 0)), (2, .ref (ad 12)), (3, .ref (ad 13)), (4, .ref (ad 14)), (5, .ref (ad 15)), (6, .ref (ad 16)), (7, .int (nI np)), (8, .int (nI n)), (9, .long al), (12, .int ind), (13, .int cr), (14, .int (nI tu)), (11, .int (nI X)), (15, .int y15)]) hx hb dL_law_536 hl (by decide) rfl (fun ls hl => ?_)
    refine lv_iload hx hb dL_law_538 (lv_at hl 0 rfl) ?_
    refine lv_iconst (v := 2) hx hb dL_law_540 (by decide) ?_
    refine lv_icmp_ge (tgt := 661) hx hb dL_law_541 (by decide) (fun c541 => absurd c541 (by decide)) (fun c541 => ?_)
    refine lv_aload_n hx hb dL_law_544 rfl (lv_at hl 3 rfl) ?_
    refine lv_iload hx hb dL_law_545 (lv_at hl 8 rfl) ?_
    refine lv_iload hx hb dL_law_547 (lv_at hl 14 rfl) ?_
    refine lv_iconst (v := 4) hx hb dL_law_549 (by decide) ?_
    refine lv_ishr hx hb dL_law_550 ?_
    refine re_i (y := nI (X / 2 ^ 4)) (pk_shrN hX31 _ 4 (by decide +kernel)) ?_
    refine lv_iconst (v := 3) hx hb dL_law_551 (by decide) ?_
    refine re_i (y := nI 3) (show (3 : Int32) = nI 3 from rfl) ?_
    refine vp_callSi (va_Run.run (va_runS (As := [.int (nI (X / 2 ^ 4)), .int (nI 3)]) (rest := [.int (nI np), .ref (ad 12)]) ⟨hx, hb, hml, hown, hts⟩ (metL_at l (X / 2 ^ 4) 3 (by omega) (by decide) (by decide)) (va_cwS 2 hts gL_law_L_at rfl rfl rfl (by decide +kernel) ⟨Nat.le_of_ble_eq_true rfl, Nat.le_of_ble_eq_true rfl⟩) ⟨pc0_b, pc0_u⟩ rfl rfl hl.1 rfl (lv_room (Nat.le_of_ble_eq_true rfl)) dL_law_552 ⟨by show cells + 0 ≤ 600130; omega, by show slots + 0 ≤ 7301080; omega⟩)) (fun r h => ?_)
    obtain ⟨k552, hk552, rfl⟩ := h
    refine lv_bipush (v := 40) hx hb dL_law_555 (by decide) ?_
    refine lv_imul hx hb dL_law_557 ?_
    refine va_iast hx hb hK hP hD hS 12 0 hI.2.1.1.1 htI (vp_in_nI (by omega) (by decide)) dL_law_558 (fun H locs hP hD hS => ?_)
    rw [nI_clamp (show np < 2 ^ 31 by omega)] at hP hD
    have hI := hI.w12 np ((nI k552) * (40 : Int32)) (Nat.le_refl _)
    refine lv_aload_n hx hb dL_law_559 rfl (lv_at hl 4 rfl) ?_
    refine lv_iload hx hb dL_law_560 (lv_at hl 8 rfl) ?_
    refine lv_iconst (v := 1) hx hb dL_law_562 (by decide) ?_
    refine lv_iload hx hb dL_law_563 (lv_at hl 14 rfl) ?_
    refine lv_bipush (v := 8) hx hb dL_law_565 (by decide) ?_
    refine lv_ishr hx hb dL_law_567 ?_
    refine re_i (y := nI (X / 2 ^ 8)) (pk_shrN hX31 _ 8 (by decide +kernel)) ?_
    refine lv_iconst (v := 2) hx hb dL_law_568 (by decide) ?_
    refine re_i (y := nI 2) (show (2 : Int32) = nI 2 from rfl) ?_
    refine vp_callSi (va_Run.run (va_runS (As := [.int (nI (X / 2 ^ 8)), .int (nI 2)]) (rest := [.int (1 : Int32), .int (nI np), .ref (ad 13)]) ⟨hx, hb, hml, hown, hts⟩ (metL_at l (X / 2 ^ 8) 2 (by omega) (by decide) (by decide)) (va_cwS 2 hts gL_law_L_at rfl rfl rfl (by decide +kernel) ⟨Nat.le_of_ble_eq_true rfl, Nat.le_of_ble_eq_true rfl⟩) ⟨pc0_b, pc0_u⟩ rfl rfl hl.1 rfl (lv_room (Nat.le_of_ble_eq_true rfl)) dL_law_569 ⟨by show cells + 0 ≤ 600130; omega, by show slots + 0 ≤ 7301080; omega⟩)) (fun r h => ?_)
    obtain ⟨k569, hk569, rfl⟩ := h
    refine lv_iadd hx hb dL_law_572 ?_
    refine lv_iload hx hb dL_law_573 (lv_at hl 0 rfl) ?_
    refine lv_if_ne (tgt := 583) hx hb dL_law_575 (by decide) (fun c575 => absurd (by decide) c575) (fun c575 => ?_)
    refine lv_bipush (v := 100) hx hb dL_law_578 (by decide) ?_
    refine lv_goto (tgt := 585) hx hb dL_law_580 (by decide) ?_
    refine lv_imul hx hb dL_law_585 ?_
    refine va_iast hx hb hK hP hD hS 13 0 hI.2.1.2.1.1 htI (vp_in_nI (by omega) (by decide)) dL_law_586 (fun H locs hP hD hS => ?_)
    rw [nI_clamp (show np < 2 ^ 31 by omega)] at hP hD
    have hI := hI.w13 np (((1 : Int32) + (nI k569)) * (100 : Int32)) (Nat.le_refl _)
    refine lv_aload hx hb dL_law_587 (lv_at hl 5 rfl) ?_
    refine lv_iload hx hb dL_law_589 (lv_at hl 8 rfl) ?_
    refine lv_iload hx hb dL_law_591 (lv_at hl 14 rfl) ?_
    refine lv_bipush (v := 12) hx hb dL_law_593 (by decide) ?_
    refine lv_ishr hx hb dL_law_595 ?_
    refine re_i (y := nI (X / 2 ^ 12)) (pk_shrN hX31 _ 12 (by decide +kernel)) ?_
    refine lv_bipush (v := 50) hx hb dL_law_596 (by decide) ?_
    refine re_i (y := nI 50) (show (50 : Int32) = nI 50 from rfl) ?_
    refine vp_callSi (va_Run.run (va_runS (As := [.int (nI (X / 2 ^ 12)), .int (nI 50)]) (rest := [.int (nI np), .ref (ad 14)]) ⟨hx, hb, hml, hown, hts⟩ (metL_at l (X / 2 ^ 12) 50 (by omega) (by decide) (by decide)) (va_cwS 2 hts gL_law_L_at rfl rfl rfl (by decide +kernel) ⟨Nat.le_of_ble_eq_true rfl, Nat.le_of_ble_eq_true rfl⟩) ⟨pc0_b, pc0_u⟩ rfl rfl hl.1 rfl (lv_room (Nat.le_of_ble_eq_true rfl)) dL_law_598 ⟨by show cells + 0 ≤ 600130; omega, by show slots + 0 ≤ 7301080; omega⟩)) (fun r h => ?_)
    obtain ⟨k598, hk598, rfl⟩ := h
    refine lv_iload hx hb dL_law_601 (lv_at hl 0 rfl) ?_
    refine lv_if_ne (tgt := 610) hx hb dL_law_603 (by decide) (fun c603 => absurd (by decide) c603) (fun c603 => ?_)
    refine lv_iconst (v := 0) hx hb dL_law_606 (by decide) ?_
    refine lv_goto (tgt := 620) hx hb dL_law_607 (by decide) ?_
    refine lv_iadd hx hb dL_law_620 ?_
    refine va_iast hx hb hK hP hD hS 14 0 hI.2.1.2.2.1.1 htI (vp_in_nI (by omega) (by decide)) dL_law_621 (fun H locs hP hD hS => ?_)
    rw [nI_clamp (show np < 2 ^ 31 by omega)] at hP hD
    have hI := hI.w14 np ((nI k598) + (0 : Int32)) (Nat.le_refl _)
    refine lv_iinc (v := nI (np + 1)) (lv' := [(7, .int (nI (np + 1))), (16, .int (0 : Int32)), (0, .ref b), (1, .ref (ad 0)), (2, .ref (ad 12)), (3, .ref (ad 13)), (4, .ref (ad 14)), (5, .ref (ad 15)), (6, .ref (ad 16)), (8, .int (nI n)), (9, .long al), (12, .int ind), (13, .int cr), (14, .int (nI tu)), (11, .int (nI X)), (15, .int y15)]) hx hb dL_law_622 hl (k := 8) rfl (nI_1 np) (by decide) rfl (fun ls hl => ?_)
    refine lv_aload_n hx hb dL_law_625 rfl (lv_at hl 3 rfl) ?_
    refine lv_aload_n hx hb dL_law_626 rfl (lv_at hl 4 rfl) ?_
    refine lv_iload hx hb dL_law_627 (lv_at hl 0 rfl) ?_
    refine lv_iconst (v := 1) hx hb dL_law_629 (by decide) ?_
    refine lv_isub hx hb dL_law_630 ?_
    refine re_i (y := nI np) (nI_m1 np) ?_
    refine va_iald hx hb hK hP 12 0 hI.2.1.1.1 htI (vp_in_nI (by omega) (by decide)) dL_law_631 ?_
    refine rd_i (j := np) (nI_clamp (by omega)) ?_
    refine re_i (y := (nI k552) * (40 : Int32)) (upd_at) ?_
    refine lv_aload_n hx hb dL_law_632 rfl (lv_at hl 5 rfl) ?_
    refine lv_iload hx hb dL_law_633 (lv_at hl 0 rfl) ?_
    refine lv_iconst (v := 1) hx hb dL_law_635 (by decide) ?_
    refine lv_isub hx hb dL_law_636 ?_
    refine re_i (y := nI np) (nI_m1 np) ?_
    refine va_iald hx hb hK hP 13 0 hI.2.1.2.1.1 htI (vp_in_nI (by omega) (by decide)) dL_law_637 ?_
    refine rd_i (j := np) (nI_clamp (by omega)) ?_
    refine re_i (y := ((1 : Int32) + (nI k569)) * (100 : Int32)) (upd_at) ?_
    refine lv_aload hx hb dL_law_638 (lv_at hl 6 rfl) ?_
    refine lv_iload hx hb dL_law_640 (lv_at hl 0 rfl) ?_
    refine lv_iconst (v := 1) hx hb dL_law_642 (by decide) ?_
    refine lv_isub hx hb dL_law_643 ?_
    refine re_i (y := nI np) (nI_m1 np) ?_
    refine va_iald hx hb hK hP 14 0 hI.2.1.2.2.1.1 htI (vp_in_nI (by omega) (by decide)) dL_law_644 ?_
    refine rd_i (j := np) (nI_clamp (by omega)) ?_
    refine re_i (y := (nI k598) + (0 : Int32)) (upd_at) ?_
    have hx0 : ((nI k552) * (40 : Int32)).toInt = (k552 : Int) * 40 := i_mul (nI_toInt (show k552 < 2 ^ 31 by omega)) (show (40 : Int32).toInt = 40 by decide) (by omega) (by omega)
    have hs0 : (1 + nI k569).toInt = 1 + (k569 : Int) := i_add (show (1 : Int32).toInt = 1 by decide) (nI_toInt (show k569 < 2 ^ 31 by omega)) (by omega) (by omega)
    have hy0 : (((1 : Int32) + (nI k569)) * (100 : Int32)).toInt = (1 + (k569 : Int)) * 100 := i_mul hs0 (show (100 : Int32).toInt = 100 by decide) (by omega) (by omega)
    have hz0 : ((nI k598) + (0 : Int32)).toInt = (k598 : Int) + 0 := i_add (nI_toInt (show k598 < 2 ^ 31 by omega)) (show (0 : Int32).toInt = 0 by decide) (by omega) (by omega)
    refine va_calli (va_runV (As := [.int ((nI k552) * (40 : Int32)), .int (((1 : Int32) + (nI k569)) * (100 : Int32)), .int ((nI k598) + (0 : Int32))]) (rest := []) ⟨hx, hb, hml, hown, hts⟩ (op_point hnt G tys htI htO hI ((nI k552) * (40 : Int32)) (((1 : Int32) + (nI k569)) * (100 : Int32)) ((nI k598) + (0 : Int32)) (cd_if (oR_of (a := 0) (b := 300) (by decide) (by decide) hx0 (by omega) (by omega)) (cd_if (oR_of (a := -1000) (b := 1000) (by decide) (by decide) hy0 (by omega) (by omega)) (cd_if (oR_of (a := -1000000) (b := 1000000) (by decide) (by decide) hz0 (by omega) (by omega)) (cd_if (show ¬ nI 60 ≤ nI np from nI_ge (by omega) (by decide)) rfl)))) (by omega) upd_at upd_at upd_at) (cwV 3 hts gL_law_X7_point rfl rfl rfl (by decide +kernel) ⟨Nat.le_of_ble_eq_true rfl, Nat.le_of_ble_eq_true rfl⟩) ⟨pcX_b, va_recv hK hP (ci := 7) (q0 := 0) rfl hI.1.1, pcX_u hP hK hD hS hA hE⟩ rfl rfl hl.1 rfl (lv_room (Nat.le_of_ble_eq_true rfl)) dL_law_645 ⟨by show cells + 6 ≤ 600130; omega, by show slots + 227 ≤ 7301080; omega⟩) hS (fun q _ h => h) (fun q h => h) (fun rp w t H locs ht hvm hq hB hsz hk1 hS => ?_)
    rw [ht] at hB
    obtain ⟨hP, hD⟩ := hB
    obtain ⟨er, own5, hI⟩ := hq
    subst er
    refine lv_iload hx hb dL_law_648 (lv_at hl 0 rfl) ?_
    refine lv_icmp_eq (tgt := 655) hx hb dL_law_650 (by decide) (fun c650 => ?_) (fun c650 => absurd (rfl) c650)
    have hV : ∀ i, i < (np + 1) → 0 ≤ ((upd V np ((nI k598) + (0 : Int32))) i).toInt ∧ ((upd V np ((nI k598) + (0 : Int32))) i).toInt ≤ 1000 := fun i hi => by
      by_cases q : i = np
      · rw [q, upd_at, hz0]; omega
      · rw [upd_ne q]; exact hV i (by omega)
    refine lv_iinc (v := (1 : Int32)) (lv' := [(16, .int (1 : Int32)), (7, .int (nI (np + 1))), (0, .ref b), (1, .ref (ad 0)), (2, .ref (ad 12)), (3, .ref (ad 13)), (4, .ref (ad 14)), (5, .ref (ad 15)), (6, .ref (ad 16)), (8, .int (nI n)), (9, .long al), (12, .int ind), (13, .int cr), (14, .int (nI tu)), (11, .int (nI X)), (15, .int y15)]) hx hb dL_law_655 hl (k := 1) rfl (by decide) (by decide) rfl (fun ls hl => ?_)
    refine lv_goto (tgt := 538) hx hb dL_law_658 (by decide) ?_
    refine lv_iload hx hb dL_law_538 (lv_at hl 0 rfl) ?_
    refine lv_iconst (v := 2) hx hb dL_law_540 (by decide) ?_
    refine lv_icmp_ge (tgt := 661) hx hb dL_law_541 (by decide) (fun c541 => absurd c541 (by decide)) (fun c541 => ?_)
    refine lv_aload_n hx hb dL_law_544 rfl (lv_at hl 4 rfl) ?_
    refine lv_iload hx hb dL_law_545 (lv_at hl 1 rfl) ?_
    refine lv_iload hx hb dL_law_547 (lv_at hl 14 rfl) ?_
    refine lv_iconst (v := 4) hx hb dL_law_549 (by decide) ?_
    refine lv_ishr hx hb dL_law_550 ?_
    refine re_i (y := nI (X / 2 ^ 4)) (pk_shrN hX31 _ 4 (by decide +kernel)) ?_
    refine lv_iconst (v := 3) hx hb dL_law_551 (by decide) ?_
    refine re_i (y := nI 3) (show (3 : Int32) = nI 3 from rfl) ?_
    refine vp_callSi (va_Run.run (va_runS (As := [.int (nI (X / 2 ^ 4)), .int (nI 3)]) (rest := [.int (nI (np + 1)), .ref (ad 12)]) ⟨hx, hb, hml, hown, hts⟩ (metL_at l (X / 2 ^ 4) 3 (by omega) (by decide) (by decide)) (va_cwS 2 hts gL_law_L_at rfl rfl rfl (by decide +kernel) ⟨Nat.le_of_ble_eq_true rfl, Nat.le_of_ble_eq_true rfl⟩) ⟨pc0_b, pc0_u⟩ rfl rfl hl.1 rfl (lv_room (Nat.le_of_ble_eq_true rfl)) dL_law_552 ⟨by show cells + 6 + 0 ≤ 600130; omega, by show slots + 227 + 0 ≤ 7301080; omega⟩)) (fun r h => ?_)
    obtain ⟨k552b, hk552b, rfl⟩ := h
    refine lv_bipush (v := 40) hx hb dL_law_555 (by decide) ?_
    refine lv_imul hx hb dL_law_557 ?_
    refine va_iast hx hb hK hP hD hS 12 0 hI.2.1.1.1 htI (vp_in_nI (by omega) (by decide)) dL_law_558 (fun H locs hP hD hS => ?_)
    rw [nI_clamp (show (np + 1) < 2 ^ 31 by omega)] at hP hD
    have hI := hI.w12 (np + 1) ((nI k552b) * (40 : Int32)) (Nat.le_refl _)
    refine lv_aload_n hx hb dL_law_559 rfl (lv_at hl 5 rfl) ?_
    refine lv_iload hx hb dL_law_560 (lv_at hl 1 rfl) ?_
    refine lv_iconst (v := 1) hx hb dL_law_562 (by decide) ?_
    refine lv_iload hx hb dL_law_563 (lv_at hl 14 rfl) ?_
    refine lv_bipush (v := 8) hx hb dL_law_565 (by decide) ?_
    refine lv_ishr hx hb dL_law_567 ?_
    refine re_i (y := nI (X / 2 ^ 8)) (pk_shrN hX31 _ 8 (by decide +kernel)) ?_
    refine lv_iconst (v := 2) hx hb dL_law_568 (by decide) ?_
    refine re_i (y := nI 2) (show (2 : Int32) = nI 2 from rfl) ?_
    refine vp_callSi (va_Run.run (va_runS (As := [.int (nI (X / 2 ^ 8)), .int (nI 2)]) (rest := [.int (1 : Int32), .int (nI (np + 1)), .ref (ad 13)]) ⟨hx, hb, hml, hown, hts⟩ (metL_at l (X / 2 ^ 8) 2 (by omega) (by decide) (by decide)) (va_cwS 2 hts gL_law_L_at rfl rfl rfl (by decide +kernel) ⟨Nat.le_of_ble_eq_true rfl, Nat.le_of_ble_eq_true rfl⟩) ⟨pc0_b, pc0_u⟩ rfl rfl hl.1 rfl (lv_room (Nat.le_of_ble_eq_true rfl)) dL_law_569 ⟨by show cells + 6 + 0 ≤ 600130; omega, by show slots + 227 + 0 ≤ 7301080; omega⟩)) (fun r h => ?_)
    obtain ⟨k569b, hk569b, rfl⟩ := h
    refine lv_iadd hx hb dL_law_572 ?_
    refine lv_iload hx hb dL_law_573 (lv_at hl 0 rfl) ?_
    refine lv_if_ne (tgt := 583) hx hb dL_law_575 (by decide) (fun c575 => ?_) (fun c575 => absurd c575 (by decide))
    refine lv_bipush (v := -100) hx hb dL_law_583 (by decide) ?_
    refine lv_imul hx hb dL_law_585 ?_
    refine va_iast hx hb hK hP hD hS 13 0 hI.2.1.2.1.1 htI (vp_in_nI (by omega) (by decide)) dL_law_586 (fun H locs hP hD hS => ?_)
    rw [nI_clamp (show (np + 1) < 2 ^ 31 by omega)] at hP hD
    have hI := hI.w13 (np + 1) (((1 : Int32) + (nI k569b)) * (-100 : Int32)) (Nat.le_refl _)
    refine lv_aload hx hb dL_law_587 (lv_at hl 6 rfl) ?_
    refine lv_iload hx hb dL_law_589 (lv_at hl 1 rfl) ?_
    refine lv_iload hx hb dL_law_591 (lv_at hl 14 rfl) ?_
    refine lv_bipush (v := 12) hx hb dL_law_593 (by decide) ?_
    refine lv_ishr hx hb dL_law_595 ?_
    refine re_i (y := nI (X / 2 ^ 12)) (pk_shrN hX31 _ 12 (by decide +kernel)) ?_
    refine lv_bipush (v := 50) hx hb dL_law_596 (by decide) ?_
    refine re_i (y := nI 50) (show (50 : Int32) = nI 50 from rfl) ?_
    refine vp_callSi (va_Run.run (va_runS (As := [.int (nI (X / 2 ^ 12)), .int (nI 50)]) (rest := [.int (nI (np + 1)), .ref (ad 14)]) ⟨hx, hb, hml, hown, hts⟩ (metL_at l (X / 2 ^ 12) 50 (by omega) (by decide) (by decide)) (va_cwS 2 hts gL_law_L_at rfl rfl rfl (by decide +kernel) ⟨Nat.le_of_ble_eq_true rfl, Nat.le_of_ble_eq_true rfl⟩) ⟨pc0_b, pc0_u⟩ rfl rfl hl.1 rfl (lv_room (Nat.le_of_ble_eq_true rfl)) dL_law_598 ⟨by show cells + 6 + 0 ≤ 600130; omega, by show slots + 227 + 0 ≤ 7301080; omega⟩)) (fun r h => ?_)
    obtain ⟨k598b, hk598b, rfl⟩ := h
    refine lv_iload hx hb dL_law_601 (lv_at hl 0 rfl) ?_
    refine lv_if_ne (tgt := 610) hx hb dL_law_603 (by decide) (fun c603 => ?_) (fun c603 => absurd c603 (by decide))
    refine lv_iload hx hb dL_law_610 (lv_at hl 14 rfl) ?_
    refine lv_bipush (v := 18) hx hb dL_law_612 (by decide) ?_
    refine lv_ishr hx hb dL_law_614 ?_
    refine re_i (y := nI (X / 2 ^ 18)) (pk_shrN hX31 _ 18 (by decide +kernel)) ?_
    refine lv_bipush (v := 30) hx hb dL_law_615 (by decide) ?_
    refine re_i (y := nI 30) (show (30 : Int32) = nI 30 from rfl) ?_
    refine vp_callSi (va_Run.run (va_runS (As := [.int (nI (X / 2 ^ 18)), .int (nI 30)]) (rest := [.int (nI k598b), .int (nI (np + 1)), .ref (ad 14)]) ⟨hx, hb, hml, hown, hts⟩ (metL_at l (X / 2 ^ 18) 30 (by omega) (by decide) (by decide)) (va_cwS 2 hts gL_law_L_at rfl rfl rfl (by decide +kernel) ⟨Nat.le_of_ble_eq_true rfl, Nat.le_of_ble_eq_true rfl⟩) ⟨pc0_b, pc0_u⟩ rfl rfl hl.1 rfl (lv_room (Nat.le_of_ble_eq_true rfl)) dL_law_617 ⟨by show cells + 6 + 0 ≤ 600130; omega, by show slots + 227 + 0 ≤ 7301080; omega⟩)) (fun r h => ?_)
    obtain ⟨k617, hk617, rfl⟩ := h
    refine lv_iadd hx hb dL_law_620 ?_
    refine va_iast hx hb hK hP hD hS 14 0 hI.2.1.2.2.1.1 htI (vp_in_nI (by omega) (by decide)) dL_law_621 (fun H locs hP hD hS => ?_)
    rw [nI_clamp (show (np + 1) < 2 ^ 31 by omega)] at hP hD
    have hI := hI.w14 (np + 1) ((nI k598b) + (nI k617)) (Nat.le_refl _)
    refine lv_iinc (v := nI (np + 1 + 1)) (lv' := [(7, .int (nI (np + 1 + 1))), (16, .int (1 : Int32)), (0, .ref b), (1, .ref (ad 0)), (2, .ref (ad 12)), (3, .ref (ad 13)), (4, .ref (ad 14)), (5, .ref (ad 15)), (6, .ref (ad 16)), (8, .int (nI n)), (9, .long al), (12, .int ind), (13, .int cr), (14, .int (nI tu)), (11, .int (nI X)), (15, .int y15)]) hx hb dL_law_622 hl (k := 1) rfl (nI_1 (np + 1)) (by decide) rfl (fun ls hl => ?_)
    refine lv_aload_n hx hb dL_law_625 rfl (lv_at hl 3 rfl) ?_
    refine lv_aload_n hx hb dL_law_626 rfl (lv_at hl 4 rfl) ?_
    refine lv_iload hx hb dL_law_627 (lv_at hl 0 rfl) ?_
    refine lv_iconst (v := 1) hx hb dL_law_629 (by decide) ?_
    refine lv_isub hx hb dL_law_630 ?_
    refine re_i (y := nI (np + 1)) (nI_m1 (np + 1)) ?_
    refine va_iald hx hb hK hP 12 0 hI.2.1.1.1 htI (vp_in_nI (by omega) (by decide)) dL_law_631 ?_
    refine rd_i (j := np + 1) (nI_clamp (by omega)) ?_
    refine re_i (y := (nI k552b) * (40 : Int32)) (upd_at) ?_
    refine lv_aload_n hx hb dL_law_632 rfl (lv_at hl 5 rfl) ?_
    refine lv_iload hx hb dL_law_633 (lv_at hl 0 rfl) ?_
    refine lv_iconst (v := 1) hx hb dL_law_635 (by decide) ?_
    refine lv_isub hx hb dL_law_636 ?_
    refine re_i (y := nI (np + 1)) (nI_m1 (np + 1)) ?_
    refine va_iald hx hb hK hP 13 0 hI.2.1.2.1.1 htI (vp_in_nI (by omega) (by decide)) dL_law_637 ?_
    refine rd_i (j := np + 1) (nI_clamp (by omega)) ?_
    refine re_i (y := ((1 : Int32) + (nI k569b)) * (-100 : Int32)) (upd_at) ?_
    refine lv_aload hx hb dL_law_638 (lv_at hl 6 rfl) ?_
    refine lv_iload hx hb dL_law_640 (lv_at hl 0 rfl) ?_
    refine lv_iconst (v := 1) hx hb dL_law_642 (by decide) ?_
    refine lv_isub hx hb dL_law_643 ?_
    refine re_i (y := nI (np + 1)) (nI_m1 (np + 1)) ?_
    refine va_iald hx hb hK hP 14 0 hI.2.1.2.2.1.1 htI (vp_in_nI (by omega) (by decide)) dL_law_644 ?_
    refine rd_i (j := np + 1) (nI_clamp (by omega)) ?_
    refine re_i (y := (nI k598b) + (nI k617)) (upd_at) ?_
    have hx1 : ((nI k552b) * (40 : Int32)).toInt = (k552b : Int) * 40 := i_mul (nI_toInt (show k552b < 2 ^ 31 by omega)) (show (40 : Int32).toInt = 40 by decide) (by omega) (by omega)
    have hs1 : (1 + nI k569b).toInt = 1 + (k569b : Int) := i_add (show (1 : Int32).toInt = 1 by decide) (nI_toInt (show k569b < 2 ^ 31 by omega)) (by omega) (by omega)
    have hy1 : (((1 : Int32) + (nI k569b)) * (-100 : Int32)).toInt = (1 + (k569b : Int)) * (-100) := i_mul hs1 (show (-100 : Int32).toInt = -100 by decide) (by omega) (by omega)
    have hz1 : ((nI k598b) + (nI k617)).toInt = (k598b : Int) + (k617 : Int) := i_add (nI_toInt (show k598b < 2 ^ 31 by omega)) (nI_toInt (show k617 < 2 ^ 31 by omega)) (by omega) (by omega)
    refine va_calli (va_runV (As := [.int ((nI k552b) * (40 : Int32)), .int (((1 : Int32) + (nI k569b)) * (-100 : Int32)), .int ((nI k598b) + (nI k617))]) (rest := []) ⟨hx, hb, hml, hown, hts⟩ (op_point hnt G tys htI htO hI ((nI k552b) * (40 : Int32)) (((1 : Int32) + (nI k569b)) * (-100 : Int32)) ((nI k598b) + (nI k617)) (cd_if (oR_of (a := 0) (b := 300) (by decide) (by decide) hx1 (by omega) (by omega)) (cd_if (oR_of (a := -1000) (b := 1000) (by decide) (by decide) hy1 (by omega) (by omega)) (cd_if (oR_of (a := -1000000) (b := 1000000) (by decide) (by decide) hz1 (by omega) (by omega)) (cd_if (show ¬ nI 60 ≤ nI (np + 1) from nI_ge (by omega) (by decide)) rfl)))) (by omega) upd_at upd_at upd_at) (cwV 3 hts gL_law_X7_point rfl rfl rfl (by decide +kernel) ⟨Nat.le_of_ble_eq_true rfl, Nat.le_of_ble_eq_true rfl⟩) ⟨pcX_b, va_recv hK hP (ci := 7) (q0 := 0) rfl hI.1.1, pcX_u hP hK hD hS hA hE⟩ rfl rfl hl.1 rfl (lv_room (Nat.le_of_ble_eq_true rfl)) dL_law_645 ⟨by show cells + 6 + 6 ≤ 600130; omega, by show slots + 227 + 227 ≤ 7301080; omega⟩) hS (fun q _ h => h) (fun q h => h) (fun rp w t H locs ht hvm hq hB hsz hk1 hS => ?_)
    rw [ht] at hB
    obtain ⟨hP, hD⟩ := hB
    obtain ⟨er, own6, hI⟩ := hq
    subst er
    refine lv_iload hx hb dL_law_648 (lv_at hl 0 rfl) ?_
    refine lv_icmp_eq (tgt := 655) hx hb dL_law_650 (by decide) (fun c650 => ?_) (fun c650 => absurd (rfl) c650)
    have hV : ∀ i, i < (np + 1 + 1) → 0 ≤ ((upd (upd V np ((nI k598) + (0 : Int32))) (np + 1) ((nI k598b) + (nI k617))) i).toInt ∧ ((upd (upd V np ((nI k598) + (0 : Int32))) (np + 1) ((nI k598b) + (nI k617))) i).toInt ≤ 1000 := fun i hi => by
      by_cases q : i = (np + 1)
      · rw [q, upd_at, hz1]; omega
      · rw [upd_ne q]; exact hV i (by omega)
    refine lv_iinc (v := (2 : Int32)) (lv' := [(16, .int (2 : Int32)), (7, .int (nI (np + 1 + 1))), (0, .ref b), (1, .ref (ad 0)), (2, .ref (ad 12)), (3, .ref (ad 13)), (4, .ref (ad 14)), (5, .ref (ad 15)), (6, .ref (ad 16)), (8, .int (nI n)), (9, .long al), (12, .int ind), (13, .int cr), (14, .int (nI tu)), (11, .int (nI X)), (15, .int y15)]) hx hb dL_law_655 hl (k := 1) rfl (by decide) (by decide) rfl (fun ls hl => ?_)
    refine lv_goto (tgt := 538) hx hb dL_law_658 (by decide) ?_
    refine lv_iload hx hb dL_law_538 (lv_at hl 0 rfl) ?_
    refine lv_iconst (v := 2) hx hb dL_law_540 (by decide) ?_
    refine lv_icmp_ge (tgt := 661) hx hb dL_law_541 (by decide) (fun c541 => ?_) (fun c541 => absurd (by decide) c541)
    refine W.widen (k := cells + 60) (n := slots + 1200) (by omega) (by omega) ?_
    exact kk n (np + 1 + 1) al _ _ _ _ ⟨_, _, _, _, _, _, _, _, _, _, _, _, _, _, _, _, _, hI, hal, hT, (by omega), hV⟩ hP hD hS (lv_sub hl [2, 3, 4, 5, 6, 7, 8, 1, 9, 10, 11, 12, 13] rfl)
-- part 79
set_option maxHeartbeats 4000000 in
set_option maxRecDepth 100000 in
theorem clr {p : Program} {l : Launch} {e : Env} {s : State} {m : MethodId} {below : List Frame} {meth : Method} {c : Code} (hnt : l.stackTraces = false) {G : va_G} {tys : List (ClassId × FieldType)} {tE mi : Nat} {cI cO : ClassId} (htI : tI tys cI) (htO : tO tys cO) {b L : Nat} {xs : Nat → Int32} (hL : L ≤ 260) (C0 : lw_At p s m meth c b L xs) {ad : Nat → Nat} (hK : va_K G vwCl tys s) (hE : env (fun q : Nat => s.heap.size ≤ q) tE mi s s.heap) {own : Nat → Nat} {P M V T cel ct cf co ca : Nat → Int32} {wd : Nat → Nat → Int32} {num cur du ind cr : Int32} {wi dm al : Int64} {n np tu : Nat} {cells slots : Nat} {Q : State → Prop} (kk : ∀ (S : Nat → Int32) (ws : va_W) (H : Heap) (locs : List Loc) (ls : Array Slot), inv cI cO tE ad own ws P M V S T n cel ind cr num cur du wi dm np 0 ct cf co ca wd → (∀ c, c < 48 → S c = 0) → va_P G vwCl ws H → va_D (fun q : Nat => s.heap.size ≤ q) ws → va_S (fun q : Nat => s.heap.size ≤ q) s.heap H locs → lv_has ls 26 [(0, .ref b), (1, .ref (ad 0)), (2, .ref (ad 12)), (3, .ref (ad 13)), (4, .ref (ad 14)), (5, .ref (ad 15)), (6, .ref (ad 16)), (7, .int (nI np)), (8, .int (nI n)), (9, .long al), (12, .int ind), (13, .int cr), (14, .int (nI tu))] → W p l e room_1 s m #[Value.ref b] below meth c H locs (cells) (slots) Q (F0 m 708 ls [])) : ∀ (d i : Nat), i + d = 48 → ∀ (S : Nat → Int32) (ws : va_W) (H : Heap) (locs : List Loc) (ls : Array Slot), inv cI cO tE ad own ws P M V S T n cel ind cr num cur du wi dm np 0 ct cf co ca wd → (∀ c, c < i → S c = 0) → va_P G vwCl ws H → va_D (fun q : Nat => s.heap.size ≤ q) ws → va_S (fun q : Nat => s.heap.size ≤ q) s.heap H locs → lv_has ls 26 [(16, .int (nI i)), (0, .ref b), (1, .ref (ad 0)), (2, .ref (ad 12)), (3, .ref (ad 13)), (4, .ref (ad 14)), (5, .ref (ad 15)), (6, .ref (ad 16)), (7, .int (nI np)), (8, .int (nI n)), (9, .long al), (12, .int ind), (13, .int cr), (14, .int (nI tu))] → W p l e room_1 s m #[Value.ref b] below meth c H locs (cells) (slots) Q (F0 m 689 ls []) := by
  obtain ⟨hx, hb, hr, hml, hown, hts0, hX, hbl, hlocks, hgv⟩ := C0
  have hts : ∀ w ∈ wsL_law, w.before #[Value.ref b] s = true := fun w h => hts0 w (wsL_law_in w h)
  have hown : s.vm.findClass RL = some m.cls := hown
  have hA : ∀ q : Nat, s.heap.size ≤ q → (fun q : Nat => s.heap.size ≤ q) q := fun _ h => h
  have hbA : ¬ (fun q : Nat => s.heap.size ≤ q) b := Nat.not_le.mpr hbl
  intro d
  induction d with
  | zero =>
    intro i hi S ws H locs ls hI hz hP hD hS hl
    have hi48 : i = 48 := by omega
    subst hi48
    refine lv_iload hx hb dL_law_689 (lv_at hl 0 rfl) ?_
    refine lv_bipush (v := 48) hx hb dL_law_691 (by decide) ?_
    refine lv_icmp_ge (tgt := 708) hx hb dL_law_693 (by decide) (fun c693 => ?_) (fun c693 => absurd (show nI 48 ≤ nI 48 from nI_le (Nat.le_refl 48) (by decide)) c693)
    exact kk S ws H locs ls hI hz hP hD hS (lv_sub hl [1, 2, 3, 4, 5, 6, 7, 8, 9, 10, 11, 12, 13] rfl)
  | succ d ih =>
    intro i hi S ws H locs ls hI hz hP hD hS hl
    refine lv_iload hx hb dL_law_689 (lv_at hl 0 rfl) ?_
    refine lv_bipush (v := 48) hx hb dL_law_691 (by decide) ?_
    refine lv_icmp_ge (tgt := 708) hx hb dL_law_693 (by decide) (fun c693 => absurd c693 (nI_ge (a := i) (b := 48) (by omega) (by decide))) (fun c693 => ?_)
    refine lv_aload hx hb dL_law_696 (lv_at hl 6 rfl) ?_
    refine lv_iload hx hb dL_law_698 (lv_at hl 0 rfl) ?_
    refine lv_iconst (v := 0) hx hb dL_law_700 (by decide) ?_
    refine va_iast hx hb hK hP hD hS 15 0 hI.2.1.2.2.2.1.1 htI (vp_in_nI (by omega) (by decide)) dL_law_701 (fun H locs hP hD hS => ?_)
    rw [nI_clamp (show i < 2 ^ 31 by omega)] at hP hD
    have hI := hI.w15 i (0 : Int32) 
    refine lv_iinc (v := nI (i + 1)) (lv' := [(16, .int (nI (i + 1))), (0, .ref b), (1, .ref (ad 0)), (2, .ref (ad 12)), (3, .ref (ad 13)), (4, .ref (ad 14)), (5, .ref (ad 15)), (6, .ref (ad 16)), (7, .int (nI np)), (8, .int (nI n)), (9, .long al), (12, .int ind), (13, .int cr), (14, .int (nI tu))]) hx hb dL_law_702 hl (k := 0) rfl (nI_1 i) (by decide) rfl (fun ls hl => ?_)
    refine lv_goto (tgt := 689) hx hb dL_law_705 (by decide) ?_
    refine ih (i + 1) (by omega) _ _ _ _ _ hI (fun c hc9 => ?_) hP hD hS (lv_sub hl [0, 1, 2, 3, 4, 5, 6, 7, 8, 9, 10, 11, 12, 13] rfl)
    by_cases q : c = i
    · rw [q]; exact upd_at
    · rw [upd_ne q]; exact hz c (by omega)
set_option maxHeartbeats 4000000 in
set_option maxRecDepth 100000 in
theorem whl {p : Program} {l : Launch} {e : Env} {s : State} {m : MethodId} {below : List Frame} {meth : Method} {c : Code} (hnt : l.stackTraces = false) {G : va_G} {tys : List (ClassId × FieldType)} {tE mi : Nat} {cI cO : ClassId} (htI : tI tys cI) (htO : tO tys cO) {b L : Nat} {xs : Nat → Int32} (hL : L ≤ 260) (C0 : lw_At p s m meth c b L xs) {ad : Nat → Nat} (hK : va_K G vwCl tys s) (hE : env (fun q : Nat => s.heap.size ≤ q) tE mi s s.heap) {own : Nat → Nat} {P M V cel ct cf co ca : Nat → Int32} {wd : Nat → Nat → Int32} {num cur du ind cr : Int32} {wi dm al : Int64} {n np tu : Nat} {C9 S9 : Nat} {Q : State → Prop} (hc9 : C9 ≤ 600130) (hs9 : S9 ≤ 7301080) (kk : ∀ (S T : Nat → Int32) (ws : va_W) (H : Heap) (locs : List Loc) (ls : Array Slot), inv cI cO tE ad own ws P M V S T n cel ind cr num cur du wi dm np 0 ct cf co ca wd → (∀ k, k < 20 → T k = 1 → k < n ∧ cel k = -1) → va_P G vwCl ws H → va_D (fun q : Nat => s.heap.size ≤ q) ws → va_S (fun q : Nat => s.heap.size ≤ q) s.heap H locs → lv_has ls 26 [(0, .ref b), (1, .ref (ad 0)), (2, .ref (ad 12)), (3, .ref (ad 13)), (4, .ref (ad 14)), (5, .ref (ad 15)), (6, .ref (ad 16)), (7, .int (nI np)), (8, .int (nI n)), (9, .long al), (12, .int ind), (13, .int cr), (14, .int (nI tu))] → W p l e room_1 s m #[Value.ref b] below meth c H locs (C9) (S9) Q (F0 m 772 ls [])) : ∀ (d k cells slots : Nat), k + d = n → cells + d ≤ C9 → slots + 6 * d ≤ S9 → ∀ (S T : Nat → Int32) (ws : va_W) (H : Heap) (locs : List Loc) (ls : Array Slot), inv cI cO tE ad own ws P M V S T n cel ind cr num cur du wi dm np 0 ct cf co ca wd → (∀ c, c < 48 → S c = 1 → ∃ j, j < k ∧ cel j = nI c) → (∀ k, k < 20 → T k = 1 → k < n ∧ cel k = -1) → va_P G vwCl ws H → va_D (fun q : Nat => s.heap.size ≤ q) ws → va_S (fun q : Nat => s.heap.size ≤ q) s.heap H locs → lv_has ls 26 [(16, .int (nI k)), (0, .ref b), (1, .ref (ad 0)), (2, .ref (ad 12)), (3, .ref (ad 13)), (4, .ref (ad 14)), (5, .ref (ad 15)), (6, .ref (ad 16)), (7, .int (nI np)), (8, .int (nI n)), (9, .long al), (12, .int ind), (13, .int cr), (14, .int (nI tu))] → W p l e room_1 s m #[Value.ref b] below meth c H locs (cells) (slots) Q (F0 m 711 ls []) := by
  obtain ⟨hx, hb, hr, hml, hown, hts0, hX, hbl, hlocks, hgv⟩ := C0
  have hts : ∀ w ∈ wsL_law, w.before #[Value.ref b] s = true := fun w h => hts0 w (wsL_law_in w h)
  have hown : s.vm.findClass RL = some m.cls := hown
  have hA : ∀ q : Nat, s.heap.size ≤ q → (fun q : Nat => s.heap.size ≤ q) q := fun _ h => h
  have hbA : ¬ (fun q : Nat => s.heap.size ≤ q) b := Nat.not_le.mpr hbl
  intro d
  induction d with
  | zero =>
    intro k cells slots hk hc hs S T ws H locs ls hI hSS hT hP hD hS hl
    have hn20 : n ≤ 20 := hI.n20
    refine lv_iload hx hb dL_law_711 (lv_at hl 0 rfl) ?_
    refine lv_iload hx hb dL_law_713 (lv_at hl 9 rfl) ?_
    refine lv_icmp_ge (tgt := 772) hx hb dL_law_715 (by decide) (fun c715 => ?_) (fun c715 => absurd (nI_le (a := n) (b := k) (by omega) (by omega)) c715)
    refine W.widen (k := C9) (n := S9) (by omega) (by omega) ?_
    exact kk S T ws H locs ls hI hT hP hD hS (lv_sub hl [1, 2, 3, 4, 5, 6, 7, 8, 9, 10, 11, 12, 13] rfl)
  | succ d ih =>
    intro k cells slots hk hc hs S T ws H locs ls hI hSS hT hP hD hS hl
    obtain ⟨a3, a4, dr, he, dep, hf1, hf2, hf3, o2, o3, o4, hn20, hok⟩ := hI.2.2.1
    refine lv_iload hx hb dL_law_711 (lv_at hl 0 rfl) ?_
    refine lv_iload hx hb dL_law_713 (lv_at hl 9 rfl) ?_
    refine lv_icmp_ge (tgt := 772) hx hb dL_law_715 (by decide) (fun c715 => absurd c715 (nI_ge (a := k) (b := n) (by omega) (by omega))) (fun c715 => ?_)
    refine lv_aload_n hx hb dL_law_718 rfl (lv_at hl 2 rfl) ?_
    refine lv_iload hx hb dL_law_719 (lv_at hl 0 rfl) ?_
    refine va_calli (va_runV (As := [.int (nI k)]) (rest := []) ⟨hx, hb, hml, hown, hts⟩ (op_whirlAt hnt G tys htI htO hI k (by omega)) (cwV 1 hts gL_law_X7_whirlAt rfl rfl rfl (by decide +kernel) ⟨Nat.le_of_ble_eq_true rfl, Nat.le_of_ble_eq_true rfl⟩) ⟨pcX_b, va_recv hK hP (ci := 7) (q0 := 0) rfl hI.1.1, pcX_u hP hK hD hS hA hE⟩ rfl rfl hl.1 rfl (lv_room (Nat.le_of_ble_eq_true rfl)) dL_law_721 ⟨by show cells + 1 ≤ 600130; omega, by show slots + 6 ≤ 7301080; omega⟩) hS (fun q _ h => h) (fun q h => h) (fun r u t H locs ht hvm hq hB hsz hk1 hS => ?_)
    rw [ht] at hB
    obtain ⟨hP, hD⟩ := hB
    refine re_i (y := cel k) (hq) ?_
    refine lv_istore (lv' := [(17, .int (cel k)), (16, .int (nI k)), (0, .ref b), (1, .ref (ad 0)), (2, .ref (ad 12)), (3, .ref (ad 13)), (4, .ref (ad 14)), (5, .ref (ad 15)), (6, .ref (ad 16)), (7, .int (nI np)), (8, .int (nI n)), (9, .long al), (12, .int ind), (13, .int cr), (14, .int (nI tu))]) hx hb dL_law_724 hl (by decide) rfl (fun ls hl => ?_)
    refine lv_iload hx hb dL_law_726 (lv_at hl 0 rfl) ?_
    refine lv_if_lt (tgt := 760) hx hb dL_law_728 (by decide) (fun cw => ?_) (fun cw => ?_)
    · have hm1 : cel k = -1 := (hok.1 k (by omega)).resolve_right (fun q => q.1 cw)
      refine lv_aload hx hb dL_law_760 (lv_at hl 8 rfl) ?_
      refine lv_iload hx hb dL_law_762 (lv_at hl 1 rfl) ?_
      refine lv_iconst (v := 1) hx hb dL_law_764 (by decide) ?_
      refine va_iast hx hb hK hP hD hS 16 0 hI.2.1.2.2.2.2.1 htI (vp_in_nI (by omega) (by decide)) dL_law_765 (fun H locs hP hD hS => ?_)
      rw [nI_clamp (show k < 2 ^ 31 by omega)] at hP hD
      have hI := hI.w16 k (1 : Int32) 
      refine lv_iinc (v := nI (k + 1)) (lv' := [(16, .int (nI (k + 1))), (17, .int (cel k)), (0, .ref b), (1, .ref (ad 0)), (2, .ref (ad 12)), (3, .ref (ad 13)), (4, .ref (ad 14)), (5, .ref (ad 15)), (6, .ref (ad 16)), (7, .int (nI np)), (8, .int (nI n)), (9, .long al), (12, .int ind), (13, .int cr), (14, .int (nI tu))]) hx hb dL_law_766 hl (k := 1) rfl (nI_1 k) (by decide) rfl (fun ls hl => ?_)
      refine lv_goto (tgt := 711) hx hb dL_law_769 (by decide) ?_
      refine ih (k + 1) _ _ (by omega) (by show cells + 1 + d ≤ C9; omega) (by show slots + 6 + 6 * d ≤ S9; omega) _ _ _ _ _ _ hI ?_ ?_ hP hD hS (lv_sub hl [0, 2, 3, 4, 5, 6, 7, 8, 9, 10, 11, 12, 13, 14] rfl)
      · intro c hc9 h9
        obtain ⟨j, hj, ej⟩ := hSS c hc9 h9
        exact ⟨j, by omega, ej⟩
      · intro j hj h9
        by_cases q : j = k
        · rw [q]; exact ⟨by omega, hm1⟩
        · rw [upd_ne q] at h9; exact hT j hj h9
    · have hm1 : ¬ cel k = -1 := fun q => cw (by rw [q]; decide)
      obtain ⟨z9, hc48, ec⟩ := gd_nat ((hok.1 k (by omega)).resolve_left hm1)
      have hTk : ¬ T k = 1 := fun q => hm1 (hT k (by omega) q).2
      have hSk : ¬ S z9 = 1 := fun q => by
        obtain ⟨j, hj, ej⟩ := hSS z9 hc48 q
        have := hok.2.2 j k (by omega) (by omega) (ej.trans ec.symm) (by rw [ej, ← ec]; exact hm1)
        omega
      rw [ec] at hl
      refine lv_aload hx hb dL_law_731 (lv_at hl 8 rfl) ?_
      refine lv_iload hx hb dL_law_733 (lv_at hl 1 rfl) ?_
      refine va_iald hx hb hK hP 16 0 hI.2.1.2.2.2.2.1 htI (vp_in_nI (by omega) (by decide)) dL_law_735 ?_
      refine rd_i (j := k) (nI_clamp (by omega)) ?_
      refine lv_iconst (v := 1) hx hb dL_law_736 (by decide) ?_
      refine lv_icmp_eq (tgt := 749) hx hb dL_law_737 (by decide) (fun c737 => absurd c737 (hTk)) (fun c737 => ?_)
      refine lv_aload hx hb dL_law_740 (lv_at hl 7 rfl) ?_
      refine lv_iload hx hb dL_law_742 (lv_at hl 0 rfl) ?_
      refine va_iald hx hb hK hP 15 0 hI.2.1.2.2.2.1.1 htI (vp_in_nI (by omega) (by decide)) dL_law_744 ?_
      refine rd_i (j := z9) (nI_clamp (by omega)) ?_
      refine lv_iconst (v := 1) hx hb dL_law_745 (by decide) ?_
      refine lv_icmp_ne (tgt := 751) hx hb dL_law_746 (by decide) (fun c746 => ?_) (fun c746 => absurd c746 (hSk))
      refine lv_aload hx hb dL_law_751 (lv_at hl 7 rfl) ?_
      refine lv_iload hx hb dL_law_753 (lv_at hl 0 rfl) ?_
      refine lv_iconst (v := 1) hx hb dL_law_755 (by decide) ?_
      refine va_iast hx hb hK hP hD hS 15 0 hI.2.1.2.2.2.1.1 htI (vp_in_nI (by omega) (by decide)) dL_law_756 (fun H locs hP hD hS => ?_)
      rw [nI_clamp (show z9 < 2 ^ 31 by omega)] at hP hD
      have hI := hI.w15 z9 (1 : Int32) 
      refine lv_goto (tgt := 766) hx hb dL_law_757 (by decide) ?_
      refine lv_iinc (v := nI (k + 1)) (lv' := [(16, .int (nI (k + 1))), (17, .int (nI z9)), (0, .ref b), (1, .ref (ad 0)), (2, .ref (ad 12)), (3, .ref (ad 13)), (4, .ref (ad 14)), (5, .ref (ad 15)), (6, .ref (ad 16)), (7, .int (nI np)), (8, .int (nI n)), (9, .long al), (12, .int ind), (13, .int cr), (14, .int (nI tu))]) hx hb dL_law_766 hl (k := 1) rfl (nI_1 k) (by decide) rfl (fun ls hl => ?_)
      refine lv_goto (tgt := 711) hx hb dL_law_769 (by decide) ?_
      refine ih (k + 1) _ _ (by omega) (by show cells + 1 + d ≤ C9; omega) (by show slots + 6 + 6 * d ≤ S9; omega) _ _ _ _ _ _ hI ?_ ?_ hP hD hS (lv_sub hl [0, 2, 3, 4, 5, 6, 7, 8, 9, 10, 11, 12, 13, 14] rfl)
      · intro c hc9 h9
        by_cases q : c = z9
        · rw [q]; exact ⟨k, by omega, ec⟩
        · rw [upd_ne q] at h9
          obtain ⟨j, hj, ej⟩ := hSS c hc9 h9
          exact ⟨j, by omega, ej⟩
      · exact hT
set_option maxHeartbeats 4000000 in
set_option maxRecDepth 100000 in
theorem tail_661 {p : Program} {l : Launch} {e : Env} {s : State} {m : MethodId} {below : List Frame} {meth : Method} {c : Code} (hnt : l.stackTraces = false) {G : va_G} {tys : List (ClassId × FieldType)} {tE mi : Nat} {cI cO : ClassId} (htI : tI tys cI) (htO : tO tys cO) {b L : Nat} {xs : Nat → Int32} (hL : L ≤ 260) (C0 : lw_At p s m meth c b L xs) {ad : Nat → Nat} (hK : va_K G vwCl tys s) (hE : env (fun q : Nat => s.heap.size ≤ q) tE mi s s.heap) {ind cr : Int32} {n np tu : Nat} {al : Int64} {ws : va_W} {H : Heap} {locs : List Loc} {cells slots : Nat} {Q : State → Prop} {ls : Array Slot} (hti : ti cI cO tE ad ind cr n np al ws) (hP : va_P G vwCl ws H) (hD : va_D (fun q : Nat => s.heap.size ≤ q) ws) (hS : va_S (fun q : Nat => s.heap.size ≤ q) s.heap H locs) (hl : lv_has ls 26 [(0, .ref b), (1, .ref (ad 0)), (2, .ref (ad 12)), (3, .ref (ad 13)), (4, .ref (ad 14)), (5, .ref (ad 15)), (6, .ref (ad 16)), (7, .int (nI np)), (8, .int (nI n)), (9, .long al), (12, .int ind), (13, .int cr), (14, .int (nI tu))]) (hc : cells + 40 ≤ 600130) (hs : slots + 200 ≤ 7301080) (kk : ∀ (w : va_W) (H1 : Heap) (locs1 : List Loc) (ls1 : Array Slot), ti cI cO tE ad ind cr n np al w → va_P G vwCl w H1 → va_D (fun q : Nat => s.heap.size ≤ q) w → va_S (fun q : Nat => s.heap.size ≤ q) s.heap H1 locs1 → lv_has ls1 26 [(0, .ref b), (1, .ref (ad 0)), (2, .ref (ad 12)), (3, .ref (ad 13)), (4, .ref (ad 14)), (5, .ref (ad 15)), (6, .ref (ad 16)), (7, .int (nI np)), (8, .int (nI n)), (9, .long al), (12, .int ind), (13, .int cr), (14, .int (nI (tu + 1)))] → W p l e room_1 s m #[Value.ref b] below meth c H1 locs1 (cells + 40) (slots + 200) Q (F0 m 98 ls1 [])) : W p l e room_1 s m #[Value.ref b] below meth c H locs (cells) (slots) Q (F0 m 661 ls []) := by
  have C1 := C0
  obtain ⟨hx, hb, hr, hml, hown, hts0, hX, hbl, hlocks, hgv⟩ := C1
  have hts : ∀ w ∈ wsL_law, w.before #[Value.ref b] s = true := fun w h => hts0 w (wsL_law_in w h)
  have hown : s.vm.findClass RL = some m.cls := hown
  have hA : ∀ q : Nat, s.heap.size ≤ q → (fun q : Nat => s.heap.size ≤ q) q := fun _ h => h
  have hbA : ¬ (fun q : Nat => s.heap.size ≤ q) b := Nat.not_le.mpr hbl
  obtain ⟨own, P, M, V, S, T, cel, ct, cf, co, ca, wd, num, cur, du, wi, dm, hI, hal, hT, hnp, hV⟩ := hti
  have hn20 : n ≤ 20 := hI.n20
  refine lv_aload_n hx hb dL_law_661 rfl (lv_at hl 1 rfl) ?_
  refine lv_iconst (v := 3) hx hb dL_law_662 (by decide) ?_
  refine va_calll (va_runV (As := [.int (3 : Int32)]) (rest := []) ⟨hx, hb, hml, hown, hts⟩ (op_ofCoil hnt G tys htI htO hI 3 (by decide)) (cwV 1 hts gL_law_X7_ofCoil rfl rfl rfl (by decide +kernel) ⟨Nat.le_of_ble_eq_true rfl, Nat.le_of_ble_eq_true rfl⟩) ⟨pcX_b, va_recv hK hP (ci := 7) (q0 := 0) rfl hI.1.1, pcX_u hP hK hD hS hA hE⟩ rfl rfl hl.1 rfl (lv_room (Nat.le_of_ble_eq_true rfl)) dL_law_663 ⟨by show cells + 1 ≤ 600130; omega, by show slots + 6 ≤ 7301080; omega⟩) hS (fun q _ h => h) (fun q h => h) (fun r u t H locs ht hvm hq hB hsz hk1 hS => ?_)
  rw [ht] at hB
  obtain ⟨hP, hD⟩ := hB
  obtain ⟨wm, hq⟩ := hq
  refine re_l (y := wi) (hq.trans cOf3) ?_
  refine lv_aload_n hx hb dL_law_666 rfl (lv_at hl 1 rfl) ?_
  refine lv_iconst (v := 4) hx hb dL_law_667 (by decide) ?_
  refine va_calll (va_runV (As := [.int (4 : Int32)]) (rest := [.long wi]) ⟨hx, hb, hml, hown, hts⟩ (op_ofCoil hnt G tys htI htO hI 4 (by decide)) (cwV 1 hts gL_law_X7_ofCoil rfl rfl rfl (by decide +kernel) ⟨Nat.le_of_ble_eq_true rfl, Nat.le_of_ble_eq_true rfl⟩) ⟨pcX_b, va_recv hK hP (ci := 7) (q0 := 0) rfl hI.1.1, pcX_u hP hK hD hS hA hE⟩ rfl rfl hl.1 rfl (lv_room (Nat.le_of_ble_eq_true rfl)) dL_law_668 ⟨by show cells + 1 + 1 ≤ 600130; omega, by show slots + 6 + 6 ≤ 7301080; omega⟩) hS (fun q _ h => h) (fun q h => h) (fun r u t H locs ht hvm hq hB hsz hk1 hS => ?_)
  rw [ht] at hB
  obtain ⟨hP, hD⟩ := hB
  obtain ⟨wm, hq⟩ := hq
  refine re_l (y := dm) (hq.trans cOf4) ?_
  refine lv_ladd hx hb dL_law_671 ?_
  refine lv_aload_n hx hb dL_law_672 rfl (lv_at hl 1 rfl) ?_
  refine lv_iconst (v := 5) hx hb dL_law_673 (by decide) ?_
  refine va_calll (va_runV (As := [.int (5 : Int32)]) (rest := [.long (wi + dm)]) ⟨hx, hb, hml, hown, hts⟩ (op_ofCoil hnt G tys htI htO hI 5 (by decide)) (cwV 1 hts gL_law_X7_ofCoil rfl rfl rfl (by decide +kernel) ⟨Nat.le_of_ble_eq_true rfl, Nat.le_of_ble_eq_true rfl⟩) ⟨pcX_b, va_recv hK hP (ci := 7) (q0 := 0) rfl hI.1.1, pcX_u hP hK hD hS hA hE⟩ rfl rfl hl.1 rfl (lv_room (Nat.le_of_ble_eq_true rfl)) dL_law_674 ⟨by show cells + 1 + 1 + 1 ≤ 600130; omega, by show slots + 6 + 6 + 6 ≤ 7301080; omega⟩) hS (fun q _ h => h) (fun q h => h) (fun r u t H locs ht hvm hq hB hsz hk1 hS => ?_)
  rw [ht] at hB
  obtain ⟨hP, hD⟩ := hB
  obtain ⟨wm, hq⟩ := hq
  refine re_l (y := cSto cur) (hq.trans cOf5) ?_
  refine lv_ladd hx hb dL_law_677 ?_
  refine lv_lload hx hb dL_law_678 (lv_at hl 9 rfl) ?_
  refine W.lcmp hx hb dL_law_680 ?_
  refine re_i (y := (0 : Int32)) (by rw [hal]; exact lg_cmp_self _) ?_
  refine lv_if_eq (tgt := 686) hx hb dL_law_681 (by decide) (fun c681 => ?_) (fun c681 => absurd (by decide) c681)
  refine lv_iconst (v := 0) hx hb dL_law_686 (by decide) ?_
  refine lv_istore (lv' := [(16, .int (0 : Int32)), (0, .ref b), (1, .ref (ad 0)), (2, .ref (ad 12)), (3, .ref (ad 13)), (4, .ref (ad 14)), (5, .ref (ad 15)), (6, .ref (ad 16)), (7, .int (nI np)), (8, .int (nI n)), (9, .long al), (12, .int ind), (13, .int cr), (14, .int (nI tu))]) hx hb dL_law_687 hl (by decide) rfl (fun ls hl => ?_)
  refine clr hnt htI htO hL C0 hK hE (fun S ws H locs ls hI hz hP hD hS hl => ?_) 48 0 (by omega) S ws _ _ ls hI (fun c h9 => absurd h9 (Nat.not_lt_zero c)) hP hD hS (lv_sub hl [0, 1, 2, 3, 4, 5, 6, 7, 8, 9, 10, 11, 12, 13] rfl)
  refine lv_iconst (v := 0) hx hb dL_law_708 (by decide) ?_
  refine lv_istore (lv' := [(16, .int (0 : Int32)), (0, .ref b), (1, .ref (ad 0)), (2, .ref (ad 12)), (3, .ref (ad 13)), (4, .ref (ad 14)), (5, .ref (ad 15)), (6, .ref (ad 16)), (7, .int (nI np)), (8, .int (nI n)), (9, .long al), (12, .int ind), (13, .int cr), (14, .int (nI tu))]) hx hb dL_law_709 hl (by decide) rfl (fun ls hl => ?_)
  refine whl hnt htI htO hL C0 hK hE (C9 := cells + 40) (S9 := slots + 200) (by omega) (by omega) (fun S T ws H locs ls hI hT hP hD hS hl => ?_) n 0 _ _ (by omega) (by show cells + 1 + 1 + 1 + n ≤ _; omega) (by show slots + 6 + 6 + 6 + 6 * n ≤ _; omega) S T ws _ _ ls hI (fun c h9 h8 => absurd (h8.symm.trans (hz c h9)) (by decide)) hT hP hD hS (lv_sub hl [0, 1, 2, 3, 4, 5, 6, 7, 8, 9, 10, 11, 12, 13] rfl)
  refine lv_iinc (v := nI (tu + 1)) (lv' := [(14, .int (nI (tu + 1))), (0, .ref b), (1, .ref (ad 0)), (2, .ref (ad 12)), (3, .ref (ad 13)), (4, .ref (ad 14)), (5, .ref (ad 15)), (6, .ref (ad 16)), (7, .int (nI np)), (8, .int (nI n)), (9, .long al), (12, .int ind), (13, .int cr)]) hx hb dL_law_772 hl (k := 12) rfl (nI_1 tu) (by decide) rfl (fun ls hl => ?_)
  refine lv_goto (tgt := 98) hx hb dL_law_775 (by decide) ?_
  exact kk ws H locs ls ⟨own, P, M, V, S, T, cel, ct, cf, co, ca, wd, num, cur, du, wi, dm, hI, hal, hT, hnp, hV⟩ hP hD hS (lv_sub hl [1, 2, 3, 4, 5, 6, 7, 8, 9, 10, 11, 12, 0] rfl)
-- part 80
set_option maxHeartbeats 4000000 in
set_option maxRecDepth 100000 in
theorem turns {p : Program} {l : Launch} {e : Env} {s : State} {m : MethodId} {below : List Frame} {meth : Method} {c : Code} (hnt : l.stackTraces = false) {G : va_G} {tys : List (ClassId × FieldType)} {tE mi : Nat} {cI cO : ClassId} (htI : tI tys cI) (htO : tO tys cO) {b L : Nat} {xs : Nat → Int32} (hL : L ≤ 260) (C0 : lw_At p s m meth c b L xs) {ad : Nat → Nat} (hK : va_K G vwCl tys s) (hE : env (fun q : Nat => s.heap.size ≤ q) tE mi s s.heap) {ind cr : Int32} {C9 S9 : Nat} {Q : State → Prop} (hc9 : C9 ≤ 600130) (hs9 : S9 ≤ 7301080) (kk : ∀ (n np : Nat) (al : Int64) (ws : va_W) (H : Heap) (locs : List Loc) (ls : Array Slot), ti cI cO tE ad ind cr n np al ws → va_P G vwCl ws H → va_D (fun q : Nat => s.heap.size ≤ q) ws → va_S (fun q : Nat => s.heap.size ≤ q) s.heap H locs → lv_has ls 26 [(0, .ref b), (1, .ref (ad 0)), (2, .ref (ad 12)), (3, .ref (ad 13)), (4, .ref (ad 14)), (5, .ref (ad 15)), (6, .ref (ad 16)), (7, .int (nI np)), (8, .int (nI n)), (9, .long al), (12, .int ind), (13, .int cr), (14, .int (nI 60))] → W p l e room_1 s m #[Value.ref b] below meth c H locs (C9) (S9) Q (F0 m 778 ls [])) : ∀ (d tu cells slots : Nat), tu + d = 60 → cells + 100 * d ≤ C9 → slots + 2000 * d ≤ S9 → ∀ (n np : Nat) (al : Int64) (ws : va_W) (H : Heap) (locs : List Loc) (ls : Array Slot), ti cI cO tE ad ind cr n np al ws → va_P G vwCl ws H → va_D (fun q : Nat => s.heap.size ≤ q) ws → va_S (fun q : Nat => s.heap.size ≤ q) s.heap H locs → lv_has ls 26 [(0, .ref b), (1, .ref (ad 0)), (2, .ref (ad 12)), (3, .ref (ad 13)), (4, .ref (ad 14)), (5, .ref (ad 15)), (6, .ref (ad 16)), (7, .int (nI np)), (8, .int (nI n)), (9, .long al), (12, .int ind), (13, .int cr), (14, .int (nI tu))] → W p l e room_1 s m #[Value.ref b] below meth c H locs (cells) (slots) Q (F0 m 98 ls []) := by
  have C1 := C0
  obtain ⟨hx, hb, hr, hml, hown, hts0, hX, hbl, hlocks, hgv⟩ := C1
  have hts : ∀ w ∈ wsL_law, w.before #[Value.ref b] s = true := fun w h => hts0 w (wsL_law_in w h)
  have hown : s.vm.findClass RL = some m.cls := hown
  have hA : ∀ q : Nat, s.heap.size ≤ q → (fun q : Nat => s.heap.size ≤ q) q := fun _ h => h
  have hbA : ¬ (fun q : Nat => s.heap.size ≤ q) b := Nat.not_le.mpr hbl
  intro d
  induction d with
  | zero =>
    intro tu cells slots hd hc hs n np al ws H locs ls hti hP hD hS hl
    have h60 : tu = 60 := by omega
    subst h60
    refine lv_iload hx hb dL_law_98 (lv_at hl 12 rfl) ?_
    refine lv_bipush (v := 60) hx hb dL_law_100 (by decide) ?_
    refine lv_icmp_ge (tgt := 778) hx hb dL_law_102 (by decide) (fun c102 => ?_) (fun c102 => absurd (show nI 60 ≤ nI 60 from nI_le (Nat.le_refl 60) (by decide)) c102)
    refine W.widen (k := C9) (n := S9) (by omega) (by omega) ?_
    exact kk n np al ws H locs ls hti hP hD hS (lv_sub hl [0, 1, 2, 3, 4, 5, 6, 7, 8, 9, 10, 11, 12] rfl)
  | succ d ih =>
    intro tu cells slots hd hc hs n np al ws H locs ls hti hP hD hS hl
    have hcA : cells + 60 ≤ 600130 := by omega
    have hsA : slots + 1200 ≤ 7301080 := by omega
    have tail : ∀ (n2 np2 : Nat) (al2 : Int64) (w : va_W) (H1 : Heap) (locs1 : List Loc) (ls1 : Array Slot), ti cI cO tE ad ind cr n2 np2 al2 w → va_P G vwCl w H1 → va_D (fun q : Nat => s.heap.size ≤ q) w → va_S (fun q : Nat => s.heap.size ≤ q) s.heap H1 locs1 → lv_has ls1 26 [(0, .ref b), (1, .ref (ad 0)), (2, .ref (ad 12)), (3, .ref (ad 13)), (4, .ref (ad 14)), (5, .ref (ad 15)), (6, .ref (ad 16)), (7, .int (nI np2)), (8, .int (nI n2)), (9, .long al2), (12, .int ind), (13, .int cr), (14, .int (nI tu))] → W p l e room_1 s m #[Value.ref b] below meth c H1 locs1 (cells + 60) (slots + 1200) Q (F0 m 661 ls1 []) := by
      intro n2 np2 al2 w H1 locs1 ls1 hti hP hD hS hl
      refine tail_661 hnt htI htO hL C0 hK hE hti hP hD hS hl (by omega) (by omega) (fun w H1 locs1 ls1 hti hP hD hS hl => ?_)
      exact ih (tu + 1) _ _ (by omega) (by omega) (by omega) n2 np2 al2 w H1 locs1 ls1 hti hP hD hS hl
    refine lv_iload hx hb dL_law_98 (lv_at hl 12 rfl) ?_
    refine lv_bipush (v := 60) hx hb dL_law_100 (by decide) ?_
    refine lv_icmp_ge (tgt := 778) hx hb dL_law_102 (by decide) (fun c102 => absurd c102 (nI_ge (a := tu) (b := 60) (by omega) (by decide))) (fun c102 => ?_)
    refine lv_aload_n hx hb dL_law_105 rfl (lv_at hl 0 rfl) ?_
    refine lv_iconst (v := 1) hx hb dL_law_106 (by decide) ?_
    refine lv_iload hx hb dL_law_107 (lv_at hl 12 rfl) ?_
    refine lv_iadd hx hb dL_law_109 ?_
    refine re_i (y := nI (1 + tu)) (nI_add 1 tu) ?_
    refine vp_callSi (va_Run.run (va_runS (As := [.ref b, .int (nI (1 + tu))]) (rest := []) ⟨hx, hb, hml, hown, hts⟩ (metL_cell l hL (1 + tu) (by omega)) (va_cwS 2 hts gL_law_L_cell rfl rfl rfl (by decide +kernel) ⟨Nat.le_of_ble_eq_true rfl, Nat.le_of_ble_eq_true rfl⟩) ⟨pcS_b, pcS_u hX hbl hbA hS⟩ rfl rfl hl.1 rfl (lv_room (Nat.le_of_ble_eq_true rfl)) dL_law_110 ⟨by show cells + 0 ≤ 600130; omega, by show slots + 0 ≤ 7301080; omega⟩)) (fun r h => ?_)
    refine lv_ldc (v := 2147483647) hx hb hown (hts0 _ cw_17) dL_law_113 ?_
    refine lv_iand hx hb dL_law_115 ?_
    obtain ⟨X, hX31, eX⟩ := pk_andE r (m := 2147483647) 31 (by decide +kernel)
    refine re_i (y := nI X) (eX) ?_
    refine lv_istore (lv' := [(11, .int (nI X)), (0, .ref b), (1, .ref (ad 0)), (2, .ref (ad 12)), (3, .ref (ad 13)), (4, .ref (ad 14)), (5, .ref (ad 15)), (6, .ref (ad 16)), (7, .int (nI np)), (8, .int (nI n)), (9, .long al), (12, .int ind), (13, .int cr), (14, .int (nI tu))]) hx hb dL_law_116 hl (by decide) rfl (fun ls hl => ?_)
    refine lv_iload hx hb dL_law_118 (lv_at hl 0 rfl) ?_
    refine lv_bipush (v := 8) hx hb dL_law_120 (by decide) ?_
    refine re_i (y := nI 8) (show (8 : Int32) = nI 8 from rfl) ?_
    refine vp_callSi (va_Run.run (va_runS (As := [.int (nI X), .int (nI 8)]) (rest := []) ⟨hx, hb, hml, hown, hts⟩ (metL_at l X 8 (by omega) (by decide) (by decide)) (va_cwS 2 hts gL_law_L_at rfl rfl rfl (by decide +kernel) ⟨Nat.le_of_ble_eq_true rfl, Nat.le_of_ble_eq_true rfl⟩) ⟨pc0_b, pc0_u⟩ rfl rfl hl.1 rfl (lv_room (Nat.le_of_ble_eq_true rfl)) dL_law_122 ⟨by show cells + 0 ≤ 600130; omega, by show slots + 0 ≤ 7301080; omega⟩)) (fun r h => ?_)
    obtain ⟨k122, hk122, rfl⟩ := h
    obtain ⟨y15, ey⟩ : ∃ z : Int32, z = nI k122 := ⟨_, rfl⟩
    refine re_i (y := y15) (ey.symm) ?_
    refine lv_istore (lv' := [(15, .int y15), (11, .int (nI X)), (0, .ref b), (1, .ref (ad 0)), (2, .ref (ad 12)), (3, .ref (ad 13)), (4, .ref (ad 14)), (5, .ref (ad 15)), (6, .ref (ad 16)), (7, .int (nI np)), (8, .int (nI n)), (9, .long al), (12, .int ind), (13, .int cr), (14, .int (nI tu))]) hx hb dL_law_125 hl (by decide) rfl (fun ls hl => ?_)
    refine lv_iload hx hb dL_law_127 (lv_at hl 0 rfl) ?_
    refine lv_if_ne (tgt := 212) hx hb dL_law_129 (by decide) (fun c129 => ?_) (fun c129 => ?_)
    · refine lv_iload hx hb dL_law_212 (lv_at hl 0 rfl) ?_
      refine lv_iconst (v := 1) hx hb dL_law_214 (by decide) ?_
      refine lv_icmp_ne (tgt := 248) hx hb dL_law_215 (by decide) (fun c215 => ?_) (fun c215 => ?_)
      · refine lv_iload hx hb dL_law_248 (lv_at hl 0 rfl) ?_
        refine lv_iconst (v := 2) hx hb dL_law_250 (by decide) ?_
        refine lv_icmp_ne (tgt := 273) hx hb dL_law_251 (by decide) (fun c251 => ?_) (fun c251 => ?_)
        · refine lv_iload hx hb dL_law_273 (lv_at hl 0 rfl) ?_
          refine lv_iconst (v := 3) hx hb dL_law_275 (by decide) ?_
          refine lv_icmp_ne (tgt := 360) hx hb dL_law_276 (by decide) (fun c276 => ?_) (fun c276 => ?_)
          · refine lv_iload hx hb dL_law_360 (lv_at hl 0 rfl) ?_
            refine lv_iconst (v := 4) hx hb dL_law_362 (by decide) ?_
            refine lv_icmp_ne (tgt := 390) hx hb dL_law_363 (by decide) (fun c363 => ?_) (fun c363 => ?_)
            · refine lv_iload hx hb dL_law_390 (lv_at hl 0 rfl) ?_
              refine lv_iconst (v := 5) hx hb dL_law_392 (by decide) ?_
              refine lv_icmp_ne (tgt := 528) hx hb dL_law_393 (by decide) (fun c393 => ?_) (fun c393 => ?_)
              · exact act_6 hnt htI htO hL C0 hK hE hX31 hti hP hD hS (lv_sub hl [2, 3, 4, 5, 6, 7, 8, 9, 10, 11, 12, 13, 14, 1, 0] rfl) hcA hsA tail
              · exact act_5 hnt htI htO hL C0 hK hE hX31 hti hP hD hS (lv_sub hl [2, 3, 4, 5, 6, 7, 8, 9, 10, 11, 12, 13, 14, 1, 0] rfl) hcA hsA tail
            · exact act_4 hnt htI htO hL C0 hK hE hX31 hti hP hD hS (lv_sub hl [2, 3, 4, 5, 6, 7, 8, 9, 10, 11, 12, 13, 14, 1, 0] rfl) hcA hsA tail
          · refine lv_iload hx hb dL_law_279 (lv_at hl 10 rfl) ?_
            refine lv_bipush (v := 20) hx hb dL_law_281 (by decide) ?_
            refine lv_icmp_ge (tgt := 360) hx hb dL_law_283 (by decide) (fun cn => ?_) (fun cn => ?_)
            · refine lv_iload hx hb dL_law_360 (lv_at hl 0 rfl) ?_
              refine lv_iconst (v := 4) hx hb dL_law_362 (by decide) ?_
              refine lv_icmp_ne (tgt := 390) hx hb dL_law_363 (by decide) (fun c363 => ?_) (fun c363 => ?_)
              · refine lv_iload hx hb dL_law_390 (lv_at hl 0 rfl) ?_
                refine lv_iconst (v := 5) hx hb dL_law_392 (by decide) ?_
                refine lv_icmp_ne (tgt := 528) hx hb dL_law_393 (by decide) (fun c393 => ?_) (fun c393 => ?_)
                · exact act_6 hnt htI htO hL C0 hK hE hX31 hti hP hD hS (lv_sub hl [2, 3, 4, 5, 6, 7, 8, 9, 10, 11, 12, 13, 14, 1, 0] rfl) hcA hsA tail
                · exact act_5 hnt htI htO hL C0 hK hE hX31 hti hP hD hS (lv_sub hl [2, 3, 4, 5, 6, 7, 8, 9, 10, 11, 12, 13, 14, 1, 0] rfl) hcA hsA tail
              · exact act_4 hnt htI htO hL C0 hK hE hX31 hti hP hD hS (lv_sub hl [2, 3, 4, 5, 6, 7, 8, 9, 10, 11, 12, 13, 14, 1, 0] rfl) hcA hsA tail
            · have hn20 : n < 20 := by
                obtain ⟨own, P, M, V, S, T, cel, ct, cf, co, ca, wd, num, cur, du, wi, dm, hI, -⟩ := hti
                have h20 : n ≤ 20 := hI.n20
                exact Nat.lt_of_not_le (fun q => cn (show nI 20 ≤ nI n from nI_le q (by omega)))
              exact act_3 hnt htI htO hL C0 hK hE hX31 hn20 hti hP hD hS (lv_sub hl [2, 3, 4, 5, 6, 7, 8, 9, 10, 11, 12, 13, 14, 1, 0] rfl) hcA hsA tail
        · exact act_2 hnt htI htO hL C0 hK hE hX31 hti hP hD hS (lv_sub hl [2, 3, 4, 5, 6, 7, 8, 9, 10, 11, 12, 13, 14, 1, 0] rfl) hcA hsA tail
      · exact act_1 hnt htI htO hL C0 hK hE hX31 hti hP hD hS (lv_sub hl [2, 3, 4, 5, 6, 7, 8, 9, 10, 11, 12, 13, 14, 1, 0] rfl) hcA hsA tail
    · exact act_0 hnt htI htO hL C0 hK hE hX31 hti hP hD hS (lv_sub hl [2, 3, 4, 5, 6, 7, 8, 9, 10, 11, 12, 13, 14, 1, 0] rfl) hcA hsA tail
-- part 81
/-- what holds between two claims -/
def ci (cI cO : ClassId) (tE : Nat) (ad : Nat → Nat) (np nc : Nat) (ws : va_W) : Prop := ∃ (own : Nat → Nat) (P M V S T : Nat → Int32) (n : Nat) (cel : Nat → Int32) (ind cr num cur du : Int32) (wi dm : Int64) (ct cf co ca : Nat → Int32) (wd : Nat → Nat → Int32), inv cI cO tE ad own ws P M V S T n cel ind cr num cur du wi dm np nc ct cf co ca wd ∧ np ≤ 57 ∧ ∀ i, i < np → 0 ≤ (V i).toInt ∧ (V i).toInt ≤ 1000
set_option maxHeartbeats 4000000 in
set_option maxRecDepth 100000 in
theorem houses {p : Program} {l : Launch} {e : Env} {s : State} {m : MethodId} {below : List Frame} {meth : Method} {c : Code} (hnt : l.stackTraces = false) {G : va_G} {tys : List (ClassId × FieldType)} {tE mi : Nat} {cI cO : ClassId} (htI : tI tys cI) (htO : tO tys cO) {b L : Nat} {xs : Nat → Int32} (hL : L ≤ 260) (C0 : lw_At p s m meth c b L xs) {ad : Nat → Nat} (hK : va_K G vwCl tys s) (hE : env (fun q : Nat => s.heap.size ≤ q) tE mi s s.heap) {P M V S T : Nat → Int32} {n : Nat} {cel : Nat → Int32} {ind cr num cur du : Int32} {wi dm : Int64} {ct cf co ca : Nat → Int32} {np nc k no wa to fr X : Nat} {C9 S9 : Nat} {Q : State → Prop} (hX31 : X < 2 ^ 31) (hkn : k < nc) (hc9 : C9 ≤ 600130) (hs9 : S9 ≤ 7301080) (kk : ∀ (own : Nat → Nat) (d nt : Nat) (wd : Nat → Nat → Int32) (ws : va_W) (H : Heap) (locs : List Loc) (ls : Array Slot), d ≤ 7 → nt ≤ 7 → inv cI cO tE ad own ws P M V S T n cel ind cr num cur du wi dm np nc ct cf co ca wd → hCnt (wd k) 1 7 = nI d → hCnt (wd k) 2 7 = nI nt → va_P G vwCl ws H → va_D (fun q : Nat => s.heap.size ≤ q) ws → va_S (fun q : Nat => s.heap.size ≤ q) s.heap H locs → lv_has ls 26 [(20, .int (nI nt)), (19, .int (nI d)), (18, .int (nI no)), (17, .int (nI wa)), (16, .int (nI to)), (15, .int (nI fr)), (11, .int (nI X)), (0, .ref b), (1, .ref (ad 0)), (2, .ref (ad 12)), (3, .ref (ad 13)), (4, .ref (ad 14)), (7, .int (nI np)), (14, .int (nI k))] → W p l e room_1 s m #[Value.ref b] below meth c H locs (C9) (S9) Q (F0 m 964 ls [])) : ∀ (r9 h cells slots : Nat), h + r9 = 7 → cells + 2 * r9 ≤ C9 → slots + 12 * r9 ≤ S9 → ∀ (own : Nat → Nat) (d nt : Nat) (wd : Nat → Nat → Int32) (ws : va_W) (H : Heap) (locs : List Loc) (ls : Array Slot), d ≤ h → nt ≤ h → inv cI cO tE ad own ws P M V S T n cel ind cr num cur du wi dm np nc ct cf co ca wd → hCnt (wd k) 1 7 = nI d → hCnt (wd k) 2 7 = nI nt → (∀ j, h ≤ j → j < 7 → wd k j = 0) → va_P G vwCl ws H → va_D (fun q : Nat => s.heap.size ≤ q) ws → va_S (fun q : Nat => s.heap.size ≤ q) s.heap H locs → lv_has ls 26 [(21, .int (nI h)), (20, .int (nI nt)), (19, .int (nI d)), (18, .int (nI no)), (17, .int (nI wa)), (16, .int (nI to)), (15, .int (nI fr)), (11, .int (nI X)), (0, .ref b), (1, .ref (ad 0)), (2, .ref (ad 12)), (3, .ref (ad 13)), (4, .ref (ad 14)), (7, .int (nI np)), (14, .int (nI k))] → W p l e room_1 s m #[Value.ref b] below meth c H locs (cells) (slots) Q (F0 m 887 ls []) := by
  obtain ⟨hx, hb, hr, hml, hown, hts0, hX, hbl, hlocks, hgv⟩ := C0
  have hts : ∀ w ∈ wsL_law, w.before #[Value.ref b] s = true := fun w h => hts0 w (wsL_law_in w h)
  have hown : s.vm.findClass RL = some m.cls := hown
  have hA : ∀ q : Nat, s.heap.size ≤ q → (fun q : Nat => s.heap.size ≤ q) q := fun _ h => h
  have hbA : ¬ (fun q : Nat => s.heap.size ≤ q) b := Nat.not_le.mpr hbl
  intro r9
  induction r9 with
  | zero =>
    intro h cells slots hh hc hs own d nt wd ws H locs ls hd he hI e1 e2 hz hP hD hS hl
    have h7 : h = 7 := by omega
    subst h7
    refine lv_iload hx hb dL_law_887 (lv_at hl 0 rfl) ?_
    refine lv_bipush (v := 7) hx hb dL_law_889 (by decide) ?_
    refine lv_icmp_ge (tgt := 964) hx hb dL_law_891 (by decide) (fun c891 => ?_) (fun c891 => absurd (show nI 7 ≤ nI 7 from nI_le (Nat.le_refl 7) (by decide)) c891)
    refine W.widen (k := C9) (n := S9) (by omega) (by omega) ?_
    exact kk own d nt wd ws H locs ls hd he hI e1 e2 hP hD hS (lv_sub hl [1, 2, 3, 4, 5, 6, 7, 8, 9, 10, 11, 12, 13, 14] rfl)
  | succ r9 ih =>
    intro h cells slots hh hc hs own d nt wd ws H locs ls hd he hI e1 e2 hz hP hD hS hl
    refine lv_iload hx hb dL_law_887 (lv_at hl 0 rfl) ?_
    refine lv_bipush (v := 7) hx hb dL_law_889 (by decide) ?_
    refine lv_icmp_ge (tgt := 964) hx hb dL_law_891 (by decide) (fun c891 => absurd c891 (nI_ge (a := h) (b := 7) (by omega) (by decide))) (fun c891 => ?_)
    refine lv_iload hx hb dL_law_894 (lv_at hl 7 rfl) ?_
    refine lv_iload hx hb dL_law_896 (lv_at hl 0 rfl) ?_
    refine lv_ishr hx hb dL_law_898 ?_
    refine re_i (y := nI (X / 2 ^ h)) (pk_shrN hX31 _ _ (sh_h _ (by omega))) ?_
    refine lv_iconst (v := 3) hx hb dL_law_899 (by decide) ?_
    refine re_i (y := nI 3) (show (3 : Int32) = nI 3 from rfl) ?_
    refine vp_callSi (va_Run.run (va_runS (As := [.int (nI (X / 2 ^ h)), .int (nI 3)]) (rest := []) ⟨hx, hb, hml, hown, hts⟩ (metL_at l (X / 2 ^ h) 3 (Nat.lt_of_le_of_lt (Nat.div_le_self _ _) hX31) (by decide) (by decide)) (va_cwS 2 hts gL_law_L_at rfl rfl rfl (by decide +kernel) ⟨Nat.le_of_ble_eq_true rfl, Nat.le_of_ble_eq_true rfl⟩) ⟨pc0_b, pc0_u⟩ rfl rfl hl.1 rfl (lv_room (Nat.le_of_ble_eq_true rfl)) dL_law_900 ⟨by show cells + 0 ≤ 600130; omega, by show slots + 0 ≤ 7301080; omega⟩)) (fun r h => ?_)
    obtain ⟨k900, hk900, rfl⟩ := h
    refine lv_if_le (tgt := 958) hx hb dL_law_903 (by decide) (fun ct9 => ?_) (fun ct9 => ?_)
    · refine lv_iinc (v := nI (h + 1)) (lv' := [(21, .int (nI (h + 1))), (20, .int (nI nt)), (19, .int (nI d)), (18, .int (nI no)), (17, .int (nI wa)), (16, .int (nI to)), (15, .int (nI fr)), (11, .int (nI X)), (0, .ref b), (1, .ref (ad 0)), (2, .ref (ad 12)), (3, .ref (ad 13)), (4, .ref (ad 14)), (7, .int (nI np)), (14, .int (nI k))]) hx hb dL_law_958 hl (k := 0) rfl (nI_1 h) (by decide) rfl (fun ls hl => ?_)
      refine lv_goto (tgt := 887) hx hb dL_law_961 (by decide) ?_
      exact ih (h + 1) _ _ (by omega) (by show cells + 2 * r9 ≤ C9; omega) (by show slots + 12 * r9 ≤ S9; omega) own d nt wd _ _ _ _ (by omega) (by omega) hI e1 e2 (fun j h8 h9 => hz j (by omega) h9) hP hD hS (lv_sub hl [0, 1, 2, 3, 4, 5, 6, 7, 8, 9, 10, 11, 12, 13, 14] rfl)
    · refine lv_iload hx hb dL_law_906 (lv_at hl 7 rfl) ?_
      refine lv_iload hx hb dL_law_908 (lv_at hl 0 rfl) ?_
      refine lv_iconst (v := 3) hx hb dL_law_910 (by decide) ?_
      refine lv_iadd hx hb dL_law_911 ?_
      refine re_i (y := nI (h + 3)) (nI_add h 3) ?_
      refine lv_ishr hx hb dL_law_912 ?_
      refine re_i (y := nI (X / 2 ^ (h + 3))) (pk_shrN hX31 _ _ (sh_h _ (by omega))) ?_
      refine lv_iconst (v := 3) hx hb dL_law_913 (by decide) ?_
      refine re_i (y := nI 3) (show (3 : Int32) = nI 3 from rfl) ?_
      refine vp_callSi (va_Run.run (va_runS (As := [.int (nI (X / 2 ^ (h + 3))), .int (nI 3)]) (rest := []) ⟨hx, hb, hml, hown, hts⟩ (metL_at l (X / 2 ^ (h + 3)) 3 (Nat.lt_of_le_of_lt (Nat.div_le_self _ _) hX31) (by decide) (by decide)) (va_cwS 2 hts gL_law_L_at rfl rfl rfl (by decide +kernel) ⟨Nat.le_of_ble_eq_true rfl, Nat.le_of_ble_eq_true rfl⟩) ⟨pc0_b, pc0_u⟩ rfl rfl hl.1 rfl (lv_room (Nat.le_of_ble_eq_true rfl)) dL_law_914 ⟨by show cells + 0 ≤ 600130; omega, by show slots + 0 ≤ 7301080; omega⟩)) (fun r h => ?_)
      obtain ⟨k914, hk914, rfl⟩ := h
      refine lv_if_le (tgt := 924) hx hb dL_law_917 (by decide) (fun c917 => ?_) (fun c917 => ?_)
      · refine lv_iconst (v := 0) hx hb dL_law_924 (by decide) ?_
        refine lv_istore (lv' := [(22, .int (0 : Int32)), (21, .int (nI h)), (20, .int (nI nt)), (19, .int (nI d)), (18, .int (nI no)), (17, .int (nI wa)), (16, .int (nI to)), (15, .int (nI fr)), (11, .int (nI X)), (0, .ref b), (1, .ref (ad 0)), (2, .ref (ad 12)), (3, .ref (ad 13)), (4, .ref (ad 14)), (7, .int (nI np)), (14, .int (nI k))]) hx hb dL_law_925 hl (by decide) rfl (fun ls hl => ?_)
        refine lv_iload hx hb dL_law_927 (lv_at hl 0 rfl) ?_
        refine lv_if_eq (tgt := 938) hx hb dL_law_929 (by decide) (fun c929 => ?_) (fun c929 => absurd (by decide) c929)
        refine lv_iinc (v := nI (nt + 1)) (lv' := [(20, .int (nI (nt + 1))), (22, .int (0 : Int32)), (21, .int (nI h)), (19, .int (nI d)), (18, .int (nI no)), (17, .int (nI wa)), (16, .int (nI to)), (15, .int (nI fr)), (11, .int (nI X)), (0, .ref b), (1, .ref (ad 0)), (2, .ref (ad 12)), (3, .ref (ad 13)), (4, .ref (ad 14)), (7, .int (nI np)), (14, .int (nI k))]) hx hb dL_law_938 hl (k := 2) rfl (nI_1 nt) (by decide) rfl (fun ls hl => ?_)
        refine lv_aload_n hx hb dL_law_941 rfl (lv_at hl 10 rfl) ?_
        refine lv_iload hx hb dL_law_942 (lv_at hl 15 rfl) ?_
        refine lv_iload hx hb dL_law_944 (lv_at hl 2 rfl) ?_
        refine lv_iload hx hb dL_law_946 (lv_at hl 1 rfl) ?_
        refine va_calli (va_runV (As := [.int (nI k), .int (nI h), .int (0 : Int32)]) (rest := []) ⟨hx, hb, hml, hown, hts⟩ (op_repeats hnt G tys htI htO hI k h hkn (by omega) (0 : Int32)) (cwV 3 hts gL_law_X7_repeats rfl rfl rfl (by decide +kernel) ⟨Nat.le_of_ble_eq_true rfl, Nat.le_of_ble_eq_true rfl⟩) ⟨pcX_b, va_recv hK hP (ci := 7) (q0 := 0) rfl hI.1.1, pcX_u hP hK hD hS hA hE⟩ rfl rfl hl.1 rfl (lv_room (Nat.le_of_ble_eq_true rfl)) dL_law_948 ⟨by show cells + 2 ≤ 600130; omega, by show slots + 12 ≤ 7301080; omega⟩) hS (fun q _ h => h) (fun q h => h) (fun r w t H locs ht hvm hq hB hsz hk1 hS => ?_)
        rw [ht] at hB
        obtain ⟨hP, hD⟩ := hB
        obtain ⟨er, own2, hI⟩ := hq
        have hz0 : wd k h = 0 := hz h (Nat.le_refl h) (by omega)
        have f1 := hCnt_hi (f := wd k) (h := h) (x := 2) (w := 1) (by rw [hz0]; decide) 7 (by omega)
        have f2 := hCnt_hi (f := wd k) (h := h) (x := 2) (w := 2) (by rw [hz0]; decide) 7 (by omega)
        rw [if_neg (by decide), e1] at f1
        rw [if_pos rfl, e2, nI_1] at f2
        have ew : (if (0 : Int32) = 0 then (2 : Int32) else 1) = 2 := by decide
        rw [ew] at er hI
        refine re_i (y := nI d) (er.trans f1) ?_
        refine lv_iload hx hb dL_law_951 (lv_at hl 3 rfl) ?_
        refine lv_icmp_eq (tgt := 958) hx hb dL_law_953 (by decide) (fun c953 => ?_) (fun c953 => absurd (rfl) c953)
        refine lv_iinc (v := nI (h + 1)) (lv' := [(21, .int (nI (h + 1))), (20, .int (nI (nt + 1))), (22, .int (0 : Int32)), (19, .int (nI d)), (18, .int (nI no)), (17, .int (nI wa)), (16, .int (nI to)), (15, .int (nI fr)), (11, .int (nI X)), (0, .ref b), (1, .ref (ad 0)), (2, .ref (ad 12)), (3, .ref (ad 13)), (4, .ref (ad 14)), (7, .int (nI np)), (14, .int (nI k))]) hx hb dL_law_958 hl (k := 2) rfl (nI_1 h) (by decide) rfl (fun ls hl => ?_)
        refine lv_goto (tgt := 887) hx hb dL_law_961 (by decide) ?_
        exact ih (h + 1) _ _ (by omega) (by show cells + 2 + 2 * r9 ≤ C9; omega) (by show slots + 12 + 12 * r9 ≤ S9; omega) own2 d (nt + 1) _ _ _ _ _ (by omega) (by omega) hI (by rw [if_pos rfl]; exact f1) (by rw [if_pos rfl]; exact f2) (fun j h8 h9 => by rw [if_pos rfl, upd_ne (by omega)]; exact hz j (by omega) h9) hP hD hS (lv_sub hl [0, 1, 3, 4, 5, 6, 7, 8, 9, 10, 11, 12, 13, 14, 15] rfl)
      · refine lv_iconst (v := 1) hx hb dL_law_920 (by decide) ?_
        refine lv_goto (tgt := 925) hx hb dL_law_921 (by decide) ?_
        refine lv_istore (lv' := [(22, .int (1 : Int32)), (21, .int (nI h)), (20, .int (nI nt)), (19, .int (nI d)), (18, .int (nI no)), (17, .int (nI wa)), (16, .int (nI to)), (15, .int (nI fr)), (11, .int (nI X)), (0, .ref b), (1, .ref (ad 0)), (2, .ref (ad 12)), (3, .ref (ad 13)), (4, .ref (ad 14)), (7, .int (nI np)), (14, .int (nI k))]) hx hb dL_law_925 hl (by decide) rfl (fun ls hl => ?_)
        refine lv_iload hx hb dL_law_927 (lv_at hl 0 rfl) ?_
        refine lv_if_eq (tgt := 938) hx hb dL_law_929 (by decide) (fun c929 => absurd c929 (by decide)) (fun c929 => ?_)
        refine lv_iinc (v := nI (d + 1)) (lv' := [(19, .int (nI (d + 1))), (22, .int (1 : Int32)), (21, .int (nI h)), (20, .int (nI nt)), (18, .int (nI no)), (17, .int (nI wa)), (16, .int (nI to)), (15, .int (nI fr)), (11, .int (nI X)), (0, .ref b), (1, .ref (ad 0)), (2, .ref (ad 12)), (3, .ref (ad 13)), (4, .ref (ad 14)), (7, .int (nI np)), (14, .int (nI k))]) hx hb dL_law_932 hl (k := 3) rfl (nI_1 d) (by decide) rfl (fun ls hl => ?_)
        refine lv_goto (tgt := 941) hx hb dL_law_935 (by decide) ?_
        refine lv_aload_n hx hb dL_law_941 rfl (lv_at hl 10 rfl) ?_
        refine lv_iload hx hb dL_law_942 (lv_at hl 15 rfl) ?_
        refine lv_iload hx hb dL_law_944 (lv_at hl 2 rfl) ?_
        refine lv_iload hx hb dL_law_946 (lv_at hl 1 rfl) ?_
        refine va_calli (va_runV (As := [.int (nI k), .int (nI h), .int (1 : Int32)]) (rest := []) ⟨hx, hb, hml, hown, hts⟩ (op_repeats hnt G tys htI htO hI k h hkn (by omega) (1 : Int32)) (cwV 3 hts gL_law_X7_repeats rfl rfl rfl (by decide +kernel) ⟨Nat.le_of_ble_eq_true rfl, Nat.le_of_ble_eq_true rfl⟩) ⟨pcX_b, va_recv hK hP (ci := 7) (q0 := 0) rfl hI.1.1, pcX_u hP hK hD hS hA hE⟩ rfl rfl hl.1 rfl (lv_room (Nat.le_of_ble_eq_true rfl)) dL_law_948 ⟨by show cells + 2 ≤ 600130; omega, by show slots + 12 ≤ 7301080; omega⟩) hS (fun q _ h => h) (fun q h => h) (fun r w t H locs ht hvm hq hB hsz hk1 hS => ?_)
        rw [ht] at hB
        obtain ⟨hP, hD⟩ := hB
        obtain ⟨er, own2, hI⟩ := hq
        have hz0 : wd k h = 0 := hz h (Nat.le_refl h) (by omega)
        have f1 := hCnt_hi (f := wd k) (h := h) (x := 1) (w := 1) (by rw [hz0]; decide) 7 (by omega)
        have f2 := hCnt_hi (f := wd k) (h := h) (x := 1) (w := 2) (by rw [hz0]; decide) 7 (by omega)
        rw [if_pos rfl, e1, nI_1] at f1
        rw [if_neg (by decide), e2] at f2
        have ew : (if (1 : Int32) = 0 then (2 : Int32) else 1) = 1 := by decide
        rw [ew] at er hI
        refine re_i (y := nI (d + 1)) (er.trans f1) ?_
        refine lv_iload hx hb dL_law_951 (lv_at hl 0 rfl) ?_
        refine lv_icmp_eq (tgt := 958) hx hb dL_law_953 (by decide) (fun c953 => ?_) (fun c953 => absurd (rfl) c953)
        refine lv_iinc (v := nI (h + 1)) (lv' := [(21, .int (nI (h + 1))), (19, .int (nI (d + 1))), (22, .int (1 : Int32)), (20, .int (nI nt)), (18, .int (nI no)), (17, .int (nI wa)), (16, .int (nI to)), (15, .int (nI fr)), (11, .int (nI X)), (0, .ref b), (1, .ref (ad 0)), (2, .ref (ad 12)), (3, .ref (ad 13)), (4, .ref (ad 14)), (7, .int (nI np)), (14, .int (nI k))]) hx hb dL_law_958 hl (k := 2) rfl (nI_1 h) (by decide) rfl (fun ls hl => ?_)
        refine lv_goto (tgt := 887) hx hb dL_law_961 (by decide) ?_
        exact ih (h + 1) _ _ (by omega) (by show cells + 2 + 2 * r9 ≤ C9; omega) (by show slots + 12 + 12 * r9 ≤ S9; omega) own2 (d + 1) nt _ _ _ _ _ (by omega) (by omega) hI (by rw [if_pos rfl]; exact f1) (by rw [if_pos rfl]; exact f2) (fun j h8 h9 => by rw [if_pos rfl, upd_ne (by omega)]; exact hz j (by omega) h9) hP hD hS (lv_sub hl [0, 3, 1, 4, 5, 6, 7, 8, 9, 10, 11, 12, 13, 14, 15] rfl)
-- part 82
set_option maxHeartbeats 4000000 in
set_option maxRecDepth 100000 in
theorem pairsI {p : Program} {l : Launch} {e : Env} {s : State} {m : MethodId} {below : List Frame} {meth : Method} {c : Code} (hnt : l.stackTraces = false) {G : va_G} {tys : List (ClassId × FieldType)} {tE mi : Nat} {cI cO : ClassId} (htI : tI tys cI) (htO : tO tys cO) {b L : Nat} {xs : Nat → Int32} (hL : L ≤ 260) (C0 : lw_At p s m meth c b L xs) {ad : Nat → Nat} (hK : va_K G vwCl tys s) (hE : env (fun q : Nat => s.heap.size ≤ q) tE mi s s.heap) {own : Nat → Nat} {P M V S T : Nat → Int32} {n : Nat} {cel : Nat → Int32} {ind cr num cur du : Int32} {wi dm : Int64} {ct cf co ca : Nat → Int32} {wd : Nat → Nat → Int32} {np nc k no wa to fr d nt N : Nat} {ws : va_W} {H : Heap} {locs : List Loc} {cells slots : Nat} {Q : State → Prop} {i : Nat} (hi : i < N) (hI : inv cI cO tE ad own ws P M V S T n cel ind cr num cur du wi dm np nc ct cf co ca wd) (hV : ∀ i, i < np → 0 ≤ (V i).toInt ∧ (V i).toInt ≤ 1000) (hnp : np ≤ 57) (hN : fr + N = to + 1) (hto : to < np) (hc : cells ≤ 600130) (hs : slots ≤ 7301080) (hP : va_P G vwCl ws H) (hD : va_D (fun q : Nat => s.heap.size ≤ q) ws) (hS : va_S (fun q : Nat => s.heap.size ≤ q) s.heap H locs) (kk : ∀ (hh gg : Int32) (ls : Array Slot), lwP P M V (nI no) (nI wa) fr N i N hh gg → lv_has ls 26 [(23, .int (nI (fr + i))), (22, .int gg), (21, .int hh), (20, .int (nI nt)), (19, .int (nI d)), (18, .int (nI no)), (17, .int (nI wa)), (16, .int (nI to)), (15, .int (nI fr)), (0, .ref b), (1, .ref (ad 0)), (2, .ref (ad 12)), (3, .ref (ad 13)), (4, .ref (ad 14)), (7, .int (nI np)), (14, .int (nI k))] → W p l e room_1 s m #[Value.ref b] below meth c H locs (cells) (slots) Q (F0 m 1092 ls [])) : ∀ (r9 j : Nat), j + r9 = N → ∀ (hh gg : Int32) (ls : Array Slot), lwP P M V (nI no) (nI wa) fr N i j hh gg → lv_has ls 26 [(24, .int (nI (fr + j))), (23, .int (nI (fr + i))), (22, .int gg), (21, .int hh), (20, .int (nI nt)), (19, .int (nI d)), (18, .int (nI no)), (17, .int (nI wa)), (16, .int (nI to)), (15, .int (nI fr)), (0, .ref b), (1, .ref (ad 0)), (2, .ref (ad 12)), (3, .ref (ad 13)), (4, .ref (ad 14)), (7, .int (nI np)), (14, .int (nI k))] → W p l e room_1 s m #[Value.ref b] below meth c H locs (cells) (slots) Q (F0 m 985 ls []) := by
  obtain ⟨hx, hb, hr, hml, hown, hts0, hX, hbl, hlocks, hgv⟩ := C0
  have hts : ∀ w ∈ wsL_law, w.before #[Value.ref b] s = true := fun w h => hts0 w (wsL_law_in w h)
  have hown : s.vm.findClass RL = some m.cls := hown
  have hA : ∀ q : Nat, s.heap.size ≤ q → (fun q : Nat => s.heap.size ≤ q) q := fun _ h => h
  have hbA : ¬ (fun q : Nat => s.heap.size ≤ q) b := Nat.not_le.mpr hbl
  intro r9
  induction r9 with
  | zero =>
    intro j hj hh gg ls hw hl
    have hjN : j = N := by omega
    subst hjN
    refine lv_iload hx hb dL_law_985 (lv_at hl 0 rfl) ?_
    refine lv_iload hx hb dL_law_987 (lv_at hl 8 rfl) ?_
    refine lv_icmp_gt (tgt := 1092) hx hb dL_law_989 (by decide) (fun c989 => ?_) (fun c989 => absurd (show nI to < nI (fr + j) from nI_lt (by omega) (by omega)) c989)
    exact kk hh gg ls hw (lv_sub hl [1, 2, 3, 4, 5, 6, 7, 8, 9, 10, 11, 12, 13, 14, 15, 16] rfl)
  | succ r9 ih =>
    intro j hj hh gg ls hw hl
    refine lv_iload hx hb dL_law_985 (lv_at hl 0 rfl) ?_
    refine lv_iload hx hb dL_law_987 (lv_at hl 8 rfl) ?_
    refine lv_icmp_gt (tgt := 1092) hx hb dL_law_989 (by decide) (fun c989 => absurd c989 (nI_nlt (a := to) (b := fr + j) (by omega) (by omega))) (fun c989 => ?_)
    refine lv_aload_n hx hb dL_law_992 rfl (lv_at hl 12 rfl) ?_
    refine lv_iload hx hb dL_law_993 (lv_at hl 1 rfl) ?_
    refine va_iald hx hb hK hP 12 0 hI.2.1.1.1 htI (vp_in_nI (by omega) (by decide)) dL_law_995 ?_
    refine rd_i (j := fr + i) (nI_clamp (by omega)) ?_
    refine lv_aload_n hx hb dL_law_996 rfl (lv_at hl 12 rfl) ?_
    refine lv_iload hx hb dL_law_997 (lv_at hl 0 rfl) ?_
    refine va_iald hx hb hK hP 12 0 hI.2.1.1.1 htI (vp_in_nI (by omega) (by decide)) dL_law_999 ?_
    refine rd_i (j := fr + j) (nI_clamp (by omega)) ?_
    refine lv_icmp_ne (tgt := 1086) hx hb dL_law_1000 (by decide) (fun q1 => ?_) (fun q1 => ?_)
    · refine lv_iinc (v := nI (fr + (j + 1))) (lv' := [(24, .int (nI (fr + (j + 1)))), (23, .int (nI (fr + i))), (22, .int gg), (21, .int hh), (20, .int (nI nt)), (19, .int (nI d)), (18, .int (nI no)), (17, .int (nI wa)), (16, .int (nI to)), (15, .int (nI fr)), (0, .ref b), (1, .ref (ad 0)), (2, .ref (ad 12)), (3, .ref (ad 13)), (4, .ref (ad 14)), (7, .int (nI np)), (14, .int (nI k))]) hx hb dL_law_1086 hl (k := 0) rfl (nI_1 (fr + j)) (by decide) rfl (fun ls hl => ?_)
      refine lv_goto (tgt := 985) hx hb dL_law_1089 (by decide) ?_
      exact ih (j + 1) (by omega) _ _ ls (lwP_no hw (fun z => q1 z.1)) (lv_sub hl [0, 1, 2, 3, 4, 5, 6, 7, 8, 9, 10, 11, 12, 13, 14, 15, 16] rfl)
    · refine lv_aload_n hx hb dL_law_1003 rfl (lv_at hl 12 rfl) ?_
      refine lv_iload hx hb dL_law_1004 (lv_at hl 1 rfl) ?_
      refine va_iald hx hb hK hP 12 0 hI.2.1.1.1 htI (vp_in_nI (by omega) (by decide)) dL_law_1006 ?_
      refine rd_i (j := fr + i) (nI_clamp (by omega)) ?_
      refine lv_iload hx hb dL_law_1007 (lv_at hl 7 rfl) ?_
      refine lv_icmp_ge (tgt := 1086) hx hb dL_law_1009 (by decide) (fun q2 => ?_) (fun q2 => ?_)
      · refine lv_iinc (v := nI (fr + (j + 1))) (lv' := [(24, .int (nI (fr + (j + 1)))), (23, .int (nI (fr + i))), (22, .int gg), (21, .int hh), (20, .int (nI nt)), (19, .int (nI d)), (18, .int (nI no)), (17, .int (nI wa)), (16, .int (nI to)), (15, .int (nI fr)), (0, .ref b), (1, .ref (ad 0)), (2, .ref (ad 12)), (3, .ref (ad 13)), (4, .ref (ad 14)), (7, .int (nI np)), (14, .int (nI k))]) hx hb dL_law_1086 hl (k := 0) rfl (nI_1 (fr + j)) (by decide) rfl (fun ls hl => ?_)
        refine lv_goto (tgt := 985) hx hb dL_law_1089 (by decide) ?_
        exact ih (j + 1) (by omega) _ _ ls (lwP_no hw (fun z => Int32.not_le.mpr z.2.1 q2)) (lv_sub hl [0, 1, 2, 3, 4, 5, 6, 7, 8, 9, 10, 11, 12, 13, 14, 15, 16] rfl)
      · refine lv_aload_n hx hb dL_law_1012 rfl (lv_at hl 13 rfl) ?_
        refine lv_iload hx hb dL_law_1013 (lv_at hl 1 rfl) ?_
        refine va_iald hx hb hK hP 13 0 hI.2.1.2.1.1 htI (vp_in_nI (by omega) (by decide)) dL_law_1015 ?_
        refine rd_i (j := fr + i) (nI_clamp (by omega)) ?_
        refine lv_if_le (tgt := 1086) hx hb dL_law_1016 (by decide) (fun q3 => ?_) (fun q3 => ?_)
        · refine lv_iinc (v := nI (fr + (j + 1))) (lv' := [(24, .int (nI (fr + (j + 1)))), (23, .int (nI (fr + i))), (22, .int gg), (21, .int hh), (20, .int (nI nt)), (19, .int (nI d)), (18, .int (nI no)), (17, .int (nI wa)), (16, .int (nI to)), (15, .int (nI fr)), (0, .ref b), (1, .ref (ad 0)), (2, .ref (ad 12)), (3, .ref (ad 13)), (4, .ref (ad 14)), (7, .int (nI np)), (14, .int (nI k))]) hx hb dL_law_1086 hl (k := 0) rfl (nI_1 (fr + j)) (by decide) rfl (fun ls hl => ?_)
          refine lv_goto (tgt := 985) hx hb dL_law_1089 (by decide) ?_
          exact ih (j + 1) (by omega) _ _ ls (lwP_no hw (fun z => z.2.2.1 q3)) (lv_sub hl [0, 1, 2, 3, 4, 5, 6, 7, 8, 9, 10, 11, 12, 13, 14, 15, 16] rfl)
        · refine lv_aload_n hx hb dL_law_1019 rfl (lv_at hl 13 rfl) ?_
          refine lv_iload hx hb dL_law_1020 (lv_at hl 0 rfl) ?_
          refine va_iald hx hb hK hP 13 0 hI.2.1.2.1.1 htI (vp_in_nI (by omega) (by decide)) dL_law_1022 ?_
          refine rd_i (j := fr + j) (nI_clamp (by omega)) ?_
          refine lv_aload_n hx hb dL_law_1023 rfl (lv_at hl 13 rfl) ?_
          refine lv_iload hx hb dL_law_1024 (lv_at hl 1 rfl) ?_
          refine va_iald hx hb hK hP 13 0 hI.2.1.2.1.1 htI (vp_in_nI (by omega) (by decide)) dL_law_1026 ?_
          refine rd_i (j := fr + i) (nI_clamp (by omega)) ?_
          refine lv_ineg hx hb dL_law_1027 ?_
          refine lv_icmp_ne (tgt := 1086) hx hb dL_law_1028 (by decide) (fun q4 => ?_) (fun q4 => ?_)
          · refine lv_iinc (v := nI (fr + (j + 1))) (lv' := [(24, .int (nI (fr + (j + 1)))), (23, .int (nI (fr + i))), (22, .int gg), (21, .int hh), (20, .int (nI nt)), (19, .int (nI d)), (18, .int (nI no)), (17, .int (nI wa)), (16, .int (nI to)), (15, .int (nI fr)), (0, .ref b), (1, .ref (ad 0)), (2, .ref (ad 12)), (3, .ref (ad 13)), (4, .ref (ad 14)), (7, .int (nI np)), (14, .int (nI k))]) hx hb dL_law_1086 hl (k := 0) rfl (nI_1 (fr + j)) (by decide) rfl (fun ls hl => ?_)
            refine lv_goto (tgt := 985) hx hb dL_law_1089 (by decide) ?_
            exact ih (j + 1) (by omega) _ _ ls (lwP_no hw (fun z => q4 z.2.2.2)) (lv_sub hl [0, 1, 2, 3, 4, 5, 6, 7, 8, 9, 10, 11, 12, 13, 14, 15, 16] rfl)
          · have hhit : hitP P M (nI wa) (fr + i) (fr + j) := ⟨q1, Int32.not_le.mp q2, q3, q4⟩
            obtain ⟨va0, va1⟩ := hV (fr + i) (by omega)
            obtain ⟨vb0, vb1⟩ := hV (fr + j) (by omega)
            refine lv_iconst (v := 1) hx hb dL_law_1031 (by decide) ?_
            refine lv_istore (lv' := [(21, .int (1 : Int32)), (24, .int (nI (fr + j))), (23, .int (nI (fr + i))), (22, .int gg), (20, .int (nI nt)), (19, .int (nI d)), (18, .int (nI no)), (17, .int (nI wa)), (16, .int (nI to)), (15, .int (nI fr)), (0, .ref b), (1, .ref (ad 0)), (2, .ref (ad 12)), (3, .ref (ad 13)), (4, .ref (ad 14)), (7, .int (nI np)), (14, .int (nI k))]) hx hb dL_law_1032 hl (by decide) rfl (fun ls hl => ?_)
            refine lv_aload hx hb dL_law_1034 (lv_at hl 14 rfl) ?_
            refine lv_iload hx hb dL_law_1036 (lv_at hl 2 rfl) ?_
            refine va_iald hx hb hK hP 14 0 hI.2.1.2.2.1.1 htI (vp_in_nI (by omega) (by decide)) dL_law_1038 ?_
            refine rd_i (j := fr + i) (nI_clamp (by omega)) ?_
            refine lv_aload hx hb dL_law_1039 (lv_at hl 14 rfl) ?_
            refine lv_iload hx hb dL_law_1041 (lv_at hl 1 rfl) ?_
            refine va_iald hx hb hK hP 14 0 hI.2.1.2.2.1.1 htI (vp_in_nI (by omega) (by decide)) dL_law_1043 ?_
            refine rd_i (j := fr + j) (nI_clamp (by omega)) ?_
            refine lv_icmp_le (tgt := 1061) hx hb dL_law_1044 (by decide) (fun q5 => ?_) (fun q5 => ?_)
            · refine lv_aload hx hb dL_law_1061 (lv_at hl 14 rfl) ?_
              refine lv_iload hx hb dL_law_1063 (lv_at hl 1 rfl) ?_
              refine va_iald hx hb hK hP 14 0 hI.2.1.2.2.1.1 htI (vp_in_nI (by omega) (by decide)) dL_law_1065 ?_
              refine rd_i (j := fr + j) (nI_clamp (by omega)) ?_
              refine lv_aload hx hb dL_law_1066 (lv_at hl 14 rfl) ?_
              refine lv_iload hx hb dL_law_1068 (lv_at hl 2 rfl) ?_
              refine va_iald hx hb hK hP 14 0 hI.2.1.2.2.1.1 htI (vp_in_nI (by omega) (by decide)) dL_law_1070 ?_
              refine rd_i (j := fr + i) (nI_clamp (by omega)) ?_
              refine lv_isub hx hb dL_law_1071 ?_
              have eo : jabs (V (fr + i) - V (fr + j)) = V (fr + j) - V (fr + i) := off_2 va0 va1 vb0 vb1 (Int32.not_lt.mpr q5)
              refine lv_istore (lv' := [(25, .int ((V (fr + j)) - (V (fr + i)))), (21, .int (1 : Int32)), (24, .int (nI (fr + j))), (23, .int (nI (fr + i))), (22, .int gg), (20, .int (nI nt)), (19, .int (nI d)), (18, .int (nI no)), (17, .int (nI wa)), (16, .int (nI to)), (15, .int (nI fr)), (0, .ref b), (1, .ref (ad 0)), (2, .ref (ad 12)), (3, .ref (ad 13)), (4, .ref (ad 14)), (7, .int (nI np)), (14, .int (nI k))]) hx hb dL_law_1072 hl (by decide) rfl (fun ls hl => ?_)
              refine lv_iload hx hb dL_law_1074 (lv_at hl 0 rfl) ?_
              refine lv_iconst (v := 2) hx hb dL_law_1076 (by decide) ?_
              refine lv_iload hx hb dL_law_1077 (lv_at hl 7 rfl) ?_
              refine lv_imul hx hb dL_law_1079 ?_
              refine lv_icmp_le (tgt := 1086) hx hb dL_law_1080 (by decide) (fun q6 => ?_) (fun q6 => ?_)
              · refine lv_iinc (v := nI (fr + (j + 1))) (lv' := [(24, .int (nI (fr + (j + 1)))), (25, .int ((V (fr + j)) - (V (fr + i)))), (21, .int (1 : Int32)), (23, .int (nI (fr + i))), (22, .int gg), (20, .int (nI nt)), (19, .int (nI d)), (18, .int (nI no)), (17, .int (nI wa)), (16, .int (nI to)), (15, .int (nI fr)), (0, .ref b), (1, .ref (ad 0)), (2, .ref (ad 12)), (3, .ref (ad 13)), (4, .ref (ad 14)), (7, .int (nI np)), (14, .int (nI k))]) hx hb dL_law_1086 hl (k := 2) rfl (nI_1 (fr + j)) (by decide) rfl (fun ls hl => ?_)
                refine lv_goto (tgt := 985) hx hb dL_law_1089 (by decide) ?_
                exact ih (j + 1) (by omega) _ _ ls (lwP_near hw hhit (fun z => z (by rw [eo]; exact q6))) (lv_sub hl [0, 3, 4, 2, 5, 6, 7, 8, 9, 10, 11, 12, 13, 14, 15, 16, 17] rfl)
              · refine lv_iconst (v := 0) hx hb dL_law_1083 (by decide) ?_
                refine lv_istore (lv' := [(22, .int (0 : Int32)), (25, .int ((V (fr + j)) - (V (fr + i)))), (21, .int (1 : Int32)), (24, .int (nI (fr + j))), (23, .int (nI (fr + i))), (20, .int (nI nt)), (19, .int (nI d)), (18, .int (nI no)), (17, .int (nI wa)), (16, .int (nI to)), (15, .int (nI fr)), (0, .ref b), (1, .ref (ad 0)), (2, .ref (ad 12)), (3, .ref (ad 13)), (4, .ref (ad 14)), (7, .int (nI np)), (14, .int (nI k))]) hx hb dL_law_1084 hl (by decide) rfl (fun ls hl => ?_)
                refine lv_iinc (v := nI (fr + (j + 1))) (lv' := [(24, .int (nI (fr + (j + 1)))), (22, .int (0 : Int32)), (25, .int ((V (fr + j)) - (V (fr + i)))), (21, .int (1 : Int32)), (23, .int (nI (fr + i))), (20, .int (nI nt)), (19, .int (nI d)), (18, .int (nI no)), (17, .int (nI wa)), (16, .int (nI to)), (15, .int (nI fr)), (0, .ref b), (1, .ref (ad 0)), (2, .ref (ad 12)), (3, .ref (ad 13)), (4, .ref (ad 14)), (7, .int (nI np)), (14, .int (nI k))]) hx hb dL_law_1086 hl (k := 3) rfl (nI_1 (fr + j)) (by decide) rfl (fun ls hl => ?_)
                refine lv_goto (tgt := 985) hx hb dL_law_1089 (by decide) ?_
                exact ih (j + 1) (by omega) _ _ ls (lwP_far hhit (fun z => q6 (by rw [← eo]; exact z))) (lv_sub hl [0, 4, 1, 3, 5, 6, 7, 8, 9, 10, 11, 12, 13, 14, 15, 16, 17] rfl)
            · refine lv_aload hx hb dL_law_1047 (lv_at hl 14 rfl) ?_
              refine lv_iload hx hb dL_law_1049 (lv_at hl 2 rfl) ?_
              refine va_iald hx hb hK hP 14 0 hI.2.1.2.2.1.1 htI (vp_in_nI (by omega) (by decide)) dL_law_1051 ?_
              refine rd_i (j := fr + i) (nI_clamp (by omega)) ?_
              refine lv_aload hx hb dL_law_1052 (lv_at hl 14 rfl) ?_
              refine lv_iload hx hb dL_law_1054 (lv_at hl 1 rfl) ?_
              refine va_iald hx hb hK hP 14 0 hI.2.1.2.2.1.1 htI (vp_in_nI (by omega) (by decide)) dL_law_1056 ?_
              refine rd_i (j := fr + j) (nI_clamp (by omega)) ?_
              refine lv_isub hx hb dL_law_1057 ?_
              refine lv_goto (tgt := 1072) hx hb dL_law_1058 (by decide) ?_
              have eo : jabs (V (fr + i) - V (fr + j)) = V (fr + i) - V (fr + j) := off_1 va0 va1 vb0 vb1 (Int32.not_le.mp q5)
              refine lv_istore (lv' := [(25, .int ((V (fr + i)) - (V (fr + j)))), (21, .int (1 : Int32)), (24, .int (nI (fr + j))), (23, .int (nI (fr + i))), (22, .int gg), (20, .int (nI nt)), (19, .int (nI d)), (18, .int (nI no)), (17, .int (nI wa)), (16, .int (nI to)), (15, .int (nI fr)), (0, .ref b), (1, .ref (ad 0)), (2, .ref (ad 12)), (3, .ref (ad 13)), (4, .ref (ad 14)), (7, .int (nI np)), (14, .int (nI k))]) hx hb dL_law_1072 hl (by decide) rfl (fun ls hl => ?_)
              refine lv_iload hx hb dL_law_1074 (lv_at hl 0 rfl) ?_
              refine lv_iconst (v := 2) hx hb dL_law_1076 (by decide) ?_
              refine lv_iload hx hb dL_law_1077 (lv_at hl 7 rfl) ?_
              refine lv_imul hx hb dL_law_1079 ?_
              refine lv_icmp_le (tgt := 1086) hx hb dL_law_1080 (by decide) (fun q6 => ?_) (fun q6 => ?_)
              · refine lv_iinc (v := nI (fr + (j + 1))) (lv' := [(24, .int (nI (fr + (j + 1)))), (25, .int ((V (fr + i)) - (V (fr + j)))), (21, .int (1 : Int32)), (23, .int (nI (fr + i))), (22, .int gg), (20, .int (nI nt)), (19, .int (nI d)), (18, .int (nI no)), (17, .int (nI wa)), (16, .int (nI to)), (15, .int (nI fr)), (0, .ref b), (1, .ref (ad 0)), (2, .ref (ad 12)), (3, .ref (ad 13)), (4, .ref (ad 14)), (7, .int (nI np)), (14, .int (nI k))]) hx hb dL_law_1086 hl (k := 2) rfl (nI_1 (fr + j)) (by decide) rfl (fun ls hl => ?_)
                refine lv_goto (tgt := 985) hx hb dL_law_1089 (by decide) ?_
                exact ih (j + 1) (by omega) _ _ ls (lwP_near hw hhit (fun z => z (by rw [eo]; exact q6))) (lv_sub hl [0, 3, 4, 2, 5, 6, 7, 8, 9, 10, 11, 12, 13, 14, 15, 16, 17] rfl)
              · refine lv_iconst (v := 0) hx hb dL_law_1083 (by decide) ?_
                refine lv_istore (lv' := [(22, .int (0 : Int32)), (25, .int ((V (fr + i)) - (V (fr + j)))), (21, .int (1 : Int32)), (24, .int (nI (fr + j))), (23, .int (nI (fr + i))), (20, .int (nI nt)), (19, .int (nI d)), (18, .int (nI no)), (17, .int (nI wa)), (16, .int (nI to)), (15, .int (nI fr)), (0, .ref b), (1, .ref (ad 0)), (2, .ref (ad 12)), (3, .ref (ad 13)), (4, .ref (ad 14)), (7, .int (nI np)), (14, .int (nI k))]) hx hb dL_law_1084 hl (by decide) rfl (fun ls hl => ?_)
                refine lv_iinc (v := nI (fr + (j + 1))) (lv' := [(24, .int (nI (fr + (j + 1)))), (22, .int (0 : Int32)), (25, .int ((V (fr + i)) - (V (fr + j)))), (21, .int (1 : Int32)), (23, .int (nI (fr + i))), (20, .int (nI nt)), (19, .int (nI d)), (18, .int (nI no)), (17, .int (nI wa)), (16, .int (nI to)), (15, .int (nI fr)), (0, .ref b), (1, .ref (ad 0)), (2, .ref (ad 12)), (3, .ref (ad 13)), (4, .ref (ad 14)), (7, .int (nI np)), (14, .int (nI k))]) hx hb dL_law_1086 hl (k := 3) rfl (nI_1 (fr + j)) (by decide) rfl (fun ls hl => ?_)
                refine lv_goto (tgt := 985) hx hb dL_law_1089 (by decide) ?_
                exact ih (j + 1) (by omega) _ _ ls (lwP_far hhit (fun z => q6 (by rw [← eo]; exact z))) (lv_sub hl [0, 4, 1, 3, 5, 6, 7, 8, 9, 10, 11, 12, 13, 14, 15, 16, 17] rfl)
set_option maxHeartbeats 4000000 in
set_option maxRecDepth 100000 in
theorem pairsO {p : Program} {l : Launch} {e : Env} {s : State} {m : MethodId} {below : List Frame} {meth : Method} {c : Code} (hnt : l.stackTraces = false) {G : va_G} {tys : List (ClassId × FieldType)} {tE mi : Nat} {cI cO : ClassId} (htI : tI tys cI) (htO : tO tys cO) {b L : Nat} {xs : Nat → Int32} (hL : L ≤ 260) (C0 : lw_At p s m meth c b L xs) {ad : Nat → Nat} (hK : va_K G vwCl tys s) (hE : env (fun q : Nat => s.heap.size ≤ q) tE mi s s.heap) {own : Nat → Nat} {P M V S T : Nat → Int32} {n : Nat} {cel : Nat → Int32} {ind cr num cur du : Int32} {wi dm : Int64} {ct cf co ca : Nat → Int32} {wd : Nat → Nat → Int32} {np nc k no wa to fr d nt N : Nat} {ws : va_W} {H : Heap} {locs : List Loc} {cells slots : Nat} {Q : State → Prop} (hI : inv cI cO tE ad own ws P M V S T n cel ind cr num cur du wi dm np nc ct cf co ca wd) (hV : ∀ i, i < np → 0 ≤ (V i).toInt ∧ (V i).toInt ≤ 1000) (hnp : np ≤ 57) (hN : fr + N = to + 1) (hto : to < np) (hc : cells ≤ 600130) (hs : slots ≤ 7301080) (hP : va_P G vwCl ws H) (hD : va_D (fun q : Nat => s.heap.size ≤ q) ws) (hS : va_S (fun q : Nat => s.heap.size ≤ q) s.heap H locs) (kk : ∀ (hh gg : Int32) (ls : Array Slot), lwP P M V (nI no) (nI wa) fr N N 0 hh gg → lv_has ls 26 [(22, .int gg), (21, .int hh), (20, .int (nI nt)), (19, .int (nI d)), (18, .int (nI no)), (17, .int (nI wa)), (16, .int (nI to)), (15, .int (nI fr)), (0, .ref b), (1, .ref (ad 0)), (2, .ref (ad 12)), (3, .ref (ad 13)), (4, .ref (ad 14)), (7, .int (nI np)), (14, .int (nI k))] → W p l e room_1 s m #[Value.ref b] below meth c H locs (cells) (slots) Q (F0 m 1098 ls [])) : ∀ (r9 i : Nat), i + r9 = N → ∀ (hh gg : Int32) (ls : Array Slot), lwP P M V (nI no) (nI wa) fr N i 0 hh gg → lv_has ls 26 [(23, .int (nI (fr + i))), (22, .int gg), (21, .int hh), (20, .int (nI nt)), (19, .int (nI d)), (18, .int (nI no)), (17, .int (nI wa)), (16, .int (nI to)), (15, .int (nI fr)), (0, .ref b), (1, .ref (ad 0)), (2, .ref (ad 12)), (3, .ref (ad 13)), (4, .ref (ad 14)), (7, .int (nI np)), (14, .int (nI k))] → W p l e room_1 s m #[Value.ref b] below meth c H locs (cells) (slots) Q (F0 m 974 ls []) := by
  have C1 := C0
  obtain ⟨hx, hb, hr, hml, hown, hts0, hX, hbl, hlocks, hgv⟩ := C1
  have hts : ∀ w ∈ wsL_law, w.before #[Value.ref b] s = true := fun w h => hts0 w (wsL_law_in w h)
  have hown : s.vm.findClass RL = some m.cls := hown
  have hA : ∀ q : Nat, s.heap.size ≤ q → (fun q : Nat => s.heap.size ≤ q) q := fun _ h => h
  have hbA : ¬ (fun q : Nat => s.heap.size ≤ q) b := Nat.not_le.mpr hbl
  intro r9
  induction r9 with
  | zero =>
    intro i hj hh gg ls hw hl
    have hjN : i = N := by omega
    subst hjN
    refine lv_iload hx hb dL_law_974 (lv_at hl 0 rfl) ?_
    refine lv_iload hx hb dL_law_976 (lv_at hl 7 rfl) ?_
    refine lv_icmp_gt (tgt := 1098) hx hb dL_law_978 (by decide) (fun c978 => ?_) (fun c978 => absurd (show nI to < nI (fr + i) from nI_lt (by omega) (by omega)) c978)
    exact kk hh gg ls hw (lv_sub hl [1, 2, 3, 4, 5, 6, 7, 8, 9, 10, 11, 12, 13, 14, 15] rfl)
  | succ r9 ih =>
    intro i hj hh gg ls hw hl
    refine lv_iload hx hb dL_law_974 (lv_at hl 0 rfl) ?_
    refine lv_iload hx hb dL_law_976 (lv_at hl 7 rfl) ?_
    refine lv_icmp_gt (tgt := 1098) hx hb dL_law_978 (by decide) (fun c978 => absurd c978 (nI_nlt (a := to) (b := fr + i) (by omega) (by omega))) (fun c978 => ?_)
    refine lv_iload hx hb dL_law_981 (lv_at hl 8 rfl) ?_
    refine lv_istore (lv' := [(24, .int (nI fr)), (23, .int (nI (fr + i))), (22, .int gg), (21, .int hh), (20, .int (nI nt)), (19, .int (nI d)), (18, .int (nI no)), (17, .int (nI wa)), (16, .int (nI to)), (15, .int (nI fr)), (0, .ref b), (1, .ref (ad 0)), (2, .ref (ad 12)), (3, .ref (ad 13)), (4, .ref (ad 14)), (7, .int (nI np)), (14, .int (nI k))]) hx hb dL_law_983 hl (by decide) rfl (fun ls hl => ?_)
    refine pairsI hnt htI htO hL C0 hK hE (i := i) (by omega) hI hV hnp hN hto hc hs hP hD hS (fun hh gg ls hw hl => ?_) N 0 (by omega) hh gg ls hw (lv_sub hl [0, 1, 2, 3, 4, 5, 6, 7, 8, 9, 10, 11, 12, 13, 14, 15, 16] rfl)
    refine lv_iinc (v := nI (fr + (i + 1))) (lv' := [(23, .int (nI (fr + (i + 1)))), (22, .int gg), (21, .int hh), (20, .int (nI nt)), (19, .int (nI d)), (18, .int (nI no)), (17, .int (nI wa)), (16, .int (nI to)), (15, .int (nI fr)), (0, .ref b), (1, .ref (ad 0)), (2, .ref (ad 12)), (3, .ref (ad 13)), (4, .ref (ad 14)), (7, .int (nI np)), (14, .int (nI k))]) hx hb dL_law_1092 hl (k := 0) rfl (nI_1 (fr + i)) (by decide) rfl (fun ls hl => ?_)
    refine lv_goto (tgt := 974) hx hb dL_law_1095 (by decide) ?_
    exact ih (i + 1) (by omega) hh gg ls (lwP_next hw) (lv_sub hl [0, 1, 2, 3, 4, 5, 6, 7, 8, 9, 10, 11, 12, 13, 14, 15] rfl)
-- part 83
set_option maxHeartbeats 4000000 in
set_option maxRecDepth 100000 in
theorem judged {p : Program} {l : Launch} {e : Env} {s : State} {m : MethodId} {below : List Frame} {meth : Method} {c : Code} (hnt : l.stackTraces = false) {G : va_G} {tys : List (ClassId × FieldType)} {tE mi : Nat} {cI cO : ClassId} (htI : tI tys cI) (htO : tO tys cO) {b L : Nat} {xs : Nat → Int32} (hL : L ≤ 260) (C0 : lw_At p s m meth c b L xs) {ad : Nat → Nat} (hK : va_K G vwCl tys s) (hE : env (fun q : Nat => s.heap.size ≤ q) tE mi s s.heap) {own : Nat → Nat} {P M V S T : Nat → Int32} {n : Nat} {cel : Nat → Int32} {ind cr num cur du : Int32} {wi dm : Int64} {ct cf co ca : Nat → Int32} {wd : Nat → Nat → Int32} {np nc k no wa to fr d nt N : Nat} {ws : va_W} {H : Heap} {locs : List Loc} {cells slots : Nat} {Q : State → Prop} {hh gg : Int32} {ls : Array Slot} (hI : inv cI cO tE ad own ws P M V S T n cel ind cr num cur du wi dm np nc ct cf co ca wd) (hV : ∀ i, i < np → 0 ≤ (V i).toInt ∧ (V i).toInt ≤ 1000) (hnp : np ≤ 57) (hN : fr + N = to + 1) (hto : to < np) (hc : cells ≤ 600130) (hs : slots ≤ 7301080) (hP : va_P G vwCl ws H) (hD : va_D (fun q : Nat => s.heap.size ≤ q) ws) (hS : va_S (fun q : Nat => s.heap.size ≤ q) s.heap H locs) (hkn : k < nc) (hno : no < 20) (hcf : cf k = nI fr) (hco : co k = nI to) (hca : ca k = nI np) (hct : ct k = nI wa) (e1 : hCnt (wd k) 1 7 = nI d) (e2 : hCnt (wd k) 2 7 = nI nt) (hd7 : d ≤ 7) (he7 : nt ≤ 7) (hw : lwP P M V (nI no) (nI wa) fr N N 0 hh gg) (hl : lv_has ls 26 [(22, .int gg), (21, .int hh), (20, .int (nI nt)), (19, .int (nI d)), (18, .int (nI no)), (17, .int (nI wa)), (16, .int (nI to)), (15, .int (nI fr)), (0, .ref b), (1, .ref (ad 0)), (2, .ref (ad 12)), (3, .ref (ad 13)), (4, .ref (ad 14)), (7, .int (nI np)), (14, .int (nI k))]) (hc2 : cells + 2 ≤ 600130) (hs2 : slots + 12 ≤ 7301080) (hfr : fr ≤ to) (kk : ∀ (H : Heap) (locs : List Loc) (ls : Array Slot), va_P G vwCl ws H → va_D (fun q : Nat => s.heap.size ≤ q) ws → va_S (fun q : Nat => s.heap.size ≤ q) s.heap H locs → lv_has ls 26 [(0, .ref b), (1, .ref (ad 0)), (2, .ref (ad 12)), (3, .ref (ad 13)), (4, .ref (ad 14)), (7, .int (nI np)), (14, .int (nI k))] → W p l e room_1 s m #[Value.ref b] below meth c H locs (cells + 2) (slots + 12) Q (F0 m 1175 ls [])) : W p l e room_1 s m #[Value.ref b] below meth c H locs (cells) (slots) Q (F0 m 1098 ls []) := by
  obtain ⟨hx, hb, hr, hml, hown, hts0, hX, hbl, hlocks, hgv⟩ := C0
  have hts : ∀ w ∈ wsL_law, w.before #[Value.ref b] s = true := fun w h => hts0 w (wsL_law_in w h)
  have hown : s.vm.findClass RL = some m.cls := hown
  have hA : ∀ q : Nat, s.heap.size ≤ q → (fun q : Nat => s.heap.size ≤ q) q := fun _ h => h
  have hbA : ¬ (fun q : Nat => s.heap.size ≤ q) b := Nat.not_le.mpr hbl
  refine lv_iload hx hb dL_law_1098 (lv_at hl 6 rfl) ?_
  refine lv_iload hx hb dL_law_1100 (lv_at hl 7 rfl) ?_
  refine lv_isub hx hb dL_law_1102 ?_
  refine re_i (y := nI (to - fr)) (pk_sub hfr) ?_
  refine lv_iconst (v := 1) hx hb dL_law_1103 (by decide) ?_
  refine lv_iadd hx hb dL_law_1104 ?_
  refine re_i (y := nI (to - fr + 1)) (nI_1 (to - fr)) ?_
  refine lv_istore (lv' := [(23, .int (nI (to - fr + 1))), (22, .int gg), (21, .int hh), (20, .int (nI nt)), (19, .int (nI d)), (18, .int (nI no)), (17, .int (nI wa)), (16, .int (nI to)), (15, .int (nI fr)), (0, .ref b), (1, .ref (ad 0)), (2, .ref (ad 12)), (3, .ref (ad 13)), (4, .ref (ad 14)), (7, .int (nI np)), (14, .int (nI k))]) hx hb dL_law_1105 hl (by decide) rfl (fun ls hl => ?_)
  have ev : jVer (jOpen P M V (nI no) (nI wa) fr N) (nI fr) (nI to) (nI np) (wd k) = if 4 * nI np ≤ 5 * nI (to - fr + 1) then (if jOpen P M V (nI no) (nI wa) fr N = 0 then (if 2 ≤ nI d then (if nI nt < nI d then 4 else 3) else 2) else 1) else 0 := by
    unfold jVer
    rw [e1, e2, pk_sub hfr, nI_1]
  obtain ⟨J, eJ⟩ : ∃ z : Int32, z = jVer (jOpen P M V (nI no) (nI wa) fr N) (nI fr) (nI to) (nI np) (wd k) := ⟨_, rfl⟩
  rw [← eJ] at ev
  refine cut_i (ls := ls) (rest := []) J 1158 _ ?_ (fun kj => ?_)
  · refine lv_istore (lv' := [(24, .int J), (23, .int (nI (to - fr + 1))), (22, .int gg), (21, .int hh), (20, .int (nI nt)), (19, .int (nI d)), (18, .int (nI no)), (17, .int (nI wa)), (16, .int (nI to)), (15, .int (nI fr)), (0, .ref b), (1, .ref (ad 0)), (2, .ref (ad 12)), (3, .ref (ad 13)), (4, .ref (ad 14)), (7, .int (nI np)), (14, .int (nI k))]) hx hb dL_law_1158 hl (by decide) rfl (fun ls hl => ?_)
    refine lv_aload_n hx hb dL_law_1160 rfl (lv_at hl 11 rfl) ?_
    refine lv_iload hx hb dL_law_1161 (lv_at hl 16 rfl) ?_
    refine lv_iload hx hb dL_law_1163 (lv_at hl 6 rfl) ?_
    refine va_calli (va_runV (As := [.int (nI k), .int (nI no)]) (rest := []) ⟨hx, hb, hml, hown, hts⟩ (op_judge hnt G tys htI htO hI k hkn (nI no) (oR_of (a := 0) (b := 1000000) (by decide) (by decide) (nI_toInt (by omega)) (by omega) (by omega))) (cwV 2 hts gL_law_X7_judge rfl rfl rfl (by decide +kernel) ⟨Nat.le_of_ble_eq_true rfl, Nat.le_of_ble_eq_true rfl⟩) ⟨pcX_b, va_recv hK hP (ci := 7) (q0 := 0) rfl hI.1.1, pcX_u hP hK hD hS hA hE⟩ rfl rfl hl.1 rfl (lv_room (Nat.le_of_ble_eq_true rfl)) dL_law_1165 ⟨by show cells + 2 ≤ 600130; omega, by show slots + 12 ≤ 7301080; omega⟩) hS (fun q _ h => h) (fun q h => h) (fun r u t H locs ht hvm hq hB hsz hk1 hS => ?_)
    rw [ht] at hB
    obtain ⟨hP, hD⟩ := hB
    rw [hcf, hco, hca, hct, nI_clamp (show fr < 2 ^ 31 by omega), nI_clamp (show to < 2 ^ 31 by omega), show to + 1 - fr = N by omega, ← eJ] at hq
    refine re_i (y := J) (hq) ?_
    refine lv_iload hx hb dL_law_1168 (lv_at hl 0 rfl) ?_
    refine lv_icmp_eq (tgt := 1175) hx hb dL_law_1170 (by decide) (fun c1170 => ?_) (fun c1170 => absurd (rfl) c1170)
    exact kk _ _ ls hP hD hS (lv_sub hl [10, 11, 12, 13, 14, 15, 16] rfl)
  · refine lv_iconst (v := 5) hx hb dL_law_1107 (by decide) ?_
    refine lv_iload hx hb dL_law_1108 (lv_at hl 0 rfl) ?_
    refine lv_imul hx hb dL_law_1110 ?_
    refine lv_iconst (v := 4) hx hb dL_law_1111 (by decide) ?_
    refine lv_iload hx hb dL_law_1112 (lv_at hl 14 rfl) ?_
    refine lv_imul hx hb dL_law_1114 ?_
    refine lv_icmp_ge (tgt := 1122) hx hb dL_law_1115 (by decide) (fun q1 => ?_) (fun q1 => ?_)
    · have jop : (hh = 0 ∨ gg = 0) → jOpen P M V (nI no) (nI wa) fr N = 1 ∧ True := fun z => (lwP_end hw).elim (fun q => ⟨q.1, trivial⟩) (fun q => z.elim (fun z => absurd (q.2.1.symm.trans z) (by decide)) (fun z => absurd (q.2.2.symm.trans z) (by decide)))
      refine lv_iload hx hb dL_law_1122 (lv_at hl 2 rfl) ?_
      refine lv_if_eq (tgt := 1132) hx hb dL_law_1124 (by decide) (fun q2 => ?_) (fun q2 => ?_)
      · refine lv_iconst (v := 1) hx hb dL_law_1132 (by decide) ?_
        refine lv_goto (tgt := 1158) hx hb dL_law_1133 (by decide) ?_
        exact kj 1 (by rw [ev, if_pos q1, if_neg (by rw [(jop (Or.inl q2)).1]; decide)])
      · refine lv_iload hx hb dL_law_1127 (lv_at hl 1 rfl) ?_
        refine lv_if_ne (tgt := 1136) hx hb dL_law_1129 (by decide) (fun q3 => ?_) (fun q3 => ?_)
        · have jz : jOpen P M V (nI no) (nI wa) fr N = 0 := (lwP_end hw).elim (fun q => absurd q.2 (fun z => z.elim q2 q3)) (fun q => q.1)
          refine lv_iload hx hb dL_law_1136 (lv_at hl 4 rfl) ?_
          refine lv_iconst (v := 2) hx hb dL_law_1138 (by decide) ?_
          refine lv_icmp_ge (tgt := 1146) hx hb dL_law_1139 (by decide) (fun q4 => ?_) (fun q4 => ?_)
          · refine lv_iload hx hb dL_law_1146 (lv_at hl 3 rfl) ?_
            refine lv_iload hx hb dL_law_1148 (lv_at hl 4 rfl) ?_
            refine lv_icmp_lt (tgt := 1157) hx hb dL_law_1150 (by decide) (fun q5 => ?_) (fun q5 => ?_)
            · refine lv_iconst (v := 4) hx hb dL_law_1157 (by decide) ?_
              exact kj 4 (by rw [ev, if_pos q1, if_pos jz, if_pos q4, if_pos q5])
            · refine lv_iconst (v := 3) hx hb dL_law_1153 (by decide) ?_
              refine lv_goto (tgt := 1158) hx hb dL_law_1154 (by decide) ?_
              exact kj 3 (by rw [ev, if_pos q1, if_pos jz, if_pos q4, if_neg q5])
          · refine lv_iconst (v := 2) hx hb dL_law_1142 (by decide) ?_
            refine lv_goto (tgt := 1158) hx hb dL_law_1143 (by decide) ?_
            exact kj 2 (by rw [ev, if_pos q1, if_pos jz, if_neg q4])
        · refine lv_iconst (v := 1) hx hb dL_law_1132 (by decide) ?_
          refine lv_goto (tgt := 1158) hx hb dL_law_1133 (by decide) ?_
          exact kj 1 (by rw [ev, if_pos q1, if_neg (by rw [(jop (Or.inr q3)).1]; decide)])
    · refine lv_iconst (v := 0) hx hb dL_law_1118 (by decide) ?_
      refine lv_goto (tgt := 1158) hx hb dL_law_1119 (by decide) ?_
      exact kj 0 (by rw [ev, if_neg q1])
-- part 84
set_option maxHeartbeats 4000000 in
set_option maxRecDepth 100000 in
theorem a_claim {p : Program} {l : Launch} {e : Env} {s : State} {m : MethodId} {below : List Frame} {meth : Method} {c : Code} (hnt : l.stackTraces = false) {G : va_G} {tys : List (ClassId × FieldType)} {tE mi : Nat} {cI cO : ClassId} (htI : tI tys cI) (htO : tO tys cO) {b L : Nat} {xs : Nat → Int32} (hL : L ≤ 260) (C0 : lw_At p s m meth c b L xs) {ad : Nat → Nat} (hK : va_K G vwCl tys s) (hE : env (fun q : Nat => s.heap.size ≤ q) tE mi s s.heap) {np k : Nat} {ws : va_W} {H : Heap} {locs : List Loc} {cells slots : Nat} {Q : State → Prop} {ls : Array Slot} (hk8 : k < 8) (hp0 : 0 < np) (hci : ci cI cO tE ad np k ws) (hP : va_P G vwCl ws H) (hD : va_D (fun q : Nat => s.heap.size ≤ q) ws) (hS : va_S (fun q : Nat => s.heap.size ≤ q) s.heap H locs) (hl : lv_has ls 26 [(0, .ref b), (1, .ref (ad 0)), (2, .ref (ad 12)), (3, .ref (ad 13)), (4, .ref (ad 14)), (7, .int (nI np)), (14, .int (nI k))]) (hc : cells + 40 ≤ 600130) (hs : slots + 500 ≤ 7301080) (kk : ∀ (w : va_W) (H1 : Heap) (locs1 : List Loc) (ls1 : Array Slot), ci cI cO tE ad np (k + 1) w → va_P G vwCl w H1 → va_D (fun q : Nat => s.heap.size ≤ q) w → va_S (fun q : Nat => s.heap.size ≤ q) s.heap H1 locs1 → lv_has ls1 26 [(0, .ref b), (1, .ref (ad 0)), (2, .ref (ad 12)), (3, .ref (ad 13)), (4, .ref (ad 14)), (7, .int (nI np)), (14, .int (nI (k + 1)))] → W p l e room_1 s m #[Value.ref b] below meth c H1 locs1 (cells + 40) (slots + 500) Q (F0 m 781 ls1 [])) : W p l e room_1 s m #[Value.ref b] below meth c H locs (cells) (slots) Q (F0 m 793 ls []) := by
  have C1 := C0
  obtain ⟨hx, hb, hr, hml, hown, hts0, hX, hbl, hlocks, hgv⟩ := C1
  have hts : ∀ w ∈ wsL_law, w.before #[Value.ref b] s = true := fun w h => hts0 w (wsL_law_in w h)
  have hown : s.vm.findClass RL = some m.cls := hown
  have hA : ∀ q : Nat, s.heap.size ≤ q → (fun q : Nat => s.heap.size ≤ q) q := fun _ h => h
  have hbA : ¬ (fun q : Nat => s.heap.size ≤ q) b := Nat.not_le.mpr hbl
  obtain ⟨own, P, M, V, S, T, n, cel, ind, cr, num, cur, du, wi, dm, ct, cf, co, ca, wd, hI, hnp, hV⟩ := hci
  refine lv_aload_n hx hb dL_law_793 rfl (lv_at hl 0 rfl) ?_
  refine lv_bipush (v := 61) hx hb dL_law_794 (by decide) ?_
  refine lv_iload hx hb dL_law_796 (lv_at hl 6 rfl) ?_
  refine lv_iadd hx hb dL_law_798 ?_
  refine re_i (y := nI (61 + k)) (nI_add 61 k) ?_
  refine vp_callSi (va_Run.run (va_runS (As := [.ref b, .int (nI (61 + k))]) (rest := []) ⟨hx, hb, hml, hown, hts⟩ (metL_cell l hL (61 + k) (by omega)) (va_cwS 2 hts gL_law_L_cell rfl rfl rfl (by decide +kernel) ⟨Nat.le_of_ble_eq_true rfl, Nat.le_of_ble_eq_true rfl⟩) ⟨pcS_b, pcS_u hX hbl hbA hS⟩ rfl rfl hl.1 rfl (lv_room (Nat.le_of_ble_eq_true rfl)) dL_law_799 ⟨by show cells + 0 ≤ 600130; omega, by show slots + 0 ≤ 7301080; omega⟩)) (fun r h => ?_)
  refine lv_ldc (v := 2147483647) hx hb hown (hts0 _ cw_17) dL_law_802 ?_
  refine lv_iand hx hb dL_law_804 ?_
  obtain ⟨X, hX31, eX⟩ := pk_andE r (m := 2147483647) 31 (by decide +kernel)
  refine re_i (y := nI X) (eX) ?_
  refine lv_istore (lv' := [(11, .int (nI X)), (0, .ref b), (1, .ref (ad 0)), (2, .ref (ad 12)), (3, .ref (ad 13)), (4, .ref (ad 14)), (7, .int (nI np)), (14, .int (nI k))]) hx hb dL_law_805 hl (by decide) rfl (fun ls hl => ?_)
  refine lv_iload hx hb dL_law_807 (lv_at hl 0 rfl) ?_
  refine lv_iload hx hb dL_law_809 (lv_at hl 6 rfl) ?_
  refine vp_callSi (va_Run.run (va_runS (As := [.int (nI X), .int (nI np)]) (rest := []) ⟨hx, hb, hml, hown, hts⟩ (metL_at l X np (by omega) (by omega) (by omega)) (va_cwS 2 hts gL_law_L_at rfl rfl rfl (by decide +kernel) ⟨Nat.le_of_ble_eq_true rfl, Nat.le_of_ble_eq_true rfl⟩) ⟨pc0_b, pc0_u⟩ rfl rfl hl.1 rfl (lv_room (Nat.le_of_ble_eq_true rfl)) dL_law_811 ⟨by show cells + 0 ≤ 600130; omega, by show slots + 0 ≤ 7301080; omega⟩)) (fun r h => ?_)
  obtain ⟨k811, hk811, rfl⟩ := h
  refine lv_iconst (v := 3) hx hb dL_law_814 (by decide) ?_
  refine lv_idiv hx hb dL_law_815 (by decide) ?_
  refine re_i (y := nI (k811 / 3)) (pk_div (a := k811) (d := 3) (by omega) (by decide) (by decide)) ?_
  obtain ⟨fr, efr⟩ : ∃ z : Nat, z = k811 / 3 := ⟨_, rfl⟩
  rw [← efr]
  have hfp : fr < np := by omega
  refine lv_istore (lv' := [(15, .int (nI fr)), (11, .int (nI X)), (0, .ref b), (1, .ref (ad 0)), (2, .ref (ad 12)), (3, .ref (ad 13)), (4, .ref (ad 14)), (7, .int (nI np)), (14, .int (nI k))]) hx hb dL_law_816 hl (by decide) rfl (fun ls hl => ?_)
  refine lv_iload hx hb dL_law_818 (lv_at hl 0 rfl) ?_
  refine lv_iload hx hb dL_law_820 (lv_at hl 1 rfl) ?_
  refine lv_bipush (v := 8) hx hb dL_law_822 (by decide) ?_
  refine lv_ishr hx hb dL_law_824 ?_
  refine re_i (y := nI (X / 2 ^ 8)) (pk_shrN hX31 _ 8 (by decide +kernel)) ?_
  refine lv_iload hx hb dL_law_825 (lv_at hl 7 rfl) ?_
  refine lv_iload hx hb dL_law_827 (lv_at hl 0 rfl) ?_
  refine lv_isub hx hb dL_law_829 ?_
  refine re_i (y := nI (np - fr)) (pk_sub (by omega)) ?_
  refine vp_callSi (va_Run.run (va_runS (As := [.int (nI (X / 2 ^ 8)), .int (nI (np - fr))]) (rest := [.int (nI fr)]) ⟨hx, hb, hml, hown, hts⟩ (metL_at l (X / 2 ^ 8) (np - fr) (by omega) (by omega) (by omega)) (va_cwS 2 hts gL_law_L_at rfl rfl rfl (by decide +kernel) ⟨Nat.le_of_ble_eq_true rfl, Nat.le_of_ble_eq_true rfl⟩) ⟨pc0_b, pc0_u⟩ rfl rfl hl.1 rfl (lv_room (Nat.le_of_ble_eq_true rfl)) dL_law_830 ⟨by show cells + 0 ≤ 600130; omega, by show slots + 0 ≤ 7301080; omega⟩)) (fun r h => ?_)
  obtain ⟨k830, hk830, rfl⟩ := h
  refine lv_iadd hx hb dL_law_833 ?_
  refine re_i (y := nI (fr + k830)) (nI_add fr k830) ?_
  obtain ⟨to, eto⟩ : ∃ z : Nat, z = fr + k830 := ⟨_, rfl⟩
  rw [← eto]
  have htp : to < np := by omega
  have hft : fr ≤ to := by omega
  refine lv_istore (lv' := [(16, .int (nI to)), (15, .int (nI fr)), (11, .int (nI X)), (0, .ref b), (1, .ref (ad 0)), (2, .ref (ad 12)), (3, .ref (ad 13)), (4, .ref (ad 14)), (7, .int (nI np)), (14, .int (nI k))]) hx hb dL_law_834 hl (by decide) rfl (fun ls hl => ?_)
  refine lv_iconst (v := 1) hx hb dL_law_836 (by decide) ?_
  refine lv_iload hx hb dL_law_837 (lv_at hl 2 rfl) ?_
  refine lv_iconst (v := 4) hx hb dL_law_839 (by decide) ?_
  refine lv_ishr hx hb dL_law_840 ?_
  refine re_i (y := nI (X / 2 ^ 4)) (pk_shrN hX31 _ 4 (by decide +kernel)) ?_
  refine lv_bipush (v := 120) hx hb dL_law_841 (by decide) ?_
  refine re_i (y := nI 120) (show (120 : Int32) = nI 120 from rfl) ?_
  refine vp_callSi (va_Run.run (va_runS (As := [.int (nI (X / 2 ^ 4)), .int (nI 120)]) (rest := [.int (1 : Int32)]) ⟨hx, hb, hml, hown, hts⟩ (metL_at l (X / 2 ^ 4) 120 (by omega) (by decide) (by decide)) (va_cwS 2 hts gL_law_L_at rfl rfl rfl (by decide +kernel) ⟨Nat.le_of_ble_eq_true rfl, Nat.le_of_ble_eq_true rfl⟩) ⟨pc0_b, pc0_u⟩ rfl rfl hl.1 rfl (lv_room (Nat.le_of_ble_eq_true rfl)) dL_law_843 ⟨by show cells + 0 ≤ 600130; omega, by show slots + 0 ≤ 7301080; omega⟩)) (fun r h => ?_)
  obtain ⟨k843, hk843, rfl⟩ := h
  refine lv_iadd hx hb dL_law_846 ?_
  refine re_i (y := nI (1 + k843)) (nI_add 1 k843) ?_
  obtain ⟨wa, ewa⟩ : ∃ z : Nat, z = 1 + k843 := ⟨_, rfl⟩
  rw [← ewa]
  refine lv_istore (lv' := [(17, .int (nI wa)), (16, .int (nI to)), (15, .int (nI fr)), (11, .int (nI X)), (0, .ref b), (1, .ref (ad 0)), (2, .ref (ad 12)), (3, .ref (ad 13)), (4, .ref (ad 14)), (7, .int (nI np)), (14, .int (nI k))]) hx hb dL_law_847 hl (by decide) rfl (fun ls hl => ?_)
  refine lv_iload hx hb dL_law_849 (lv_at hl 3 rfl) ?_
  refine lv_bipush (v := 16) hx hb dL_law_851 (by decide) ?_
  refine lv_ishr hx hb dL_law_853 ?_
  refine re_i (y := nI (X / 2 ^ 16)) (pk_shrN hX31 _ 16 (by decide +kernel)) ?_
  refine lv_bipush (v := 20) hx hb dL_law_854 (by decide) ?_
  refine re_i (y := nI 20) (show (20 : Int32) = nI 20 from rfl) ?_
  refine vp_callSi (va_Run.run (va_runS (As := [.int (nI (X / 2 ^ 16)), .int (nI 20)]) (rest := []) ⟨hx, hb, hml, hown, hts⟩ (metL_at l (X / 2 ^ 16) 20 (by omega) (by decide) (by decide)) (va_cwS 2 hts gL_law_L_at rfl rfl rfl (by decide +kernel) ⟨Nat.le_of_ble_eq_true rfl, Nat.le_of_ble_eq_true rfl⟩) ⟨pc0_b, pc0_u⟩ rfl rfl hl.1 rfl (lv_room (Nat.le_of_ble_eq_true rfl)) dL_law_856 ⟨by show cells + 0 ≤ 600130; omega, by show slots + 0 ≤ 7301080; omega⟩)) (fun r h => ?_)
  obtain ⟨k856, hk856, rfl⟩ := h
  obtain ⟨no, eno⟩ : ∃ z : Nat, z = k856 := ⟨_, rfl⟩
  rw [← eno]
  have hno : no < 20 := by omega
  refine lv_istore (lv' := [(18, .int (nI no)), (17, .int (nI wa)), (16, .int (nI to)), (15, .int (nI fr)), (11, .int (nI X)), (0, .ref b), (1, .ref (ad 0)), (2, .ref (ad 12)), (3, .ref (ad 13)), (4, .ref (ad 14)), (7, .int (nI np)), (14, .int (nI k))]) hx hb dL_law_859 hl (by decide) rfl (fun ls hl => ?_)
  refine lv_aload_n hx hb dL_law_861 rfl (lv_at hl 6 rfl) ?_
  refine lv_iload hx hb dL_law_862 (lv_at hl 1 rfl) ?_
  refine lv_iload hx hb dL_law_864 (lv_at hl 3 rfl) ?_
  refine lv_iload hx hb dL_law_866 (lv_at hl 2 rfl) ?_
  refine va_calli (va_runV (As := [.int (nI wa), .int (nI fr), .int (nI to)]) (rest := []) ⟨hx, hb, hml, hown, hts⟩ (op_claim hnt G tys htI htO hI (nI wa) fr to (oR_of (a := 1) (b := 300) (by decide) (by decide) (nI_toInt (by omega)) (by omega) (by omega)) hft htp hk8) (cwV 3 hts gL_law_X7_claim rfl rfl rfl (by decide +kernel) ⟨Nat.le_of_ble_eq_true rfl, Nat.le_of_ble_eq_true rfl⟩) ⟨pcX_b, va_recv hK hP (ci := 7) (q0 := 0) rfl hI.1.1, pcX_u hP hK hD hS hA hE⟩ rfl rfl hl.1 rfl (lv_room (Nat.le_of_ble_eq_true rfl)) dL_law_868 ⟨by show cells + 8 ≤ 600130; omega, by show slots + 242 ≤ 7301080; omega⟩) hS (fun q _ h => h) (fun q h => h) (fun rc w t H locs ht hvm hq hB hsz hk1 hS => ?_)
  rw [ht] at hB
  obtain ⟨hP, hD⟩ := hB
  obtain ⟨er, own2, hI⟩ := hq
  refine re_i (y := nI k) (er) ?_
  refine lv_iload hx hb dL_law_871 (lv_at hl 11 rfl) ?_
  refine lv_icmp_eq (tgt := 878) hx hb dL_law_873 (by decide) (fun c873 => ?_) (fun c873 => absurd (rfl) c873)
  refine lv_iconst (v := 0) hx hb dL_law_878 (by decide) ?_
  refine lv_istore (lv' := [(19, .int (0 : Int32)), (18, .int (nI no)), (17, .int (nI wa)), (16, .int (nI to)), (15, .int (nI fr)), (11, .int (nI X)), (0, .ref b), (1, .ref (ad 0)), (2, .ref (ad 12)), (3, .ref (ad 13)), (4, .ref (ad 14)), (7, .int (nI np)), (14, .int (nI k))]) hx hb dL_law_879 hl (by decide) rfl (fun ls hl => ?_)
  refine lv_iconst (v := 0) hx hb dL_law_881 (by decide) ?_
  refine lv_istore (lv' := [(20, .int (0 : Int32)), (19, .int (0 : Int32)), (18, .int (nI no)), (17, .int (nI wa)), (16, .int (nI to)), (15, .int (nI fr)), (11, .int (nI X)), (0, .ref b), (1, .ref (ad 0)), (2, .ref (ad 12)), (3, .ref (ad 13)), (4, .ref (ad 14)), (7, .int (nI np)), (14, .int (nI k))]) hx hb dL_law_882 hl (by decide) rfl (fun ls hl => ?_)
  refine lv_iconst (v := 0) hx hb dL_law_884 (by decide) ?_
  refine lv_istore (lv' := [(21, .int (0 : Int32)), (20, .int (0 : Int32)), (19, .int (0 : Int32)), (18, .int (nI no)), (17, .int (nI wa)), (16, .int (nI to)), (15, .int (nI fr)), (11, .int (nI X)), (0, .ref b), (1, .ref (ad 0)), (2, .ref (ad 12)), (3, .ref (ad 13)), (4, .ref (ad 14)), (7, .int (nI np)), (14, .int (nI k))]) hx hb dL_law_885 hl (by decide) rfl (fun ls hl => ?_)
  have hz9 : va_up wd k (fun _ => (0 : Int32)) k = fun _ => 0 := by rw [va_up_self]
  refine houses hnt htI htO hL C0 hK hE (C9 := cells + 22) (S9 := slots + 326) hX31 (Nat.lt_succ_self k) (by omega) (by omega) (fun own d nt wd ws H locs ls hd7 he7 hI e1 e2 hP hD hS hl => ?_) 7 0 _ _ (by omega) (by show cells + 8 + 2 * 7 ≤ _; omega) (by show slots + 242 + 12 * 7 ≤ _; omega) own2 0 0 _ _ _ _ ls (Nat.le_refl 0) (Nat.le_refl 0) hI (by rw [hz9]; exact hCnt_z 1 (by decide) 7) (by rw [hz9]; exact hCnt_z 2 (by decide) 7) (fun j _ _ => by rw [hz9]) hP hD hS (lv_sub hl [0, 1, 2, 3, 4, 5, 6, 7, 8, 9, 10, 11, 12, 13, 14] rfl)
  refine lv_iconst (v := 0) hx hb dL_law_964 (by decide) ?_
  refine lv_istore (lv' := [(21, .int (0 : Int32)), (20, .int (nI nt)), (19, .int (nI d)), (18, .int (nI no)), (17, .int (nI wa)), (16, .int (nI to)), (15, .int (nI fr)), (11, .int (nI X)), (0, .ref b), (1, .ref (ad 0)), (2, .ref (ad 12)), (3, .ref (ad 13)), (4, .ref (ad 14)), (7, .int (nI np)), (14, .int (nI k))]) hx hb dL_law_965 hl (by decide) rfl (fun ls hl => ?_)
  refine lv_iconst (v := 1) hx hb dL_law_967 (by decide) ?_
  refine lv_istore (lv' := [(22, .int (1 : Int32)), (21, .int (0 : Int32)), (20, .int (nI nt)), (19, .int (nI d)), (18, .int (nI no)), (17, .int (nI wa)), (16, .int (nI to)), (15, .int (nI fr)), (11, .int (nI X)), (0, .ref b), (1, .ref (ad 0)), (2, .ref (ad 12)), (3, .ref (ad 13)), (4, .ref (ad 14)), (7, .int (nI np)), (14, .int (nI k))]) hx hb dL_law_968 hl (by decide) rfl (fun ls hl => ?_)
  refine lv_iload hx hb dL_law_970 (lv_at hl 7 rfl) ?_
  refine lv_istore (lv' := [(23, .int (nI fr)), (22, .int (1 : Int32)), (21, .int (0 : Int32)), (20, .int (nI nt)), (19, .int (nI d)), (18, .int (nI no)), (17, .int (nI wa)), (16, .int (nI to)), (15, .int (nI fr)), (11, .int (nI X)), (0, .ref b), (1, .ref (ad 0)), (2, .ref (ad 12)), (3, .ref (ad 13)), (4, .ref (ad 14)), (7, .int (nI np)), (14, .int (nI k))]) hx hb dL_law_972 hl (by decide) rfl (fun ls hl => ?_)
  refine pairsO hnt htI htO hL C0 hK hE (N := to + 1 - fr) hI hV hnp (by omega) htp (by omega) (by omega) hP hD hS (fun hh gg ls hw hl => ?_) (to + 1 - fr) 0 (by omega) 0 1 ls lwP_0 (lv_sub hl [0, 1, 2, 3, 4, 5, 6, 7, 8, 10, 11, 12, 13, 14, 15, 16] rfl)
  refine judged hnt htI htO hL C0 hK hE (N := to + 1 - fr) hI hV hnp (by omega) htp (by omega) (by omega) hP hD hS (Nat.lt_succ_self k) hno upd_at upd_at upd_at upd_at e1 e2 hd7 he7 hw hl (by omega) (by omega) hft (fun H locs ls hP hD hS hl => ?_)
  refine lv_iinc (v := nI (k + 1)) (lv' := [(14, .int (nI (k + 1))), (0, .ref b), (1, .ref (ad 0)), (2, .ref (ad 12)), (3, .ref (ad 13)), (4, .ref (ad 14)), (7, .int (nI np))]) hx hb dL_law_1175 hl (k := 6) rfl (nI_1 k) (by decide) rfl (fun ls hl => ?_)
  refine lv_goto (tgt := 781) hx hb dL_law_1178 (by decide) ?_
  refine W.widen (k := cells + 40) (n := slots + 500) (by omega) (by omega) ?_
  exact kk _ _ _ ls ⟨own, P, M, V, S, T, n, cel, ind, cr, num, cur, du, wi, dm, _, _, _, _, _, hI, hnp, hV⟩ hP hD hS (lv_sub hl [1, 2, 3, 4, 5, 6, 0] rfl)
set_option maxHeartbeats 4000000 in
set_option maxRecDepth 100000 in
theorem claims30 {p : Program} {l : Launch} {e : Env} {s : State} {m : MethodId} {below : List Frame} {meth : Method} {c : Code} (hnt : l.stackTraces = false) {G : va_G} {tys : List (ClassId × FieldType)} {tE mi : Nat} {cI cO : ClassId} (htI : tI tys cI) (htO : tO tys cO) {b L : Nat} {xs : Nat → Int32} (hL : L ≤ 260) (C0 : lw_At p s m meth c b L xs) {ad : Nat → Nat} (hK : va_K G vwCl tys s) (hE : env (fun q : Nat => s.heap.size ≤ q) tE mi s s.heap) {np : Nat} (hnp : np ≤ 57) : ∀ (d k cells slots : Nat), k + d = 8 → cells + 40 * d ≤ 600130 → slots + 500 * d ≤ 7301080 → ∀ (ws : va_W) (H : Heap) (locs : List Loc) (ls : Array Slot), ci cI cO tE ad np k ws → va_P G vwCl ws H → va_D (fun q : Nat => s.heap.size ≤ q) ws → va_S (fun q : Nat => s.heap.size ≤ q) s.heap H locs → lv_has ls 26 [(0, .ref b), (1, .ref (ad 0)), (2, .ref (ad 12)), (3, .ref (ad 13)), (4, .ref (ad 14)), (7, .int (nI np)), (14, .int (nI k))] → W p l e room_1 s m #[Value.ref b] below meth c H locs (cells) (slots) (lw_Z below #[Value.ref b] s) (F0 m 781 ls []) := by
  have C1 := C0
  obtain ⟨hx, hb, hr, hml, hown, hts0, hX, hbl, hlocks, hgv⟩ := C1
  have hts : ∀ w ∈ wsL_law, w.before #[Value.ref b] s = true := fun w h => hts0 w (wsL_law_in w h)
  have hown : s.vm.findClass RL = some m.cls := hown
  have hA : ∀ q : Nat, s.heap.size ≤ q → (fun q : Nat => s.heap.size ≤ q) q := fun _ h => h
  have hbA : ¬ (fun q : Nat => s.heap.size ≤ q) b := Nat.not_le.mpr hbl
  intro d
  induction d with
  | zero =>
    intro k cells slots hk hc hs ws H locs ls hci hP hD hS hl
    have h8 : k = 8 := by omega
    subst h8
    refine lv_iload hx hb dL_law_781 (lv_at hl 6 rfl) ?_
    refine lv_bipush (v := 8) hx hb dL_law_783 (by decide) ?_
    refine lv_icmp_ge (tgt := 1181) hx hb dL_law_785 (by decide) (fun c785 => ?_) (fun c785 => absurd (show nI 8 ≤ nI 8 from nI_le (Nat.le_refl 8) (by decide)) c785)
    refine lv_iconst (v := 1) hx hb dL_law_1181 (by decide) ?_
    refine va_forget (fun q hq => hS.2.2 q hq) ?_
    refine W.widen (k := 600130) (n := 7301080) (by omega) (by omega) ?_
    exact lw_ret hx hb hr hlocks dL_law_1182
  | succ d ih =>
    intro k cells slots hk hc hs ws H locs ls hci hP hD hS hl
    refine lv_iload hx hb dL_law_781 (lv_at hl 6 rfl) ?_
    refine lv_bipush (v := 8) hx hb dL_law_783 (by decide) ?_
    refine lv_icmp_ge (tgt := 1181) hx hb dL_law_785 (by decide) (fun c785 => absurd c785 (nI_ge (a := k) (b := 8) (by omega) (by decide))) (fun c785 => ?_)
    refine lv_iload hx hb dL_law_788 (lv_at hl 5 rfl) ?_
    refine lv_if_le (tgt := 1181) hx hb dL_law_790 (by decide) (fun cp => ?_) (fun cp => ?_)
    · refine lv_iconst (v := 1) hx hb dL_law_1181 (by decide) ?_
      refine va_forget (fun q hq => hS.2.2 q hq) ?_
      refine W.widen (k := 600130) (n := 7301080) (by omega) (by omega) ?_
      exact lw_ret hx hb hr hlocks dL_law_1182
    · have hp0 : 0 < np := Nat.pos_of_ne_zero (fun q => cp (by rw [q]; decide))
      refine a_claim hnt htI htO hL C0 hK hE (by omega) hp0 hci hP hD hS hl (by omega) (by omega) (fun w H1 locs1 ls1 hci hP hD hS hl => ?_)
      exact ih (k + 1) _ _ (by omega) (by omega) (by omega) w H1 locs1 ls1 hci hP hD hS hl
-- part 85
/-- the world behind the constructor and the law's five rows -/
def w17 (cI : ClassId) (tE : Nat) (ad : Nat → Nat) : va_W := [(ad 0, .inr (7, [.ref (ad 1), .ref (ad 2), .ref (ad 5), .ref (ad 6), .ref (ad 9), .ref (ad 10), .ref (ad 11)])), (ad 1, .inr (0, [.int 0, .ref tE, .int 0])), (ad 2, .inr (4, [.ref (ad 3), .ref (ad 4), .int 0, .int 0, .int 0])), (ad 3, .inl (cI, 48, .inl (fun _ => 0))), (ad 4, .inl (cI, 20, .inl (fill (-1 : Int32) 20))), (ad 5, .inr (0, [.int 0, .ref tE, .int 0])), (ad 6, .inr (2, [.ref (ad 7), .ref (ad 8), .int 0, .int 0, .int 0, .long 0, .long 0])), (ad 7, .inl (cI, 12, .inl (fill (4 : Int32) 12))), (ad 8, .inl (cI, 12, .inl (fun _ => 0))), (ad 9, .inr (3, [.int 300, .int 700, .int 0])), (ad 10, .inr (0, [.int 0, .ref tE, .int 0])), (ad 11, .inr (0, [.int 0, .ref tE, .int 0])), (ad 12, .inl (cI, 60, .inl (fun _ => 0))), (ad 13, .inl (cI, 60, .inl (fun _ => 0))), (ad 14, .inl (cI, 60, .inl (fun _ => 0))), (ad 15, .inl (cI, 48, .inl (fun _ => 0))), (ad 16, .inl (cI, 20, .inl (fun _ => 0)))]
def own0 (k : Nat) : Nat := if k = 0 then 8 else if k = 1 then 1 else if k < 5 then 2 else if k = 5 then 3 else if k < 9 then 4 else if k = 9 then 5 else if k = 10 then 6 else if k = 11 then 7 else 0
theorem pfL_0 {ws : va_W} {tE pl al id ci : Nat} {cO : ClassId} {vs : Nat → List Value} (h : ws[pl]? = some (al, .inr (0, [.int 0, .ref tE, .int 0]))) (o : own0 pl = id) : pfL own0 ws tE cO id pl al 0 0 (fun _ => 0) (fun _ => 0) ci vs :=
  ⟨⟨0, Or.inl ⟨rfl, h⟩⟩, o, fun q => absurd q (Nat.lt_irrefl 0), fun i hi => absurd hi (Nat.not_lt_zero i), fun i _ hi => absurd hi (Nat.not_lt_zero i)⟩
theorem fOK_0 : fOK 0 (fill (-1 : Int32) 20) := by
  have hf : ∀ k, k < 20 → fill (-1 : Int32) 20 k = -1 := fun k hk => if_pos hk
  exact ⟨fun k hk => Or.inl (hf k hk), fun k _ hk => hf k hk, fun j k hj _ _ hn => absurd (hf j hj) hn⟩
set_option maxHeartbeats 4000000 in
set_option maxRecDepth 100000 in
/-- the first ring: from then on all of it holds -/
theorem op_ring0 {l : Launch} (hnt : l.stackTraces = false) (G : va_G) (tys : List (ClassId × FieldType)) {A : Nat → Prop} {tE mi : Nat} {cI cO : ClassId} (htO : tO tys cO) (ad : Nat → Nat) (x y : Int32) (x1 : 1 ≤ x.toInt) (x2 : x.toInt ≤ 100) (y1 : 50 ≤ y.toInt) (y2 : y.toInt ≤ 1000) : Met l yX7_ring wsX7_ring { frames := 8, cells := 5, slots := 223, locals := 225 } (pcX G tys (w17 cI tE ad) A tE mi [.ref (ad 0), .int x, .int y]) (va_Qi (fun (r : Int32) (w : va_W) => r = 0 ∧ ∃ (own : Nat → Nat) (cel : Nat → Int32), inv cI cO tE ad own w ((fun _ => (0 : Int32))) ((fun _ => (0 : Int32))) ((fun _ => (0 : Int32))) ((fun _ => (0 : Int32))) ((fun _ => (0 : Int32))) 0 cel x y 0 0 0 0 0 0 0 ((fun _ => (0 : Int32))) ((fun _ => (0 : Int32))) ((fun _ => (0 : Int32))) ((fun _ => (0 : Int32))) ((fun _ _ => (0 : Int32)))) (fun w t => va_P G vwCl w t.heap ∧ va_D A w) A) 5 223 A := by
  have hcd : cdRing x y (nI 0) = 0 := cd_if (oR_of (a := 1) (b := 100) (by decide) (by decide) rfl x1 x2) (cd_if (oR_of (a := 50) (b := 1000) (by decide) (by decide) rfl y1 y2) (cd_if (by decide) rfl))
  have hL9 : pfL own0 (w17 cI tE ad) tE cO 3 5 (ad 5) 0 0 (fun _ => 0) (fun _ => 0) 6 (fun _ => [.int 0, .int 0, .int 0, .int 0, .int 0]) := pfL_0 rfl rfl
  have hv : (w17 cI tE ad)[0]? = some (ad 0, .inr (7, [.ref (ad 1), .ref (ad 2), .ref (ad 5), .ref (ad 6), .ref (ad 9), .ref (ad 10), .ref (ad 11)])) := rfl
  refine mopI (vx_ok (metX7_ring (gR := fun _ => 0) (ri := fun _ => 0) (rc := fun _ => 0) (rf := fun _ => 0) (rn := fun _ => 0) (rs := fun _ => 0) l hnt G tys (w17 cI tE ad) htO hv hL9.1 (fun i hi => absurd hi (Nat.not_lt_zero i)) x y (by decide)) hcd) (fun r u h => ?_)
  obtain ⟨-, h3, h4⟩ := h
  obtain ⟨q2, hL2, hc, -, -⟩ := hL9.add (by decide) h4
  have h0 : ¬ x = 0 := fun q => by rw [q] at x1; exact absurd x1 (by decide)
  refine ⟨h3, _, fill (-1 : Int32) 20, iV.kp (own := own0) (ws := w17 cI tE ad) ⟨rfl, rfl⟩ (hc.kpt (by decide)), iL.kp (own := own0) (ws := w17 cI tE ad) ⟨⟨rfl, rfl⟩, ⟨rfl, rfl⟩, ⟨rfl, rfl⟩, ⟨rfl, rfl⟩, rfl, rfl⟩ (hc.kpt (by decide)), iF.kp (own := own0) (ws := w17 cI tE ad) ⟨ad 3, ad 4, 0, 0, fun _ => 0, rfl, rfl, rfl, rfl, rfl, rfl, by decide, fOK_0⟩ (hc.kpt (by decide)), ⟨q2, _, _, 0, 0, hL2.vs (fun i hi => if_pos (by omega)), h0, ⟨x1, x2⟩, ⟨y1, y2⟩, by decide, by decide⟩, iC.kp (own := own0) (ws := w17 cI tE ad) ⟨7, 8, ad 7, ad 8, fill (4 : Int32) 12, fun _ => 0, 0, rfl, rfl, rfl, by decide, rfl, rfl, rfl⟩ (hc.kpt (by decide)), iP.kp (own := own0) (ws := w17 cI tE ad) ⟨0, fun _ => 0, fun _ => 0, pfL_0 rfl rfl, by decide⟩ (hc.kpt (by decide)), iM.kp (own := own0) (ws := w17 cI tE ad) ⟨0, fun _ => 0, fun _ => 0, fun _ => 0, fun _ => 0, pfL_0 rfl rfl, fun i hi => absurd hi (Nat.not_lt_zero i), fun i _ hi => absurd hi (Nat.not_lt_zero i), by decide, fun i hi => absurd hi (Nat.not_lt_zero i)⟩ (hc.kpt (by decide))⟩
-- part 86
set_option maxHeartbeats 4000000 in
set_option maxRecDepth 100000 in
/-- YOUR PART: from the entry, for every script of at most 260 ints, the law comes to its end with true -/
theorem whole_start {p : Program} {e : Env} {s : State} {m : MethodId} {below : List Frame} {meth : Method} {c : Code} (l : Launch) (hflags : l.flags = flags0) {b L : Nat} {xs : Nat → Int32} (hL : L ≤ 260) (C0 : lw_At p s m meth c b L xs) : W p l e room_1 s m #[Value.ref b] below meth c s.heap [] 0 0 (lw_Z below #[Value.ref b] s) (entryFrame m ([Value.ref b] : List Value).toArray 26) := by
  have hnt : l.stackTraces = false := by unfold Launch.stackTraces; rw [hflags]; decide +kernel
  have C1 := C0
  obtain ⟨hx, hb, hr, hml, hown, hts0, hX, hbl, hlocks, hgv⟩ := C1
  have hts : ∀ w ∈ wsL_law, w.before #[Value.ref b] s = true := fun w h => hts0 w (wsL_law_in w h)
  have hown : s.vm.findClass RL = some m.cls := hown
  have hA : ∀ q : Nat, s.heap.size ≤ q → (fun q : Nat => s.heap.size ≤ q) q := fun _ h => h
  have hbA : ¬ (fun q : Nat => s.heap.size ≤ q) b := Nat.not_le.mpr hbl
  obtain ⟨tE, mi, hE⟩ := env_start C0
  obtain ⟨G, cI, cO, hK⟩ := K_start hts0
  obtain ⟨tys, htys⟩ : ∃ t : List (ClassId × FieldType), t = [(cI, .int), (cO, .object "java/lang/Object")] := ⟨_, rfl⟩
  rw [← htys] at hK
  have htI : tI tys cI := by rw [htys]; rfl
  have htO : tO tys cO := by rw [htys]; rfl
  have hS : va_S (fun q : Nat => s.heap.size ≤ q) s.heap s.heap [] := va_S.rf
  have hP : va_P G vwCl [] s.heap := fun k q h => by simp at h
  have hD : va_D (fun q : Nat => s.heap.size ≤ q) [] := ⟨fun i j p q h => by simp at h, fun k q h => by simp at h⟩
  have hl := lv_entry ([.ref b]) (n := 26) (Nat.le_of_ble_eq_true rfl)
  rw [lg_entry_eq]
  generalize (lg_sl ([.ref b]) ++ List.replicate (26 - (lg_sl ([.ref b])).length) Slot.unset).toArray = ls at hl ⊢
  have hl : lv_has ls 26 [(0, .ref b)] := hl
  refine va_new (D := G) (ci := 7) (fs := [.null, .null, .null, .null, .null, .null, .null]) (C := RX7) (T := TX7) (N := 7) hx hb hts inlX7 tyX7 tyX7_ok hown (hts0 (.classLink RL 8 RX7) (by decide +kernel)) (hts0 (.instantiable RX7 7) (by decide +kernel)) (hts0 (.initialized RX7) (by decide +kernel)) hK hP hD hS hA rfl (fun j hj => by rcases (show j = 0 ∨ j = 1 ∨ j = 2 ∨ j = 3 ∨ j = 4 ∨ j = 5 ∨ j = 6 by omega) with rfl | rfl | rfl | rfl | rfl | rfl | rfl <;> rfl) (Nat.le_of_ble_eq_true rfl) (Nat.le_of_ble_eq_true rfl) dL_law_0 (fun v H hP hD hS => ?_)
  have hP : va_P G vwCl [(v, .inr (7, [.null, .null, .null, .null, .null, .null, .null]))] H := hP
  have hD : va_D (fun q : Nat => s.heap.size ≤ q) [(v, .inr (7, [.null, .null, .null, .null, .null, .null, .null]))] := hD
  refine lv_dup hx hb dL_law_3 rfl ?_
  refine va_callv (va_runI (As := []) (rest := [.ref v]) ⟨hx, hb, hml, hown, hts⟩ (metX7_init l G tys (mi := mi) htI) (cwI 0 hts gL_law_X7_init rfl rfl rfl (hts0 (.initialized RX7) (by decide +kernel)) (hts0 (.methodLink RL 10 yX7_init) (by decide +kernel)) (hts0 (.instanceMethod yX7_init) (by decide +kernel)) rfl (by decide +kernel) ⟨Nat.le_of_ble_eq_true rfl, Nat.le_of_ble_eq_true rfl⟩) ⟨pcX_b, pcX_u hP hK hD hS hA hE⟩ rfl rfl hl.1 rfl (lv_room (Nat.le_of_ble_eq_true rfl)) dL_law_4 ⟨Nat.le_of_ble_eq_true rfl, Nat.le_of_ble_eq_true rfl⟩) hS (fun q _ h => h) (fun q h => h) (fun ai t H locs ht hvm hu hB hsz hk1 hS => ?_)
  rw [ht] at hB
  obtain ⟨hP, hD⟩ := hB
  refine lv_astore_n (lv' := [(1, .ref v), (0, .ref b)]) hx hb dL_law_7 rfl hl (by decide) rfl (fun ls hl => ?_)
  refine lv_bipush (v := 60) hx hb dL_law_8 (by decide) ?_
  refine va_newa (atype := .int) (n := 60) (N' := 60) (a0 := (60, .inl (fun _ => 0))) hx hb (hts0 (.arrayClass .int) (by decide +kernel)) rfl hK hP hD hS hA (fun _ => rfl) (by decide) (by decide) (by decide) (Nat.le_of_ble_eq_true rfl) (Nat.le_of_ble_eq_true rfl) dL_law_10 (fun q12 cA H hK2 hP hD hS => ?_)
  have hz2 : (tys ++ [(cA, FieldType.int)])[tys.length]? = some (cA, .int) := by simp
  have hcA : cA = cI := Option.some.inj ((va_nm_int (hK2.2 tys.length _ hz2).2).symm.trans (va_nm_int (hK.2 0 _ htI).2))
  rw [hcA] at hP hD
  refine lv_astore_n (lv' := [(2, .ref q12), (1, .ref v), (0, .ref b)]) hx hb dL_law_12 rfl hl (by decide) rfl (fun ls hl => ?_)
  refine lv_bipush (v := 60) hx hb dL_law_13 (by decide) ?_
  refine va_newa (atype := .int) (n := 60) (N' := 60) (a0 := (60, .inl (fun _ => 0))) hx hb (hts0 (.arrayClass .int) (by decide +kernel)) rfl hK hP hD hS hA (fun _ => rfl) (by decide) (by decide) (by decide) (Nat.le_of_ble_eq_true rfl) (Nat.le_of_ble_eq_true rfl) dL_law_15 (fun q13 cA H hK2 hP hD hS => ?_)
  have hz2 : (tys ++ [(cA, FieldType.int)])[tys.length]? = some (cA, .int) := by simp
  have hcA : cA = cI := Option.some.inj ((va_nm_int (hK2.2 tys.length _ hz2).2).symm.trans (va_nm_int (hK.2 0 _ htI).2))
  rw [hcA] at hP hD
  refine lv_astore_n (lv' := [(3, .ref q13), (2, .ref q12), (1, .ref v), (0, .ref b)]) hx hb dL_law_17 rfl hl (by decide) rfl (fun ls hl => ?_)
  refine lv_bipush (v := 60) hx hb dL_law_18 (by decide) ?_
  refine va_newa (atype := .int) (n := 60) (N' := 60) (a0 := (60, .inl (fun _ => 0))) hx hb (hts0 (.arrayClass .int) (by decide +kernel)) rfl hK hP hD hS hA (fun _ => rfl) (by decide) (by decide) (by decide) (Nat.le_of_ble_eq_true rfl) (Nat.le_of_ble_eq_true rfl) dL_law_20 (fun q14 cA H hK2 hP hD hS => ?_)
  have hz2 : (tys ++ [(cA, FieldType.int)])[tys.length]? = some (cA, .int) := by simp
  have hcA : cA = cI := Option.some.inj ((va_nm_int (hK2.2 tys.length _ hz2).2).symm.trans (va_nm_int (hK.2 0 _ htI).2))
  rw [hcA] at hP hD
  refine lv_astore (lv' := [(4, .ref q14), (3, .ref q13), (2, .ref q12), (1, .ref v), (0, .ref b)]) hx hb dL_law_22 hl (by decide) rfl (fun ls hl => ?_)
  refine lv_bipush (v := 48) hx hb dL_law_24 (by decide) ?_
  refine va_newa (atype := .int) (n := 48) (N' := 48) (a0 := (48, .inl (fun _ => 0))) hx hb (hts0 (.arrayClass .int) (by decide +kernel)) rfl hK hP hD hS hA (fun _ => rfl) (by decide) (by decide) (by decide) (Nat.le_of_ble_eq_true rfl) (Nat.le_of_ble_eq_true rfl) dL_law_26 (fun q15 cA H hK2 hP hD hS => ?_)
  have hz2 : (tys ++ [(cA, FieldType.int)])[tys.length]? = some (cA, .int) := by simp
  have hcA : cA = cI := Option.some.inj ((va_nm_int (hK2.2 tys.length _ hz2).2).symm.trans (va_nm_int (hK.2 0 _ htI).2))
  rw [hcA] at hP hD
  refine lv_astore (lv' := [(5, .ref q15), (4, .ref q14), (3, .ref q13), (2, .ref q12), (1, .ref v), (0, .ref b)]) hx hb dL_law_28 hl (by decide) rfl (fun ls hl => ?_)
  refine lv_bipush (v := 20) hx hb dL_law_30 (by decide) ?_
  refine va_newa (atype := .int) (n := 20) (N' := 20) (a0 := (20, .inl (fun _ => 0))) hx hb (hts0 (.arrayClass .int) (by decide +kernel)) rfl hK hP hD hS hA (fun _ => rfl) (by decide) (by decide) (by decide) (Nat.le_of_ble_eq_true rfl) (Nat.le_of_ble_eq_true rfl) dL_law_32 (fun q16 cA H hK2 hP hD hS => ?_)
  have hz2 : (tys ++ [(cA, FieldType.int)])[tys.length]? = some (cA, .int) := by simp
  have hcA : cA = cI := Option.some.inj ((va_nm_int (hK2.2 tys.length _ hz2).2).symm.trans (va_nm_int (hK.2 0 _ htI).2))
  rw [hcA] at hP hD
  refine lv_astore (lv' := [(6, .ref q16), (5, .ref q15), (4, .ref q14), (3, .ref q13), (2, .ref q12), (1, .ref v), (0, .ref b)]) hx hb dL_law_34 hl (by decide) rfl (fun ls hl => ?_)
  refine lv_iconst (v := 0) hx hb dL_law_36 (by decide) ?_
  refine lv_istore (lv' := [(7, .int (0 : Int32)), (6, .ref q16), (5, .ref q15), (4, .ref q14), (3, .ref q13), (2, .ref q12), (1, .ref v), (0, .ref b)]) hx hb dL_law_37 hl (by decide) rfl (fun ls hl => ?_)
  refine lv_iconst (v := 0) hx hb dL_law_39 (by decide) ?_
  refine lv_istore (lv' := [(8, .int (0 : Int32)), (7, .int (0 : Int32)), (6, .ref q16), (5, .ref q15), (4, .ref q14), (3, .ref q13), (2, .ref q12), (1, .ref v), (0, .ref b)]) hx hb dL_law_40 hl (by decide) rfl (fun ls hl => ?_)
  refine lv_lconst (v := 0) hx hb dL_law_42 (by decide) ?_
  refine lv_lstore (lv' := [(9, .long 0), (8, .int (0 : Int32)), (7, .int (0 : Int32)), (6, .ref q16), (5, .ref q15), (4, .ref q14), (3, .ref q13), (2, .ref q12), (1, .ref v), (0, .ref b)]) hx hb dL_law_43 hl (by decide) rfl (fun ls hl => ?_)
  obtain ⟨ad, z0, z1, z2, z3, z4, z5, z6, z7, z8, z9, z10, z11, z12, z13, z14, z15, z16⟩ : ∃ ad : Nat → Nat, ad 0 = v ∧ ad 1 = ai 1 ∧ ad 2 = ai 2 ∧ ad 3 = ai 3 ∧ ad 4 = ai 4 ∧ ad 5 = ai 5 ∧ ad 6 = ai 6 ∧ ad 7 = ai 7 ∧ ad 8 = ai 8 ∧ ad 9 = ai 9 ∧ ad 10 = ai 10 ∧ ad 11 = ai 11 ∧ ad 12 = q12 ∧ ad 13 = q13 ∧ ad 14 = q14 ∧ ad 15 = q15 ∧ ad 16 = q16 := ⟨fun z => if z = 0 then v else if z = 12 then q12 else if z = 13 then q13 else if z = 14 then q14 else if z = 15 then q15 else if z = 16 then q16 else ai z, rfl, rfl, rfl, rfl, rfl, rfl, rfl, rfl, rfl, rfl, rfl, rfl, rfl, rfl, rfl, rfl, rfl⟩
  have hP : va_P G vwCl (w17 cI tE ad) H := by simp only [w17, z0, z1, z2, z3, z4, z5, z6, z7, z8, z9, z10, z11, z12, z13, z14, z15, z16]; exact hP
  have hD : va_D (fun q : Nat => s.heap.size ≤ q) (w17 cI tE ad) := by simp only [w17, z0, z1, z2, z3, z4, z5, z6, z7, z8, z9, z10, z11, z12, z13, z14, z15, z16]; exact hD
  have hl : lv_has ls 26 [(9, .long 0), (8, .int (0 : Int32)), (7, .int (0 : Int32)), (6, .ref (ad 16)), (5, .ref (ad 15)), (4, .ref (ad 14)), (3, .ref (ad 13)), (2, .ref (ad 12)), (1, .ref (ad 0)), (0, .ref b)] := by simp only [z0, z12, z13, z14, z15, z16]; exact hl
  refine W.widen (k := 100) (n := 2000) (Nat.le_of_ble_eq_true rfl) (Nat.le_of_ble_eq_true rfl) ?_
  refine lv_aload_n hx hb dL_law_45 rfl (lv_at hl 9 rfl) ?_
  refine lv_iconst (v := 0) hx hb dL_law_46 (by decide) ?_
  refine re_i (y := nI 0) (show (0 : Int32) = nI 0 from rfl) ?_
  refine vp_callSi (va_Run.run (va_runS (As := [.ref b, .int (nI 0)]) (rest := []) ⟨hx, hb, hml, hown, hts⟩ (metL_cell l hL 0 (by decide)) (va_cwS 2 hts gL_law_L_cell rfl rfl rfl (by decide +kernel) ⟨Nat.le_of_ble_eq_true rfl, Nat.le_of_ble_eq_true rfl⟩) ⟨pcS_b, pcS_u hX hbl hbA hS⟩ rfl rfl hl.1 rfl (lv_room (Nat.le_of_ble_eq_true rfl)) dL_law_47 ⟨by show 100 + 0 ≤ 600130; omega, by show 2000 + 0 ≤ 7301080; omega⟩)) (fun r h => ?_)
  refine lv_ldc (v := 2147483647) hx hb hown (hts0 _ cw_17) dL_law_50 ?_
  refine lv_iand hx hb dL_law_52 ?_
  obtain ⟨X, hX31, eX⟩ := pk_andE r (m := 2147483647) 31 (by decide +kernel)
  refine re_i (y := nI X) (eX) ?_
  refine lv_istore (lv' := [(11, .int (nI X)), (9, .long 0), (8, .int (0 : Int32)), (7, .int (0 : Int32)), (6, .ref (ad 16)), (5, .ref (ad 15)), (4, .ref (ad 14)), (3, .ref (ad 13)), (2, .ref (ad 12)), (1, .ref (ad 0)), (0, .ref b)]) hx hb dL_law_53 hl (by decide) rfl (fun ls hl => ?_)
  refine lv_iconst (v := 1) hx hb dL_law_55 (by decide) ?_
  refine lv_iload hx hb dL_law_56 (lv_at hl 0 rfl) ?_
  refine lv_bipush (v := 100) hx hb dL_law_58 (by decide) ?_
  refine re_i (y := nI 100) (show (100 : Int32) = nI 100 from rfl) ?_
  refine vp_callSi (va_Run.run (va_runS (As := [.int (nI X), .int (nI 100)]) (rest := [.int (1 : Int32)]) ⟨hx, hb, hml, hown, hts⟩ (metL_at l X 100 (by omega) (by decide) (by decide)) (va_cwS 2 hts gL_law_L_at rfl rfl rfl (by decide +kernel) ⟨Nat.le_of_ble_eq_true rfl, Nat.le_of_ble_eq_true rfl⟩) ⟨pc0_b, pc0_u⟩ rfl rfl hl.1 rfl (lv_room (Nat.le_of_ble_eq_true rfl)) dL_law_60 ⟨by show 100 + 0 ≤ 600130; omega, by show 2000 + 0 ≤ 7301080; omega⟩)) (fun r h => ?_)
  obtain ⟨k60, hk60, rfl⟩ := h
  refine lv_iadd hx hb dL_law_63 ?_
  refine re_i (y := nI (1 + k60)) (nI_add 1 k60) ?_
  refine lv_istore (lv' := [(12, .int (nI (1 + k60))), (11, .int (nI X)), (9, .long 0), (8, .int (0 : Int32)), (7, .int (0 : Int32)), (6, .ref (ad 16)), (5, .ref (ad 15)), (4, .ref (ad 14)), (3, .ref (ad 13)), (2, .ref (ad 12)), (1, .ref (ad 0)), (0, .ref b)]) hx hb dL_law_64 hl (by decide) rfl (fun ls hl => ?_)
  refine lv_bipush (v := 50) hx hb dL_law_66 (by decide) ?_
  refine lv_iload hx hb dL_law_68 (lv_at hl 1 rfl) ?_
  refine lv_bipush (v := 8) hx hb dL_law_70 (by decide) ?_
  refine lv_ishr hx hb dL_law_72 ?_
  refine re_i (y := nI (X / 2 ^ 8)) (pk_shrN hX31 _ 8 (by decide +kernel)) ?_
  refine lv_sipush (v := 500) hx hb dL_law_73 (by decide) ?_
  refine re_i (y := nI 500) (show (500 : Int32) = nI 500 from rfl) ?_
  refine vp_callSi (va_Run.run (va_runS (As := [.int (nI (X / 2 ^ 8)), .int (nI 500)]) (rest := [.int (50 : Int32)]) ⟨hx, hb, hml, hown, hts⟩ (metL_at l (X / 2 ^ 8) 500 (by omega) (by decide) (by decide)) (va_cwS 2 hts gL_law_L_at rfl rfl rfl (by decide +kernel) ⟨Nat.le_of_ble_eq_true rfl, Nat.le_of_ble_eq_true rfl⟩) ⟨pc0_b, pc0_u⟩ rfl rfl hl.1 rfl (lv_room (Nat.le_of_ble_eq_true rfl)) dL_law_76 ⟨by show 100 + 0 ≤ 600130; omega, by show 2000 + 0 ≤ 7301080; omega⟩)) (fun r h => ?_)
  obtain ⟨k76, hk76, rfl⟩ := h
  refine lv_iadd hx hb dL_law_79 ?_
  refine re_i (y := nI (50 + k76)) (nI_add 50 k76) ?_
  refine lv_istore (lv' := [(13, .int (nI (50 + k76))), (12, .int (nI (1 + k60))), (11, .int (nI X)), (9, .long 0), (8, .int (0 : Int32)), (7, .int (0 : Int32)), (6, .ref (ad 16)), (5, .ref (ad 15)), (4, .ref (ad 14)), (3, .ref (ad 13)), (2, .ref (ad 12)), (1, .ref (ad 0)), (0, .ref b)]) hx hb dL_law_80 hl (by decide) rfl (fun ls hl => ?_)
  refine lv_aload_n hx hb dL_law_82 rfl (lv_at hl 11 rfl) ?_
  refine lv_iload hx hb dL_law_83 (lv_at hl 1 rfl) ?_
  refine lv_iload hx hb dL_law_85 (lv_at hl 0 rfl) ?_
  have hv0 : (w17 cI tE ad)[0]? = some (ad 0, .inr (7, [.ref (ad 1), .ref (ad 2), .ref (ad 5), .ref (ad 6), .ref (ad 9), .ref (ad 10), .ref (ad 11)])) := rfl
  have hx1 : (nI (1 + k60)).toInt = 1 + (k60 : Int) := by rw [nI_toInt (by omega)]; omega
  have hy1 : (nI (50 + k76)).toInt = 50 + (k76 : Int) := by rw [nI_toInt (by omega)]; omega
  refine va_calli (va_runV (As := [.int (nI (1 + k60)), .int (nI (50 + k76))]) (rest := []) ⟨hx, hb, hml, hown, hts⟩ (op_ring0 hnt G tys htO ad (nI (1 + k60)) (nI (50 + k76)) (by omega) (by omega) (by omega) (by omega)) (cwV 2 hts gL_law_X7_ring rfl rfl rfl (by decide +kernel) ⟨Nat.le_of_ble_eq_true rfl, Nat.le_of_ble_eq_true rfl⟩) ⟨pcX_b, va_recv hK hP (ci := 7) (q0 := 0) rfl hv0, pcX_u hP hK hD hS hA hE⟩ rfl rfl hl.1 rfl (lv_room (Nat.le_of_ble_eq_true rfl)) dL_law_87 ⟨by show 100 + 5 ≤ 600130; omega, by show 2000 + 223 ≤ 7301080; omega⟩) hS (fun q _ h => h) (fun q h => h) (fun r w t H locs ht hvm hq hB hsz hk1 hS => ?_)
  rw [ht] at hB
  obtain ⟨hP, hD⟩ := hB
  obtain ⟨er, own, cel, hI⟩ := hq
  refine re_i (y := 0) (er) ?_
  refine lv_if_eq (tgt := 95) hx hb dL_law_90 (by decide) (fun c90 => ?_) (fun c90 => absurd (rfl) c90)
  refine lv_iconst (v := 0) hx hb dL_law_95 (by decide) ?_
  refine lv_istore (lv' := [(14, .int (0 : Int32)), (13, .int (nI (50 + k76))), (12, .int (nI (1 + k60))), (11, .int (nI X)), (9, .long 0), (8, .int (0 : Int32)), (7, .int (0 : Int32)), (6, .ref (ad 16)), (5, .ref (ad 15)), (4, .ref (ad 14)), (3, .ref (ad 13)), (2, .ref (ad 12)), (1, .ref (ad 0)), (0, .ref b)]) hx hb dL_law_96 hl (by decide) rfl (fun ls hl => ?_)
  have hti : ti cI cO tE ad (nI (1 + k60)) (nI (50 + k76)) 0 0 0 w := ⟨_, _, _, _, _, _, _, _, _, _, _, _, _, _, _, _, _, hI, by decide +kernel, fun k _ h9 => absurd h9 (show ¬ (0 : Int32) = 1 by decide), by decide, fun i hi => absurd hi (Nat.not_lt_zero i)⟩
  refine turns hnt htI htO hL C0 hK hE (C9 := 7000) (S9 := 200000) (by omega) (by omega) (fun n np al ws H locs ls hti hP hD hS hl => ?_) 60 0 _ _ (by omega) (by show 100 + 5 + 100 * 60 ≤ 7000; omega) (by show 2000 + 223 + 2000 * 60 ≤ 200000; omega) 0 0 0 w _ _ ls hti hP hD hS (lv_sub hl [13, 12, 11, 10, 9, 8, 7, 6, 5, 4, 2, 1, 0] rfl)
  refine lv_iconst (v := 0) hx hb dL_law_778 (by decide) ?_
  refine lv_istore (lv' := [(14, .int (0 : Int32)), (0, .ref b), (1, .ref (ad 0)), (2, .ref (ad 12)), (3, .ref (ad 13)), (4, .ref (ad 14)), (5, .ref (ad 15)), (6, .ref (ad 16)), (7, .int (nI np)), (8, .int (nI n)), (9, .long al), (12, .int (nI (1 + k60))), (13, .int (nI (50 + k76)))]) hx hb dL_law_779 hl (by decide) rfl (fun ls hl => ?_)
  obtain ⟨own, P, M, V, S, T, cel, ct, cf, co, ca, wd, num, cur, du, wi, dm, hI, hal, hT, hnp, hV⟩ := hti
  exact claims30 hnt htI htO hL C0 hK hE hnp 8 0 _ _ (by omega) (by omega) (by omega) ws H _ ls ⟨_, _, _, _, _, _, _, _, _, _, _, _, _, _, _, _, _, _, _, _, hI, hnp, hV⟩ hP hD hS (lv_sub hl [1, 2, 3, 4, 5, 8, 0] rfl)
-- part 87
set_option maxHeartbeats 4000000 in
theorem lw_walk (l : Launch) (hflags : l.flags = flags0) (b : Addr) (xs : List Int32) : MetFree l x (headSpec (Jvm.Cond.code x code maxLocals ret :: tables_1) room_1) (lw_P b xs) (fun _ _ _ _ _ => True) lw_Q := by
  refine MetFree.of_bodyS (code := code) (maxLocals := maxLocals) (ret := ret) (by decide) ?_ ?_
  · intro args s m h hn
    obtain ⟨meth, c, h1, h2, h3, h4, h5, h6, -, -⟩ := Cond.code_spec hn (atoms_spec (ws := Jvm.Cond.code x code maxLocals ret :: tables_1) h _ List.mem_cons_self)
    exact ⟨meth, c, h1, h2, h3, h4, h5, h6⟩
  · intro p e s m args below meth c s₁ B hml0 hP _
    obtain ⟨rfl, hx, hbd, hgv⟩ := hP
    obtain ⟨scr, harrAt, hlist, hof, hsmall⟩ := hx
    obtain ⟨hcb, hkn, -, -⟩ := State.arrayAt?_spec harrAt
    have hown : s.vm.findClass R_law = some m.cls := findClass_of_methodNamed B.named
    have hts0 : ∀ c ∈ (Jvm.Cond.code x code maxLocals ret :: tables_1), c.before #[Value.ref b] s = true := atoms_spec (ws := Jvm.Cond.code x code maxLocals ret :: tables_1) B.pre
    have hts : ∀ w ∈ lw_tbl, w.before #[Value.ref b] s = true := k2_hts_sels lw_privs (fun w hw => hts0 w (List.mem_cons_of_mem _ hw)) lw_privs_ok
    have hml : c.maxLocals = 26 := B.maxLocals_eq (hts0 _ List.mem_cons_self)
    have X₀ : Stand p l e room_1 s m #[Value.ref b] below meth c s₁ [] 0 0 := Stand.of_body B
    have hh0 : s₁.heap = s.heap := by rw [B.state]; rfl
    have hsz : scr.slots.size = xs.length := by rw [← Array.length_toList, hlist, List.length_map]
    have hval : ∀ j : Nat, j < xs.length → scr.slots[j]? = some (.int (xs.getD j 0)) := fun j hj => by
      rw [← Array.getElem?_toList, hlist]
      simp [hj]
    have hbl : b < s.heap.size := (Array.getElem?_eq_some_iff.mp hcb).1
    have hX : va_X b xs.length (fun j => xs.getD j 0) s s.heap := ⟨scr, hcb, hof, hkn, hsz, hval⟩
    have K : W p l e room_1 s m #[Value.ref b] below meth c s₁.heap [] 0 0 (lw_Z below #[Value.ref b] s) (entryFrame m ([Value.ref b] : List Value).toArray 26) := by
      rw [hh0]
      exact whole_start l hflags hbd ⟨B.exec, B.bytes, B.returns, hml, hown, hts, hX, hbl, B.notSynchronized, hgv⟩
    obtain ⟨t, a1, o, b1, b2, b3⟩ := K s₁ rfl X₀
    exact ⟨t, o, a1, b1, b2, b3⟩
theorem lw_pre_spec {args : Array Value} {s : State} (h : (Jvm.Cond.and given_1 narrow_1).before args s = true) (hr : rest_1_c.before args s = true) : ∃ (b : Addr) (xs : List Int32), lw_P b xs args s := by
  have hs := flat_of_before _ h
  have hq := flat_of_before _ hr
  have hc : (Cond.count 1).before args s = true := hs _ (by decide +kernel)
  have harr : (Cond.arrayOf (.arg 0) .int).before args s = true := hs _ (by decide +kernel)
  have hle : (Cond.le (.length (.arg 0)) (.int 260)).before args s = true := hs _ (by decide +kernel)
  have hlen : (Cond.isInt (.length (.arg 0))).before args s = true := hq _ (by decide +kernel)
  have hall : (Cond.all (.arg 0) (.isInt (.elem (.arg 0) (.index 0)))).before args s = true := hq _ (by decide +kernel)
  obtain ⟨b, xs, hb, hx⟩ := State.ints_of_pre rfl harr hlen hall
  have hsm : xs.length < 2 ^ 31 := hx.choose_spec.2.2.2
  have hev : (Term.length (.arg 0)).eval args s none [] s = some (.int xs.length.toInt32) := hx.length_eval hb
  have hv := Cond.le_ints hev (show (Term.int 260).eval args s none [] s = some (.int 260) from rfl)
  have hd : xs.length.toInt32 ≤ 260 := by
    simpa [Cond.before, Cond.holds, hv] using hle
  have hN : xs.length ≤ 260 := (Int32.ofNat_le_ofNat hsm (by decide)).mp (show Int32.ofNat xs.length ≤ Int32.ofNat 260 from hd)
  exact ⟨b, xs, Cond.one_arg hc (show args[0]? = some (.ref b) from hb), hx, hN, h⟩
theorem lw_comes (l : Launch) (hflags : l.flags = flags0) : Comes l x (Jvm.Cond.code x code maxLocals ret :: tables_1) room_1 (fun tb e args s => Calls_1 tb e args s ∧ rest_1 tb e args s ∧ Pre_1 tb e args s)
    (fun _ _ args s o t => lw_Q args s o t) := by
  intro p e ha hc hk s m args below hf hfit hheap happ hpre
  obtain ⟨b, xs, hP⟩ := lw_pre_spec hpre.2.2 hpre.2.1
  obtain ⟨k, o, h1, h2, h3, hQ⟩ := lw_walk l hflags b xs p e ha hc hk s m args below hf ((Spec.applies_iff_loose hf).mp happ).1 hP trivial
  exact ⟨k, o, h1, h2, h3, hQ⟩
theorem lw_frame {s t : State} {o : Outcome} {args : Array Value} (h : Framed s o t [] 600130 7301080) :
    Framed s o t (fieldLocs frame_1_writes args s ++ arrayLocs frame_1_arrays args s ++ staticLocs frame_1_statics s) 600130 7301080 := h
theorem lw_limb (L : Cond) (hL : ∀ (args : Array Value) (s t : State), L.after args s (.returned (some (.int 1))) t = true) :
    ArmFor flags0 classFile x code maxLocals ret World_1 tables_1 room_1 Calls_1 rest_1 Pre_1
      (fun tb e a s o t => postC L tb e a s o t ∧ Framed s o t (fieldLocs frame_1_writes a s ++ arrayLocs frame_1_arrays a s ++ staticLocs frame_1_statics s) 600130 7301080) := by
  intro l hflags _ _ p e ha hc hk s m args below hf hfit hheap happ hpre
  obtain ⟨k, o, h1, h2, h3, rfl, hF⟩ := lw_comes l hflags p e ha hc hk s m args below hf hfit hheap happ hpre
  exact ⟨k, _, h1, h2, h3, hL args s _, lw_frame hF⟩
theorem i_vc : Claimed_1_1 ∧ Claimed_1_2 := ⟨lw_limb limb_1_1 (fun args s t => by simp [limb_1_1, Cond.after, Cond.holds, Cond.value]), lw_limb limb_1_2 (fun args s t => Cond.after_iff.mpr (by
  first | (rw [show limb_1_2 = Cond.eq .result (.int 1) from rfl, Cond.eq_ints (x := 1) (y := 1) rfl rfl]; simp; done) | (simp [limb_1_2, Cond.value, Term.eval]; done)))⟩
