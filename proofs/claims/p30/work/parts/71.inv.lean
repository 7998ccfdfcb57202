/-! THE PROPERTY'S STATE: what the object and the law's rows hold, by groups; own: to which group a place of the world belongs -/
def kpt (j : Nat) (own own2 : Nat → Nat) (ws w2 : va_W) : Prop := ∀ q x, own q = j → ws[q]? = some x → w2[q]? = some x ∧ own2 q = j
theorem chg.kpt {own own2 : Nat → Nat} {g : Nat} {ws w2 : va_W} (h : chg own own2 g ws w2) {j : Nat} (hj : j ≠ g) : kpt j own own2 ws w2 := fun q x h1 h2 => by
  obtain ⟨h3, h4⟩ := h q x (by rw [h1]; exact hj) h2
  exact ⟨h3, h4.trans h1⟩
section Inv30
variable {cI cO : ClassId} {tE : Nat} {ad : Nat → Nat} {own own2 : Nat → Nat} {ws w2 : va_W} {P M V S T cel ct cf co ca : Nat → Int32} {wd : Nat → Nat → Int32} {n np nc : Nat} {ind cr num cur du : Int32} {wi dm : Int64}
def iV (ad own : Nat → Nat) (ws : va_W) : Prop := ws[0]? = some (ad 0, .inr (7, [.ref (ad 1), .ref (ad 2), .ref (ad 5), .ref (ad 6), .ref (ad 9), .ref (ad 10), .ref (ad 11)])) ∧ own 0 = 8
/-- the law's five rows -/
def iL (cI : ClassId) (ad own : Nat → Nat) (ws : va_W) (P M V S T : Nat → Int32) : Prop := (ws[12]? = some (ad 12, .inl (cI, 60, .inl P)) ∧ own 12 = 0) ∧ (ws[13]? = some (ad 13, .inl (cI, 60, .inl M)) ∧ own 13 = 0) ∧ (ws[14]? = some (ad 14, .inl (cI, 60, .inl V)) ∧ own 14 = 0) ∧ (ws[15]? = some (ad 15, .inl (cI, 48, .inl S)) ∧ own 15 = 0) ∧ (ws[16]? = some (ad 16, .inl (cI, 20, .inl T)) ∧ own 16 = 0)
/-- the film -/
def iF (cI : ClassId) (ad own : Nat → Nat) (ws : va_W) (n : Nat) (cel : Nat → Int32) : Prop := ∃ (a3 a4 : Nat) (dr he : Int32) (dep : Nat → Int32), ws[2]? = some (ad 2, .inr (4, [.ref a3, .ref a4, .int (nI n), .int dr, .int he])) ∧ ws[3]? = some (a3, .inl (cI, 48, .inl dep)) ∧ ws[4]? = some (a4, .inl (cI, 20, .inl cel)) ∧ own 2 = 2 ∧ own 3 = 2 ∧ own 4 = 2 ∧ n ≤ 20 ∧ fOK n cel
/-- the ring -/
def iR (cO : ClassId) (tE : Nat) (ad own : Nat → Nat) (ws : va_W) (ind cr num : Int32) : Prop := ∃ (q : Nat) (e g : Nat → Nat) (fl sl : Int32), pfL own ws tE cO 3 5 (ad 5) 1 q e g 6 (fun _ => [.int ind, .int cr, .int fl, .int num, .int sl]) ∧ ¬ ind = 0 ∧ rgR ind cr fl num
/-- the coil -/
def iC (cI : ClassId) (ad own : Nat → Nat) (ws : va_W) (cur du : Int32) (wi dm : Int64) : Prop := ∃ (pw pz aw az : Nat) (wm sp : Nat → Int32) (ir : Int32), ws[6]? = some (ad 6, .inr (2, [.ref aw, .ref az, .int cur, .int du, .int ir, .long wi, .long dm])) ∧ ws[pw]? = some (aw, .inl (cI, 12, .inl wm)) ∧ ws[pz]? = some (az, .inl (cI, 12, .inl sp)) ∧ pw ≠ pz ∧ own 6 = 4 ∧ own pw = 4 ∧ own pz = 4
/-- the points, as the law's rows have them -/
def iP (cO : ClassId) (tE : Nat) (ad own : Nat → Nat) (ws : va_W) (P M V : Nat → Int32) (np : Nat) : Prop := ∃ (q : Nat) (e g : Nat → Nat), pfL own ws tE cO 6 10 (ad 10) np q e g 5 (fun i => [.int (P i), .int (M i), .int (V i)]) ∧ np ≤ 60
/-- the claims -/
def iM (cI cO : ClassId) (tE : Nat) (ad own : Nat → Nat) (ws : va_W) (np nc : Nat) (ct cf co ca : Nat → Int32) (wd : Nat → Nat → Int32) : Prop := ∃ (q : Nat) (e g gW aW : Nat → Nat), pfL own ws tE cO 7 11 (ad 11) nc q e g 1 (fun i => [.int (ct i), .int (cf i), .int (co i), .int (ca i), .ref (aW i)]) ∧ (∀ i, i < nc → ws[gW i]? = some (aW i, .inl (cI, 7, .inl (wd i))) ∧ own (gW i) = 7) ∧ (∀ i j, i < nc → j < nc → gW i = gW j → i = j) ∧ nc ≤ 8 ∧ ∀ i, i < nc → ∃ a b : Nat, cf i = nI a ∧ co i = nI b ∧ a ≤ b ∧ b < np
theorem iV.kp (h : iV ad own ws) (k : kpt 8 own own2 ws w2) : iV ad own2 w2 := k 0 _ h.2 h.1
theorem iL.kp (h : iL cI ad own ws P M V S T) (k : kpt 0 own own2 ws w2) : iL cI ad own2 w2 P M V S T := ⟨k _ _ h.1.2 h.1.1, k _ _ h.2.1.2 h.2.1.1, k _ _ h.2.2.1.2 h.2.2.1.1, k _ _ h.2.2.2.1.2 h.2.2.2.1.1, k _ _ h.2.2.2.2.2 h.2.2.2.2.1⟩
theorem iF.kp (h : iF cI ad own ws n cel) (k : kpt 2 own own2 ws w2) : iF cI ad own2 w2 n cel := by
  obtain ⟨a3, a4, dr, he, dep, h1, h2, h3, o1, o2, o3, h4, h5⟩ := h
  exact ⟨a3, a4, dr, he, dep, (k 2 _ o1 h1).1, (k 3 _ o2 h2).1, (k 4 _ o3 h3).1, (k 2 _ o1 h1).2, (k 3 _ o2 h2).2, (k 4 _ o3 h3).2, h4, h5⟩
theorem iR.kp (h : iR cO tE ad own ws ind cr num) (k : kpt 3 own own2 ws w2) : iR cO tE ad own2 w2 ind cr num := by
  obtain ⟨q, e, g, fl, sl, h1, h2⟩ := h
  exact ⟨q, e, g, fl, sl, h1.kp k, h2⟩
theorem iC.kp (h : iC cI ad own ws cur du wi dm) (k : kpt 4 own own2 ws w2) : iC cI ad own2 w2 cur du wi dm := by
  obtain ⟨pw, pz, aw, az, wm, sp, ir, h1, h2, h3, h4, o1, o2, o3⟩ := h
  exact ⟨pw, pz, aw, az, wm, sp, ir, (k 6 _ o1 h1).1, (k pw _ o2 h2).1, (k pz _ o3 h3).1, h4, (k 6 _ o1 h1).2, (k pw _ o2 h2).2, (k pz _ o3 h3).2⟩
theorem iP.kp (h : iP cO tE ad own ws P M V np) (k : kpt 6 own own2 ws w2) : iP cO tE ad own2 w2 P M V np := by
  obtain ⟨q, e, g, h1, h2⟩ := h
  exact ⟨q, e, g, h1.kp k, h2⟩
theorem iP.vs {P2 M2 V2 : Nat → Int32} (h : iP cO tE ad own ws P M V np) (hv : ∀ i, i < np → P i = P2 i ∧ M i = M2 i ∧ V i = V2 i) : iP cO tE ad own ws P2 M2 V2 np := by
  obtain ⟨q, e, g, h1, h2⟩ := h
  exact ⟨q, e, g, h1.vs (fun i hi => by obtain ⟨v1, v2, v3⟩ := hv i hi; rw [v1, v2, v3]), h2⟩
theorem iM.kp (h : iM cI cO tE ad own ws np nc ct cf co ca wd) (k : kpt 7 own own2 ws w2) : iM cI cO tE ad own2 w2 np nc ct cf co ca wd := by
  obtain ⟨q, e, g, gW, aW, h1, h2, h3, h4, h5⟩ := h
  exact ⟨q, e, g, gW, aW, h1.kp k, fun i hi => k _ _ (h2 i hi).2 (h2 i hi).1, h3, h4, h5⟩
theorem iM.more {np2 : Nat} (hn : np ≤ np2) (h : iM cI cO tE ad own ws np nc ct cf co ca wd) : iM cI cO tE ad own ws np2 nc ct cf co ca wd := by
  obtain ⟨q, e, g, gW, aW, h1, h2, h3, h4, h5⟩ := h
  refine ⟨q, e, g, gW, aW, h1, h2, h3, h4, fun i hi => ?_⟩
  obtain ⟨a, b, h6, h7, h8, h9⟩ := h5 i hi
  exact ⟨a, b, h6, h7, h8, Nat.lt_of_lt_of_le h9 hn⟩
/-- all of it -/
def inv (cI cO : ClassId) (tE : Nat) (ad own : Nat → Nat) (ws : va_W) (P M V S T : Nat → Int32) (n : Nat) (cel : Nat → Int32) (ind cr num cur du : Int32) (wi dm : Int64) (np nc : Nat) (ct cf co ca : Nat → Int32) (wd : Nat → Nat → Int32) : Prop :=
  iV ad own ws ∧ iL cI ad own ws P M V S T ∧ iF cI ad own ws n cel ∧ iR cO tE ad own ws ind cr num ∧ iC cI ad own ws cur du wi dm ∧ iP cO tE ad own ws P M V np ∧ iM cI cO tE ad own ws np nc ct cf co ca wd
theorem inv.l {P2 M2 V2 S2 T2 : Nat → Int32} (hv : ∀ i, i < np → P i = P2 i ∧ M i = M2 i ∧ V i = V2 i) (h : inv cI cO tE ad own ws P M V S T n cel ind cr num cur du wi dm np nc ct cf co ca wd) (hc : chg own own2 0 ws w2) (hn : iL cI ad own2 w2 P2 M2 V2 S2 T2) : inv cI cO tE ad own2 w2 P2 M2 V2 S2 T2 n cel ind cr num cur du wi dm np nc ct cf co ca wd :=
  ⟨h.1.kp (hc.kpt (by decide)), hn, h.2.2.1.kp (hc.kpt (by decide)), h.2.2.2.1.kp (hc.kpt (by decide)), h.2.2.2.2.1.kp (hc.kpt (by decide)), (h.2.2.2.2.2.1.kp (hc.kpt (by decide))).vs hv, h.2.2.2.2.2.2.kp (hc.kpt (by decide))⟩
theorem inv.f {n2 : Nat} {cel2 : Nat → Int32} (h : inv cI cO tE ad own ws P M V S T n cel ind cr num cur du wi dm np nc ct cf co ca wd) (hc : chg own own2 2 ws w2) (hn : iF cI ad own2 w2 n2 cel2) : inv cI cO tE ad own2 w2 P M V S T n2 cel2 ind cr num cur du wi dm np nc ct cf co ca wd :=
  ⟨h.1.kp (hc.kpt (by decide)), h.2.1.kp (hc.kpt (by decide)), hn, h.2.2.2.1.kp (hc.kpt (by decide)), h.2.2.2.2.1.kp (hc.kpt (by decide)), h.2.2.2.2.2.1.kp (hc.kpt (by decide)), h.2.2.2.2.2.2.kp (hc.kpt (by decide))⟩
theorem inv.r {ind2 cr2 num2 : Int32} (h : inv cI cO tE ad own ws P M V S T n cel ind cr num cur du wi dm np nc ct cf co ca wd) (hc : chg own own2 3 ws w2) (hn : iR cO tE ad own2 w2 ind2 cr2 num2) : inv cI cO tE ad own2 w2 P M V S T n cel ind2 cr2 num2 cur du wi dm np nc ct cf co ca wd :=
  ⟨h.1.kp (hc.kpt (by decide)), h.2.1.kp (hc.kpt (by decide)), h.2.2.1.kp (hc.kpt (by decide)), hn, h.2.2.2.2.1.kp (hc.kpt (by decide)), h.2.2.2.2.2.1.kp (hc.kpt (by decide)), h.2.2.2.2.2.2.kp (hc.kpt (by decide))⟩
theorem inv.c {cur2 du2 : Int32} {wi2 dm2 : Int64} (h : inv cI cO tE ad own ws P M V S T n cel ind cr num cur du wi dm np nc ct cf co ca wd) (hc : chg own own2 4 ws w2) (hn : iC cI ad own2 w2 cur2 du2 wi2 dm2) : inv cI cO tE ad own2 w2 P M V S T n cel ind cr num cur2 du2 wi2 dm2 np nc ct cf co ca wd :=
  ⟨h.1.kp (hc.kpt (by decide)), h.2.1.kp (hc.kpt (by decide)), h.2.2.1.kp (hc.kpt (by decide)), h.2.2.2.1.kp (hc.kpt (by decide)), hn, h.2.2.2.2.2.1.kp (hc.kpt (by decide)), h.2.2.2.2.2.2.kp (hc.kpt (by decide))⟩
theorem inv.p {np2 : Nat} (hnp : np ≤ np2) (h : inv cI cO tE ad own ws P M V S T n cel ind cr num cur du wi dm np nc ct cf co ca wd) (hc : chg own own2 6 ws w2) (hn : iP cO tE ad own2 w2 P M V np2) : inv cI cO tE ad own2 w2 P M V S T n cel ind cr num cur du wi dm np2 nc ct cf co ca wd :=
  ⟨h.1.kp (hc.kpt (by decide)), h.2.1.kp (hc.kpt (by decide)), h.2.2.1.kp (hc.kpt (by decide)), h.2.2.2.1.kp (hc.kpt (by decide)), h.2.2.2.2.1.kp (hc.kpt (by decide)), hn, (h.2.2.2.2.2.2.kp (hc.kpt (by decide))).more hnp⟩
theorem inv.m {nc2 : Nat} {ct2 cf2 co2 ca2 : Nat → Int32} {wd2 : Nat → Nat → Int32} (h : inv cI cO tE ad own ws P M V S T n cel ind cr num cur du wi dm np nc ct cf co ca wd) (hc : chg own own2 7 ws w2) (hn : iM cI cO tE ad own2 w2 np nc2 ct2 cf2 co2 ca2 wd2) : inv cI cO tE ad own2 w2 P M V S T n cel ind cr num cur du wi dm np nc2 ct2 cf2 co2 ca2 wd2 :=
  ⟨h.1.kp (hc.kpt (by decide)), h.2.1.kp (hc.kpt (by decide)), h.2.2.1.kp (hc.kpt (by decide)), h.2.2.2.1.kp (hc.kpt (by decide)), h.2.2.2.2.1.kp (hc.kpt (by decide)), h.2.2.2.2.2.1.kp (hc.kpt (by decide)), hn⟩
theorem inv.w12 (h : inv cI cO tE ad own ws P M V S T n cel ind cr num cur du wi dm np nc ct cf co ca wd) (i : Nat) (x : Int32) (hi : np ≤ i) : inv cI cO tE ad own (ws.set 12 (ad 12, .inl (cI, 60, .inl (upd P i x)))) (upd P i x) M V S T n cel ind cr num cur du wi dm np nc ct cf co ca wd :=
  h.l (fun q hq => ⟨(upd_ne (by omega)).symm, rfl, rfl⟩) (chg.rf.set h.2.1.1.2) ⟨⟨va_ge h.2.1.1.1, h.2.1.1.2⟩, ⟨va_gs (by decide) h.2.1.2.1.1, h.2.1.2.1.2⟩, ⟨va_gs (by decide) h.2.1.2.2.1.1, h.2.1.2.2.1.2⟩, ⟨va_gs (by decide) h.2.1.2.2.2.1.1, h.2.1.2.2.2.1.2⟩, ⟨va_gs (by decide) h.2.1.2.2.2.2.1, h.2.1.2.2.2.2.2⟩⟩
theorem inv.w13 (h : inv cI cO tE ad own ws P M V S T n cel ind cr num cur du wi dm np nc ct cf co ca wd) (i : Nat) (x : Int32) (hi : np ≤ i) : inv cI cO tE ad own (ws.set 13 (ad 13, .inl (cI, 60, .inl (upd M i x)))) P (upd M i x) V S T n cel ind cr num cur du wi dm np nc ct cf co ca wd :=
  h.l (fun q hq => ⟨rfl, (upd_ne (by omega)).symm, rfl⟩) (chg.rf.set h.2.1.2.1.2) ⟨⟨va_gs (by decide) h.2.1.1.1, h.2.1.1.2⟩, ⟨va_ge h.2.1.2.1.1, h.2.1.2.1.2⟩, ⟨va_gs (by decide) h.2.1.2.2.1.1, h.2.1.2.2.1.2⟩, ⟨va_gs (by decide) h.2.1.2.2.2.1.1, h.2.1.2.2.2.1.2⟩, ⟨va_gs (by decide) h.2.1.2.2.2.2.1, h.2.1.2.2.2.2.2⟩⟩
theorem inv.w14 (h : inv cI cO tE ad own ws P M V S T n cel ind cr num cur du wi dm np nc ct cf co ca wd) (i : Nat) (x : Int32) (hi : np ≤ i) : inv cI cO tE ad own (ws.set 14 (ad 14, .inl (cI, 60, .inl (upd V i x)))) P M (upd V i x) S T n cel ind cr num cur du wi dm np nc ct cf co ca wd :=
  h.l (fun q hq => ⟨rfl, rfl, (upd_ne (by omega)).symm⟩) (chg.rf.set h.2.1.2.2.1.2) ⟨⟨va_gs (by decide) h.2.1.1.1, h.2.1.1.2⟩, ⟨va_gs (by decide) h.2.1.2.1.1, h.2.1.2.1.2⟩, ⟨va_ge h.2.1.2.2.1.1, h.2.1.2.2.1.2⟩, ⟨va_gs (by decide) h.2.1.2.2.2.1.1, h.2.1.2.2.2.1.2⟩, ⟨va_gs (by decide) h.2.1.2.2.2.2.1, h.2.1.2.2.2.2.2⟩⟩
theorem inv.w15 (h : inv cI cO tE ad own ws P M V S T n cel ind cr num cur du wi dm np nc ct cf co ca wd) (i : Nat) (x : Int32) : inv cI cO tE ad own (ws.set 15 (ad 15, .inl (cI, 48, .inl (upd S i x)))) P M V (upd S i x) T n cel ind cr num cur du wi dm np nc ct cf co ca wd :=
  h.l (fun q hq => ⟨rfl, rfl, rfl⟩) (chg.rf.set h.2.1.2.2.2.1.2) ⟨⟨va_gs (by decide) h.2.1.1.1, h.2.1.1.2⟩, ⟨va_gs (by decide) h.2.1.2.1.1, h.2.1.2.1.2⟩, ⟨va_gs (by decide) h.2.1.2.2.1.1, h.2.1.2.2.1.2⟩, ⟨va_ge h.2.1.2.2.2.1.1, h.2.1.2.2.2.1.2⟩, ⟨va_gs (by decide) h.2.1.2.2.2.2.1, h.2.1.2.2.2.2.2⟩⟩
theorem inv.w16 (h : inv cI cO tE ad own ws P M V S T n cel ind cr num cur du wi dm np nc ct cf co ca wd) (i : Nat) (x : Int32) : inv cI cO tE ad own (ws.set 16 (ad 16, .inl (cI, 20, .inl (upd T i x)))) P M V S (upd T i x) n cel ind cr num cur du wi dm np nc ct cf co ca wd :=
  h.l (fun q hq => ⟨rfl, rfl, rfl⟩) (chg.rf.set h.2.1.2.2.2.2.2) ⟨⟨va_gs (by decide) h.2.1.1.1, h.2.1.1.2⟩, ⟨va_gs (by decide) h.2.1.2.1.1, h.2.1.2.1.2⟩, ⟨va_gs (by decide) h.2.1.2.2.1.1, h.2.1.2.2.1.2⟩, ⟨va_gs (by decide) h.2.1.2.2.2.1.1, h.2.1.2.2.2.1.2⟩, ⟨va_ge h.2.1.2.2.2.2.1, h.2.1.2.2.2.2.2⟩⟩
theorem inv.n20 (h : inv cI cO tE ad own ws P M V S T n cel ind cr num cur du wi dm np nc ct cf co ca wd) : n ≤ 20 := by
  obtain ⟨-, -, ⟨a3, a4, dr, he, dep, -, -, -, -, -, -, h7, -⟩, -⟩ := h
  exact h7
end Inv30
/-- a method that doesn't refuse returns -/
theorem vx_ok {l : Launch} {y : MethodName} {wy : List Cond} {rm : Room} {Pc : Array Value → State → Prop} {Qc : Array Value → State → Outcome → State → Prop} {cd : Int32} {e1 e2 e3 : String} {mc ms : Nat} {free : Addr → Prop} (h : vx_Met l y wy rm Pc Qc (xcT (fun E => xC cd e1 e2 e3 E)) mc ms free) (hcd : cd = 0) : Met l y wy rm Pc Qc mc ms free :=
  MetFree.mono h (fun _ _ q => q) (fun _ _ _ _ _ q => q) (fun a s o t _ hq => hq.resolve_right (fun ⟨q, _, E, ce, L, ⟨u, _, hx, _⟩, _⟩ => by
    subst hcd
    rcases hx with ⟨z, _⟩ | ⟨z, _⟩ | ⟨z, _⟩
    · exact absurd z (by decide)
    · exact absurd z (by decide)
    · exact absurd z (by decide)))
theorem oR_of {x lo hi : Int32} {a b c : Int} (ha : lo.toInt = a) (hb : hi.toInt = b) (hx : x.toInt = c) (h1 : a ≤ c) (h2 : c ≤ b) : ¬ oR x lo hi := by
  rintro (q | q)
  · rw [Int32.lt_iff_toInt_lt, hx, ha] at q; omega
  · rw [Int32.lt_iff_toInt_lt, hx, hb] at q; omega
theorem uK_no {x n : Int32} {a c : Int} (hn : n.toInt = a) (hx : x.toInt = c) (h1 : 0 ≤ c) (h2 : c < a) : ¬ uK x n := by
  have z0 : (0 : Int32).toInt = 0 := by decide
  rintro (q | q)
  · rw [Int32.lt_iff_toInt_lt, hx, z0] at q; omega
  · rw [Int32.le_iff_toInt_le, hx, hn] at q; omega
theorem cd_if {c : Prop} [Decidable c] {a b : Int32} (h : ¬ c) (hb : b = 0) : (if c then a else b) = 0 := by rw [if_neg h]; exact hb
