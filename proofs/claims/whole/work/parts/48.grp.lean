section Grs
variable {own own2 : Nat → Nat} {ws w2 : va_W} {tE : Nat} {cI cO : ClassId} {z z2 : Nat → Int32} {F F2 : Nat → Nat → Int32} {wi dm wi2 dm2 : Int64}
/-- 1: samples -/
def grS (own : Nat → Nat) (ws : va_W) (tE : Nat) (cO : ClassId) (aS : Nat) (z : Nat → Int32) (F : Nat → Nat → Int32) : Prop :=
  ∃ (n q : Nat) (e g : Nat → Nat), pfL own ws tE cO 1 1 aS n q e g 7 (fun i => [.int (F 13 i), .int (F 14 i), .int (F 15 i), .int (F 16 i), .int (F 17 i)]) ∧ n ≤ 8 ∧ z 1 = nI n ∧ (∀ i, i < n → ¬ F 13 i = 0 ∧ ¬ F 13 i * F 13 i = 0) ∧ ∀ i, n ≤ i → F 16 i = 0 ∧ F 17 i = 0
/-- 2: the film -/
def grF (own : Nat → Nat) (ws : va_W) (cI : ClassId) (af : Nat) (z : Nat → Int32) (F : Nat → Nat → Int32) : Prop :=
  ∃ (a3 a4 n : Nat) (cx : Nat → Int32), ws[2]? = some (af, .inr (4, [.ref a3, .ref a4, .int (nI n), .int (z 11), .int (z 12)])) ∧ ws[3]? = some (a3, .inl (cI, 48, .inl (F 18))) ∧ ws[4]? = some (a4, .inl (cI, 20, .inl cx)) ∧ own 2 = 2 ∧ own 3 = 2 ∧ own 4 = 2 ∧ z 9 = nI n ∧ filR n cx (F 20) (F 19) ∧ ∀ j, ¬ F 20 j = -1 → ¬ uK (F 20 j) 48
def rgR (a b c d : Int32) : Prop := (1 ≤ a.toInt ∧ a.toInt ≤ 100) ∧ (50 ≤ b.toInt ∧ b.toInt ≤ 1000) ∧ (-1000000 ≤ c.toInt ∧ c.toInt ≤ 1000000) ∧ (-1101 ≤ d.toInt ∧ d.toInt ≤ 1101)
/-- 3: rings -/
def grR (own : Nat → Nat) (ws : va_W) (tE : Nat) (cO : ClassId) (aR : Nat) (z : Nat → Int32) (F : Nat → Nat → Int32) : Prop :=
  ∃ (n q : Nat) (e g : Nat → Nat), pfL own ws tE cO 3 5 aR n q e g 6 (fun i => [.int (F 21 i), .int (F 22 i), .int (F 23 i), .int (F 24 i), .int (F 25 i)]) ∧ n ≤ 6 ∧ z 13 = nI n ∧ (∀ i, i < n → ¬ F 21 i = 0 ∧ rgR (F 21 i) (F 22 i) (F 23 i) (F 24 i)) ∧ ∀ k i, 23 ≤ k → k < 26 → n ≤ i → F k i = 0
/-- 4: the coil -/
def grC (own : Nat → Nat) (ws : va_W) (cI : ClassId) (ao : Nat) (z : Nat → Int32) (F : Nat → Nat → Int32) (wi dm : Int64) : Prop :=
  ∃ (pw pz aw az : Nat) (wm sp : Nat → Int32) (cur du ir : Int32) (cwi cdm : Int64), ws[6]? = some (ao, .inr (2, [.ref aw, .ref az, .int cur, .int du, .int ir, .long cwi, .long cdm])) ∧ ws[pw]? = some (aw, .inl (cI, 12, .inl wm)) ∧ ws[pz]? = some (az, .inl (cI, 12, .inl sp)) ∧ pw ≠ pz ∧ own 6 = 4 ∧ own pw = 4 ∧ own pz = 4 ∧ coilR (wm, sp, cur, du, ir, cwi, cdm) (F 26, F 27, z 21, z 22, z 23, wi, dm)
/-- 5: the counter -/
def grK (own : Nat → Nat) (ws : va_W) (ak : Nat) (z : Nat → Int32) : Prop :=
  ws[9]? = some (ak, .inr (3, [.int (z 26), .int (z 27), .int (z 28)])) ∧ own 9 = 5 ∧ ∃ k, k < 65536 ∧ z 28 = nI k
/-- 6: points -/
def grP (own : Nat → Nat) (ws : va_W) (tE : Nat) (cO : ClassId) (aP n : Nat) (z : Nat → Int32) (F : Nat → Nat → Int32) : Prop :=
  ∃ (q : Nat) (e g : Nat → Nat), pfL own ws tE cO 6 10 aP n q e g 5 (fun i => [.int (F 28 i), .int (F 29 i), .int (F 30 i)]) ∧ n ≤ 60 ∧ z 29 = nI n
/-- 7: claims -/
def grM (own : Nat → Nat) (ws : va_W) (tE : Nat) (cI cO : ClassId) (aC np : Nat) (z : Nat → Int32) (F : Nat → Nat → Int32) : Prop :=
  ∃ (n q : Nat) (e g gW aW : Nat → Nat) (wd : Nat → Nat → Int32), pfL own ws tE cO 7 11 aC n q e g 1 (fun i => [.int (F 31 i), .int (F 32 i), .int (F 33 i), .int (F 34 i), .ref (aW i)]) ∧ (∀ i, i < n → ws[gW i]? = some (aW i, .inl (cI, 7, .inl (wd i))) ∧ own (gW i) = 7) ∧ (∀ i j, i < n → j < n → gW i = gW j → i = j) ∧ (∀ i, i < n → ∀ h, h < 7 → wd i h = F 35 (7 * i + h)) ∧ (∀ j, 7 * n ≤ j → F 35 j = 0) ∧ n ≤ 8 ∧ z 33 = nI n ∧ ∀ i, i < n → ∃ a b : Nat, F 32 i = nI a ∧ F 33 i = nI b ∧ a ≤ b ∧ b < np
/-- the class's addresses -/
abbrev A7 : Type := Nat × Nat × Nat × Nat × Nat × Nat × Nat
def grp (j : Nat) (own : Nat → Nat) (ws : va_W) (tE : Nat) (cI cO : ClassId) (a : A7) (np : Nat) (z : Nat → Int32) (F : Nat → Nat → Int32) (wi dm : Int64) : Prop := match j with
  | 1 => grS own ws tE cO a.1 z F
  | 2 => grF own ws cI a.2.1 z F
  | 3 => grR own ws tE cO a.2.2.1 z F
  | 4 => grC own ws cI a.2.2.2.1 z F wi dm
  | 5 => grK own ws a.2.2.2.2.1 z
  | 6 => grP own ws tE cO a.2.2.2.2.2.1 np z F
  | 7 => grM own ws tE cI cO a.2.2.2.2.2.2 np z F
  | _ => True
theorem grp.kp {a : A7} {np np2 : Nat} (hn : np ≤ np2) {j : Nat} (hj : 1 ≤ j ∧ j ≤ 7) (h6 : j = 6 → np2 = np) (k : ∀ q x, own q = j → ws[q]? = some x → w2[q]? = some x ∧ own2 q = j) (ha : ag j z F wi dm z2 F2 wi2 dm2) (h : grp j own ws tE cI cO a np z F wi dm) : grp j own2 w2 tE cI cO a np2 z2 F2 wi2 dm2 := by
  obtain ⟨hz, hF, hw⟩ := ha
  have hj7 : j = 1 ∨ j = 2 ∨ j = 3 ∨ j = 4 ∨ j = 5 ∨ j = 6 ∨ j = 7 := by omega
  rcases hj7 with rfl | rfl | rfl | rfl | rfl | rfl | rfl
  · obtain ⟨n, q, e, g, h1, h2, h3, h4, h5⟩ := h
    refine ⟨n, q, e, g, ?_, h2, by rw [hz 1 rfl]; exact h3, ?_, ?_⟩
    · rw [hF 13 rfl, hF 14 rfl, hF 15 rfl, hF 16 rfl, hF 17 rfl]; exact h1.kp k
    · rw [hF 13 rfl]; exact h4
    · rw [hF 16 rfl, hF 17 rfl]; exact h5
  · obtain ⟨a3, a4, n, cx, h1, h2, h3, o1, o2, o3, h4, h5, h6⟩ := h
    refine ⟨a3, a4, n, cx, ?_, ?_, (k 4 _ o3 h3).1, (k 2 _ o1 h1).2, (k 3 _ o2 h2).2, (k 4 _ o3 h3).2, by rw [hz 9 rfl]; exact h4, ?_, ?_⟩
    · rw [hz 11 rfl, hz 12 rfl]; exact (k 2 _ o1 h1).1
    · rw [hF 18 rfl]; exact (k 3 _ o2 h2).1
    · rw [hF 19 rfl, hF 20 rfl]; exact h5
    · rw [hF 20 rfl]; exact h6
  · obtain ⟨n, q, e, g, h1, h2, h3, h4, h5⟩ := h
    refine ⟨n, q, e, g, ?_, h2, by rw [hz 13 rfl]; exact h3, ?_, fun kk i k1 k2 k3 => ?_⟩
    · rw [hF 21 rfl, hF 22 rfl, hF 23 rfl, hF 24 rfl, hF 25 rfl]; exact h1.kp k
    · rw [hF 21 rfl, hF 22 rfl, hF 23 rfl, hF 24 rfl]; exact h4
    · rw [hF kk (by unfold fg; rw [if_neg (by omega), if_neg (by omega), if_pos (by omega)])]; exact h5 kk i k1 k2 k3
  · obtain ⟨pw, pz, aw, az, wm, sp, cur, du, ir, cwi, cdm, h1, h2, h3, h4, o1, o2, o3, h5⟩ := h
    refine ⟨pw, pz, aw, az, wm, sp, cur, du, ir, cwi, cdm, (k 6 _ o1 h1).1, (k pw _ o2 h2).1, (k pz _ o3 h3).1, h4, (k 6 _ o1 h1).2, (k pw _ o2 h2).2, (k pz _ o3 h3).2, ?_⟩
    rw [hz 21 rfl, hz 22 rfl, hz 23 rfl, hF 26 rfl, hF 27 rfl, (hw rfl).1, (hw rfl).2]
    exact h5
  · obtain ⟨h1, o1, h2⟩ := h
    refine ⟨?_, (k 9 _ o1 h1).2, by rw [hz 28 rfl]; exact h2⟩
    rw [hz 26 rfl, hz 27 rfl, hz 28 rfl]
    exact (k 9 _ o1 h1).1
  · obtain ⟨q, e, g, h1, h2, h3⟩ := h
    rw [h6 rfl]
    refine ⟨q, e, g, ?_, h2, by rw [hz 29 rfl]; exact h3⟩
    rw [hF 28 rfl, hF 29 rfl, hF 30 rfl]
    exact h1.kp k
  · obtain ⟨n, q, e, g, gW, aW, wd, h1, h2, h3, h4, h5, h6, h7, h8⟩ := h
    refine ⟨n, q, e, g, gW, aW, wd, ?_, fun i hi => k _ _ (h2 i hi).2 (h2 i hi).1, h3, ?_, ?_, h6, by rw [hz 33 rfl]; exact h7, fun i hi => ?_⟩
    · rw [hF 31 rfl, hF 32 rfl, hF 33 rfl, hF 34 rfl]; exact h1.kp k
    · rw [hF 35 rfl]; exact h4
    · rw [hF 35 rfl]; exact h5
    · rw [hF 32 rfl, hF 33 rfl]
      obtain ⟨a, b, h9, h10, h11, h12⟩ := h8 i hi
      exact ⟨a, b, h9, h10, h11, Nat.lt_of_lt_of_le h12 hn⟩
end Grs
section Inv
variable {cI cO cJ cB : ClassId} {tE v am oj od : Nat} {ws w2 : va_W} {own own2 : Nat → Nat} {ad : Nat → Nat} {z z2 : Nat → Int32} {F F2 : Nat → Nat → Int32} {wi dm wi2 dm2 : Int64} {a : A7} {np np2 : Nat}
/-- all of it, with its ghosts told -/
def invG (cI cO cJ cB : ClassId) (tE v am oj od : Nat) (ws : va_W) (own : Nat → Nat) (ad : Nat → Nat) (z : Nat → Int32) (F : Nat → Nat → Int32) (wi dm : Int64) (a : A7) (np : Nat) : Prop :=
  bas cI cJ cB am oj od ad z F wi dm ws ∧ ws[0]? = some (v, .inr (8, [.ref a.1, .ref a.2.1, .ref a.2.2.1, .ref a.2.2.2.1, .ref a.2.2.2.2.1, .ref a.2.2.2.2.2.1, .ref a.2.2.2.2.2.2])) ∧ own 0 = 8 ∧ (∀ k, 12 ≤ k → k < 38 → own k = 0) ∧ ∀ j, 1 ≤ j ∧ j ≤ 7 → grp j own ws tE cI cO a np z F wi dm
def INV (cI cO cJ cB : ClassId) (tE v am oj od : Nat) (ws : va_W) : Prop := ∃ (own : Nat → Nat) (ad : Nat → Nat) (z : Nat → Int32) (F : Nat → Nat → Int32) (wi dm : Int64) (a : A7) (np : Nat), invG cI cO cJ cB tE v am oj od ws own ad z F wi dm a np
theorem INV_next (h : invG cI cO cJ cB tE v am oj od ws own ad z F wi dm a np) (g : Nat) (hg : 1 ≤ g ∧ g ≤ 7) {w1 : va_W} (hc1 : chg own own2 g ws w1) (hz : chz own2 w1 w2) (hb : bas cI cJ cB am oj od ad z2 F2 wi2 dm2 w2) (ha : agb g z F wi dm z2 F2 wi2 dm2) (hn : np ≤ np2) (h6 : g ≠ 6 → np2 = np) (hG : grp g own2 w1 tE cI cO a np2 z2 F2 wi2 dm2) : INV cI cO cJ cB tE v am oj od w2 := by
  obtain ⟨b0, hv, o0, hO, hgr⟩ := h
  have hc : ∀ q x, own q ≠ 0 → own q ≠ g → ws[q]? = some x → w2[q]? = some x ∧ own2 q = own q := fun q x h1 h2 h3 => by
    obtain ⟨h4, h5⟩ := hc1 q x h2 h3
    exact ⟨hz q x (by rw [h5]; exact h1) h4, h5⟩
  have k0 := hc 0 _ (by rw [o0]; decide) (by rw [o0]; omega) hv
  refine ⟨own2, ad, z2, F2, wi2, dm2, a, np2, hb, k0.1, by rw [k0.2, o0], b0.ow (by omega) hO hc1, fun j hj => ?_⟩
  by_cases c : j = g
  · subst c
    exact grp.kp (Nat.le_refl _) hj (fun _ => rfl) (fun q x h1 h2 => ⟨hz q x (by rw [h1]; omega) h2, h1⟩) ⟨fun _ _ => rfl, fun _ _ => rfl, fun _ => ⟨rfl, rfl⟩⟩ hG
  · refine grp.kp hn hj (fun e => h6 (fun e2 => c (e.trans e2.symm))) (fun q x h1 h2 => ?_) (ha.j (by omega) c) (hgr j hj)
    obtain ⟨h3, h4⟩ := hc q x (by rw [h1]; omega) (by rw [h1]; exact c) h2
    exact ⟨h3, h4.trans h1⟩
/-- the reference's number of the refusal alone was written -/
theorem INV_ref (h : invG cI cO cJ cB tE v am oj od ws own ad z F wi dm a np) (c : Int32) : INV cI cO cJ cB tE v am oj od (ws.set 12 (am, .inr (9, mF ad (upd z 0 c) wi dm))) := by
  obtain ⟨b0, hv, o0, hO, hgr⟩ := h
  refine ⟨own, ad, upd z 0 c, F, wi, dm, a, np, b0.m _ _ _, va_gs (by decide) hv, o0, hO, fun j hj => ?_⟩
  refine grp.kp (Nat.le_refl _) hj (fun _ => rfl) (fun q x h1 h2 => ⟨va_gs (fun e => ?_) h2, h1⟩) ((agb.rf (g := 8)).zz 0 c (Or.inl rfl) |>.j (by omega) (by omega)) (hgr j hj)
  subst e
  rw [hO 12 (by decide) (by decide)] at h1
  omega
/-- what holds at the end of a call: what was refused, what was answered, and all of it anew -/
def EndI (cJ : ClassId) (am oj : Nat) (I : va_W → Prop) (w : va_W) (r k : Int32) : Prop := (∃ (ad : Nat → Nat) (z : Nat → Int32) (wi dm : Int64), w[12]? = some (am, .inr (9, mF ad z wi dm)) ∧ z 0 = k) ∧ (k = 0 → ∃ f, w[36]? = some (oj, .inl (cJ, 1, .inr (.inl f))) ∧ f 0 = r.toInt64) ∧ I w
def EndL (cJ : ClassId) (am oj : Nat) (I : va_W → Prop) (w : va_W) (r : Int64) (k : Int32) : Prop := (∃ (ad : Nat → Nat) (z : Nat → Int32) (wi dm : Int64), w[12]? = some (am, .inr (9, mF ad z wi dm)) ∧ z 0 = k) ∧ (k = 0 → ∃ f, w[36]? = some (oj, .inl (cJ, 1, .inr (.inl f))) ∧ f 0 = r) ∧ I w
def EndD (cB : ClassId) (am od : Nat) (I : va_W → Prop) (w : va_W) (r : UInt64) (k : Int32) : Prop := (∃ (ad : Nat → Nat) (z : Nat → Int32) (wi dm : Int64), w[12]? = some (am, .inr (9, mF ad z wi dm)) ∧ z 0 = k) ∧ (k = 0 → ∃ f, w[37]? = some (od, .inl (cB, 1, .inr (.inr (.inr (.inl f))))) ∧ f 0 = r) ∧ I w
def EndV (am : Nat) (I : va_W → Prop) (w : va_W) (k : Int32) : Prop := (∃ (ad : Nat → Nat) (z : Nat → Int32) (wi dm : Int64), w[12]? = some (am, .inr (9, mF ad z wi dm)) ∧ z 0 = k) ∧ I w
theorem updL_0 {f : Nat → Int64} {x : Int64} : vp_updL f (0 : Int32).toNatClampNeg x 0 = x := by
  show (if 0 = (0 : Int32).toNatClampNeg then x else f 0) = x
  rw [if_pos (by decide)]
theorem updD_0 {f : Nat → UInt64} {x : UInt64} : vf_upd f (0 : Int32).toNatClampNeg x 0 = x := by
  show (if 0 = (0 : Int32).toNatClampNeg then x else f 0) = x
  rw [if_pos (by decide)]
/-- a call that reads -/
theorem INV_rd {w0 : va_W} (h : invG cI cO cJ cB tE v am oj od ws own ad z F wi dm a np) (hb : bas cI cJ cB am oj od ad z F wi dm w0) (hz : chz own ws w0) : INV cI cO cJ cB tE v am oj od (w0.set 12 (am, .inr (9, mF ad (upd z 0 0) wi dm))) := by
  have h2 := h
  obtain ⟨b0, hv, o0, hO, hgr⟩ := h2
  exact INV_next h 5 (by decide) chg.rf (hz.set (hO 12 (by decide) (by decide))) (hb.m _ _ _) (agb.rf.zz 0 0 (Or.inl rfl)) (Nat.le_refl _) (fun _ => rfl) (hgr 5 (by decide))
theorem cd1 {c : Prop} [Decidable c] {a b : Int32} (ha : ¬ a = 0) (h : (if c then a else b) = 0) : ¬ c ∧ b = 0 := by
  by_cases q : c
  · rw [if_pos q] at h; exact absurd h ha
  · rw [if_neg q] at h; exact ⟨q, h⟩
end Inv
section Mop
variable {l : Launch} {y : MethodName} {wy : List Cond} {rm : Room} {G : va_G} {A : Nat → Prop} {Pc : Array Value → State → Prop} {mc ms : Nat} {free : Addr → Prop} {U : Type} {Wf : U → va_W}
theorem mopI {post : Int32 → U → Prop} (hM : Met l y wy rm Pc (va_Qi post (fun u t => va_P G vwCl (Wf u) t.heap ∧ va_D A (Wf u)) A) mc ms free) {E : va_W → Int32 → Prop} (h : ∀ r u, post r u → E (Wf u) r) : Met l y wy rm Pc (va_Qi (fun r (w : va_W) => E w r) (fun w t => va_P G vwCl w t.heap ∧ va_D A w) A) mc ms free :=
  met_mono hM (fun _ _ q => q) (fun a s o t _ hq => by
    obtain ⟨⟨r, u, ho, hp, hB⟩, hF⟩ := hq
    exact ⟨⟨r, Wf u, ho, h r u hp, hB⟩, hF⟩)
theorem mopL {post : Int64 → U → Prop} (hM : Met l y wy rm Pc (va_Ql post (fun u t => va_P G vwCl (Wf u) t.heap ∧ va_D A (Wf u)) A) mc ms free) {E : va_W → Int64 → Prop} (h : ∀ r u, post r u → E (Wf u) r) : Met l y wy rm Pc (va_Ql (fun r (w : va_W) => E w r) (fun w t => va_P G vwCl w t.heap ∧ va_D A w) A) mc ms free :=
  met_mono hM (fun _ _ q => q) (fun a s o t _ hq => by
    obtain ⟨⟨r, u, ho, hp, hB⟩, hF⟩ := hq
    exact ⟨⟨r, Wf u, ho, h r u hp, hB⟩, hF⟩)
theorem mopD {post : UInt64 → U → Prop} (hM : Met l y wy rm Pc (va_Qd post (fun u t => va_P G vwCl (Wf u) t.heap ∧ va_D A (Wf u)) A) mc ms free) {E : va_W → UInt64 → Prop} (h : ∀ r u, post r u → E (Wf u) r) : Met l y wy rm Pc (va_Qd (fun r (w : va_W) => E w r) (fun w t => va_P G vwCl w t.heap ∧ va_D A w) A) mc ms free :=
  met_mono hM (fun _ _ q => q) (fun a s o t _ hq => by
    obtain ⟨⟨r, u, ho, hp, hB⟩, hF⟩ := hq
    exact ⟨⟨r, Wf u, ho, h r u hp, hB⟩, hF⟩)
theorem mopV {post : U → Prop} (hM : Met l y wy rm Pc (va_Qv post (fun u t => va_P G vwCl (Wf u) t.heap ∧ va_D A (Wf u)) A) mc ms free) {E : va_W → Prop} (h : ∀ u, post u → E (Wf u)) : Met l y wy rm Pc (va_Qv (fun (w : va_W) => E w) (fun w t => va_P G vwCl w t.heap ∧ va_D A w) A) mc ms free :=
  met_mono hM (fun _ _ q => q) (fun a s o t _ hq => by
    obtain ⟨⟨u, ho, hp, hB⟩, hF⟩ := hq
    exact ⟨⟨Wf u, ho, h u hp, hB⟩, hF⟩)
end Mop
