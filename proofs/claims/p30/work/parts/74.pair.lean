/-! PAIRS THAT WERE TURNED ROUND -/
def hitP (P M : Nat → Int32) (ct : Int32) (a b : Nat) : Prop := P a = P b ∧ P a < ct ∧ ¬ M a ≤ 0 ∧ M b = -M a
def farP (V : Nat → Int32) (no : Int32) (a b : Nat) : Prop := ¬ jabs (V a - V b) ≤ 2 * no
section Pairs
variable {P M V : Nat → Int32} {no p ct : Int32} {a b fr n k : Nat}
theorem hit_mir (h : P a < ct) : ¬ pMir (P a) (M a) (P b) (M b) = 0 ↔ hitP P M ct a b := by
  unfold pMir hitP
  by_cases h1 : M a ≤ 0
  · rw [if_pos h1]
    exact ⟨fun q => absurd rfl q, fun q => absurd h1 q.2.2.1⟩
  · rw [if_neg h1]
    by_cases h2 : M b = -M a
    · rw [if_pos h2]
      by_cases h3 : P b = P a
      · rw [if_pos h3]
        exact ⟨fun _ => ⟨h3.symm, h, h1, h2⟩, fun _ => by decide⟩
      · rw [if_neg h3]
        exact ⟨fun q => absurd rfl q, fun q => absurd q.1.symm h3⟩
    · rw [if_neg h2]
      exact ⟨fun q => absurd rfl q, fun q => absurd q.2.2.2 h2⟩
/-- a pair seen, and one too far, of the point a with k points from fr on -/
def hsP (P M : Nat → Int32) (ct : Int32) (a fr k : Nat) : Prop := ∃ j, j < k ∧ hitP P M ct a (fr + j)
def fsP (P M V : Nat → Int32) (no ct : Int32) (a fr k : Nat) : Prop := ∃ j, j < k ∧ hitP P M ct a (fr + j) ∧ farP V no a (fr + j)
theorem hsP_0 : ¬ hsP P M ct a fr 0 := fun ⟨_, h, _⟩ => Nat.not_lt_zero _ h
theorem fsP_0 : ¬ fsP P M V no ct a fr 0 := fun ⟨_, h, _⟩ => Nat.not_lt_zero _ h
theorem hsP_s : hsP P M ct a fr (k + 1) ↔ hsP P M ct a fr k ∨ hitP P M ct a (fr + k) := by
  constructor
  · rintro ⟨j, h1, h2⟩
    by_cases q : j = k
    · subst q; exact Or.inr h2
    · exact Or.inl ⟨j, by omega, h2⟩
  · rintro (⟨j, h1, h2⟩ | h)
    · exact ⟨j, by omega, h2⟩
    · exact ⟨k, by omega, h⟩
theorem fsP_s : fsP P M V no ct a fr (k + 1) ↔ fsP P M V no ct a fr k ∨ (hitP P M ct a (fr + k) ∧ farP V no a (fr + k)) := by
  constructor
  · rintro ⟨j, h1, h2⟩
    by_cases q : j = k
    · subst q; exact Or.inr h2
    · exact Or.inl ⟨j, by omega, h2⟩
  · rintro (⟨j, h1, h2⟩ | h)
    · exact ⟨j, by omega, h2⟩
    · exact ⟨k, by omega, h⟩
theorem jIn_val (ha : P a < ct) (hp : p = 0 ∨ p = 1) (k : Nat) : ((jIn P M V no p a fr k).2 = true ∧ fsP P M V no ct a fr k) ∨ ((jIn P M V no p a fr k).2 = false ∧ ¬ fsP P M V no ct a fr k ∧ (((jIn P M V no p a fr k).1 = 1 ∧ (p = 1 ∨ hsP P M ct a fr k)) ∨ ((jIn P M V no p a fr k).1 = 0 ∧ p = 0 ∧ ¬ hsP P M ct a fr k))) := by
  induction k with
  | zero =>
    refine Or.inr ⟨rfl, fsP_0, ?_⟩
    rcases hp with h | h
    · exact Or.inr ⟨h, h, hsP_0⟩
    · exact Or.inl ⟨h, Or.inl h⟩
  | succ k ih =>
    rw [fsP_s, hsP_s]
    rcases ih with ⟨h1, h2⟩ | ⟨h1, h2, h3⟩
    · exact Or.inl ⟨jIn_stop h1 (k + 1) (by omega), Or.inl h2⟩
    · by_cases c1 : pMir (P a) (M a) (P (fr + k)) (M (fr + k)) = 0
      · have nh : ¬ hitP P M ct a (fr + k) := fun q => ((hit_mir ha).mpr q) c1
        rw [jIn_no h1 c1]
        refine Or.inr ⟨h1, fun q => q.elim h2 (fun q => nh q.1), ?_⟩
        rcases h3 with ⟨h4, h5⟩ | ⟨h4, h5, h6⟩
        · exact Or.inl ⟨h4, h5.imp id Or.inl⟩
        · exact Or.inr ⟨h4, h5, fun q => q.elim h6 nh⟩
      · have yh : hitP P M ct a (fr + k) := (hit_mir ha).mp c1
        by_cases c2 : jabs (V a - V (fr + k)) ≤ 2 * no
        · rw [jIn_near h1 c1 c2]
          exact Or.inr ⟨rfl, fun q => q.elim h2 (fun q => q.2 c2), Or.inl ⟨rfl, Or.inr (Or.inr yh)⟩⟩
        · rw [jIn_far h1 c1 c2]
          exact Or.inl ⟨rfl, Or.inr ⟨yh, c2⟩⟩
/-- the same of k points from fr on with n points from fr on -/
def hoP (P M : Nat → Int32) (ct : Int32) (fr n k : Nat) : Prop := ∃ i, i < k ∧ hsP P M ct (fr + i) fr n
def foP (P M V : Nat → Int32) (no ct : Int32) (fr n k : Nat) : Prop := ∃ i, i < k ∧ fsP P M V no ct (fr + i) fr n
theorem hoP_0 : ¬ hoP P M ct fr n 0 := fun ⟨_, h, _⟩ => Nat.not_lt_zero _ h
theorem foP_0 : ¬ foP P M V no ct fr n 0 := fun ⟨_, h, _⟩ => Nat.not_lt_zero _ h
theorem hoP_s : hoP P M ct fr n (k + 1) ↔ hoP P M ct fr n k ∨ hsP P M ct (fr + k) fr n := by
  constructor
  · rintro ⟨j, h1, h2⟩
    by_cases q : j = k
    · subst q; exact Or.inr h2
    · exact Or.inl ⟨j, by omega, h2⟩
  · rintro (⟨j, h1, h2⟩ | h)
    · exact ⟨j, by omega, h2⟩
    · exact ⟨k, by omega, h⟩
theorem foP_s : foP P M V no ct fr n (k + 1) ↔ foP P M V no ct fr n k ∨ fsP P M V no ct (fr + k) fr n := by
  constructor
  · rintro ⟨j, h1, h2⟩
    by_cases q : j = k
    · subst q; exact Or.inr h2
    · exact Or.inl ⟨j, by omega, h2⟩
  · rintro (⟨j, h1, h2⟩ | h)
    · exact ⟨j, by omega, h2⟩
    · exact ⟨k, by omega, h⟩
theorem jOut_val (k : Nat) : ((jOut P M V no ct fr n k).2 = true ∧ foP P M V no ct fr n k) ∨ ((jOut P M V no ct fr n k).2 = false ∧ ¬ foP P M V no ct fr n k ∧ (((jOut P M V no ct fr n k).1 = 1 ∧ hoP P M ct fr n k) ∨ ((jOut P M V no ct fr n k).1 = 0 ∧ ¬ hoP P M ct fr n k))) := by
  induction k with
  | zero => exact Or.inr ⟨rfl, foP_0, Or.inr ⟨rfl, hoP_0⟩⟩
  | succ k ih =>
    rw [foP_s, hoP_s]
    rcases ih with ⟨h1, h2⟩ | ⟨h1, h2, h3⟩
    · exact Or.inl ⟨jOut_stop h1 (k + 1) (by omega), Or.inl h2⟩
    · by_cases c1 : P (fr + k) < ct
      · rw [jOut_in h1 c1]
        have hp : (jOut P M V no ct fr n k).1 = 0 ∨ (jOut P M V no ct fr n k).1 = 1 := h3.elim (fun q => Or.inr q.1) (fun q => Or.inl q.1)
        rcases jIn_val (M := M) (V := V) (no := no) (fr := fr) c1 hp n with ⟨g1, g2⟩ | ⟨g1, g2, g3⟩
        · exact Or.inl ⟨g1, Or.inr g2⟩
        · refine Or.inr ⟨g1, fun q => q.elim h2 g2, ?_⟩
          rcases g3 with ⟨g4, g5⟩ | ⟨g4, g5, g6⟩
          · refine Or.inl ⟨g4, ?_⟩
            rcases g5 with g5 | g5
            · rcases h3 with h3 | h3
              · exact Or.inl h3.2
              · rw [h3.1] at g5; exact absurd g5 (by decide)
            · exact Or.inr g5
          · refine Or.inr ⟨g4, fun q => q.elim (fun q => ?_) g6⟩
            rcases h3 with h3 | h3
            · rw [h3.1] at g5; exact absurd g5 (by decide)
            · exact h3.2 q
      · have nh : ¬ hsP P M ct (fr + k) fr n := fun ⟨_, _, q⟩ => c1 q.2.1
        have nf : ¬ fsP P M V no ct (fr + k) fr n := fun ⟨_, _, q, _⟩ => c1 q.2.1
        rw [jOut_out h1 c1]
        refine Or.inr ⟨h1, fun q => q.elim h2 nf, ?_⟩
        rcases h3 with ⟨h4, h5⟩ | ⟨h4, h5⟩
        · exact Or.inl ⟨h4, Or.inl h5⟩
        · exact Or.inr ⟨h4, fun q => q.elim h5 nh⟩
theorem jOpen_val (n : Nat) : (jOpen P M V no ct fr n = 1 ∧ (foP P M V no ct fr n n ∨ ¬ hoP P M ct fr n n)) ∨ (jOpen P M V no ct fr n = 0 ∧ ¬ foP P M V no ct fr n n ∧ hoP P M ct fr n n) := by
  unfold jOpen
  rcases jOut_val (P := P) (M := M) (V := V) (no := no) (ct := ct) (fr := fr) (n := n) n with ⟨h1, h2⟩ | ⟨h1, h2, h3⟩
  · rw [if_pos h1]; exact Or.inl ⟨rfl, Or.inl h2⟩
  · rw [if_neg (by rw [h1]; exact Bool.false_ne_true)]
    rcases h3 with ⟨h4, h5⟩ | ⟨h4, h5⟩
    · rw [h4, if_neg (by decide)]; exact Or.inr ⟨rfl, h2, h5⟩
    · rw [if_pos h4]; exact Or.inl ⟨rfl, Or.inr h5⟩
/-- what the law knows: has and agree, at the pair i, j -/
def lwP (P M V : Nat → Int32) (no ct : Int32) (fr n i j : Nat) (hh gg : Int32) : Prop := ((hh = 1 ∧ (hoP P M ct fr n i ∨ hsP P M ct (fr + i) fr j)) ∨ (hh = 0 ∧ ¬ (hoP P M ct fr n i ∨ hsP P M ct (fr + i) fr j))) ∧ ((gg = 0 ∧ (foP P M V no ct fr n i ∨ fsP P M V no ct (fr + i) fr j)) ∨ (gg = 1 ∧ ¬ (foP P M V no ct fr n i ∨ fsP P M V no ct (fr + i) fr j)))
variable {i j : Nat} {hh gg : Int32}
theorem lwP_0 : lwP P M V no ct fr n 0 0 0 1 := ⟨Or.inr ⟨rfl, fun q => q.elim hoP_0 hsP_0⟩, Or.inr ⟨rfl, fun q => q.elim foP_0 fsP_0⟩⟩
theorem lwP_no (h : lwP P M V no ct fr n i j hh gg) (q : ¬ hitP P M ct (fr + i) (fr + j)) : lwP P M V no ct fr n i (j + 1) hh gg := by
  unfold lwP at h ⊢
  rw [hsP_s, fsP_s]
  have e1 : (hoP P M ct fr n i ∨ hsP P M ct (fr + i) fr j ∨ hitP P M ct (fr + i) (fr + j)) ↔ (hoP P M ct fr n i ∨ hsP P M ct (fr + i) fr j) := ⟨fun z => z.imp id (fun z => z.elim id (fun z => absurd z q)), fun z => z.imp id Or.inl⟩
  have e2 : (foP P M V no ct fr n i ∨ fsP P M V no ct (fr + i) fr j ∨ (hitP P M ct (fr + i) (fr + j) ∧ farP V no (fr + i) (fr + j))) ↔ (foP P M V no ct fr n i ∨ fsP P M V no ct (fr + i) fr j) := ⟨fun z => z.imp id (fun z => z.elim id (fun z => absurd z.1 q)), fun z => z.imp id Or.inl⟩
  rw [e1, e2]
  exact h
theorem lwP_near (h : lwP P M V no ct fr n i j hh gg) (q : hitP P M ct (fr + i) (fr + j)) (q2 : ¬ farP V no (fr + i) (fr + j)) : lwP P M V no ct fr n i (j + 1) 1 gg := by
  unfold lwP at h ⊢
  rw [hsP_s, fsP_s]
  have e2 : (foP P M V no ct fr n i ∨ fsP P M V no ct (fr + i) fr j ∨ (hitP P M ct (fr + i) (fr + j) ∧ farP V no (fr + i) (fr + j))) ↔ (foP P M V no ct fr n i ∨ fsP P M V no ct (fr + i) fr j) := ⟨fun z => z.imp id (fun z => z.elim id (fun z => absurd z.2 q2)), fun z => z.imp id Or.inl⟩
  rw [e2]
  exact ⟨Or.inl ⟨rfl, Or.inr (Or.inr q)⟩, h.2⟩
theorem lwP_far (q : hitP P M ct (fr + i) (fr + j)) (q2 : farP V no (fr + i) (fr + j)) : lwP P M V no ct fr n i (j + 1) 1 0 := by
  unfold lwP
  rw [hsP_s, fsP_s]
  exact ⟨Or.inl ⟨rfl, Or.inr (Or.inr q)⟩, Or.inl ⟨rfl, Or.inr (Or.inr ⟨q, q2⟩)⟩⟩
theorem lwP_next (h : lwP P M V no ct fr n i n hh gg) : lwP P M V no ct fr n (i + 1) 0 hh gg := by
  unfold lwP at h ⊢
  rw [hoP_s, foP_s]
  have e1 : ((hoP P M ct fr n i ∨ hsP P M ct (fr + i) fr n) ∨ hsP P M ct (fr + (i + 1)) fr 0) ↔ (hoP P M ct fr n i ∨ hsP P M ct (fr + i) fr n) := ⟨fun z => z.elim id (fun z => absurd z hsP_0), Or.inl⟩
  have e2 : ((foP P M V no ct fr n i ∨ fsP P M V no ct (fr + i) fr n) ∨ fsP P M V no ct (fr + (i + 1)) fr 0) ↔ (foP P M V no ct fr n i ∨ fsP P M V no ct (fr + i) fr n) := ⟨fun z => z.elim id (fun z => absurd z fsP_0), Or.inl⟩
  rw [e1, e2]
  exact h
/-- behind all pairs -/
theorem lwP_end (h : lwP P M V no ct fr n n 0 hh gg) : (jOpen P M V no ct fr n = 1 ∧ (hh = 0 ∨ gg = 0)) ∨ (jOpen P M V no ct fr n = 0 ∧ hh = 1 ∧ gg = 1) := by
  obtain ⟨h1, h2⟩ := h
  rcases jOpen_val (P := P) (M := M) (V := V) (no := no) (ct := ct) (fr := fr) n with ⟨o1, o2⟩ | ⟨o1, o2, o3⟩
  · refine Or.inl ⟨o1, ?_⟩
    rcases o2 with o2 | o2
    · rcases h2 with h2 | h2
      · exact Or.inr h2.1
      · exact absurd (Or.inl o2) h2.2
    · rcases h1 with h1 | h1
      · exact absurd (h1.2.resolve_right hsP_0) o2
      · exact Or.inl h1.1
  · refine Or.inr ⟨o1, ?_, ?_⟩
    · rcases h1 with h1 | h1
      · exact h1.1
      · exact absurd (Or.inl o3) h1.2
    · rcases h2 with h2 | h2
      · exact absurd (h2.2.resolve_right fsP_0) o2
      · exact h2.1
end Pairs
/-- a difference without its sign, of small numbers -/
theorem off_1 {x y : Int32} (x0 : 0 ≤ x.toInt) (x1 : x.toInt ≤ 1000) (y0 : 0 ≤ y.toInt) (y1 : y.toInt ≤ 1000) (h : y < x) : jabs (x - y) = x - y := by
  rw [Int32.lt_iff_toInt_lt] at h
  have e := i_sub (x := x) (y := y) rfl rfl (by omega) (by omega)
  exact Int32.toInt_inj.mp (by rw [jabs_int e (by omega), e]; omega)
theorem off_2 {x y : Int32} (x0 : 0 ≤ x.toInt) (x1 : x.toInt ≤ 1000) (y0 : 0 ≤ y.toInt) (y1 : y.toInt ≤ 1000) (h : ¬ y < x) : jabs (x - y) = y - x := by
  rw [Int32.lt_iff_toInt_lt] at h
  have e := i_sub (x := x) (y := y) rfl rfl (by omega) (by omega)
  have e2 := i_sub (x := y) (y := x) rfl rfl (by omega) (by omega)
  exact Int32.toInt_inj.mp (by rw [jabs_int e (by omega), e2]; omega)
/-- a house tells its word -/
theorem hCnt_lo {f : Nat → Int32} {h : Nat} {x w : Int32} (k : Nat) (hk : k ≤ h) : hCnt (upd f h x) w k = hCnt f w k := by
  induction k with
  | zero => rfl
  | succ k ih =>
    have ih := ih (by omega)
    unfold hCnt
    rw [upd_ne (by omega), ih]
theorem hCnt_hi {f : Nat → Int32} {h : Nat} {x w : Int32} (hf : ¬ f h = w) (k : Nat) (hk : h < k) : hCnt (upd f h x) w k = if x = w then hCnt f w k + 1 else hCnt f w k := by
  induction k with
  | zero => omega
  | succ k ih =>
    by_cases c : h = k
    · subst c
      unfold hCnt
      rw [upd_at, hCnt_lo h (Nat.le_refl h), if_neg hf]
    · have ih := ih (by omega)
      unfold hCnt
      rw [upd_ne (by omega), ih]
      by_cases c1 : x = w
      · rw [if_pos c1, if_pos c1]
        by_cases c2 : f k = w
        · rw [if_pos c2, if_pos c2]
        · rw [if_neg c2, if_neg c2]
      · rw [if_neg c1, if_neg c1]
theorem hCnt_z (w : Int32) (hw : ¬ 0 = w) (k : Nat) : hCnt (fun _ => 0) w k = 0 := by
  induction k with
  | zero => rfl
  | succ k ih =>
    unfold hCnt
    rw [if_neg hw, ih]
/-- behind slips: no current above the critical one that a slip would make less -/
theorem slip_no {ind cr fl n : Int32} (h0 : ¬ ind = 0) (h : rStop ind cr fl n) : ((1000 * n - fl) / ind ≤ 0 → jabs ((1000 * n - fl) / ind) ≤ cr ∨ ¬ jabs ((1000 * (n + 1) - fl) / ind) < jabs ((1000 * n - fl) / ind)) ∧ (¬ (1000 * n - fl) / ind ≤ 0 → jabs ((1000 * n - fl) / ind) ≤ cr ∨ ¬ jabs ((1000 * (n + -1) - fl) / ind) < jabs ((1000 * n - fl) / ind)) := by
  have e : ∀ m, rCur ind fl m = (1000 * m - fl) / ind := fun m => by unfold rCur; rw [if_neg h0]
  unfold rStop rBy at h
  rw [e n] at h
  constructor
  · intro c
    rw [if_pos c, e] at h
    exact h
  · intro c
    rw [if_neg c, e, Int32.sub_eq_add_neg n 1] at h
    exact h
theorem jabs_neg {x : Int32} (h : ¬ 0 ≤ x) : jabs x = -x := by
  unfold jabs
  rw [if_neg h, Int32.zero_sub]
theorem jabs_pos {x : Int32} (h : 0 ≤ x) : jabs x = x := by
  unfold jabs
  rw [if_pos h]
