/-- what holds between two turns of the law -/
def ti (cI cO : ClassId) (tE : Nat) (ad : Nat → Nat) (ind cr : Int32) (n np : Nat) (al : Int64) (ws : va_W) : Prop := ∃ (own : Nat → Nat) (P M V S T cel ct cf co ca : Nat → Int32) (wd : Nat → Nat → Int32) (num cur du : Int32) (wi dm : Int64), inv cI cO tE ad own ws P M V S T n cel ind cr num cur du wi dm np 0 ct cf co ca wd ∧ al = wi + dm + cSto cur ∧ (∀ k, k < 20 → T k = 1 → k < n ∧ cel k = -1) ∧ np ≤ 57 ∧ ∀ i, i < np → 0 ≤ (V i).toInt ∧ (V i).toInt ≤ 1000
set_option maxHeartbeats 4000000 in
set_option maxRecDepth 100000 in
theorem act_0 {p : Program} {l : Launch} {e : Env} {s : State} {m : MethodId} {below : List Frame} {meth : Method} {c : Code} (hnt : l.stackTraces = false) {G : va_G} {tys : List (ClassId × FieldType)} {tE mi : Nat} {cI cO : ClassId} (htI : tI tys cI) (htO : tO tys cO) {b L : Nat} {xs : Nat → Int32} (hL : L ≤ 260) (C0 : lw_At p s m meth c b L xs) {ad : Nat → Nat} (hK : va_K G vwCl tys s) (hE : env (fun q : Nat => s.heap.size ≤ q) tE mi s s.heap) {ind cr : Int32} {n np tu X : Nat} {al : Int64} {y15 : Int32} {ws : va_W} {H : Heap} {locs : List Loc} {cells slots : Nat} {Q : State → Prop} {ls : Array Slot} (hX31 : X < 2 ^ 31) (hti : ti cI cO tE ad ind cr n np al ws) (hP : va_P G vwCl ws H) (hD : va_D (fun q : Nat => s.heap.size ≤ q) ws) (hS : va_S (fun q : Nat => s.heap.size ≤ q) s.heap H locs) (hl : lv_has ls 26 [(0, .ref b), (1, .ref (ad 0)), (2, .ref (ad 12)), (3, .ref (ad 13)), (4, .ref (ad 14)), (5, .ref (ad 15)), (6, .ref (ad 16)), (7, .int (nI np)), (8, .int (nI n)), (9, .long al), (12, .int ind), (13, .int cr), (14, .int (nI tu)), (11, .int (nI X)), (15, .int y15)]) (hc : cells + 60 ≤ 600130) (hs : slots + 1200 ≤ 7301080) (kk : ∀ (n2 np2 : Nat) (al2 : Int64) (w : va_W) (H1 : Heap) (locs1 : List Loc) (ls1 : Array Slot), ti cI cO tE ad ind cr n2 np2 al2 w → va_P G vwCl w H1 → va_D (fun q : Nat => s.heap.size ≤ q) w → va_S (fun q : Nat => s.heap.size ≤ q) s.heap H1 locs1 → lv_has ls1 26 [(0, .ref b), (1, .ref (ad 0)), (2, .ref (ad 12)), (3, .ref (ad 13)), (4, .ref (ad 14)), (5, .ref (ad 15)), (6, .ref (ad 16)), (7, .int (nI np2)), (8, .int (nI n2)), (9, .long al2), (12, .int ind), (13, .int cr), (14, .int (nI tu))] → W p l e room_1 s m #[Value.ref b] below meth c H1 locs1 (cells + 60) (slots + 1200) Q (F0 m 661 ls1 [])) : W p l e room_1 s m #[Value.ref b] below meth c H locs (cells) (slots) Q (F0 m 132 ls []) := by
  obtain ⟨hx, hb, hr, hml, hown, hts0, hX, hbl, hlocks, hgv⟩ := C0
  have hts : ∀ w ∈ wsL_law, w.before #[Value.ref b] s = true := fun w h => hts0 w (wsL_law_in w h)
  have hown : s.vm.findClass RL = some m.cls := hown
  have hA : ∀ q : Nat, s.heap.size ≤ q → (fun q : Nat => s.heap.size ≤ q) q := fun _ h => h
  have hbA : ¬ (fun q : Nat => s.heap.size ≤ q) b := Nat.not_le.mpr hbl
  obtain ⟨own, P, M, V, S, T, cel, ct, cf, co, ca, wd, num, cur, du, wi, dm, hI, hal, hT, hnp, hV⟩ := hti
  refine lv_iload hx hb dL_law_132 (lv_at hl 13 rfl) ?_
  refine lv_iconst (v := 4) hx hb dL_law_134 (by decide) ?_
  refine lv_ishr hx hb dL_law_135 ?_
  refine re_i (y := nI (X / 2 ^ 4)) (pk_shrN hX31 _ 4 (by decide +kernel)) ?_
  refine lv_sipush (v := 1001) hx hb dL_law_136 (by decide) ?_
  refine re_i (y := nI 1001) (show (1001 : Int32) = nI 1001 from rfl) ?_
  refine vp_callSi (va_Run.run (va_runS (As := [.int (nI (X / 2 ^ 4)), .int (nI 1001)]) (rest := []) ⟨hx, hb, hml, hown, hts⟩ (metL_at l (X / 2 ^ 4) 1001 (by omega) (by decide) (by decide)) (va_cwS 2 hts gL_law_L_at rfl rfl rfl (by decide +kernel) ⟨Nat.le_of_ble_eq_true rfl, Nat.le_of_ble_eq_true rfl⟩) ⟨pc0_b, pc0_u⟩ rfl rfl hl.1 rfl (lv_room (Nat.le_of_ble_eq_true rfl)) dL_law_139 ⟨by show cells + 0 ≤ 600130; omega, by show slots + 0 ≤ 7301080; omega⟩)) (fun r h => ?_)
  obtain ⟨k139, hk139, rfl⟩ := h
  refine lv_istore (lv' := [(16, .int (nI k139)), (0, .ref b), (1, .ref (ad 0)), (2, .ref (ad 12)), (3, .ref (ad 13)), (4, .ref (ad 14)), (5, .ref (ad 15)), (6, .ref (ad 16)), (7, .int (nI np)), (8, .int (nI n)), (9, .long al), (12, .int ind), (13, .int cr), (14, .int (nI tu)), (11, .int (nI X)), (15, .int y15)]) hx hb dL_law_142 hl (by decide) rfl (fun ls hl => ?_)
  refine lv_aload_n hx hb dL_law_144 rfl (lv_at hl 2 rfl) ?_
  refine lv_iconst (v := 3) hx hb dL_law_145 (by decide) ?_
  refine va_calll (va_runV (As := [.int (3 : Int32)]) (rest := []) ⟨hx, hb, hml, hown, hts⟩ (op_ofCoil hnt G tys htI htO hI 3 (by decide)) (cwV 1 hts gL_law_X7_ofCoil rfl rfl rfl (by decide +kernel) ⟨Nat.le_of_ble_eq_true rfl, Nat.le_of_ble_eq_true rfl⟩) ⟨pcX_b, va_recv hK hP (ci := 7) (q0 := 0) rfl hI.1.1, pcX_u hP hK hD hS hA hE⟩ rfl rfl hl.1 rfl (lv_room (Nat.le_of_ble_eq_true rfl)) dL_law_146 ⟨by show cells + 1 ≤ 600130; omega, by show slots + 6 ≤ 7301080; omega⟩) hS (fun q _ h => h) (fun q h => h) (fun r u t H locs ht hvm hq hB hsz hk1 hS => ?_)
  rw [ht] at hB
  obtain ⟨hP, hD⟩ := hB
  obtain ⟨wm, hq⟩ := hq
  refine re_l (y := wi) (hq.trans cOf3) ?_
  refine lv_aload_n hx hb dL_law_149 rfl (lv_at hl 2 rfl) ?_
  refine lv_iconst (v := 4) hx hb dL_law_150 (by decide) ?_
  refine va_calll (va_runV (As := [.int (4 : Int32)]) (rest := [.long wi]) ⟨hx, hb, hml, hown, hts⟩ (op_ofCoil hnt G tys htI htO hI 4 (by decide)) (cwV 1 hts gL_law_X7_ofCoil rfl rfl rfl (by decide +kernel) ⟨Nat.le_of_ble_eq_true rfl, Nat.le_of_ble_eq_true rfl⟩) ⟨pcX_b, va_recv hK hP (ci := 7) (q0 := 0) rfl hI.1.1, pcX_u hP hK hD hS hA hE⟩ rfl rfl hl.1 rfl (lv_room (Nat.le_of_ble_eq_true rfl)) dL_law_151 ⟨by show cells + 1 + 1 ≤ 600130; omega, by show slots + 6 + 6 ≤ 7301080; omega⟩) hS (fun q _ h => h) (fun q h => h) (fun r u t H locs ht hvm hq hB hsz hk1 hS => ?_)
  rw [ht] at hB
  obtain ⟨hP, hD⟩ := hB
  obtain ⟨wm, hq⟩ := hq
  refine re_l (y := dm) (hq.trans cOf4) ?_
  refine lv_ladd hx hb dL_law_154 ?_
  refine lv_lstore (lv' := [(17, .long (wi + dm)), (16, .int (nI k139)), (0, .ref b), (1, .ref (ad 0)), (2, .ref (ad 12)), (3, .ref (ad 13)), (4, .ref (ad 14)), (5, .ref (ad 15)), (6, .ref (ad 16)), (7, .int (nI np)), (8, .int (nI n)), (9, .long al), (12, .int ind), (13, .int cr), (14, .int (nI tu)), (11, .int (nI X)), (15, .int y15)]) hx hb dL_law_155 hl (by decide) rfl (fun ls hl => ?_)
  refine lv_aload_n hx hb dL_law_157 rfl (lv_at hl 3 rfl) ?_
  refine lv_iload hx hb dL_law_158 (lv_at hl 1 rfl) ?_
  refine va_calli (va_runV (As := [.int (nI k139)]) (rest := []) ⟨hx, hb, hml, hown, hts⟩ (op_current hnt G tys htI htO hI (nI k139) (cd_if (oR_of (a := 0) (b := 1000) (by decide) (by decide) (nI_toInt (by omega)) (by omega) (by omega)) rfl)) (cwV 1 hts gL_law_X7_current rfl rfl rfl (by decide +kernel) ⟨Nat.le_of_ble_eq_true rfl, Nat.le_of_ble_eq_true rfl⟩) ⟨pcX_b, va_recv hK hP (ci := 7) (q0 := 0) rfl hI.1.1, pcX_u hP hK hD hS hA hE⟩ rfl rfl hl.1 rfl (lv_room (Nat.le_of_ble_eq_true rfl)) dL_law_160 ⟨by show cells + 1 + 1 + 1 ≤ 600130; omega, by show slots + 6 + 6 + 6 ≤ 7301080; omega⟩) hS (fun q _ h => h) (fun q h => h) (fun r w t H locs ht hvm hq hB hsz hk1 hS => ?_)
  rw [ht] at hB
  obtain ⟨hP, hD⟩ := hB
  obtain ⟨own2, hI⟩ := hq
  refine lv_pop hx hb dL_law_163 rfl ?_
  refine lv_aload_n hx hb dL_law_164 rfl (lv_at hl 3 rfl) ?_
  refine lv_iconst (v := 3) hx hb dL_law_165 (by decide) ?_
  refine va_calll (va_runV (As := [.int (3 : Int32)]) (rest := []) ⟨hx, hb, hml, hown, hts⟩ (op_ofCoil hnt G tys htI htO hI 3 (by decide)) (cwV 1 hts gL_law_X7_ofCoil rfl rfl rfl (by decide +kernel) ⟨Nat.le_of_ble_eq_true rfl, Nat.le_of_ble_eq_true rfl⟩) ⟨pcX_b, va_recv hK hP (ci := 7) (q0 := 0) rfl hI.1.1, pcX_u hP hK hD hS hA hE⟩ rfl rfl hl.1 rfl (lv_room (Nat.le_of_ble_eq_true rfl)) dL_law_166 ⟨by show cells + 1 + 1 + 1 + 1 ≤ 600130; omega, by show slots + 6 + 6 + 6 + 6 ≤ 7301080; omega⟩) hS (fun q _ h => h) (fun q h => h) (fun r u t H locs ht hvm hq hB hsz hk1 hS => ?_)
  rw [ht] at hB
  obtain ⟨hP, hD⟩ := hB
  obtain ⟨wm, hq⟩ := hq
  refine re_l (y := wi) (hq.trans cOf3) ?_
  refine lv_aload_n hx hb dL_law_169 rfl (lv_at hl 3 rfl) ?_
  refine lv_iconst (v := 4) hx hb dL_law_170 (by decide) ?_
  refine va_calll (va_runV (As := [.int (4 : Int32)]) (rest := [.long wi]) ⟨hx, hb, hml, hown, hts⟩ (op_ofCoil hnt G tys htI htO hI 4 (by decide)) (cwV 1 hts gL_law_X7_ofCoil rfl rfl rfl (by decide +kernel) ⟨Nat.le_of_ble_eq_true rfl, Nat.le_of_ble_eq_true rfl⟩) ⟨pcX_b, va_recv hK hP (ci := 7) (q0 := 0) rfl hI.1.1, pcX_u hP hK hD hS hA hE⟩ rfl rfl hl.1 rfl (lv_room (Nat.le_of_ble_eq_true rfl)) dL_law_171 ⟨by show cells + 1 + 1 + 1 + 1 + 1 ≤ 600130; omega, by show slots + 6 + 6 + 6 + 6 + 6 ≤ 7301080; omega⟩) hS (fun q _ h => h) (fun q h => h) (fun r u t H locs ht hvm hq hB hsz hk1 hS => ?_)
  rw [ht] at hB
  obtain ⟨hP, hD⟩ := hB
  obtain ⟨wm, hq⟩ := hq
  refine re_l (y := dm) (hq.trans cOf4) ?_
  refine lv_ladd hx hb dL_law_174 ?_
  refine lv_lload hx hb dL_law_175 (lv_at hl 0 rfl) ?_
  refine W.lcmp hx hb dL_law_177 ?_
  refine re_i (y := (0 : Int32)) (lg_cmp_self _) ?_
  refine lv_if_ne (tgt := 191) hx hb dL_law_178 (by decide) (fun c178 => absurd (by decide) c178) (fun c178 => ?_)
  refine lv_aload_n hx hb dL_law_181 rfl (lv_at hl 3 rfl) ?_
  refine lv_iconst (v := 2) hx hb dL_law_182 (by decide) ?_
  refine va_calll (va_runV (As := [.int (2 : Int32)]) (rest := []) ⟨hx, hb, hml, hown, hts⟩ (op_ofCoil hnt G tys htI htO hI 2 (by decide)) (cwV 1 hts gL_law_X7_ofCoil rfl rfl rfl (by decide +kernel) ⟨Nat.le_of_ble_eq_true rfl, Nat.le_of_ble_eq_true rfl⟩) ⟨pcX_b, va_recv hK hP (ci := 7) (q0 := 0) rfl hI.1.1, pcX_u hP hK hD hS hA hE⟩ rfl rfl hl.1 rfl (lv_room (Nat.le_of_ble_eq_true rfl)) dL_law_183 ⟨by show cells + 1 + 1 + 1 + 1 + 1 + 1 ≤ 600130; omega, by show slots + 6 + 6 + 6 + 6 + 6 + 6 ≤ 7301080; omega⟩) hS (fun q _ h => h) (fun q h => h) (fun r u t H locs ht hvm hq hB hsz hk1 hS => ?_)
  rw [ht] at hB
  obtain ⟨hP, hD⟩ := hB
  obtain ⟨wm, hq⟩ := hq
  refine re_l (y := 0) (hq.trans (cOf2 rfl)) ?_
  refine lv_lconst (v := 0) hx hb dL_law_186 (by decide) ?_
  refine W.lcmp hx hb dL_law_187 ?_
  refine re_i (y := (0 : Int32)) (lg_cmp_self _) ?_
  refine lv_if_eq (tgt := 193) hx hb dL_law_188 (by decide) (fun c188 => ?_) (fun c188 => absurd (by decide) c188)
  refine lv_lload hx hb dL_law_193 (lv_at hl 0 rfl) ?_
  refine lv_ldc2 (v := 50) hx hb hown (hts0 _ cw_33) dL_law_195 ?_
  refine lv_iload hx hb dL_law_198 (lv_at hl 1 rfl) ?_
  refine lv_i2l hx hb dL_law_200 rfl ?_
  refine lv_lmul hx hb dL_law_201 ?_
  refine lv_iload hx hb dL_law_202 (lv_at hl 1 rfl) ?_
  refine lv_i2l hx hb dL_law_204 rfl ?_
  refine lv_lmul hx hb dL_law_205 ?_
  refine lv_ladd hx hb dL_law_206 ?_
  refine lv_lstore (lv' := [(9, .long ((wi + dm) + ((50 * ((nI k139).toInt64)) * ((nI k139).toInt64)))), (17, .long (wi + dm)), (16, .int (nI k139)), (0, .ref b), (1, .ref (ad 0)), (2, .ref (ad 12)), (3, .ref (ad 13)), (4, .ref (ad 14)), (5, .ref (ad 15)), (6, .ref (ad 16)), (7, .int (nI np)), (8, .int (nI n)), (12, .int ind), (13, .int cr), (14, .int (nI tu)), (11, .int (nI X)), (15, .int y15)]) hx hb dL_law_207 hl (by decide) rfl (fun ls hl => ?_)
  refine lv_goto (tgt := 661) hx hb dL_law_209 (by decide) ?_
  refine W.widen (k := cells + 60) (n := slots + 1200) (by omega) (by omega) ?_
  exact kk n np (wi + dm + 50 * (nI k139).toInt64 * (nI k139).toInt64) _ _ _ _ ⟨_, _, _, _, _, _, _, _, _, _, _, _, _, _, _, _, _, hI, rfl, hT, hnp, hV⟩ hP hD hS (lv_sub hl [3, 4, 5, 6, 7, 8, 9, 10, 11, 0, 12, 13, 14] rfl)
set_option maxHeartbeats 4000000 in
set_option maxRecDepth 100000 in
theorem act_1 {p : Program} {l : Launch} {e : Env} {s : State} {m : MethodId} {below : List Frame} {meth : Method} {c : Code} (hnt : l.stackTraces = false) {G : va_G} {tys : List (ClassId × FieldType)} {tE mi : Nat} {cI cO : ClassId} (htI : tI tys cI) (htO : tO tys cO) {b L : Nat} {xs : Nat → Int32} (hL : L ≤ 260) (C0 : lw_At p s m meth c b L xs) {ad : Nat → Nat} (hK : va_K G vwCl tys s) (hE : env (fun q : Nat => s.heap.size ≤ q) tE mi s s.heap) {ind cr : Int32} {n np tu X : Nat} {al : Int64} {y15 : Int32} {ws : va_W} {H : Heap} {locs : List Loc} {cells slots : Nat} {Q : State → Prop} {ls : Array Slot} (hX31 : X < 2 ^ 31) (hti : ti cI cO tE ad ind cr n np al ws) (hP : va_P G vwCl ws H) (hD : va_D (fun q : Nat => s.heap.size ≤ q) ws) (hS : va_S (fun q : Nat => s.heap.size ≤ q) s.heap H locs) (hl : lv_has ls 26 [(0, .ref b), (1, .ref (ad 0)), (2, .ref (ad 12)), (3, .ref (ad 13)), (4, .ref (ad 14)), (5, .ref (ad 15)), (6, .ref (ad 16)), (7, .int (nI np)), (8, .int (nI n)), (9, .long al), (12, .int ind), (13, .int cr), (14, .int (nI tu)), (11, .int (nI X)), (15, .int y15)]) (hc : cells + 60 ≤ 600130) (hs : slots + 1200 ≤ 7301080) (kk : ∀ (n2 np2 : Nat) (al2 : Int64) (w : va_W) (H1 : Heap) (locs1 : List Loc) (ls1 : Array Slot), ti cI cO tE ad ind cr n2 np2 al2 w → va_P G vwCl w H1 → va_D (fun q : Nat => s.heap.size ≤ q) w → va_S (fun q : Nat => s.heap.size ≤ q) s.heap H1 locs1 → lv_has ls1 26 [(0, .ref b), (1, .ref (ad 0)), (2, .ref (ad 12)), (3, .ref (ad 13)), (4, .ref (ad 14)), (5, .ref (ad 15)), (6, .ref (ad 16)), (7, .int (nI np2)), (8, .int (nI n2)), (9, .long al2), (12, .int ind), (13, .int cr), (14, .int (nI tu))] → W p l e room_1 s m #[Value.ref b] below meth c H1 locs1 (cells + 60) (slots + 1200) Q (F0 m 661 ls1 [])) : W p l e room_1 s m #[Value.ref b] below meth c H locs (cells) (slots) Q (F0 m 218 ls []) := by
  obtain ⟨hx, hb, hr, hml, hown, hts0, hX, hbl, hlocks, hgv⟩ := C0
  have hts : ∀ w ∈ wsL_law, w.before #[Value.ref b] s = true := fun w h => hts0 w (wsL_law_in w h)
  have hown : s.vm.findClass RL = some m.cls := hown
  have hA : ∀ q : Nat, s.heap.size ≤ q → (fun q : Nat => s.heap.size ≤ q) q := fun _ h => h
  have hbA : ¬ (fun q : Nat => s.heap.size ≤ q) b := Nat.not_le.mpr hbl
  obtain ⟨own, P, M, V, S, T, cel, ct, cf, co, ca, wd, num, cur, du, wi, dm, hI, hal, hT, hnp, hV⟩ := hti
  refine lv_aload_n hx hb dL_law_218 rfl (lv_at hl 1 rfl) ?_
  refine lv_iload hx hb dL_law_219 (lv_at hl 13 rfl) ?_
  refine lv_iconst (v := 4) hx hb dL_law_221 (by decide) ?_
  refine lv_ishr hx hb dL_law_222 ?_
  refine re_i (y := nI (X / 2 ^ 4)) (pk_shrN hX31 _ 4 (by decide +kernel)) ?_
  refine lv_bipush (v := 12) hx hb dL_law_223 (by decide) ?_
  refine re_i (y := nI 12) (show (12 : Int32) = nI 12 from rfl) ?_
  refine vp_callSi (va_Run.run (va_runS (As := [.int (nI (X / 2 ^ 4)), .int (nI 12)]) (rest := [.ref (ad 0)]) ⟨hx, hb, hml, hown, hts⟩ (metL_at l (X / 2 ^ 4) 12 (by omega) (by decide) (by decide)) (va_cwS 2 hts gL_law_L_at rfl rfl rfl (by decide +kernel) ⟨Nat.le_of_ble_eq_true rfl, Nat.le_of_ble_eq_true rfl⟩) ⟨pc0_b, pc0_u⟩ rfl rfl hl.1 rfl (lv_room (Nat.le_of_ble_eq_true rfl)) dL_law_225 ⟨by show cells + 0 ≤ 600130; omega, by show slots + 0 ≤ 7301080; omega⟩)) (fun r h => ?_)
  obtain ⟨k225, hk225, rfl⟩ := h
  refine lv_iconst (v := 1) hx hb dL_law_228 (by decide) ?_
  refine lv_iload hx hb dL_law_229 (lv_at hl 13 rfl) ?_
  refine lv_bipush (v := 8) hx hb dL_law_231 (by decide) ?_
  refine lv_ishr hx hb dL_law_233 ?_
  refine re_i (y := nI (X / 2 ^ 8)) (pk_shrN hX31 _ 8 (by decide +kernel)) ?_
  refine lv_sipush (v := 500) hx hb dL_law_234 (by decide) ?_
  refine re_i (y := nI 500) (show (500 : Int32) = nI 500 from rfl) ?_
  refine vp_callSi (va_Run.run (va_runS (As := [.int (nI (X / 2 ^ 8)), .int (nI 500)]) (rest := [.int (1 : Int32), .int (nI k225), .ref (ad 0)]) ⟨hx, hb, hml, hown, hts⟩ (metL_at l (X / 2 ^ 8) 500 (by omega) (by decide) (by decide)) (va_cwS 2 hts gL_law_L_at rfl rfl rfl (by decide +kernel) ⟨Nat.le_of_ble_eq_true rfl, Nat.le_of_ble_eq_true rfl⟩) ⟨pc0_b, pc0_u⟩ rfl rfl hl.1 rfl (lv_room (Nat.le_of_ble_eq_true rfl)) dL_law_237 ⟨by show cells + 0 ≤ 600130; omega, by show slots + 0 ≤ 7301080; omega⟩)) (fun r h => ?_)
  obtain ⟨k237, hk237, rfl⟩ := h
  refine lv_iadd hx hb dL_law_240 ?_
  refine re_i (y := nI (1 + k237)) (nI_add 1 k237) ?_
  refine va_calli (va_runV (As := [.int (nI k225), .int (nI (1 + k237))]) (rest := []) ⟨hx, hb, hml, hown, hts⟩ (op_heat hnt G tys htI htO hI (nI k225) (nI (1 + k237)) (cd_if (uK_of (n := 12) hk225 (by decide)) (cd_if (oR_of (a := 1) (b := 500) (by decide) (by decide) (nI_toInt (by omega)) (by omega) (by omega)) rfl))) (cwV 2 hts gL_law_X7_heat rfl rfl rfl (by decide +kernel) ⟨Nat.le_of_ble_eq_true rfl, Nat.le_of_ble_eq_true rfl⟩) ⟨pcX_b, va_recv hK hP (ci := 7) (q0 := 0) rfl hI.1.1, pcX_u hP hK hD hS hA hE⟩ rfl rfl hl.1 rfl (lv_room (Nat.le_of_ble_eq_true rfl)) dL_law_241 ⟨by show cells + 2 ≤ 600130; omega, by show slots + 12 ≤ 7301080; omega⟩) hS (fun q _ h => h) (fun q h => h) (fun r w t H locs ht hvm hq hB hsz hk1 hS => ?_)
  rw [ht] at hB
  obtain ⟨hP, hD⟩ := hB
  obtain ⟨own2, hI⟩ := hq
  refine lv_pop hx hb dL_law_244 rfl ?_
  refine lv_goto (tgt := 661) hx hb dL_law_245 (by decide) ?_
  refine W.widen (k := cells + 60) (n := slots + 1200) (by omega) (by omega) ?_
  exact kk n np al _ _ _ _ ⟨_, _, _, _, _, _, _, _, _, _, _, _, _, _, _, _, _, hI, hal, hT, hnp, hV⟩ hP hD hS (lv_sub hl [0, 1, 2, 3, 4, 5, 6, 7, 8, 9, 10, 11, 12] rfl)
set_option maxHeartbeats 4000000 in
set_option maxRecDepth 100000 in
theorem act_2 {p : Program} {l : Launch} {e : Env} {s : State} {m : MethodId} {below : List Frame} {meth : Method} {c : Code} (hnt : l.stackTraces = false) {G : va_G} {tys : List (ClassId × FieldType)} {tE mi : Nat} {cI cO : ClassId} (htI : tI tys cI) (htO : tO tys cO) {b L : Nat} {xs : Nat → Int32} (hL : L ≤ 260) (C0 : lw_At p s m meth c b L xs) {ad : Nat → Nat} (hK : va_K G vwCl tys s) (hE : env (fun q : Nat => s.heap.size ≤ q) tE mi s s.heap) {ind cr : Int32} {n np tu X : Nat} {al : Int64} {y15 : Int32} {ws : va_W} {H : Heap} {locs : List Loc} {cells slots : Nat} {Q : State → Prop} {ls : Array Slot} (hX31 : X < 2 ^ 31) (hti : ti cI cO tE ad ind cr n np al ws) (hP : va_P G vwCl ws H) (hD : va_D (fun q : Nat => s.heap.size ≤ q) ws) (hS : va_S (fun q : Nat => s.heap.size ≤ q) s.heap H locs) (hl : lv_has ls 26 [(0, .ref b), (1, .ref (ad 0)), (2, .ref (ad 12)), (3, .ref (ad 13)), (4, .ref (ad 14)), (5, .ref (ad 15)), (6, .ref (ad 16)), (7, .int (nI np)), (8, .int (nI n)), (9, .long al), (12, .int ind), (13, .int cr), (14, .int (nI tu)), (11, .int (nI X)), (15, .int y15)]) (hc : cells + 60 ≤ 600130) (hs : slots + 1200 ≤ 7301080) (kk : ∀ (n2 np2 : Nat) (al2 : Int64) (w : va_W) (H1 : Heap) (locs1 : List Loc) (ls1 : Array Slot), ti cI cO tE ad ind cr n2 np2 al2 w → va_P G vwCl w H1 → va_D (fun q : Nat => s.heap.size ≤ q) w → va_S (fun q : Nat => s.heap.size ≤ q) s.heap H1 locs1 → lv_has ls1 26 [(0, .ref b), (1, .ref (ad 0)), (2, .ref (ad 12)), (3, .ref (ad 13)), (4, .ref (ad 14)), (5, .ref (ad 15)), (6, .ref (ad 16)), (7, .int (nI np2)), (8, .int (nI n2)), (9, .long al2), (12, .int ind), (13, .int cr), (14, .int (nI tu))] → W p l e room_1 s m #[Value.ref b] below meth c H1 locs1 (cells + 60) (slots + 1200) Q (F0 m 661 ls1 [])) : W p l e room_1 s m #[Value.ref b] below meth c H locs (cells) (slots) Q (F0 m 254 ls []) := by
  obtain ⟨hx, hb, hr, hml, hown, hts0, hX, hbl, hlocks, hgv⟩ := C0
  have hts : ∀ w ∈ wsL_law, w.before #[Value.ref b] s = true := fun w h => hts0 w (wsL_law_in w h)
  have hown : s.vm.findClass RL = some m.cls := hown
  have hA : ∀ q : Nat, s.heap.size ≤ q → (fun q : Nat => s.heap.size ≤ q) q := fun _ h => h
  have hbA : ¬ (fun q : Nat => s.heap.size ≤ q) b := Nat.not_le.mpr hbl
  obtain ⟨own, P, M, V, S, T, cel, ct, cf, co, ca, wd, num, cur, du, wi, dm, hI, hal, hT, hnp, hV⟩ := hti
  refine lv_aload_n hx hb dL_law_254 rfl (lv_at hl 1 rfl) ?_
  refine lv_iconst (v := 1) hx hb dL_law_255 (by decide) ?_
  refine lv_iload hx hb dL_law_256 (lv_at hl 13 rfl) ?_
  refine lv_iconst (v := 4) hx hb dL_law_258 (by decide) ?_
  refine lv_ishr hx hb dL_law_259 ?_
  refine re_i (y := nI (X / 2 ^ 4)) (pk_shrN hX31 _ 4 (by decide +kernel)) ?_
  refine lv_bipush (v := 10) hx hb dL_law_260 (by decide) ?_
  refine re_i (y := nI 10) (show (10 : Int32) = nI 10 from rfl) ?_
  refine vp_callSi (va_Run.run (va_runS (As := [.int (nI (X / 2 ^ 4)), .int (nI 10)]) (rest := [.int (1 : Int32), .ref (ad 0)]) ⟨hx, hb, hml, hown, hts⟩ (metL_at l (X / 2 ^ 4) 10 (by omega) (by decide) (by decide)) (va_cwS 2 hts gL_law_L_at rfl rfl rfl (by decide +kernel) ⟨Nat.le_of_ble_eq_true rfl, Nat.le_of_ble_eq_true rfl⟩) ⟨pc0_b, pc0_u⟩ rfl rfl hl.1 rfl (lv_room (Nat.le_of_ble_eq_true rfl)) dL_law_262 ⟨by show cells + 0 ≤ 600130; omega, by show slots + 0 ≤ 7301080; omega⟩)) (fun r h => ?_)
  obtain ⟨k262, hk262, rfl⟩ := h
  refine lv_iadd hx hb dL_law_265 ?_
  refine re_i (y := nI (1 + k262)) (nI_add 1 k262) ?_
  refine va_calli (va_runV (As := [.int (nI (1 + k262))]) (rest := []) ⟨hx, hb, hml, hown, hts⟩ (op_pass hnt G tys htI htO hI (nI (1 + k262)) (cd_if (oR_of (a := 1) (b := 50) (by decide) (by decide) (nI_toInt (by omega)) (by omega) (by omega)) rfl)) (cwV 1 hts gL_law_X7_pass rfl rfl rfl (by decide +kernel) ⟨Nat.le_of_ble_eq_true rfl, Nat.le_of_ble_eq_true rfl⟩) ⟨pcX_b, va_recv hK hP (ci := 7) (q0 := 0) rfl hI.1.1, pcX_u hP hK hD hS hA hE⟩ rfl rfl hl.1 rfl (lv_room (Nat.le_of_ble_eq_true rfl)) dL_law_266 ⟨by show cells + 1 ≤ 600130; omega, by show slots + 6 ≤ 7301080; omega⟩) hS (fun q _ h => h) (fun q h => h) (fun r w t H locs ht hvm hq hB hsz hk1 hS => ?_)
  rw [ht] at hB
  obtain ⟨hP, hD⟩ := hB
  obtain ⟨own2, cur2, du2, wi2, dm2, hI, hsum⟩ := hq
  refine lv_pop hx hb dL_law_269 rfl ?_
  refine lv_goto (tgt := 661) hx hb dL_law_270 (by decide) ?_
  refine W.widen (k := cells + 60) (n := slots + 1200) (by omega) (by omega) ?_
  exact kk n np al _ _ _ _ ⟨_, _, _, _, _, _, _, _, _, _, _, _, _, _, _, _, _, hI, hal.trans hsum.symm, hT, hnp, hV⟩ hP hD hS (lv_sub hl [0, 1, 2, 3, 4, 5, 6, 7, 8, 9, 10, 11, 12] rfl)
set_option maxHeartbeats 4000000 in
set_option maxRecDepth 100000 in
theorem act_3 {p : Program} {l : Launch} {e : Env} {s : State} {m : MethodId} {below : List Frame} {meth : Method} {c : Code} (hnt : l.stackTraces = false) {G : va_G} {tys : List (ClassId × FieldType)} {tE mi : Nat} {cI cO : ClassId} (htI : tI tys cI) (htO : tO tys cO) {b L : Nat} {xs : Nat → Int32} (hL : L ≤ 260) (C0 : lw_At p s m meth c b L xs) {ad : Nat → Nat} (hK : va_K G vwCl tys s) (hE : env (fun q : Nat => s.heap.size ≤ q) tE mi s s.heap) {ind cr : Int32} {n np tu X : Nat} {al : Int64} {y15 : Int32} {ws : va_W} {H : Heap} {locs : List Loc} {cells slots : Nat} {Q : State → Prop} {ls : Array Slot} (hX31 : X < 2 ^ 31) (hn20 : n < 20) (hti : ti cI cO tE ad ind cr n np al ws) (hP : va_P G vwCl ws H) (hD : va_D (fun q : Nat => s.heap.size ≤ q) ws) (hS : va_S (fun q : Nat => s.heap.size ≤ q) s.heap H locs) (hl : lv_has ls 26 [(0, .ref b), (1, .ref (ad 0)), (2, .ref (ad 12)), (3, .ref (ad 13)), (4, .ref (ad 14)), (5, .ref (ad 15)), (6, .ref (ad 16)), (7, .int (nI np)), (8, .int (nI n)), (9, .long al), (12, .int ind), (13, .int cr), (14, .int (nI tu)), (11, .int (nI X)), (15, .int y15)]) (hc : cells + 60 ≤ 600130) (hs : slots + 1200 ≤ 7301080) (kk : ∀ (n2 np2 : Nat) (al2 : Int64) (w : va_W) (H1 : Heap) (locs1 : List Loc) (ls1 : Array Slot), ti cI cO tE ad ind cr n2 np2 al2 w → va_P G vwCl w H1 → va_D (fun q : Nat => s.heap.size ≤ q) w → va_S (fun q : Nat => s.heap.size ≤ q) s.heap H1 locs1 → lv_has ls1 26 [(0, .ref b), (1, .ref (ad 0)), (2, .ref (ad 12)), (3, .ref (ad 13)), (4, .ref (ad 14)), (5, .ref (ad 15)), (6, .ref (ad 16)), (7, .int (nI np2)), (8, .int (nI n2)), (9, .long al2), (12, .int ind), (13, .int cr), (14, .int (nI tu))] → W p l e room_1 s m #[Value.ref b] below meth c H1 locs1 (cells + 60) (slots + 1200) Q (F0 m 661 ls1 [])) : W p l e room_1 s m #[Value.ref b] below meth c H locs (cells) (slots) Q (F0 m 286 ls []) := by
  obtain ⟨hx, hb, hr, hml, hown, hts0, hX, hbl, hlocks, hgv⟩ := C0
  have hts : ∀ w ∈ wsL_law, w.before #[Value.ref b] s = true := fun w h => hts0 w (wsL_law_in w h)
  have hown : s.vm.findClass RL = some m.cls := hown
  have hA : ∀ q : Nat, s.heap.size ≤ q → (fun q : Nat => s.heap.size ≤ q) q := fun _ h => h
  have hbA : ¬ (fun q : Nat => s.heap.size ≤ q) b := Nat.not_le.mpr hbl
  obtain ⟨own, P, M, V, S, T, cel, ct, cf, co, ca, wd, num, cur, du, wi, dm, hI, hal, hT, hnp, hV⟩ := hti
  refine lv_aload_n hx hb dL_law_286 rfl (lv_at hl 1 rfl) ?_
  refine lv_iload hx hb dL_law_287 (lv_at hl 13 rfl) ?_
  refine lv_iconst (v := 4) hx hb dL_law_289 (by decide) ?_
  refine lv_ishr hx hb dL_law_290 ?_
  refine re_i (y := nI (X / 2 ^ 4)) (pk_shrN hX31 _ 4 (by decide +kernel)) ?_
  refine lv_bipush (v := 19) hx hb dL_law_291 (by decide) ?_
  refine re_i (y := nI 19) (show (19 : Int32) = nI 19 from rfl) ?_
  refine vp_callSi (va_Run.run (va_runS (As := [.int (nI (X / 2 ^ 4)), .int (nI 19)]) (rest := [.ref (ad 0)]) ⟨hx, hb, hml, hown, hts⟩ (metL_at l (X / 2 ^ 4) 19 (by omega) (by decide) (by decide)) (va_cwS 2 hts gL_law_L_at rfl rfl rfl (by decide +kernel) ⟨Nat.le_of_ble_eq_true rfl, Nat.le_of_ble_eq_true rfl⟩) ⟨pc0_b, pc0_u⟩ rfl rfl hl.1 rfl (lv_room (Nat.le_of_ble_eq_true rfl)) dL_law_293 ⟨by show cells + 0 ≤ 600130; omega, by show slots + 0 ≤ 7301080; omega⟩)) (fun r h => ?_)
  obtain ⟨k293, hk293, rfl⟩ := h
  refine lv_bipush (v := 9) hx hb dL_law_296 (by decide) ?_
  refine lv_isub hx hb dL_law_298 ?_
  refine lv_iload hx hb dL_law_299 (lv_at hl 13 rfl) ?_
  refine lv_bipush (v := 9) hx hb dL_law_301 (by decide) ?_
  refine lv_ishr hx hb dL_law_303 ?_
  refine re_i (y := nI (X / 2 ^ 9)) (pk_shrN hX31 _ 9 (by decide +kernel)) ?_
  refine lv_bipush (v := 31) hx hb dL_law_304 (by decide) ?_
  refine re_i (y := nI 31) (show (31 : Int32) = nI 31 from rfl) ?_
  refine vp_callSi (va_Run.run (va_runS (As := [.int (nI (X / 2 ^ 9)), .int (nI 31)]) (rest := [.int ((nI k293) - (9 : Int32)), .ref (ad 0)]) ⟨hx, hb, hml, hown, hts⟩ (metL_at l (X / 2 ^ 9) 31 (by omega) (by decide) (by decide)) (va_cwS 2 hts gL_law_L_at rfl rfl rfl (by decide +kernel) ⟨Nat.le_of_ble_eq_true rfl, Nat.le_of_ble_eq_true rfl⟩) ⟨pc0_b, pc0_u⟩ rfl rfl hl.1 rfl (lv_room (Nat.le_of_ble_eq_true rfl)) dL_law_306 ⟨by show cells + 0 ≤ 600130; omega, by show slots + 0 ≤ 7301080; omega⟩)) (fun r h => ?_)
  obtain ⟨k306, hk306, rfl⟩ := h
  refine va_callv (va_runV (As := [.int ((nI k293) - (9 : Int32)), .int (nI k306)]) (rest := []) ⟨hx, hb, hml, hown, hts⟩ (op_drive hnt G tys htI htO hI (nI k293 - 9) (nI k306) (cd_if (oR_of (a := -9) (b := 9) (by decide) (by decide) (i_sub (nI_toInt (by omega)) (show (9 : Int32).toInt = 9 by decide) (by omega) (by omega)) (by omega) (by omega)) (cd_if (oR_of (a := 0) (b := 30) (by decide) (by decide) (nI_toInt (by omega)) (by omega) (by omega)) rfl))) (cwV 2 hts gL_law_X7_drive rfl rfl rfl (by decide +kernel) ⟨Nat.le_of_ble_eq_true rfl, Nat.le_of_ble_eq_true rfl⟩) ⟨pcX_b, va_recv hK hP (ci := 7) (q0 := 0) rfl hI.1.1, pcX_u hP hK hD hS hA hE⟩ rfl rfl hl.1 rfl (lv_room (Nat.le_of_ble_eq_true rfl)) dL_law_309 ⟨by show cells + 2 ≤ 600130; omega, by show slots + 12 ≤ 7301080; omega⟩) hS (fun q _ h => h) (fun q h => h) (fun w t H locs ht hvm hq hB hsz hk1 hS => ?_)
  rw [ht] at hB
  obtain ⟨hP, hD⟩ := hB
  obtain ⟨own2, hI⟩ := hq
  refine lv_aload_n hx hb dL_law_312 rfl (lv_at hl 1 rfl) ?_
  refine lv_iload hx hb dL_law_313 (lv_at hl 13 rfl) ?_
  refine lv_bipush (v := 14) hx hb dL_law_315 (by decide) ?_
  refine lv_ishr hx hb dL_law_317 ?_
  refine re_i (y := nI (X / 2 ^ 14)) (pk_shrN hX31 _ 14 (by decide +kernel)) ?_
  refine lv_sipush (v := 200) hx hb dL_law_318 (by decide) ?_
  refine re_i (y := nI 200) (show (200 : Int32) = nI 200 from rfl) ?_
  refine vp_callSi (va_Run.run (va_runS (As := [.int (nI (X / 2 ^ 14)), .int (nI 200)]) (rest := [.ref (ad 0)]) ⟨hx, hb, hml, hown, hts⟩ (metL_at l (X / 2 ^ 14) 200 (by omega) (by decide) (by decide)) (va_cwS 2 hts gL_law_L_at rfl rfl rfl (by decide +kernel) ⟨Nat.le_of_ble_eq_true rfl, Nat.le_of_ble_eq_true rfl⟩) ⟨pc0_b, pc0_u⟩ rfl rfl hl.1 rfl (lv_room (Nat.le_of_ble_eq_true rfl)) dL_law_321 ⟨by show cells + 2 + 0 ≤ 600130; omega, by show slots + 12 + 0 ≤ 7301080; omega⟩)) (fun r h => ?_)
  obtain ⟨k321, hk321, rfl⟩ := h
  refine va_calli (va_runV (As := [.int (nI k321)]) (rest := []) ⟨hx, hb, hml, hown, hts⟩ (op_enter hnt G tys htI htO hI (nI k321) (cd_if (oR_of (a := -100) (b := 1000) (by decide) (by decide) (nI_toInt (by omega)) (by omega) (by omega)) (cd_if (show ¬ nI 20 ≤ nI n from nI_ge hn20 (by decide)) rfl)) hn20) (cwV 1 hts gL_law_X7_enter rfl rfl rfl (by decide +kernel) ⟨Nat.le_of_ble_eq_true rfl, Nat.le_of_ble_eq_true rfl⟩) ⟨pcX_b, va_recv hK hP (ci := 7) (q0 := 0) rfl hI.1.1, pcX_u hP hK hD hS hA hE⟩ rfl rfl hl.1 rfl (lv_room (Nat.le_of_ble_eq_true rfl)) dL_law_324 ⟨by show cells + 2 + 2 ≤ 600130; omega, by show slots + 12 + 12 ≤ 7301080; omega⟩) hS (fun q _ h => h) (fun q h => h) (fun r w t H locs ht hvm hq hB hsz hk1 hS => ?_)
  rw [ht] at hB
  obtain ⟨hP, hD⟩ := hB
  rcases hq with ⟨er, own3, hI⟩ | ⟨er, own3, g, hI⟩
  · subst er
    refine lv_if_lt (tgt := 333) hx hb dL_law_327 (by decide) (fun c327 => ?_) (fun c327 => absurd (by decide) c327)
    refine lv_aload_n hx hb dL_law_333 rfl (lv_at hl 1 rfl) ?_
    refine lv_iload hx hb dL_law_334 (lv_at hl 13 rfl) ?_
    refine lv_iconst (v := 5) hx hb dL_law_336 (by decide) ?_
    refine lv_ishr hx hb dL_law_337 ?_
    refine re_i (y := nI (X / 2 ^ 5)) (pk_shrN hX31 _ 5 (by decide +kernel)) ?_
    refine lv_bipush (v := 48) hx hb dL_law_338 (by decide) ?_
    refine re_i (y := nI 48) (show (48 : Int32) = nI 48 from rfl) ?_
    refine vp_callSi (va_Run.run (va_runS (As := [.int (nI (X / 2 ^ 5)), .int (nI 48)]) (rest := [.ref (ad 0)]) ⟨hx, hb, hml, hown, hts⟩ (metL_at l (X / 2 ^ 5) 48 (by omega) (by decide) (by decide)) (va_cwS 2 hts gL_law_L_at rfl rfl rfl (by decide +kernel) ⟨Nat.le_of_ble_eq_true rfl, Nat.le_of_ble_eq_true rfl⟩) ⟨pc0_b, pc0_u⟩ rfl rfl hl.1 rfl (lv_room (Nat.le_of_ble_eq_true rfl)) dL_law_340 ⟨by show cells + 2 + 2 + 0 ≤ 600130; omega, by show slots + 12 + 12 + 0 ≤ 7301080; omega⟩)) (fun r h => ?_)
    obtain ⟨k340, hk340, rfl⟩ := h
    refine lv_iload hx hb dL_law_343 (lv_at hl 13 rfl) ?_
    refine lv_bipush (v := 11) hx hb dL_law_345 (by decide) ?_
    refine lv_ishr hx hb dL_law_347 ?_
    refine re_i (y := nI (X / 2 ^ 11)) (pk_shrN hX31 _ 11 (by decide +kernel)) ?_
    refine lv_bipush (v := 51) hx hb dL_law_348 (by decide) ?_
    refine re_i (y := nI 51) (show (51 : Int32) = nI 51 from rfl) ?_
    refine vp_callSi (va_Run.run (va_runS (As := [.int (nI (X / 2 ^ 11)), .int (nI 51)]) (rest := [.int (nI k340), .ref (ad 0)]) ⟨hx, hb, hml, hown, hts⟩ (metL_at l (X / 2 ^ 11) 51 (by omega) (by decide) (by decide)) (va_cwS 2 hts gL_law_L_at rfl rfl rfl (by decide +kernel) ⟨Nat.le_of_ble_eq_true rfl, Nat.le_of_ble_eq_true rfl⟩) ⟨pc0_b, pc0_u⟩ rfl rfl hl.1 rfl (lv_room (Nat.le_of_ble_eq_true rfl)) dL_law_350 ⟨by show cells + 2 + 2 + 0 ≤ 600130; omega, by show slots + 12 + 12 + 0 ≤ 7301080; omega⟩)) (fun r h => ?_)
    obtain ⟨k350, hk350, rfl⟩ := h
    refine va_calli (va_runV (As := [.int (nI k340), .int (nI k350)]) (rest := []) ⟨hx, hb, hml, hown, hts⟩ (op_pin hnt G tys htI htO hI (nI k340) (nI k350) (cd_if (uK_of (n := 48) hk340 (by decide)) (cd_if (oR_of (a := 0) (b := 50) (by decide) (by decide) (nI_toInt (by omega)) (by omega) (by omega)) rfl))) (cwV 2 hts gL_law_X7_pin rfl rfl rfl (by decide +kernel) ⟨Nat.le_of_ble_eq_true rfl, Nat.le_of_ble_eq_true rfl⟩) ⟨pcX_b, va_recv hK hP (ci := 7) (q0 := 0) rfl hI.1.1, pcX_u hP hK hD hS hA hE⟩ rfl rfl hl.1 rfl (lv_room (Nat.le_of_ble_eq_true rfl)) dL_law_353 ⟨by show cells + 2 + 2 + 2 ≤ 600130; omega, by show slots + 12 + 12 + 12 ≤ 7301080; omega⟩) hS (fun q _ h => h) (fun q h => h) (fun r w t H locs ht hvm hq hB hsz hk1 hS => ?_)
    rw [ht] at hB
    obtain ⟨hP, hD⟩ := hB
    obtain ⟨own4, hI⟩ := hq
    refine lv_pop hx hb dL_law_356 rfl ?_
    refine lv_goto (tgt := 661) hx hb dL_law_357 (by decide) ?_
    refine W.widen (k := cells + 60) (n := slots + 1200) (by omega) (by omega) ?_
    exact kk n np al _ _ _ _ ⟨_, _, _, _, _, _, _, _, _, _, _, _, _, _, _, _, _, hI, hal, hT, hnp, hV⟩ hP hD hS (lv_sub hl [0, 1, 2, 3, 4, 5, 6, 7, 8, 9, 10, 11, 12] rfl)
  · subst er
    refine lv_if_lt (tgt := 333) hx hb dL_law_327 (by decide) (fun c327 => absurd c327 (nI_pos (by omega))) (fun c327 => ?_)
    refine lv_iinc (v := nI (n + 1)) (lv' := [(8, .int (nI (n + 1))), (0, .ref b), (1, .ref (ad 0)), (2, .ref (ad 12)), (3, .ref (ad 13)), (4, .ref (ad 14)), (5, .ref (ad 15)), (6, .ref (ad 16)), (7, .int (nI np)), (9, .long al), (12, .int ind), (13, .int cr), (14, .int (nI tu)), (11, .int (nI X)), (15, .int y15)]) hx hb dL_law_330 hl (k := 8) rfl (nI_1 n) (by decide) rfl (fun ls hl => ?_)
    refine lv_aload_n hx hb dL_law_333 rfl (lv_at hl 2 rfl) ?_
    refine lv_iload hx hb dL_law_334 (lv_at hl 13 rfl) ?_
    refine lv_iconst (v := 5) hx hb dL_law_336 (by decide) ?_
    refine lv_ishr hx hb dL_law_337 ?_
    refine re_i (y := nI (X / 2 ^ 5)) (pk_shrN hX31 _ 5 (by decide +kernel)) ?_
    refine lv_bipush (v := 48) hx hb dL_law_338 (by decide) ?_
    refine re_i (y := nI 48) (show (48 : Int32) = nI 48 from rfl) ?_
    refine vp_callSi (va_Run.run (va_runS (As := [.int (nI (X / 2 ^ 5)), .int (nI 48)]) (rest := [.ref (ad 0)]) ⟨hx, hb, hml, hown, hts⟩ (metL_at l (X / 2 ^ 5) 48 (by omega) (by decide) (by decide)) (va_cwS 2 hts gL_law_L_at rfl rfl rfl (by decide +kernel) ⟨Nat.le_of_ble_eq_true rfl, Nat.le_of_ble_eq_true rfl⟩) ⟨pc0_b, pc0_u⟩ rfl rfl hl.1 rfl (lv_room (Nat.le_of_ble_eq_true rfl)) dL_law_340 ⟨by show cells + 2 + 2 + 0 ≤ 600130; omega, by show slots + 12 + 12 + 0 ≤ 7301080; omega⟩)) (fun r h => ?_)
    obtain ⟨k340, hk340, rfl⟩ := h
    refine lv_iload hx hb dL_law_343 (lv_at hl 13 rfl) ?_
    refine lv_bipush (v := 11) hx hb dL_law_345 (by decide) ?_
    refine lv_ishr hx hb dL_law_347 ?_
    refine re_i (y := nI (X / 2 ^ 11)) (pk_shrN hX31 _ 11 (by decide +kernel)) ?_
    refine lv_bipush (v := 51) hx hb dL_law_348 (by decide) ?_
    refine re_i (y := nI 51) (show (51 : Int32) = nI 51 from rfl) ?_
    refine vp_callSi (va_Run.run (va_runS (As := [.int (nI (X / 2 ^ 11)), .int (nI 51)]) (rest := [.int (nI k340), .ref (ad 0)]) ⟨hx, hb, hml, hown, hts⟩ (metL_at l (X / 2 ^ 11) 51 (by omega) (by decide) (by decide)) (va_cwS 2 hts gL_law_L_at rfl rfl rfl (by decide +kernel) ⟨Nat.le_of_ble_eq_true rfl, Nat.le_of_ble_eq_true rfl⟩) ⟨pc0_b, pc0_u⟩ rfl rfl hl.1 rfl (lv_room (Nat.le_of_ble_eq_true rfl)) dL_law_350 ⟨by show cells + 2 + 2 + 0 ≤ 600130; omega, by show slots + 12 + 12 + 0 ≤ 7301080; omega⟩)) (fun r h => ?_)
    obtain ⟨k350, hk350, rfl⟩ := h
    refine va_calli (va_runV (As := [.int (nI k340), .int (nI k350)]) (rest := []) ⟨hx, hb, hml, hown, hts⟩ (op_pin hnt G tys htI htO hI (nI k340) (nI k350) (cd_if (uK_of (n := 48) hk340 (by decide)) (cd_if (oR_of (a := 0) (b := 50) (by decide) (by decide) (nI_toInt (by omega)) (by omega) (by omega)) rfl))) (cwV 2 hts gL_law_X7_pin rfl rfl rfl (by decide +kernel) ⟨Nat.le_of_ble_eq_true rfl, Nat.le_of_ble_eq_true rfl⟩) ⟨pcX_b, va_recv hK hP (ci := 7) (q0 := 0) rfl hI.1.1, pcX_u hP hK hD hS hA hE⟩ rfl rfl hl.1 rfl (lv_room (Nat.le_of_ble_eq_true rfl)) dL_law_353 ⟨by show cells + 2 + 2 + 2 ≤ 600130; omega, by show slots + 12 + 12 + 12 ≤ 7301080; omega⟩) hS (fun q _ h => h) (fun q h => h) (fun r w t H locs ht hvm hq hB hsz hk1 hS => ?_)
    rw [ht] at hB
    obtain ⟨hP, hD⟩ := hB
    obtain ⟨own4, hI⟩ := hq
    refine lv_pop hx hb dL_law_356 rfl ?_
    refine lv_goto (tgt := 661) hx hb dL_law_357 (by decide) ?_
    refine W.widen (k := cells + 60) (n := slots + 1200) (by omega) (by omega) ?_
    exact kk (n + 1) np al _ _ _ _ ⟨_, _, _, _, _, _, _, _, _, _, _, _, _, _, _, _, _, hI, hal, (fun k hk h9 => ⟨by have := (hT k hk h9).1; omega, by rw [upd_ne (by have := (hT k hk h9).1; omega)]; exact (hT k hk h9).2⟩), hnp, hV⟩ hP hD hS (lv_sub hl [1, 2, 3, 4, 5, 6, 7, 8, 0, 9, 10, 11, 12] rfl)
set_option maxHeartbeats 4000000 in
set_option maxRecDepth 100000 in
theorem act_4 {p : Program} {l : Launch} {e : Env} {s : State} {m : MethodId} {below : List Frame} {meth : Method} {c : Code} (hnt : l.stackTraces = false) {G : va_G} {tys : List (ClassId × FieldType)} {tE mi : Nat} {cI cO : ClassId} (htI : tI tys cI) (htO : tO tys cO) {b L : Nat} {xs : Nat → Int32} (hL : L ≤ 260) (C0 : lw_At p s m meth c b L xs) {ad : Nat → Nat} (hK : va_K G vwCl tys s) (hE : env (fun q : Nat => s.heap.size ≤ q) tE mi s s.heap) {ind cr : Int32} {n np tu X : Nat} {al : Int64} {y15 : Int32} {ws : va_W} {H : Heap} {locs : List Loc} {cells slots : Nat} {Q : State → Prop} {ls : Array Slot} (hX31 : X < 2 ^ 31) (hti : ti cI cO tE ad ind cr n np al ws) (hP : va_P G vwCl ws H) (hD : va_D (fun q : Nat => s.heap.size ≤ q) ws) (hS : va_S (fun q : Nat => s.heap.size ≤ q) s.heap H locs) (hl : lv_has ls 26 [(0, .ref b), (1, .ref (ad 0)), (2, .ref (ad 12)), (3, .ref (ad 13)), (4, .ref (ad 14)), (5, .ref (ad 15)), (6, .ref (ad 16)), (7, .int (nI np)), (8, .int (nI n)), (9, .long al), (12, .int ind), (13, .int cr), (14, .int (nI tu)), (11, .int (nI X)), (15, .int y15)]) (hc : cells + 60 ≤ 600130) (hs : slots + 1200 ≤ 7301080) (kk : ∀ (n2 np2 : Nat) (al2 : Int64) (w : va_W) (H1 : Heap) (locs1 : List Loc) (ls1 : Array Slot), ti cI cO tE ad ind cr n2 np2 al2 w → va_P G vwCl w H1 → va_D (fun q : Nat => s.heap.size ≤ q) w → va_S (fun q : Nat => s.heap.size ≤ q) s.heap H1 locs1 → lv_has ls1 26 [(0, .ref b), (1, .ref (ad 0)), (2, .ref (ad 12)), (3, .ref (ad 13)), (4, .ref (ad 14)), (5, .ref (ad 15)), (6, .ref (ad 16)), (7, .int (nI np2)), (8, .int (nI n2)), (9, .long al2), (12, .int ind), (13, .int cr), (14, .int (nI tu))] → W p l e room_1 s m #[Value.ref b] below meth c H1 locs1 (cells + 60) (slots + 1200) Q (F0 m 661 ls1 [])) : W p l e room_1 s m #[Value.ref b] below meth c H locs (cells) (slots) Q (F0 m 366 ls []) := by
  obtain ⟨hx, hb, hr, hml, hown, hts0, hX, hbl, hlocks, hgv⟩ := C0
  have hts : ∀ w ∈ wsL_law, w.before #[Value.ref b] s = true := fun w h => hts0 w (wsL_law_in w h)
  have hown : s.vm.findClass RL = some m.cls := hown
  have hA : ∀ q : Nat, s.heap.size ≤ q → (fun q : Nat => s.heap.size ≤ q) q := fun _ h => h
  have hbA : ¬ (fun q : Nat => s.heap.size ≤ q) b := Nat.not_le.mpr hbl
  obtain ⟨own, P, M, V, S, T, cel, ct, cf, co, ca, wd, num, cur, du, wi, dm, hI, hal, hT, hnp, hV⟩ := hti
  refine lv_aload_n hx hb dL_law_366 rfl (lv_at hl 1 rfl) ?_
  refine va_calli (va_runV (As := []) (rest := []) ⟨hx, hb, hml, hown, hts⟩ (op_avalanche (mi := mi) hnt G tys htI htO hI) (cwV 0 hts gL_law_X7_avalanche rfl rfl rfl (by decide +kernel) ⟨Nat.le_of_ble_eq_true rfl, Nat.le_of_ble_eq_true rfl⟩) ⟨pcM_b, va_recv hK hP (ci := 7) (q0 := 0) rfl hI.1.1, pcM_u hP hK hD hS hA⟩ rfl rfl hl.1 rfl (lv_room (Nat.le_of_ble_eq_true rfl)) dL_law_367 ⟨by show cells + 0 ≤ 600130; omega, by show slots + 0 ≤ 7301080; omega⟩) hS (fun q _ h => h) (fun q h => h) (fun r w t H locs ht hvm hq hB hsz hk1 hS => ?_)
  rw [ht] at hB
  obtain ⟨hP, hD⟩ := hB
  obtain ⟨own2, cel2, hI, hst, mv, hmv, er⟩ := hq
  subst er
  refine lv_istore (lv' := [(16, .int (nI mv)), (0, .ref b), (1, .ref (ad 0)), (2, .ref (ad 12)), (3, .ref (ad 13)), (4, .ref (ad 14)), (5, .ref (ad 15)), (6, .ref (ad 16)), (7, .int (nI np)), (8, .int (nI n)), (9, .long al), (12, .int ind), (13, .int cr), (14, .int (nI tu)), (11, .int (nI X)), (15, .int y15)]) hx hb dL_law_370 hl (by decide) rfl (fun ls hl => ?_)
  refine lv_iload hx hb dL_law_372 (lv_at hl 0 rfl) ?_
  refine lv_if_lt (tgt := 385) hx hb dL_law_374 (by decide) (fun c374 => absurd c374 (nI_pos (by omega))) (fun c374 => ?_)
  refine lv_iload hx hb dL_law_377 (lv_at hl 0 rfl) ?_
  refine lv_sipush (v := 1200) hx hb dL_law_379 (by decide) ?_
  refine lv_icmp_le (tgt := 387) hx hb dL_law_382 (by decide) (fun c382 => ?_) (fun c382 => absurd (show nI mv ≤ nI 1200 from nI_le hmv (by decide)) c382)
  refine lv_goto (tgt := 661) hx hb dL_law_387 (by decide) ?_
  refine W.widen (k := cells + 60) (n := slots + 1200) (by omega) (by omega) ?_
  exact kk n np al _ _ _ _ ⟨_, _, _, _, _, _, _, _, _, _, _, _, _, _, _, _, _, hI, hal, (fun k hk h9 => ⟨(hT k hk h9).1, hst k hk (hT k hk h9).2⟩), hnp, hV⟩ hP hD hS (lv_sub hl [1, 2, 3, 4, 5, 6, 7, 8, 9, 10, 11, 12, 13] rfl)
