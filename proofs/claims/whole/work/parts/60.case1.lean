set_option maxHeartbeats 4000000 in
set_option maxRecDepth 100000 in
theorem case_sample {p : Program} {l : Launch} {e : Env} {s : State} {m : MethodId} {below : List Frame} {meth : Method} {c : Code} (hnt : l.stackTraces = false) {G : va_G} {tys : List (ClassId × FieldType)} {tE mi : Nat} {cI cO cJ cB : ClassId} (htI : tI tys cI) (htO : tO tys cO) (htJ : tys[2]? = some (cJ, .long)) (htB : tys[3]? = some (cB, .double)) {b L : Nat} {xs : Nat → Int32} (hL : L ≤ 2048) (C0 : lw_At p s m meth c b L xs) {v am oj od : Nat} (hK : va_K G vwCl tys s) (hE : env (fun q : Nat => s.heap.size ≤ q) tE mi s s.heap) {ws : va_W} {H : Heap} {locs : List Loc} {i : Nat} {x5 : Int32} {cells slots : Nat} {Q : State → Prop} {ls : Array Slot} (hi : i + 3 < L) (e5 : x5 = nI i) (hI : INV cI cO cJ cB tE v am oj od ws) (hP : va_P G vwCl ws H) (hD : va_D (fun q : Nat => s.heap.size ≤ q) ws) (hS : va_S (fun q : Nat => s.heap.size ≤ q) s.heap H locs) (hl : lv_has ls 10 [(0, .ref b), (1, .ref v), (2, .ref am), (3, .ref oj), (4, .ref od), (5, .int x5)]) (hc : cells + 8 ≤ 601024) (hs : slots + 242 ≤ 7293034) (kk : ∀ (w : va_W) (H1 : Heap) (locs1 : List Loc) (ls1 : Array Slot), INV cI cO cJ cB tE v am oj od w → va_P G vwCl w H1 → va_D (fun q : Nat => s.heap.size ≤ q) w → va_S (fun q : Nat => s.heap.size ≤ q) s.heap H1 locs1 → lv_has ls1 10 [(0, .ref b), (1, .ref v), (2, .ref am), (3, .ref oj), (4, .ref od), (5, .int x5)] → W p l e room_1 s m #[Value.ref b] below meth c H1 locs1 (cells + 8) (slots + 242) Q (F0 m 1803 ls1 [])) : W p l e room_1 s m #[Value.ref b] below meth c H locs (cells) (slots) Q (F0 m 168 ls []) := by
  obtain ⟨hx, hb, hr, hml, hown, hts0, hX, hbl, hlocks, hgv⟩ := C0
  have hts : ∀ w ∈ wsL_law, w.before #[Value.ref b] s = true := fun w h => hts0 w (wsL_law_in w h)
  have hown : s.vm.findClass RL = some m.cls := hown
  have hA : ∀ q : Nat, s.heap.size ≤ q → (fun q : Nat => s.heap.size ≤ q) q := fun _ h => h
  have hbA : ¬ (fun q : Nat => s.heap.size ≤ q) b := Nat.not_le.mpr hbl
  have g1 : vp_in (x5 + 1) L := by rw [e5, show nI i + 1 = nI (i + 1) from nI_add i 1]; exact vp_in_nI (by omega) (by omega)
  obtain ⟨a1, ea1⟩ : ∃ y, y = xs (x5 + 1).toNatClampNeg := ⟨_, rfl⟩
  have g2 : vp_in (x5 + 2) L := by rw [e5, show nI i + 2 = nI (i + 2) from nI_add i 2]; exact vp_in_nI (by omega) (by omega)
  obtain ⟨a2, ea2⟩ : ∃ y, y = xs (x5 + 2).toNatClampNeg := ⟨_, rfl⟩
  have g3 : vp_in (x5 + 3) L := by rw [e5, show nI i + 3 = nI (i + 3) from nI_add i 3]; exact vp_in_nI (by omega) (by omega)
  obtain ⟨a3, ea3⟩ : ∃ y, y = xs (x5 + 3).toNatClampNeg := ⟨_, rfl⟩
  obtain ⟨Mid, hH, hM⟩ := sem_sample (A := (fun q : Nat => s.heap.size ≤ q)) (mi := mi) l hnt G tys htI htO htJ htB hI a1 a2 a3
  refine lv_aload_n hx hb dL_law_168 rfl (lv_at hl 1 rfl) ?_
  refine lv_aload_n hx hb dL_law_169 rfl (lv_at hl 0 rfl) ?_
  refine lv_iload hx hb dL_law_170 (lv_at hl 5 rfl) ?_
  refine lv_iconst (v := 1) hx hb dL_law_172 (by decide) ?_
  refine lv_iadd hx hb dL_law_173 ?_
  refine va_sld hx hb hX hbl hbA hS g1 dL_law_174 ?_
  refine re_i ea1.symm ?_
  refine lv_aload_n hx hb dL_law_175 rfl (lv_at hl 0 rfl) ?_
  refine lv_iload hx hb dL_law_176 (lv_at hl 5 rfl) ?_
  refine lv_iconst (v := 2) hx hb dL_law_178 (by decide) ?_
  refine lv_iadd hx hb dL_law_179 ?_
  refine va_sld hx hb hX hbl hbA hS g2 dL_law_180 ?_
  refine re_i ea2.symm ?_
  refine lv_aload_n hx hb dL_law_181 rfl (lv_at hl 0 rfl) ?_
  refine lv_iload hx hb dL_law_182 (lv_at hl 5 rfl) ?_
  refine lv_iconst (v := 3) hx hb dL_law_184 (by decide) ?_
  refine lv_iadd hx hb dL_law_185 ?_
  refine va_sld hx hb hX hbl hbA hS g3 dL_law_186 ?_
  refine re_i ea3.symm ?_
  refine lv_aload_n hx hb dL_law_187 rfl (lv_at hl 3 rfl) ?_
  refine va_calli (vx_runSW (As := [.ref v, .int a1, .int a2, .int a3, .ref oj]) (rest := []) ⟨hx, hb, hml, hown, hts⟩ hH (vx_cwSW 5 hts gL_law_L_sample rfl rfl rfl (by decide +kernel) ⟨Nat.le_of_ble_eq_true rfl, Nat.le_of_ble_eq_true rfl⟩) ⟨pcX_b, pcX_u hP hK hD hS hA hE⟩ rfl rfl hl.1 rfl (lv_room (Nat.le_of_ble_eq_true rfl)) dL_law_188 ⟨by show cells + 6 ≤ 601024; omega, by show slots + 229 ≤ 7293034; omega⟩) hS (fun q _ h => h) (fun q h => h) (fun k1 w t H locs ht hvm hMk hB hsz hk1 hS => ?_)
  rw [ht] at hB
  obtain ⟨hP, hD⟩ := hB
  obtain ⟨⟨vs12, h12⟩, hR⟩ := hM k1 w hMk
  refine lv_istore (lv' := [(6, .int k1), (0, .ref b), (1, .ref v), (2, .ref am), (3, .ref oj), (4, .ref od), (5, .int x5)]) hx hb dL_law_191 hl (by decide) rfl (fun ls hl => ?_)
  refine lv_aload_n hx hb dL_law_193 rfl (lv_at hl 3 rfl) ?_
  refine lv_aload_n hx hb dL_law_194 rfl (lv_at hl 1 rfl) ?_
  refine lv_iload hx hb dL_law_195 (lv_at hl 6 rfl) ?_
  refine lv_iconst (v := 1) hx hb dL_law_197 (by decide) ?_
  refine lv_iadd hx hb dL_law_198 ?_
  refine va_sld hx hb hX hbl hbA hS g1 dL_law_199 ?_
  refine re_i ea1.symm ?_
  refine lv_aload_n hx hb dL_law_200 rfl (lv_at hl 1 rfl) ?_
  refine lv_iload hx hb dL_law_201 (lv_at hl 6 rfl) ?_
  refine lv_iconst (v := 2) hx hb dL_law_203 (by decide) ?_
  refine lv_iadd hx hb dL_law_204 ?_
  refine va_sld hx hb hX hbl hbA hS g2 dL_law_205 ?_
  refine re_i ea2.symm ?_
  refine lv_aload_n hx hb dL_law_206 rfl (lv_at hl 1 rfl) ?_
  refine lv_iload hx hb dL_law_207 (lv_at hl 6 rfl) ?_
  refine lv_iconst (v := 3) hx hb dL_law_209 (by decide) ?_
  refine lv_iadd hx hb dL_law_210 ?_
  refine va_sld hx hb hX hbl hbA hS g3 dL_law_211 ?_
  refine re_i ea3.symm ?_
  refine va_calli (va_runV (As := [.int a1, .int a2, .int a3]) (rest := []) ⟨hx, hb, hml, hown, hts⟩ hR (cwV 3 hts gL_law_X8_sample rfl rfl rfl (by decide +kernel) ⟨Nat.le_of_ble_eq_true rfl, Nat.le_of_ble_eq_true rfl⟩) ⟨pcM_b, va_recv hK hP (ci := 9) (q0 := 12) rfl h12, pcM_u hP hK hD hS hA⟩ rfl rfl hl.1 rfl (lv_room (Nat.le_of_ble_eq_true rfl)) dL_law_212 ⟨by show cells + 6 + 0 ≤ 601024; omega, by show slots + 229 + 0 ≤ 7293034; omega⟩) hS (fun q _ h => h) (fun q h => h) (fun r2 w2 t H locs ht hvm hE2 hB hsz hk1 hS => ?_)
  rw [ht] at hB
  obtain ⟨hP, hD⟩ := hB
  obtain ⟨⟨ad, z, wi, dm, hm, hz⟩, hou, hI2⟩ := hE2
  refine lv_istore (lv' := [(7, .int r2), (6, .int k1), (0, .ref b), (1, .ref v), (2, .ref am), (3, .ref oj), (4, .ref od), (5, .int x5)]) hx hb dL_law_215 hl (by decide) rfl (fun ls hl => ?_)
  refine lv_aload_n hx hb dL_law_217 rfl (lv_at hl 4 rfl) ?_
  refine vp_callSi (va_Run.run (va_runV (As := []) (rest := []) ⟨hx, hb, hml, hown, hts⟩ (metX8_thrown l G tys w2 (F := fun _ _ => 0) hm) (cwV 0 hts gL_law_X8_thrown rfl rfl rfl (by decide +kernel) ⟨Nat.le_of_ble_eq_true rfl, Nat.le_of_ble_eq_true rfl⟩) ⟨pcR_b, va_recv hK hP (ci := 9) (q0 := 12) rfl hm, pcR_u hP hK⟩ rfl rfl hl.1 rfl (lv_room (Nat.le_of_ble_eq_true rfl)) dL_law_218 ⟨by show cells + 6 + 0 ≤ 601024; omega, by show slots + 229 + 0 ≤ 7293034; omega⟩)) (fun r3 h3 => ?_)
  refine lv_iload hx hb dL_law_221 (lv_at hl 1 rfl) ?_
  refine lv_icmp_eq (tgt := 228) hx hb dL_law_223 (by decide) (fun c1 => ?_) (fun c1 => absurd (h3.trans hz) c1)
  refine lv_iload hx hb dL_law_228 (lv_at hl 1 rfl) ?_
  refine lv_if_ne (tgt := 245) hx hb dL_law_230 (by decide) (fun c2 => ?_) (fun c2 => ?_)
  · refine lv_goto (tgt := 1803) hx hb dL_law_245 (by decide) ?_
    refine W.widen (k := cells + 8) (n := slots + 242) (by omega) (by omega) ?_
    exact kk _ _ _ _ hI2 hP hD hS (lv_sub hl [2, 3, 4, 5, 6, 7] rfl)
  · obtain ⟨f, hf, hf0⟩ := hou c2
    refine lv_aload_n hx hb dL_law_233 rfl (lv_at hl 5 rfl) ?_
    refine lv_iconst (v := 0) hx hb dL_law_234 (by decide) ?_
    refine va_lald hx hb hK hP 36 2 hf htJ in01 dL_law_235 ?_
    refine re_l (show f (0 : Int32).toNatClampNeg = r2.toInt64 from hf0) ?_
    refine lv_iload hx hb dL_law_236 (lv_at hl 0 rfl) ?_
    refine lv_i2l hx hb dL_law_238 rfl ?_
    refine W.lcmp hx hb dL_law_239 ?_
    refine re_i (lg_cmp_self _) ?_
    refine lv_if_eq (tgt := 245) hx hb dL_law_240 (by decide) (fun _ => ?_) (fun c3 => absurd rfl c3)
    refine lv_goto (tgt := 1803) hx hb dL_law_245 (by decide) ?_
    refine W.widen (k := cells + 8) (n := slots + 242) (by omega) (by omega) ?_
    exact kk _ _ _ _ hI2 hP hD hS (lv_sub hl [2, 3, 4, 5, 6, 7] rfl)
set_option maxHeartbeats 4000000 in
set_option maxRecDepth 100000 in
theorem case_set {p : Program} {l : Launch} {e : Env} {s : State} {m : MethodId} {below : List Frame} {meth : Method} {c : Code} (hnt : l.stackTraces = false) {G : va_G} {tys : List (ClassId × FieldType)} {tE mi : Nat} {cI cO cJ cB : ClassId} (htI : tI tys cI) (htO : tO tys cO) (htJ : tys[2]? = some (cJ, .long)) (htB : tys[3]? = some (cB, .double)) {b L : Nat} {xs : Nat → Int32} (hL : L ≤ 2048) (C0 : lw_At p s m meth c b L xs) {v am oj od : Nat} (hK : va_K G vwCl tys s) (hE : env (fun q : Nat => s.heap.size ≤ q) tE mi s s.heap) {ws : va_W} {H : Heap} {locs : List Loc} {i : Nat} {x5 : Int32} {cells slots : Nat} {Q : State → Prop} {ls : Array Slot} (hi : i + 3 < L) (e5 : x5 = nI i) (hI : INV cI cO cJ cB tE v am oj od ws) (hP : va_P G vwCl ws H) (hD : va_D (fun q : Nat => s.heap.size ≤ q) ws) (hS : va_S (fun q : Nat => s.heap.size ≤ q) s.heap H locs) (hl : lv_has ls 10 [(0, .ref b), (1, .ref v), (2, .ref am), (3, .ref oj), (4, .ref od), (5, .int x5)]) (hc : cells + 8 ≤ 601024) (hs : slots + 242 ≤ 7293034) (kk : ∀ (w : va_W) (H1 : Heap) (locs1 : List Loc) (ls1 : Array Slot), INV cI cO cJ cB tE v am oj od w → va_P G vwCl w H1 → va_D (fun q : Nat => s.heap.size ≤ q) w → va_S (fun q : Nat => s.heap.size ≤ q) s.heap H1 locs1 → lv_has ls1 10 [(0, .ref b), (1, .ref v), (2, .ref am), (3, .ref oj), (4, .ref od), (5, .int x5)] → W p l e room_1 s m #[Value.ref b] below meth c H1 locs1 (cells + 8) (slots + 242) Q (F0 m 1803 ls1 [])) : W p l e room_1 s m #[Value.ref b] below meth c H locs (cells) (slots) Q (F0 m 248 ls []) := by
  obtain ⟨hx, hb, hr, hml, hown, hts0, hX, hbl, hlocks, hgv⟩ := C0
  have hts : ∀ w ∈ wsL_law, w.before #[Value.ref b] s = true := fun w h => hts0 w (wsL_law_in w h)
  have hown : s.vm.findClass RL = some m.cls := hown
  have hA : ∀ q : Nat, s.heap.size ≤ q → (fun q : Nat => s.heap.size ≤ q) q := fun _ h => h
  have hbA : ¬ (fun q : Nat => s.heap.size ≤ q) b := Nat.not_le.mpr hbl
  have g1 : vp_in (x5 + 1) L := by rw [e5, show nI i + 1 = nI (i + 1) from nI_add i 1]; exact vp_in_nI (by omega) (by omega)
  obtain ⟨a1, ea1⟩ : ∃ y, y = xs (x5 + 1).toNatClampNeg := ⟨_, rfl⟩
  have g2 : vp_in (x5 + 2) L := by rw [e5, show nI i + 2 = nI (i + 2) from nI_add i 2]; exact vp_in_nI (by omega) (by omega)
  obtain ⟨a2, ea2⟩ : ∃ y, y = xs (x5 + 2).toNatClampNeg := ⟨_, rfl⟩
  have g3 : vp_in (x5 + 3) L := by rw [e5, show nI i + 3 = nI (i + 3) from nI_add i 3]; exact vp_in_nI (by omega) (by omega)
  obtain ⟨a3, ea3⟩ : ∃ y, y = xs (x5 + 3).toNatClampNeg := ⟨_, rfl⟩
  obtain ⟨Mid, hH, hM⟩ := sem_set (A := (fun q : Nat => s.heap.size ≤ q)) (mi := mi) l hnt G tys htI htO htJ htB hI a1 a2 a3
  refine lv_aload_n hx hb dL_law_248 rfl (lv_at hl 1 rfl) ?_
  refine lv_aload_n hx hb dL_law_249 rfl (lv_at hl 0 rfl) ?_
  refine lv_iload hx hb dL_law_250 (lv_at hl 5 rfl) ?_
  refine lv_iconst (v := 1) hx hb dL_law_252 (by decide) ?_
  refine lv_iadd hx hb dL_law_253 ?_
  refine va_sld hx hb hX hbl hbA hS g1 dL_law_254 ?_
  refine re_i ea1.symm ?_
  refine lv_aload_n hx hb dL_law_255 rfl (lv_at hl 0 rfl) ?_
  refine lv_iload hx hb dL_law_256 (lv_at hl 5 rfl) ?_
  refine lv_iconst (v := 2) hx hb dL_law_258 (by decide) ?_
  refine lv_iadd hx hb dL_law_259 ?_
  refine va_sld hx hb hX hbl hbA hS g2 dL_law_260 ?_
  refine re_i ea2.symm ?_
  refine lv_aload_n hx hb dL_law_261 rfl (lv_at hl 0 rfl) ?_
  refine lv_iload hx hb dL_law_262 (lv_at hl 5 rfl) ?_
  refine lv_iconst (v := 3) hx hb dL_law_264 (by decide) ?_
  refine lv_iadd hx hb dL_law_265 ?_
  refine va_sld hx hb hX hbl hbA hS g3 dL_law_266 ?_
  refine re_i ea3.symm ?_
  refine lv_aload_n hx hb dL_law_267 rfl (lv_at hl 3 rfl) ?_
  refine va_calli (vx_runSW (As := [.ref v, .int a1, .int a2, .int a3, .ref oj]) (rest := []) ⟨hx, hb, hml, hown, hts⟩ hH (vx_cwSW 5 hts gL_law_L_set rfl rfl rfl (by decide +kernel) ⟨Nat.le_of_ble_eq_true rfl, Nat.le_of_ble_eq_true rfl⟩) ⟨pcX_b, pcX_u hP hK hD hS hA hE⟩ rfl rfl hl.1 rfl (lv_room (Nat.le_of_ble_eq_true rfl)) dL_law_268 ⟨by show cells + 3 ≤ 601024; omega, by show slots + 18 ≤ 7293034; omega⟩) hS (fun q _ h => h) (fun q h => h) (fun k1 w t H locs ht hvm hMk hB hsz hk1 hS => ?_)
  rw [ht] at hB
  obtain ⟨hP, hD⟩ := hB
  obtain ⟨⟨vs12, h12⟩, hR⟩ := hM k1 w hMk
  refine lv_istore (lv' := [(6, .int k1), (0, .ref b), (1, .ref v), (2, .ref am), (3, .ref oj), (4, .ref od), (5, .int x5)]) hx hb dL_law_271 hl (by decide) rfl (fun ls hl => ?_)
  refine lv_aload_n hx hb dL_law_273 rfl (lv_at hl 3 rfl) ?_
  refine lv_aload_n hx hb dL_law_274 rfl (lv_at hl 1 rfl) ?_
  refine lv_iload hx hb dL_law_275 (lv_at hl 6 rfl) ?_
  refine lv_iconst (v := 1) hx hb dL_law_277 (by decide) ?_
  refine lv_iadd hx hb dL_law_278 ?_
  refine va_sld hx hb hX hbl hbA hS g1 dL_law_279 ?_
  refine re_i ea1.symm ?_
  refine lv_aload_n hx hb dL_law_280 rfl (lv_at hl 1 rfl) ?_
  refine lv_iload hx hb dL_law_281 (lv_at hl 6 rfl) ?_
  refine lv_iconst (v := 2) hx hb dL_law_283 (by decide) ?_
  refine lv_iadd hx hb dL_law_284 ?_
  refine va_sld hx hb hX hbl hbA hS g2 dL_law_285 ?_
  refine re_i ea2.symm ?_
  refine lv_aload_n hx hb dL_law_286 rfl (lv_at hl 1 rfl) ?_
  refine lv_iload hx hb dL_law_287 (lv_at hl 6 rfl) ?_
  refine lv_iconst (v := 3) hx hb dL_law_289 (by decide) ?_
  refine lv_iadd hx hb dL_law_290 ?_
  refine va_sld hx hb hX hbl hbA hS g3 dL_law_291 ?_
  refine re_i ea3.symm ?_
  refine va_calli (va_runV (As := [.int a1, .int a2, .int a3]) (rest := []) ⟨hx, hb, hml, hown, hts⟩ hR (cwV 3 hts gL_law_X8_set rfl rfl rfl (by decide +kernel) ⟨Nat.le_of_ble_eq_true rfl, Nat.le_of_ble_eq_true rfl⟩) ⟨pcM_b, va_recv hK hP (ci := 9) (q0 := 12) rfl h12, pcM_u hP hK hD hS hA⟩ rfl rfl hl.1 rfl (lv_room (Nat.le_of_ble_eq_true rfl)) dL_law_292 ⟨by show cells + 3 + 0 ≤ 601024; omega, by show slots + 18 + 0 ≤ 7293034; omega⟩) hS (fun q _ h => h) (fun q h => h) (fun r2 w2 t H locs ht hvm hE2 hB hsz hk1 hS => ?_)
  rw [ht] at hB
  obtain ⟨hP, hD⟩ := hB
  obtain ⟨⟨ad, z, wi, dm, hm, hz⟩, hou, hI2⟩ := hE2
  refine lv_istore (lv' := [(7, .int r2), (6, .int k1), (0, .ref b), (1, .ref v), (2, .ref am), (3, .ref oj), (4, .ref od), (5, .int x5)]) hx hb dL_law_295 hl (by decide) rfl (fun ls hl => ?_)
  refine lv_aload_n hx hb dL_law_297 rfl (lv_at hl 4 rfl) ?_
  refine vp_callSi (va_Run.run (va_runV (As := []) (rest := []) ⟨hx, hb, hml, hown, hts⟩ (metX8_thrown l G tys w2 (F := fun _ _ => 0) hm) (cwV 0 hts gL_law_X8_thrown rfl rfl rfl (by decide +kernel) ⟨Nat.le_of_ble_eq_true rfl, Nat.le_of_ble_eq_true rfl⟩) ⟨pcR_b, va_recv hK hP (ci := 9) (q0 := 12) rfl hm, pcR_u hP hK⟩ rfl rfl hl.1 rfl (lv_room (Nat.le_of_ble_eq_true rfl)) dL_law_298 ⟨by show cells + 3 + 0 ≤ 601024; omega, by show slots + 18 + 0 ≤ 7293034; omega⟩)) (fun r3 h3 => ?_)
  refine lv_iload hx hb dL_law_301 (lv_at hl 1 rfl) ?_
  refine lv_icmp_eq (tgt := 308) hx hb dL_law_303 (by decide) (fun c1 => ?_) (fun c1 => absurd (h3.trans hz) c1)
  refine lv_iload hx hb dL_law_308 (lv_at hl 1 rfl) ?_
  refine lv_if_ne (tgt := 325) hx hb dL_law_310 (by decide) (fun c2 => ?_) (fun c2 => ?_)
  · refine lv_goto (tgt := 1803) hx hb dL_law_325 (by decide) ?_
    refine W.widen (k := cells + 8) (n := slots + 242) (by omega) (by omega) ?_
    exact kk _ _ _ _ hI2 hP hD hS (lv_sub hl [2, 3, 4, 5, 6, 7] rfl)
  · obtain ⟨f, hf, hf0⟩ := hou c2
    refine lv_aload_n hx hb dL_law_313 rfl (lv_at hl 5 rfl) ?_
    refine lv_iconst (v := 0) hx hb dL_law_314 (by decide) ?_
    refine va_lald hx hb hK hP 36 2 hf htJ in01 dL_law_315 ?_
    refine re_l (show f (0 : Int32).toNatClampNeg = r2.toInt64 from hf0) ?_
    refine lv_iload hx hb dL_law_316 (lv_at hl 0 rfl) ?_
    refine lv_i2l hx hb dL_law_318 rfl ?_
    refine W.lcmp hx hb dL_law_319 ?_
    refine re_i (lg_cmp_self _) ?_
    refine lv_if_eq (tgt := 325) hx hb dL_law_320 (by decide) (fun _ => ?_) (fun c3 => absurd rfl c3)
    refine lv_goto (tgt := 1803) hx hb dL_law_325 (by decide) ?_
    refine W.widen (k := cells + 8) (n := slots + 242) (by omega) (by omega) ?_
    exact kk _ _ _ _ hI2 hP hD hS (lv_sub hl [2, 3, 4, 5, 6, 7] rfl)
set_option maxHeartbeats 4000000 in
set_option maxRecDepth 100000 in
theorem case_deep {p : Program} {l : Launch} {e : Env} {s : State} {m : MethodId} {below : List Frame} {meth : Method} {c : Code} (hnt : l.stackTraces = false) {G : va_G} {tys : List (ClassId × FieldType)} {tE mi : Nat} {cI cO cJ cB : ClassId} (htI : tI tys cI) (htO : tO tys cO) (htJ : tys[2]? = some (cJ, .long)) (htB : tys[3]? = some (cB, .double)) {b L : Nat} {xs : Nat → Int32} (hL : L ≤ 2048) (C0 : lw_At p s m meth c b L xs) {v am oj od : Nat} (hK : va_K G vwCl tys s) (hE : env (fun q : Nat => s.heap.size ≤ q) tE mi s s.heap) {ws : va_W} {H : Heap} {locs : List Loc} {i : Nat} {x5 : Int32} {cells slots : Nat} {Q : State → Prop} {ls : Array Slot} (hi : i + 3 < L) (e5 : x5 = nI i) (hI : INV cI cO cJ cB tE v am oj od ws) (hP : va_P G vwCl ws H) (hD : va_D (fun q : Nat => s.heap.size ≤ q) ws) (hS : va_S (fun q : Nat => s.heap.size ≤ q) s.heap H locs) (hl : lv_has ls 10 [(0, .ref b), (1, .ref v), (2, .ref am), (3, .ref oj), (4, .ref od), (5, .int x5)]) (hc : cells + 8 ≤ 601024) (hs : slots + 242 ≤ 7293034) (kk : ∀ (w : va_W) (H1 : Heap) (locs1 : List Loc) (ls1 : Array Slot), INV cI cO cJ cB tE v am oj od w → va_P G vwCl w H1 → va_D (fun q : Nat => s.heap.size ≤ q) w → va_S (fun q : Nat => s.heap.size ≤ q) s.heap H1 locs1 → lv_has ls1 10 [(0, .ref b), (1, .ref v), (2, .ref am), (3, .ref oj), (4, .ref od), (5, .int x5)] → W p l e room_1 s m #[Value.ref b] below meth c H1 locs1 (cells + 8) (slots + 242) Q (F0 m 1803 ls1 [])) : W p l e room_1 s m #[Value.ref b] below meth c H locs (cells) (slots) Q (F0 m 328 ls []) := by
  obtain ⟨hx, hb, hr, hml, hown, hts0, hX, hbl, hlocks, hgv⟩ := C0
  have hts : ∀ w ∈ wsL_law, w.before #[Value.ref b] s = true := fun w h => hts0 w (wsL_law_in w h)
  have hown : s.vm.findClass RL = some m.cls := hown
  have hA : ∀ q : Nat, s.heap.size ≤ q → (fun q : Nat => s.heap.size ≤ q) q := fun _ h => h
  have hbA : ¬ (fun q : Nat => s.heap.size ≤ q) b := Nat.not_le.mpr hbl
  have g1 : vp_in (x5 + 1) L := by rw [e5, show nI i + 1 = nI (i + 1) from nI_add i 1]; exact vp_in_nI (by omega) (by omega)
  obtain ⟨a1, ea1⟩ : ∃ y, y = xs (x5 + 1).toNatClampNeg := ⟨_, rfl⟩
  obtain ⟨Mid, hH, hM⟩ := sem_deep (A := (fun q : Nat => s.heap.size ≤ q)) (mi := mi) l hnt G tys htI htO htJ htB hI a1
  refine lv_aload_n hx hb dL_law_328 rfl (lv_at hl 1 rfl) ?_
  refine lv_aload_n hx hb dL_law_329 rfl (lv_at hl 0 rfl) ?_
  refine lv_iload hx hb dL_law_330 (lv_at hl 5 rfl) ?_
  refine lv_iconst (v := 1) hx hb dL_law_332 (by decide) ?_
  refine lv_iadd hx hb dL_law_333 ?_
  refine va_sld hx hb hX hbl hbA hS g1 dL_law_334 ?_
  refine re_i ea1.symm ?_
  refine lv_aload hx hb dL_law_335 (lv_at hl 4 rfl) ?_
  refine va_calli (vx_runSW (As := [.ref v, .int a1, .ref od]) (rest := []) ⟨hx, hb, hml, hown, hts⟩ hH (vx_cwSW 3 hts gL_law_L_deep rfl rfl rfl (by decide +kernel) ⟨Nat.le_of_ble_eq_true rfl, Nat.le_of_ble_eq_true rfl⟩) ⟨pcX_b, pcX_u hP hK hD hS hA hE⟩ rfl rfl hl.1 rfl (lv_room (Nat.le_of_ble_eq_true rfl)) dL_law_337 ⟨by show cells + 1 ≤ 601024; omega, by show slots + 6 ≤ 7293034; omega⟩) hS (fun q _ h => h) (fun q h => h) (fun k1 w t H locs ht hvm hMk hB hsz hk1 hS => ?_)
  rw [ht] at hB
  obtain ⟨hP, hD⟩ := hB
  obtain ⟨⟨vs12, h12⟩, hR⟩ := hM k1 w hMk
  refine lv_istore (lv' := [(6, .int k1), (0, .ref b), (1, .ref v), (2, .ref am), (3, .ref oj), (4, .ref od), (5, .int x5)]) hx hb dL_law_340 hl (by decide) rfl (fun ls hl => ?_)
  refine lv_aload_n hx hb dL_law_342 rfl (lv_at hl 3 rfl) ?_
  refine lv_aload_n hx hb dL_law_343 rfl (lv_at hl 1 rfl) ?_
  refine lv_iload hx hb dL_law_344 (lv_at hl 6 rfl) ?_
  refine lv_iconst (v := 1) hx hb dL_law_346 (by decide) ?_
  refine lv_iadd hx hb dL_law_347 ?_
  refine va_sld hx hb hX hbl hbA hS g1 dL_law_348 ?_
  refine re_i ea1.symm ?_
  refine va_calld (va_runV (As := [.int a1]) (rest := []) ⟨hx, hb, hml, hown, hts⟩ hR (cwV 1 hts gL_law_X8_deep rfl rfl rfl (by decide +kernel) ⟨Nat.le_of_ble_eq_true rfl, Nat.le_of_ble_eq_true rfl⟩) ⟨pcM_b, va_recv hK hP (ci := 9) (q0 := 12) rfl h12, pcM_u hP hK hD hS hA⟩ rfl rfl hl.1 rfl (lv_room (Nat.le_of_ble_eq_true rfl)) dL_law_349 ⟨by show cells + 1 + 0 ≤ 601024; omega, by show slots + 6 + 0 ≤ 7293034; omega⟩) hS (fun q _ h => h) (fun q h => h) (fun r2 w2 t H locs ht hvm hE2 hB hsz hk1 hS => ?_)
  rw [ht] at hB
  obtain ⟨hP, hD⟩ := hB
  obtain ⟨⟨ad, z, wi, dm, hm, hz⟩, hou, hI2⟩ := hE2
  refine lv_dstore (lv' := [(7, .double r2), (6, .int k1), (0, .ref b), (1, .ref v), (2, .ref am), (3, .ref oj), (4, .ref od), (5, .int x5)]) hx hb dL_law_352 hl (by decide) rfl (fun ls hl => ?_)
  refine lv_aload_n hx hb dL_law_354 rfl (lv_at hl 4 rfl) ?_
  refine vp_callSi (va_Run.run (va_runV (As := []) (rest := []) ⟨hx, hb, hml, hown, hts⟩ (metX8_thrown l G tys w2 (F := fun _ _ => 0) hm) (cwV 0 hts gL_law_X8_thrown rfl rfl rfl (by decide +kernel) ⟨Nat.le_of_ble_eq_true rfl, Nat.le_of_ble_eq_true rfl⟩) ⟨pcR_b, va_recv hK hP (ci := 9) (q0 := 12) rfl hm, pcR_u hP hK⟩ rfl rfl hl.1 rfl (lv_room (Nat.le_of_ble_eq_true rfl)) dL_law_355 ⟨by show cells + 1 + 0 ≤ 601024; omega, by show slots + 6 + 0 ≤ 7293034; omega⟩)) (fun r3 h3 => ?_)
  refine lv_iload hx hb dL_law_358 (lv_at hl 1 rfl) ?_
  refine lv_icmp_eq (tgt := 365) hx hb dL_law_360 (by decide) (fun c1 => ?_) (fun c1 => absurd (h3.trans hz) c1)
  refine lv_iload hx hb dL_law_365 (lv_at hl 1 rfl) ?_
  refine lv_if_ne (tgt := 402) hx hb dL_law_367 (by decide) (fun c2 => ?_) (fun c2 => ?_)
  · refine lv_goto (tgt := 1803) hx hb dL_law_402 (by decide) ?_
    refine W.widen (k := cells + 8) (n := slots + 242) (by omega) (by omega) ?_
    exact kk _ _ _ _ hI2 hP hD hS (lv_sub hl [2, 3, 4, 5, 6, 7] rfl)
  · obtain ⟨f, hf, hf0⟩ := hou c2
    by_cases cz : Op.cmpValue (FP.dcmp r2 r2) .l = 0
    · refine lv_aload hx hb dL_law_370 (lv_at hl 6 rfl) ?_
      refine lv_iconst (v := 0) hx hb dL_law_372 (by decide) ?_
      refine va_dald hx hb hK hP 37 3 hf htB in01 dL_law_373 ?_
      refine re_d (show f (0 : Int32).toNatClampNeg = r2 from hf0) ?_
      refine lv_dload hx hb dL_law_374 (lv_at hl 0 rfl) ?_
      refine lv_dcmp hx hb dL_law_376 ?_
      refine lv_if_eq (tgt := 402) hx hb dL_law_377 (by decide) (fun _ => ?_) (fun c3 => absurd cz c3)
      refine lv_goto (tgt := 1803) hx hb dL_law_402 (by decide) ?_
      refine W.widen (k := cells + 8) (n := slots + 242) (by omega) (by omega) ?_
      exact kk _ _ _ _ hI2 hP hD hS (lv_sub hl [2, 3, 4, 5, 6, 7] rfl)
    · refine lv_aload hx hb dL_law_370 (lv_at hl 6 rfl) ?_
      refine lv_iconst (v := 0) hx hb dL_law_372 (by decide) ?_
      refine va_dald hx hb hK hP 37 3 hf htB in01 dL_law_373 ?_
      refine re_d (show f (0 : Int32).toNatClampNeg = r2 from hf0) ?_
      refine lv_dload hx hb dL_law_374 (lv_at hl 0 rfl) ?_
      refine lv_dcmp hx hb dL_law_376 ?_
      refine lv_if_eq (tgt := 402) hx hb dL_law_377 (by decide) (fun c3 => absurd c3 cz) (fun _ => ?_)
      refine lv_aload hx hb dL_law_380 (lv_at hl 6 rfl) ?_
      refine lv_iconst (v := 0) hx hb dL_law_382 (by decide) ?_
      refine va_dald hx hb hK hP 37 3 hf htB in01 dL_law_383 ?_
      refine re_d (show f (0 : Int32).toNatClampNeg = r2 from hf0) ?_
      refine lv_aload hx hb dL_law_384 (lv_at hl 6 rfl) ?_
      refine lv_iconst (v := 0) hx hb dL_law_386 (by decide) ?_
      refine va_dald hx hb hK hP 37 3 hf htB in01 dL_law_387 ?_
      refine re_d (show f (0 : Int32).toNatClampNeg = r2 from hf0) ?_
      refine lv_dcmp hx hb dL_law_388 ?_
      refine lv_if_eq (tgt := 400) hx hb dL_law_389 (by decide) (fun c3 => absurd c3 cz) (fun _ => ?_)
      refine lv_dload hx hb dL_law_392 (lv_at hl 0 rfl) ?_
      refine lv_dload hx hb dL_law_394 (lv_at hl 0 rfl) ?_
      refine lv_dcmp hx hb dL_law_396 ?_
      refine lv_if_ne (tgt := 402) hx hb dL_law_397 (by decide) (fun _ => ?_) (fun c3 => absurd c3 cz)
      refine lv_goto (tgt := 1803) hx hb dL_law_402 (by decide) ?_
      refine W.widen (k := cells + 8) (n := slots + 242) (by omega) (by omega) ?_
      exact kk _ _ _ _ hI2 hP hD hS (lv_sub hl [2, 3, 4, 5, 6, 7] rfl)
set_option maxHeartbeats 4000000 in
set_option maxRecDepth 100000 in
theorem case_pin {p : Program} {l : Launch} {e : Env} {s : State} {m : MethodId} {below : List Frame} {meth : Method} {c : Code} (hnt : l.stackTraces = false) {G : va_G} {tys : List (ClassId × FieldType)} {tE mi : Nat} {cI cO cJ cB : ClassId} (htI : tI tys cI) (htO : tO tys cO) (htJ : tys[2]? = some (cJ, .long)) (htB : tys[3]? = some (cB, .double)) {b L : Nat} {xs : Nat → Int32} (hL : L ≤ 2048) (C0 : lw_At p s m meth c b L xs) {v am oj od : Nat} (hK : va_K G vwCl tys s) (hE : env (fun q : Nat => s.heap.size ≤ q) tE mi s s.heap) {ws : va_W} {H : Heap} {locs : List Loc} {i : Nat} {x5 : Int32} {cells slots : Nat} {Q : State → Prop} {ls : Array Slot} (hi : i + 3 < L) (e5 : x5 = nI i) (hI : INV cI cO cJ cB tE v am oj od ws) (hP : va_P G vwCl ws H) (hD : va_D (fun q : Nat => s.heap.size ≤ q) ws) (hS : va_S (fun q : Nat => s.heap.size ≤ q) s.heap H locs) (hl : lv_has ls 10 [(0, .ref b), (1, .ref v), (2, .ref am), (3, .ref oj), (4, .ref od), (5, .int x5)]) (hc : cells + 8 ≤ 601024) (hs : slots + 242 ≤ 7293034) (kk : ∀ (w : va_W) (H1 : Heap) (locs1 : List Loc) (ls1 : Array Slot), INV cI cO cJ cB tE v am oj od w → va_P G vwCl w H1 → va_D (fun q : Nat => s.heap.size ≤ q) w → va_S (fun q : Nat => s.heap.size ≤ q) s.heap H1 locs1 → lv_has ls1 10 [(0, .ref b), (1, .ref v), (2, .ref am), (3, .ref oj), (4, .ref od), (5, .int x5)] → W p l e room_1 s m #[Value.ref b] below meth c H1 locs1 (cells + 8) (slots + 242) Q (F0 m 1803 ls1 [])) : W p l e room_1 s m #[Value.ref b] below meth c H locs (cells) (slots) Q (F0 m 405 ls []) := by
  obtain ⟨hx, hb, hr, hml, hown, hts0, hX, hbl, hlocks, hgv⟩ := C0
  have hts : ∀ w ∈ wsL_law, w.before #[Value.ref b] s = true := fun w h => hts0 w (wsL_law_in w h)
  have hown : s.vm.findClass RL = some m.cls := hown
  have hA : ∀ q : Nat, s.heap.size ≤ q → (fun q : Nat => s.heap.size ≤ q) q := fun _ h => h
  have hbA : ¬ (fun q : Nat => s.heap.size ≤ q) b := Nat.not_le.mpr hbl
  have g1 : vp_in (x5 + 1) L := by rw [e5, show nI i + 1 = nI (i + 1) from nI_add i 1]; exact vp_in_nI (by omega) (by omega)
  obtain ⟨a1, ea1⟩ : ∃ y, y = xs (x5 + 1).toNatClampNeg := ⟨_, rfl⟩
  have g2 : vp_in (x5 + 2) L := by rw [e5, show nI i + 2 = nI (i + 2) from nI_add i 2]; exact vp_in_nI (by omega) (by omega)
  obtain ⟨a2, ea2⟩ : ∃ y, y = xs (x5 + 2).toNatClampNeg := ⟨_, rfl⟩
  obtain ⟨Mid, hH, hM⟩ := sem_pin (A := (fun q : Nat => s.heap.size ≤ q)) (mi := mi) l hnt G tys htI htO htJ htB hI a1 a2
  refine lv_aload_n hx hb dL_law_405 rfl (lv_at hl 1 rfl) ?_
  refine lv_aload_n hx hb dL_law_406 rfl (lv_at hl 0 rfl) ?_
  refine lv_iload hx hb dL_law_407 (lv_at hl 5 rfl) ?_
  refine lv_iconst (v := 1) hx hb dL_law_409 (by decide) ?_
  refine lv_iadd hx hb dL_law_410 ?_
  refine va_sld hx hb hX hbl hbA hS g1 dL_law_411 ?_
  refine re_i ea1.symm ?_
  refine lv_aload_n hx hb dL_law_412 rfl (lv_at hl 0 rfl) ?_
  refine lv_iload hx hb dL_law_413 (lv_at hl 5 rfl) ?_
  refine lv_iconst (v := 2) hx hb dL_law_415 (by decide) ?_
  refine lv_iadd hx hb dL_law_416 ?_
  refine va_sld hx hb hX hbl hbA hS g2 dL_law_417 ?_
  refine re_i ea2.symm ?_
  refine lv_aload_n hx hb dL_law_418 rfl (lv_at hl 3 rfl) ?_
  refine va_calli (vx_runSW (As := [.ref v, .int a1, .int a2, .ref oj]) (rest := []) ⟨hx, hb, hml, hown, hts⟩ hH (vx_cwSW 4 hts gL_law_L_pin rfl rfl rfl (by decide +kernel) ⟨Nat.le_of_ble_eq_true rfl, Nat.le_of_ble_eq_true rfl⟩) ⟨pcX_b, pcX_u hP hK hD hS hA hE⟩ rfl rfl hl.1 rfl (lv_room (Nat.le_of_ble_eq_true rfl)) dL_law_419 ⟨by show cells + 2 ≤ 601024; omega, by show slots + 12 ≤ 7293034; omega⟩) hS (fun q _ h => h) (fun q h => h) (fun k1 w t H locs ht hvm hMk hB hsz hk1 hS => ?_)
  rw [ht] at hB
  obtain ⟨hP, hD⟩ := hB
  obtain ⟨⟨vs12, h12⟩, hR⟩ := hM k1 w hMk
  refine lv_istore (lv' := [(6, .int k1), (0, .ref b), (1, .ref v), (2, .ref am), (3, .ref oj), (4, .ref od), (5, .int x5)]) hx hb dL_law_422 hl (by decide) rfl (fun ls hl => ?_)
  refine lv_aload_n hx hb dL_law_424 rfl (lv_at hl 3 rfl) ?_
  refine lv_aload_n hx hb dL_law_425 rfl (lv_at hl 1 rfl) ?_
  refine lv_iload hx hb dL_law_426 (lv_at hl 6 rfl) ?_
  refine lv_iconst (v := 1) hx hb dL_law_428 (by decide) ?_
  refine lv_iadd hx hb dL_law_429 ?_
  refine va_sld hx hb hX hbl hbA hS g1 dL_law_430 ?_
  refine re_i ea1.symm ?_
  refine lv_aload_n hx hb dL_law_431 rfl (lv_at hl 1 rfl) ?_
  refine lv_iload hx hb dL_law_432 (lv_at hl 6 rfl) ?_
  refine lv_iconst (v := 2) hx hb dL_law_434 (by decide) ?_
  refine lv_iadd hx hb dL_law_435 ?_
  refine va_sld hx hb hX hbl hbA hS g2 dL_law_436 ?_
  refine re_i ea2.symm ?_
  refine va_calli (va_runV (As := [.int a1, .int a2]) (rest := []) ⟨hx, hb, hml, hown, hts⟩ hR (cwV 2 hts gL_law_X8_pin rfl rfl rfl (by decide +kernel) ⟨Nat.le_of_ble_eq_true rfl, Nat.le_of_ble_eq_true rfl⟩) ⟨pcM_b, va_recv hK hP (ci := 9) (q0 := 12) rfl h12, pcM_u hP hK hD hS hA⟩ rfl rfl hl.1 rfl (lv_room (Nat.le_of_ble_eq_true rfl)) dL_law_437 ⟨by show cells + 2 + 0 ≤ 601024; omega, by show slots + 12 + 0 ≤ 7293034; omega⟩) hS (fun q _ h => h) (fun q h => h) (fun r2 w2 t H locs ht hvm hE2 hB hsz hk1 hS => ?_)
  rw [ht] at hB
  obtain ⟨hP, hD⟩ := hB
  obtain ⟨⟨ad, z, wi, dm, hm, hz⟩, hou, hI2⟩ := hE2
  refine lv_istore (lv' := [(7, .int r2), (6, .int k1), (0, .ref b), (1, .ref v), (2, .ref am), (3, .ref oj), (4, .ref od), (5, .int x5)]) hx hb dL_law_440 hl (by decide) rfl (fun ls hl => ?_)
  refine lv_aload_n hx hb dL_law_442 rfl (lv_at hl 4 rfl) ?_
  refine vp_callSi (va_Run.run (va_runV (As := []) (rest := []) ⟨hx, hb, hml, hown, hts⟩ (metX8_thrown l G tys w2 (F := fun _ _ => 0) hm) (cwV 0 hts gL_law_X8_thrown rfl rfl rfl (by decide +kernel) ⟨Nat.le_of_ble_eq_true rfl, Nat.le_of_ble_eq_true rfl⟩) ⟨pcR_b, va_recv hK hP (ci := 9) (q0 := 12) rfl hm, pcR_u hP hK⟩ rfl rfl hl.1 rfl (lv_room (Nat.le_of_ble_eq_true rfl)) dL_law_443 ⟨by show cells + 2 + 0 ≤ 601024; omega, by show slots + 12 + 0 ≤ 7293034; omega⟩)) (fun r3 h3 => ?_)
  refine lv_iload hx hb dL_law_446 (lv_at hl 1 rfl) ?_
  refine lv_icmp_eq (tgt := 453) hx hb dL_law_448 (by decide) (fun c1 => ?_) (fun c1 => absurd (h3.trans hz) c1)
  refine lv_iload hx hb dL_law_453 (lv_at hl 1 rfl) ?_
  refine lv_if_ne (tgt := 470) hx hb dL_law_455 (by decide) (fun c2 => ?_) (fun c2 => ?_)
  · refine lv_goto (tgt := 1803) hx hb dL_law_470 (by decide) ?_
    refine W.widen (k := cells + 8) (n := slots + 242) (by omega) (by omega) ?_
    exact kk _ _ _ _ hI2 hP hD hS (lv_sub hl [2, 3, 4, 5, 6, 7] rfl)
  · obtain ⟨f, hf, hf0⟩ := hou c2
    refine lv_aload_n hx hb dL_law_458 rfl (lv_at hl 5 rfl) ?_
    refine lv_iconst (v := 0) hx hb dL_law_459 (by decide) ?_
    refine va_lald hx hb hK hP 36 2 hf htJ in01 dL_law_460 ?_
    refine re_l (show f (0 : Int32).toNatClampNeg = r2.toInt64 from hf0) ?_
    refine lv_iload hx hb dL_law_461 (lv_at hl 0 rfl) ?_
    refine lv_i2l hx hb dL_law_463 rfl ?_
    refine W.lcmp hx hb dL_law_464 ?_
    refine re_i (lg_cmp_self _) ?_
    refine lv_if_eq (tgt := 470) hx hb dL_law_465 (by decide) (fun _ => ?_) (fun c3 => absurd rfl c3)
    refine lv_goto (tgt := 1803) hx hb dL_law_470 (by decide) ?_
    refine W.widen (k := cells + 8) (n := slots + 242) (by omega) (by omega) ?_
    exact kk _ _ _ _ hI2 hP hD hS (lv_sub hl [2, 3, 4, 5, 6, 7] rfl)
set_option maxHeartbeats 4000000 in
set_option maxRecDepth 100000 in
theorem case_drive {p : Program} {l : Launch} {e : Env} {s : State} {m : MethodId} {below : List Frame} {meth : Method} {c : Code} (hnt : l.stackTraces = false) {G : va_G} {tys : List (ClassId × FieldType)} {tE mi : Nat} {cI cO cJ cB : ClassId} (htI : tI tys cI) (htO : tO tys cO) (htJ : tys[2]? = some (cJ, .long)) (htB : tys[3]? = some (cB, .double)) {b L : Nat} {xs : Nat → Int32} (hL : L ≤ 2048) (C0 : lw_At p s m meth c b L xs) {v am oj od : Nat} (hK : va_K G vwCl tys s) (hE : env (fun q : Nat => s.heap.size ≤ q) tE mi s s.heap) {ws : va_W} {H : Heap} {locs : List Loc} {i : Nat} {x5 : Int32} {cells slots : Nat} {Q : State → Prop} {ls : Array Slot} (hi : i + 3 < L) (e5 : x5 = nI i) (hI : INV cI cO cJ cB tE v am oj od ws) (hP : va_P G vwCl ws H) (hD : va_D (fun q : Nat => s.heap.size ≤ q) ws) (hS : va_S (fun q : Nat => s.heap.size ≤ q) s.heap H locs) (hl : lv_has ls 10 [(0, .ref b), (1, .ref v), (2, .ref am), (3, .ref oj), (4, .ref od), (5, .int x5)]) (hc : cells + 8 ≤ 601024) (hs : slots + 242 ≤ 7293034) (kk : ∀ (w : va_W) (H1 : Heap) (locs1 : List Loc) (ls1 : Array Slot), INV cI cO cJ cB tE v am oj od w → va_P G vwCl w H1 → va_D (fun q : Nat => s.heap.size ≤ q) w → va_S (fun q : Nat => s.heap.size ≤ q) s.heap H1 locs1 → lv_has ls1 10 [(0, .ref b), (1, .ref v), (2, .ref am), (3, .ref oj), (4, .ref od), (5, .int x5)] → W p l e room_1 s m #[Value.ref b] below meth c H1 locs1 (cells + 8) (slots + 242) Q (F0 m 1803 ls1 [])) : W p l e room_1 s m #[Value.ref b] below meth c H locs (cells) (slots) Q (F0 m 473 ls []) := by
  obtain ⟨hx, hb, hr, hml, hown, hts0, hX, hbl, hlocks, hgv⟩ := C0
  have hts : ∀ w ∈ wsL_law, w.before #[Value.ref b] s = true := fun w h => hts0 w (wsL_law_in w h)
  have hown : s.vm.findClass RL = some m.cls := hown
  have hA : ∀ q : Nat, s.heap.size ≤ q → (fun q : Nat => s.heap.size ≤ q) q := fun _ h => h
  have hbA : ¬ (fun q : Nat => s.heap.size ≤ q) b := Nat.not_le.mpr hbl
  have g1 : vp_in (x5 + 1) L := by rw [e5, show nI i + 1 = nI (i + 1) from nI_add i 1]; exact vp_in_nI (by omega) (by omega)
  obtain ⟨a1, ea1⟩ : ∃ y, y = xs (x5 + 1).toNatClampNeg := ⟨_, rfl⟩
  have g2 : vp_in (x5 + 2) L := by rw [e5, show nI i + 2 = nI (i + 2) from nI_add i 2]; exact vp_in_nI (by omega) (by omega)
  obtain ⟨a2, ea2⟩ : ∃ y, y = xs (x5 + 2).toNatClampNeg := ⟨_, rfl⟩
  obtain ⟨Mid, hH, hM⟩ := sem_drive (A := (fun q : Nat => s.heap.size ≤ q)) (mi := mi) l hnt G tys htI htO htJ htB hI a1 a2
  refine lv_aload_n hx hb dL_law_473 rfl (lv_at hl 1 rfl) ?_
  refine lv_aload_n hx hb dL_law_474 rfl (lv_at hl 0 rfl) ?_
  refine lv_iload hx hb dL_law_475 (lv_at hl 5 rfl) ?_
  refine lv_iconst (v := 1) hx hb dL_law_477 (by decide) ?_
  refine lv_iadd hx hb dL_law_478 ?_
  refine va_sld hx hb hX hbl hbA hS g1 dL_law_479 ?_
  refine re_i ea1.symm ?_
  refine lv_aload_n hx hb dL_law_480 rfl (lv_at hl 0 rfl) ?_
  refine lv_iload hx hb dL_law_481 (lv_at hl 5 rfl) ?_
  refine lv_iconst (v := 2) hx hb dL_law_483 (by decide) ?_
  refine lv_iadd hx hb dL_law_484 ?_
  refine va_sld hx hb hX hbl hbA hS g2 dL_law_485 ?_
  refine re_i ea2.symm ?_
  refine va_calli (vx_runSW (As := [.ref v, .int a1, .int a2]) (rest := []) ⟨hx, hb, hml, hown, hts⟩ hH (vx_cwSW 3 hts gL_law_L_drive rfl rfl rfl (by decide +kernel) ⟨Nat.le_of_ble_eq_true rfl, Nat.le_of_ble_eq_true rfl⟩) ⟨pcX_b, pcX_u hP hK hD hS hA hE⟩ rfl rfl hl.1 rfl (lv_room (Nat.le_of_ble_eq_true rfl)) dL_law_486 ⟨by show cells + 2 ≤ 601024; omega, by show slots + 12 ≤ 7293034; omega⟩) hS (fun q _ h => h) (fun q h => h) (fun k1 w t H locs ht hvm hMk hB hsz hk1 hS => ?_)
  rw [ht] at hB
  obtain ⟨hP, hD⟩ := hB
  obtain ⟨⟨vs12, h12⟩, hR⟩ := hM k1 w hMk
  refine lv_istore (lv' := [(6, .int k1), (0, .ref b), (1, .ref v), (2, .ref am), (3, .ref oj), (4, .ref od), (5, .int x5)]) hx hb dL_law_489 hl (by decide) rfl (fun ls hl => ?_)
  refine lv_aload_n hx hb dL_law_491 rfl (lv_at hl 3 rfl) ?_
  refine lv_aload_n hx hb dL_law_492 rfl (lv_at hl 1 rfl) ?_
  refine lv_iload hx hb dL_law_493 (lv_at hl 6 rfl) ?_
  refine lv_iconst (v := 1) hx hb dL_law_495 (by decide) ?_
  refine lv_iadd hx hb dL_law_496 ?_
  refine va_sld hx hb hX hbl hbA hS g1 dL_law_497 ?_
  refine re_i ea1.symm ?_
  refine lv_aload_n hx hb dL_law_498 rfl (lv_at hl 1 rfl) ?_
  refine lv_iload hx hb dL_law_499 (lv_at hl 6 rfl) ?_
  refine lv_iconst (v := 2) hx hb dL_law_501 (by decide) ?_
  refine lv_iadd hx hb dL_law_502 ?_
  refine va_sld hx hb hX hbl hbA hS g2 dL_law_503 ?_
  refine re_i ea2.symm ?_
  refine va_callv (va_runV (As := [.int a1, .int a2]) (rest := []) ⟨hx, hb, hml, hown, hts⟩ hR (cwV 2 hts gL_law_X8_drive rfl rfl rfl (by decide +kernel) ⟨Nat.le_of_ble_eq_true rfl, Nat.le_of_ble_eq_true rfl⟩) ⟨pcM_b, va_recv hK hP (ci := 9) (q0 := 12) rfl h12, pcM_u hP hK hD hS hA⟩ rfl rfl hl.1 rfl (lv_room (Nat.le_of_ble_eq_true rfl)) dL_law_504 ⟨by show cells + 2 + 0 ≤ 601024; omega, by show slots + 12 + 0 ≤ 7293034; omega⟩) hS (fun q _ h => h) (fun q h => h) (fun w2 t H locs ht hvm hE2 hB hsz hk1 hS => ?_)
  rw [ht] at hB
  obtain ⟨hP, hD⟩ := hB
  obtain ⟨⟨ad, z, wi, dm, hm, hz⟩, hI2⟩ := hE2
  refine lv_aload_n hx hb dL_law_507 rfl (lv_at hl 3 rfl) ?_
  refine vp_callSi (va_Run.run (va_runV (As := []) (rest := []) ⟨hx, hb, hml, hown, hts⟩ (metX8_thrown l G tys w2 (F := fun _ _ => 0) hm) (cwV 0 hts gL_law_X8_thrown rfl rfl rfl (by decide +kernel) ⟨Nat.le_of_ble_eq_true rfl, Nat.le_of_ble_eq_true rfl⟩) ⟨pcR_b, va_recv hK hP (ci := 9) (q0 := 12) rfl hm, pcR_u hP hK⟩ rfl rfl hl.1 rfl (lv_room (Nat.le_of_ble_eq_true rfl)) dL_law_508 ⟨by show cells + 2 + 0 ≤ 601024; omega, by show slots + 12 + 0 ≤ 7293034; omega⟩)) (fun r3 h3 => ?_)
  refine lv_iload hx hb dL_law_511 (lv_at hl 0 rfl) ?_
  refine lv_icmp_eq (tgt := 518) hx hb dL_law_513 (by decide) (fun c1 => ?_) (fun c1 => absurd (h3.trans hz) c1)
  refine lv_goto (tgt := 1803) hx hb dL_law_518 (by decide) ?_
  refine W.widen (k := cells + 8) (n := slots + 242) (by omega) (by omega) ?_
  exact kk _ _ _ _ hI2 hP hD hS (lv_sub hl [1, 2, 3, 4, 5, 6] rfl)
set_option maxHeartbeats 4000000 in
set_option maxRecDepth 100000 in
theorem case_enter {p : Program} {l : Launch} {e : Env} {s : State} {m : MethodId} {below : List Frame} {meth : Method} {c : Code} (hnt : l.stackTraces = false) {G : va_G} {tys : List (ClassId × FieldType)} {tE mi : Nat} {cI cO cJ cB : ClassId} (htI : tI tys cI) (htO : tO tys cO) (htJ : tys[2]? = some (cJ, .long)) (htB : tys[3]? = some (cB, .double)) {b L : Nat} {xs : Nat → Int32} (hL : L ≤ 2048) (C0 : lw_At p s m meth c b L xs) {v am oj od : Nat} (hK : va_K G vwCl tys s) (hE : env (fun q : Nat => s.heap.size ≤ q) tE mi s s.heap) {ws : va_W} {H : Heap} {locs : List Loc} {i : Nat} {x5 : Int32} {cells slots : Nat} {Q : State → Prop} {ls : Array Slot} (hi : i + 3 < L) (e5 : x5 = nI i) (hI : INV cI cO cJ cB tE v am oj od ws) (hP : va_P G vwCl ws H) (hD : va_D (fun q : Nat => s.heap.size ≤ q) ws) (hS : va_S (fun q : Nat => s.heap.size ≤ q) s.heap H locs) (hl : lv_has ls 10 [(0, .ref b), (1, .ref v), (2, .ref am), (3, .ref oj), (4, .ref od), (5, .int x5)]) (hc : cells + 8 ≤ 601024) (hs : slots + 242 ≤ 7293034) (kk : ∀ (w : va_W) (H1 : Heap) (locs1 : List Loc) (ls1 : Array Slot), INV cI cO cJ cB tE v am oj od w → va_P G vwCl w H1 → va_D (fun q : Nat => s.heap.size ≤ q) w → va_S (fun q : Nat => s.heap.size ≤ q) s.heap H1 locs1 → lv_has ls1 10 [(0, .ref b), (1, .ref v), (2, .ref am), (3, .ref oj), (4, .ref od), (5, .int x5)] → W p l e room_1 s m #[Value.ref b] below meth c H1 locs1 (cells + 8) (slots + 242) Q (F0 m 1803 ls1 [])) : W p l e room_1 s m #[Value.ref b] below meth c H locs (cells) (slots) Q (F0 m 521 ls []) := by
  obtain ⟨hx, hb, hr, hml, hown, hts0, hX, hbl, hlocks, hgv⟩ := C0
  have hts : ∀ w ∈ wsL_law, w.before #[Value.ref b] s = true := fun w h => hts0 w (wsL_law_in w h)
  have hown : s.vm.findClass RL = some m.cls := hown
  have hA : ∀ q : Nat, s.heap.size ≤ q → (fun q : Nat => s.heap.size ≤ q) q := fun _ h => h
  have hbA : ¬ (fun q : Nat => s.heap.size ≤ q) b := Nat.not_le.mpr hbl
  have g1 : vp_in (x5 + 1) L := by rw [e5, show nI i + 1 = nI (i + 1) from nI_add i 1]; exact vp_in_nI (by omega) (by omega)
  obtain ⟨a1, ea1⟩ : ∃ y, y = xs (x5 + 1).toNatClampNeg := ⟨_, rfl⟩
  obtain ⟨Mid, hH, hM⟩ := sem_enter (A := (fun q : Nat => s.heap.size ≤ q)) (mi := mi) l hnt G tys htI htO htJ htB hI a1
  refine lv_aload_n hx hb dL_law_521 rfl (lv_at hl 1 rfl) ?_
  refine lv_aload_n hx hb dL_law_522 rfl (lv_at hl 0 rfl) ?_
  refine lv_iload hx hb dL_law_523 (lv_at hl 5 rfl) ?_
  refine lv_iconst (v := 1) hx hb dL_law_525 (by decide) ?_
  refine lv_iadd hx hb dL_law_526 ?_
  refine va_sld hx hb hX hbl hbA hS g1 dL_law_527 ?_
  refine re_i ea1.symm ?_
  refine lv_aload_n hx hb dL_law_528 rfl (lv_at hl 3 rfl) ?_
  refine va_calli (vx_runSW (As := [.ref v, .int a1, .ref oj]) (rest := []) ⟨hx, hb, hml, hown, hts⟩ hH (vx_cwSW 3 hts gL_law_L_enter rfl rfl rfl (by decide +kernel) ⟨Nat.le_of_ble_eq_true rfl, Nat.le_of_ble_eq_true rfl⟩) ⟨pcX_b, pcX_u hP hK hD hS hA hE⟩ rfl rfl hl.1 rfl (lv_room (Nat.le_of_ble_eq_true rfl)) dL_law_529 ⟨by show cells + 2 ≤ 601024; omega, by show slots + 12 ≤ 7293034; omega⟩) hS (fun q _ h => h) (fun q h => h) (fun k1 w t H locs ht hvm hMk hB hsz hk1 hS => ?_)
  rw [ht] at hB
  obtain ⟨hP, hD⟩ := hB
  obtain ⟨⟨vs12, h12⟩, hR⟩ := hM k1 w hMk
  refine lv_istore (lv' := [(6, .int k1), (0, .ref b), (1, .ref v), (2, .ref am), (3, .ref oj), (4, .ref od), (5, .int x5)]) hx hb dL_law_532 hl (by decide) rfl (fun ls hl => ?_)
  refine lv_aload_n hx hb dL_law_534 rfl (lv_at hl 3 rfl) ?_
  refine lv_aload_n hx hb dL_law_535 rfl (lv_at hl 1 rfl) ?_
  refine lv_iload hx hb dL_law_536 (lv_at hl 6 rfl) ?_
  refine lv_iconst (v := 1) hx hb dL_law_538 (by decide) ?_
  refine lv_iadd hx hb dL_law_539 ?_
  refine va_sld hx hb hX hbl hbA hS g1 dL_law_540 ?_
  refine re_i ea1.symm ?_
  refine va_calli (va_runV (As := [.int a1]) (rest := []) ⟨hx, hb, hml, hown, hts⟩ hR (cwV 1 hts gL_law_X8_enter rfl rfl rfl (by decide +kernel) ⟨Nat.le_of_ble_eq_true rfl, Nat.le_of_ble_eq_true rfl⟩) ⟨pcM_b, va_recv hK hP (ci := 9) (q0 := 12) rfl h12, pcM_u hP hK hD hS hA⟩ rfl rfl hl.1 rfl (lv_room (Nat.le_of_ble_eq_true rfl)) dL_law_541 ⟨by show cells + 2 + 0 ≤ 601024; omega, by show slots + 12 + 0 ≤ 7293034; omega⟩) hS (fun q _ h => h) (fun q h => h) (fun r2 w2 t H locs ht hvm hE2 hB hsz hk1 hS => ?_)
  rw [ht] at hB
  obtain ⟨hP, hD⟩ := hB
  obtain ⟨⟨ad, z, wi, dm, hm, hz⟩, hou, hI2⟩ := hE2
  refine lv_istore (lv' := [(7, .int r2), (6, .int k1), (0, .ref b), (1, .ref v), (2, .ref am), (3, .ref oj), (4, .ref od), (5, .int x5)]) hx hb dL_law_544 hl (by decide) rfl (fun ls hl => ?_)
  refine lv_aload_n hx hb dL_law_546 rfl (lv_at hl 4 rfl) ?_
  refine vp_callSi (va_Run.run (va_runV (As := []) (rest := []) ⟨hx, hb, hml, hown, hts⟩ (metX8_thrown l G tys w2 (F := fun _ _ => 0) hm) (cwV 0 hts gL_law_X8_thrown rfl rfl rfl (by decide +kernel) ⟨Nat.le_of_ble_eq_true rfl, Nat.le_of_ble_eq_true rfl⟩) ⟨pcR_b, va_recv hK hP (ci := 9) (q0 := 12) rfl hm, pcR_u hP hK⟩ rfl rfl hl.1 rfl (lv_room (Nat.le_of_ble_eq_true rfl)) dL_law_547 ⟨by show cells + 2 + 0 ≤ 601024; omega, by show slots + 12 + 0 ≤ 7293034; omega⟩)) (fun r3 h3 => ?_)
  refine lv_iload hx hb dL_law_550 (lv_at hl 1 rfl) ?_
  refine lv_icmp_eq (tgt := 557) hx hb dL_law_552 (by decide) (fun c1 => ?_) (fun c1 => absurd (h3.trans hz) c1)
  refine lv_iload hx hb dL_law_557 (lv_at hl 1 rfl) ?_
  refine lv_if_ne (tgt := 574) hx hb dL_law_559 (by decide) (fun c2 => ?_) (fun c2 => ?_)
  · refine lv_goto (tgt := 1803) hx hb dL_law_574 (by decide) ?_
    refine W.widen (k := cells + 8) (n := slots + 242) (by omega) (by omega) ?_
    exact kk _ _ _ _ hI2 hP hD hS (lv_sub hl [2, 3, 4, 5, 6, 7] rfl)
  · obtain ⟨f, hf, hf0⟩ := hou c2
    refine lv_aload_n hx hb dL_law_562 rfl (lv_at hl 5 rfl) ?_
    refine lv_iconst (v := 0) hx hb dL_law_563 (by decide) ?_
    refine va_lald hx hb hK hP 36 2 hf htJ in01 dL_law_564 ?_
    refine re_l (show f (0 : Int32).toNatClampNeg = r2.toInt64 from hf0) ?_
    refine lv_iload hx hb dL_law_565 (lv_at hl 0 rfl) ?_
    refine lv_i2l hx hb dL_law_567 rfl ?_
    refine W.lcmp hx hb dL_law_568 ?_
    refine re_i (lg_cmp_self _) ?_
    refine lv_if_eq (tgt := 574) hx hb dL_law_569 (by decide) (fun _ => ?_) (fun c3 => absurd rfl c3)
    refine lv_goto (tgt := 1803) hx hb dL_law_574 (by decide) ?_
    refine W.widen (k := cells + 8) (n := slots + 242) (by omega) (by omega) ?_
    exact kk _ _ _ _ hI2 hP hD hS (lv_sub hl [2, 3, 4, 5, 6, 7] rfl)
set_option maxHeartbeats 4000000 in
set_option maxRecDepth 100000 in
theorem case_step {p : Program} {l : Launch} {e : Env} {s : State} {m : MethodId} {below : List Frame} {meth : Method} {c : Code} (hnt : l.stackTraces = false) {G : va_G} {tys : List (ClassId × FieldType)} {tE mi : Nat} {cI cO cJ cB : ClassId} (htI : tI tys cI) (htO : tO tys cO) (htJ : tys[2]? = some (cJ, .long)) (htB : tys[3]? = some (cB, .double)) {b L : Nat} {xs : Nat → Int32} (hL : L ≤ 2048) (C0 : lw_At p s m meth c b L xs) {v am oj od : Nat} (hK : va_K G vwCl tys s) (hE : env (fun q : Nat => s.heap.size ≤ q) tE mi s s.heap) {ws : va_W} {H : Heap} {locs : List Loc} {i : Nat} {x5 : Int32} {cells slots : Nat} {Q : State → Prop} {ls : Array Slot} (hi : i + 3 < L) (e5 : x5 = nI i) (hI : INV cI cO cJ cB tE v am oj od ws) (hP : va_P G vwCl ws H) (hD : va_D (fun q : Nat => s.heap.size ≤ q) ws) (hS : va_S (fun q : Nat => s.heap.size ≤ q) s.heap H locs) (hl : lv_has ls 10 [(0, .ref b), (1, .ref v), (2, .ref am), (3, .ref oj), (4, .ref od), (5, .int x5)]) (hc : cells + 8 ≤ 601024) (hs : slots + 242 ≤ 7293034) (kk : ∀ (w : va_W) (H1 : Heap) (locs1 : List Loc) (ls1 : Array Slot), INV cI cO cJ cB tE v am oj od w → va_P G vwCl w H1 → va_D (fun q : Nat => s.heap.size ≤ q) w → va_S (fun q : Nat => s.heap.size ≤ q) s.heap H1 locs1 → lv_has ls1 10 [(0, .ref b), (1, .ref v), (2, .ref am), (3, .ref oj), (4, .ref od), (5, .int x5)] → W p l e room_1 s m #[Value.ref b] below meth c H1 locs1 (cells + 8) (slots + 242) Q (F0 m 1803 ls1 [])) : W p l e room_1 s m #[Value.ref b] below meth c H locs (cells) (slots) Q (F0 m 577 ls []) := by
  obtain ⟨hx, hb, hr, hml, hown, hts0, hX, hbl, hlocks, hgv⟩ := C0
  have hts : ∀ w ∈ wsL_law, w.before #[Value.ref b] s = true := fun w h => hts0 w (wsL_law_in w h)
  have hown : s.vm.findClass RL = some m.cls := hown
  have hA : ∀ q : Nat, s.heap.size ≤ q → (fun q : Nat => s.heap.size ≤ q) q := fun _ h => h
  have hbA : ¬ (fun q : Nat => s.heap.size ≤ q) b := Nat.not_le.mpr hbl
  have hI9 := hI
  obtain ⟨own, ad, z, F, wi, dm, ⟨aS, af, aR, ao, ak, aP, aC⟩, np, hI0⟩ := hI9
  have hv := hI0.2.1
  obtain ⟨Mid, hH, hM⟩ := sem_step (A := (fun q : Nat => s.heap.size ≤ q)) (mi := mi) l hnt G tys htI htO htJ htB hI
  refine lv_aload_n hx hb dL_law_577 rfl (lv_at hl 1 rfl) ?_
  refine va_calli (va_runV (As := []) (rest := []) ⟨hx, hb, hml, hown, hts⟩ hH (cwV 0 hts gL_law_X7_step rfl rfl rfl (by decide +kernel) ⟨Nat.le_of_ble_eq_true rfl, Nat.le_of_ble_eq_true rfl⟩) ⟨pcM_b, va_recv hK hP (ci := 8) (q0 := 0) rfl hv, pcM_u hP hK hD hS hA⟩ rfl rfl hl.1 rfl (lv_room (Nat.le_of_ble_eq_true rfl)) dL_law_578 ⟨by show cells + 0 ≤ 601024; omega, by show slots + 0 ≤ 7293034; omega⟩) hS (fun q _ h => h) (fun q h => h) (fun k1 w t H locs ht hvm hMk hB hsz hk1 hS => ?_)
  rw [ht] at hB
  obtain ⟨hP, hD⟩ := hB
  obtain ⟨⟨vs12, h12⟩, hR⟩ := hM k1 w hMk
  refine lv_aload_n hx hb dL_law_581 rfl (lv_at hl 2 rfl) ?_
  refine va_calli (va_runV (As := []) (rest := [.int k1]) ⟨hx, hb, hml, hown, hts⟩ hR (cwV 0 hts gL_law_X8_step rfl rfl rfl (by decide +kernel) ⟨Nat.le_of_ble_eq_true rfl, Nat.le_of_ble_eq_true rfl⟩) ⟨pcM_b, va_recv hK hP (ci := 9) (q0 := 12) rfl h12, pcM_u hP hK hD hS hA⟩ rfl rfl hl.1 rfl (lv_room (Nat.le_of_ble_eq_true rfl)) dL_law_582 ⟨by show cells + 0 ≤ 601024; omega, by show slots + 0 ≤ 7293034; omega⟩) hS (fun q _ h => h) (fun q h => h) (fun r2 w2 t H locs ht hvm hE2 hB hsz hk1 hS => ?_)
  rw [ht] at hB
  obtain ⟨hP, hD⟩ := hB
  obtain ⟨rfl, hI2⟩ := hE2
  refine lv_icmp_eq (tgt := 1803) hx hb dL_law_585 (by decide) (fun _ => ?_) (fun c1 => absurd rfl c1)
  refine W.widen (k := cells + 8) (n := slots + 242) (by omega) (by omega) ?_
  exact kk _ _ _ _ hI2 hP hD hS (lv_sub hl [0, 1, 2, 3, 4, 5] rfl)
