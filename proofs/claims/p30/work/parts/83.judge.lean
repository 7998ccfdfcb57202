set_option maxHeartbeats 4000000 in
set_option maxRecDepth 100000 in
theorem judged {p : Program} {l : Launch} {e : Env} {s : State} {m : MethodId} {below : List Frame} {meth : Method} {c : Code} (hnt : l.stackTraces = false) {G : va_G} {tys : List (ClassId × FieldType)} {tE mi : Nat} {cI cO : ClassId} (htI : tI tys cI) (htO : tO tys cO) {b L : Nat} {xs : Nat → Int32} (hL : L ≤ 260) (C0 : lw_At p s m meth c b L xs) {ad : Nat → Nat} (hK : va_K G vwCl tys s) (hE : env (fun q : Nat => s.heap.size ≤ q) tE mi s s.heap) {own : Nat → Nat} {P M V S T : Nat → Int32} {n : Nat} {cel : Nat → Int32} {ind cr num cur du : Int32} {wi dm : Int64} {ct cf co ca : Nat → Int32} {wd : Nat → Nat → Int32} {np nc k no wa to fr d nt N : Nat} {ws : va_W} {H : Heap} {locs : List Loc} {cells slots : Nat} {Q : State → Prop} {hh gg : Int32} {ls : Array Slot} (hI : inv cI cO tE ad own ws P M V S T n cel ind cr num cur du wi dm np nc ct cf co ca wd) (hV : ∀ i, i < np → 0 ≤ (V i).toInt ∧ (V i).toInt ≤ 1000) (hnp : np ≤ 57) (hN : fr + N = to + 1) (hto : to < np) (hc : cells ≤ 600130) (hs : slots ≤ 7301080) (hP : va_P G vwCl ws H) (hD : va_D (fun q : Nat => s.heap.size ≤ q) ws) (hS : va_S (fun q : Nat => s.heap.size ≤ q) s.heap H locs) (hkn : k < nc) (hno : no < 20) (hcf : cf k = nI fr) (hco : co k = nI to) (hca : ca k = nI np) (hct : ct k = nI wa) (e1 : hCnt (wd k) 1 7 = nI d) (e2 : hCnt (wd k) 2 7 = nI nt) (hd7 : d ≤ 7) (he7 : nt ≤ 7) (hw : lwP P M V (nI no) (nI wa) fr N N 0 hh gg) (hl : lv_has ls 26 [(22, .int gg), (21, .int hh), (20, .int (nI nt)), (19, .int (nI d)), (18, .int (nI no)), (17, .int (nI wa)), (16, .int (nI to)), (15, .int (nI fr)), (0, .ref b), (1, .ref (ad 0)), (2, .ref (ad 12)), (3, .ref (ad 13)), (4, .ref (ad 14)), (7, .int (nI np)), (14, .int (nI k))]) (hc2 : cells + 2 ≤ 600130) (hs2 : slots + 12 ≤ 7301080) (hfr : fr ≤ to) (kk : ∀ (H : Heap) (locs : List Loc) (ls : Array Slot), va_P G vwCl ws H → va_D (fun q : Nat => s.heap.size ≤ q) ws → va_S (fun q : Nat => s.heap.size ≤ q) s.heap H locs → lv_has ls 26 [(0, .ref b), (1, .ref (ad 0)), (2, .ref (ad 12)), (3, .ref (ad 13)), (4, .ref (ad 14)), (7, .int (nI np)), (14, .int (nI k))] → W p l e room_1 s m #[Value.ref b] below meth c H locs (cells + 2) (slots + 12) Q (F0 m 1175 ls [])) : W p l e room_1 s m #[Value.ref b] below meth c H locs (cells) (slots) Q (F0 m 1098 ls []) := by
  obtain ⟨hx, hb, hr, hml, hown, hts0, hX, hbl, hlocks, hgv⟩ := C0
  have hts : ∀ w ∈ wsL_law, w.before #[Value.ref b] s = true := fun w h => hts0 w (wsL_law_in w h)
  have hown : s.vm.findClass RL = some m.cls := hown
  have hA : ∀ q : Nat, s.heap.size ≤ q → (fun q : Nat => s.heap.size ≤ q) q := fun _ h => h
  have hbA : ¬ (fun q : Nat => s.heap.size ≤ q) b := Nat.not_le.mpr hbl
  refine lv_iload hx hb dL_law_1098 (lv_at hl 6 rfl) ?_
  refine lv_iload hx hb dL_law_1100 (lv_at hl 7 rfl) ?_
  refine lv_isub hx hb dL_law_1102 ?_
  refine re_i (y := nI (to - fr)) (pk_sub hfr) ?_
  refine lv_iconst (v := 1) hx hb dL_law_1103 (by decide) ?_
  refine lv_iadd hx hb dL_law_1104 ?_
  refine re_i (y := nI (to - fr + 1)) (nI_1 (to - fr)) ?_
  refine lv_istore (lv' := [(23, .int (nI (to - fr + 1))), (22, .int gg), (21, .int hh), (20, .int (nI nt)), (19, .int (nI d)), (18, .int (nI no)), (17, .int (nI wa)), (16, .int (nI to)), (15, .int (nI fr)), (0, .ref b), (1, .ref (ad 0)), (2, .ref (ad 12)), (3, .ref (ad 13)), (4, .ref (ad 14)), (7, .int (nI np)), (14, .int (nI k))]) hx hb dL_law_1105 hl (by decide) rfl (fun ls hl => ?_)
  have ev : jVer (jOpen P M V (nI no) (nI wa) fr N) (nI fr) (nI to) (nI np) (wd k) = if 4 * nI np ≤ 5 * nI (to - fr + 1) then (if jOpen P M V (nI no) (nI wa) fr N = 0 then (if 2 ≤ nI d then (if nI nt < nI d then 4 else 3) else 2) else 1) else 0 := by
    unfold jVer
    rw [e1, e2, pk_sub hfr, nI_1]
  obtain ⟨J, eJ⟩ : ∃ z : Int32, z = jVer (jOpen P M V (nI no) (nI wa) fr N) (nI fr) (nI to) (nI np) (wd k) := ⟨_, rfl⟩
  rw [← eJ] at ev
  refine cut_i (ls := ls) (rest := []) J 1158 _ ?_ (fun kj => ?_)
  · refine lv_istore (lv' := [(24, .int J), (23, .int (nI (to - fr + 1))), (22, .int gg), (21, .int hh), (20, .int (nI nt)), (19, .int (nI d)), (18, .int (nI no)), (17, .int (nI wa)), (16, .int (nI to)), (15, .int (nI fr)), (0, .ref b), (1, .ref (ad 0)), (2, .ref (ad 12)), (3, .ref (ad 13)), (4, .ref (ad 14)), (7, .int (nI np)), (14, .int (nI k))]) hx hb dL_law_1158 hl (by decide) rfl (fun ls hl => ?_)
    refine lv_aload_n hx hb dL_law_1160 rfl (lv_at hl 11 rfl) ?_
    refine lv_iload hx hb dL_law_1161 (lv_at hl 16 rfl) ?_
    refine lv_iload hx hb dL_law_1163 (lv_at hl 6 rfl) ?_
    refine va_calli (va_runV (As := [.int (nI k), .int (nI no)]) (rest := []) ⟨hx, hb, hml, hown, hts⟩ (op_judge hnt G tys htI htO hI k hkn (nI no) (oR_of (a := 0) (b := 1000000) (by decide) (by decide) (nI_toInt (by omega)) (by omega) (by omega))) (cwV 2 hts gL_law_X7_judge rfl rfl rfl (by decide +kernel) ⟨Nat.le_of_ble_eq_true rfl, Nat.le_of_ble_eq_true rfl⟩) ⟨pcX_b, va_recv hK hP (ci := 7) (q0 := 0) rfl hI.1.1, pcX_u hP hK hD hS hA hE⟩ rfl rfl hl.1 rfl (lv_room (Nat.le_of_ble_eq_true rfl)) dL_law_1165 ⟨by show cells + 2 ≤ 600130; omega, by show slots + 12 ≤ 7301080; omega⟩) hS (fun q _ h => h) (fun q h => h) (fun r u t H locs ht hvm hq hB hsz hk1 hS => ?_)
    rw [ht] at hB
    obtain ⟨hP, hD⟩ := hB
    rw [hcf, hco, hca, hct, nI_clamp (show fr < 2 ^ 31 by omega), nI_clamp (show to < 2 ^ 31 by omega), show to + 1 - fr = N by omega, ← eJ] at hq
    refine re_i (y := J) (hq) ?_
    refine lv_iload hx hb dL_law_1168 (lv_at hl 0 rfl) ?_
    refine lv_icmp_eq (tgt := 1175) hx hb dL_law_1170 (by decide) (fun c1170 => ?_) (fun c1170 => absurd (rfl) c1170)
    exact kk _ _ ls hP hD hS (lv_sub hl [10, 11, 12, 13, 14, 15, 16] rfl)
  · refine lv_iconst (v := 5) hx hb dL_law_1107 (by decide) ?_
    refine lv_iload hx hb dL_law_1108 (lv_at hl 0 rfl) ?_
    refine lv_imul hx hb dL_law_1110 ?_
    refine lv_iconst (v := 4) hx hb dL_law_1111 (by decide) ?_
    refine lv_iload hx hb dL_law_1112 (lv_at hl 14 rfl) ?_
    refine lv_imul hx hb dL_law_1114 ?_
    refine lv_icmp_ge (tgt := 1122) hx hb dL_law_1115 (by decide) (fun q1 => ?_) (fun q1 => ?_)
    · have jop : (hh = 0 ∨ gg = 0) → jOpen P M V (nI no) (nI wa) fr N = 1 ∧ True := fun z => (lwP_end hw).elim (fun q => ⟨q.1, trivial⟩) (fun q => z.elim (fun z => absurd (q.2.1.symm.trans z) (by decide)) (fun z => absurd (q.2.2.symm.trans z) (by decide)))
      refine lv_iload hx hb dL_law_1122 (lv_at hl 2 rfl) ?_
      refine lv_if_eq (tgt := 1132) hx hb dL_law_1124 (by decide) (fun q2 => ?_) (fun q2 => ?_)
      · refine lv_iconst (v := 1) hx hb dL_law_1132 (by decide) ?_
        refine lv_goto (tgt := 1158) hx hb dL_law_1133 (by decide) ?_
        exact kj 1 (by rw [ev, if_pos q1, if_neg (by rw [(jop (Or.inl q2)).1]; decide)])
      · refine lv_iload hx hb dL_law_1127 (lv_at hl 1 rfl) ?_
        refine lv_if_ne (tgt := 1136) hx hb dL_law_1129 (by decide) (fun q3 => ?_) (fun q3 => ?_)
        · have jz : jOpen P M V (nI no) (nI wa) fr N = 0 := (lwP_end hw).elim (fun q => absurd q.2 (fun z => z.elim q2 q3)) (fun q => q.1)
          refine lv_iload hx hb dL_law_1136 (lv_at hl 4 rfl) ?_
          refine lv_iconst (v := 2) hx hb dL_law_1138 (by decide) ?_
          refine lv_icmp_ge (tgt := 1146) hx hb dL_law_1139 (by decide) (fun q4 => ?_) (fun q4 => ?_)
          · refine lv_iload hx hb dL_law_1146 (lv_at hl 3 rfl) ?_
            refine lv_iload hx hb dL_law_1148 (lv_at hl 4 rfl) ?_
            refine lv_icmp_lt (tgt := 1157) hx hb dL_law_1150 (by decide) (fun q5 => ?_) (fun q5 => ?_)
            · refine lv_iconst (v := 4) hx hb dL_law_1157 (by decide) ?_
              exact kj 4 (by rw [ev, if_pos q1, if_pos jz, if_pos q4, if_pos q5])
            · refine lv_iconst (v := 3) hx hb dL_law_1153 (by decide) ?_
              refine lv_goto (tgt := 1158) hx hb dL_law_1154 (by decide) ?_
              exact kj 3 (by rw [ev, if_pos q1, if_pos jz, if_pos q4, if_neg q5])
          · refine lv_iconst (v := 2) hx hb dL_law_1142 (by decide) ?_
            refine lv_goto (tgt := 1158) hx hb dL_law_1143 (by decide) ?_
            exact kj 2 (by rw [ev, if_pos q1, if_pos jz, if_neg q4])
        · refine lv_iconst (v := 1) hx hb dL_law_1132 (by decide) ?_
          refine lv_goto (tgt := 1158) hx hb dL_law_1133 (by decide) ?_
          exact kj 1 (by rw [ev, if_pos q1, if_neg (by rw [(jop (Or.inr q3)).1]; decide)])
    · refine lv_iconst (v := 0) hx hb dL_law_1118 (by decide) ?_
      refine lv_goto (tgt := 1158) hx hb dL_law_1119 (by decide) ?_
      exact kj 0 (by rw [ev, if_neg q1])
