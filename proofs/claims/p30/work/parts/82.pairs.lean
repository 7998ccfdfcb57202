set_option maxHeartbeats 4000000 in
set_option maxRecDepth 100000 in
theorem pairsI {p : Program} {l : Launch} {e : Env} {s : State} {m : MethodId} {below : List Frame} {meth : Method} {c : Code} (hnt : l.stackTraces = false) {G : va_G} {tys : List (ClassId × FieldType)} {tE mi : Nat} {cI cO : ClassId} (htI : tI tys cI) (htO : tO tys cO) {b L : Nat} {xs : Nat → Int32} (hL : L ≤ 260) (C0 : lw_At p s m meth c b L xs) {ad : Nat → Nat} (hK : va_K G vwCl tys s) (hE : env (fun q : Nat => s.heap.size ≤ q) tE mi s s.heap) {own : Nat → Nat} {P M V S T : Nat → Int32} {n : Nat} {cel : Nat → Int32} {ind cr num cur du : Int32} {wi dm : Int64} {ct cf co ca : Nat → Int32} {wd : Nat → Nat → Int32} {np nc k no wa to fr d nt N : Nat} {ws : va_W} {H : Heap} {locs : List Loc} {cells slots : Nat} {Q : State → Prop} {i : Nat} (hi : i < N) (hI : inv cI cO tE ad own ws P M V S T n cel ind cr num cur du wi dm np nc ct cf co ca wd) (hV : ∀ i, i < np → 0 ≤ (V i).toInt ∧ (V i).toInt ≤ 1000) (hnp : np ≤ 57) (hN : fr + N = to + 1) (hto : to < np) (hc : cells ≤ 600130) (hs : slots ≤ 7301080) (hP : va_P G vwCl ws H) (hD : va_D (fun q : Nat => s.heap.size ≤ q) ws) (hS : va_S (fun q : Nat => s.heap.size ≤ q) s.heap H locs) (kk : ∀ (hh gg : Int32) (ls : Array Slot), lwP P M V (nI no) (nI wa) fr N i N hh gg → lv_has ls 26 [(23, .int (nI (fr + i))), (22, .int gg), (21, .int hh), (20, .int (nI nt)), (19, .int (nI d)), (18, .int (nI no)), (17, .int (nI wa)), (16, .int (nI to)), (15, .int (nI fr)), (0, .ref b), (1, .ref (ad 0)), (2, .ref (ad 12)), (3, .ref (ad 13)), (4, .ref (ad 14)), (7, .int (nI np)), (14, .int (nI k))] → W p l e room_1 s m #[Value.ref b] below meth c H locs (cells) (slots) Q (F0 m 1092 ls [])) : ∀ (r9 j : Nat), j + r9 = N → ∀ (hh gg : Int32) (ls : Array Slot), lwP P M V (nI no) (nI wa) fr N i j hh gg → lv_has ls 26 [(24, .int (nI (fr + j))), (23, .int (nI (fr + i))), (22, .int gg), (21, .int hh), (20, .int (nI nt)), (19, .int (nI d)), (18, .int (nI no)), (17, .int (nI wa)), (16, .int (nI to)), (15, .int (nI fr)), (0, .ref b), (1, .ref (ad 0)), (2, .ref (ad 12)), (3, .ref (ad 13)), (4, .ref (ad 14)), (7, .int (nI np)), (14, .int (nI k))] → W p l e room_1 s m #[Value.ref b] below meth c H locs (cells) (slots) Q (F0 m 985 ls []) := by
  obtain ⟨hx, hb, hr, hml, hown, hts0, hX, hbl, hlocks, hgv⟩ := C0
  have hts : ∀ w ∈ wsL_law, w.before #[Value.ref b] s = true := fun w h => hts0 w (wsL_law_in w h)
  have hown : s.vm.findClass RL = some m.cls := hown
  have hA : ∀ q : Nat, s.heap.size ≤ q → (fun q : Nat => s.heap.size ≤ q) q := fun _ h => h
  have hbA : ¬ (fun q : Nat => s.heap.size ≤ q) b := Nat.not_le.mpr hbl
  intro r9
  induction r9 with
  | zero =>
    intro j hj hh gg ls hw hl
    have hjN : j = N := by omega
    subst hjN
    refine lv_iload hx hb dL_law_985 (lv_at hl 0 rfl) ?_
    refine lv_iload hx hb dL_law_987 (lv_at hl 8 rfl) ?_
    refine lv_icmp_gt (tgt := 1092) hx hb dL_law_989 (by decide) (fun c989 => ?_) (fun c989 => absurd (show nI to < nI (fr + j) from nI_lt (by omega) (by omega)) c989)
    exact kk hh gg ls hw (lv_sub hl [1, 2, 3, 4, 5, 6, 7, 8, 9, 10, 11, 12, 13, 14, 15, 16] rfl)
  | succ r9 ih =>
    intro j hj hh gg ls hw hl
    refine lv_iload hx hb dL_law_985 (lv_at hl 0 rfl) ?_
    refine lv_iload hx hb dL_law_987 (lv_at hl 8 rfl) ?_
    refine lv_icmp_gt (tgt := 1092) hx hb dL_law_989 (by decide) (fun c989 => absurd c989 (nI_nlt (a := to) (b := fr + j) (by omega) (by omega))) (fun c989 => ?_)
    refine lv_aload_n hx hb dL_law_992 rfl (lv_at hl 12 rfl) ?_
    refine lv_iload hx hb dL_law_993 (lv_at hl 1 rfl) ?_
    refine va_iald hx hb hK hP 12 0 hI.2.1.1.1 htI (vp_in_nI (by omega) (by decide)) dL_law_995 ?_
    refine rd_i (j := fr + i) (nI_clamp (by omega)) ?_
    refine lv_aload_n hx hb dL_law_996 rfl (lv_at hl 12 rfl) ?_
    refine lv_iload hx hb dL_law_997 (lv_at hl 0 rfl) ?_
    refine va_iald hx hb hK hP 12 0 hI.2.1.1.1 htI (vp_in_nI (by omega) (by decide)) dL_law_999 ?_
    refine rd_i (j := fr + j) (nI_clamp (by omega)) ?_
    refine lv_icmp_ne (tgt := 1086) hx hb dL_law_1000 (by decide) (fun q1 => ?_) (fun q1 => ?_)
    · refine lv_iinc (v := nI (fr + (j + 1))) (lv' := [(24, .int (nI (fr + (j + 1)))), (23, .int (nI (fr + i))), (22, .int gg), (21, .int hh), (20, .int (nI nt)), (19, .int (nI d)), (18, .int (nI no)), (17, .int (nI wa)), (16, .int (nI to)), (15, .int (nI fr)), (0, .ref b), (1, .ref (ad 0)), (2, .ref (ad 12)), (3, .ref (ad 13)), (4, .ref (ad 14)), (7, .int (nI np)), (14, .int (nI k))]) hx hb dL_law_1086 hl (k := 0) rfl (nI_1 (fr + j)) (by decide) rfl (fun ls hl => ?_)
      refine lv_goto (tgt := 985) hx hb dL_law_1089 (by decide) ?_
      exact ih (j + 1) (by omega) _ _ ls (lwP_no hw (fun z => q1 z.1)) (lv_sub hl [0, 1, 2, 3, 4, 5, 6, 7, 8, 9, 10, 11, 12, 13, 14, 15, 16] rfl)
    · refine lv_aload_n hx hb dL_law_1003 rfl (lv_at hl 12 rfl) ?_
      refine lv_iload hx hb dL_law_1004 (lv_at hl 1 rfl) ?_
      refine va_iald hx hb hK hP 12 0 hI.2.1.1.1 htI (vp_in_nI (by omega) (by decide)) dL_law_1006 ?_
      refine rd_i (j := fr + i) (nI_clamp (by omega)) ?_
      refine lv_iload hx hb dL_law_1007 (lv_at hl 7 rfl) ?_
      refine lv_icmp_ge (tgt := 1086) hx hb dL_law_1009 (by decide) (fun q2 => ?_) (fun q2 => ?_)
      · refine lv_iinc (v := nI (fr + (j + 1))) (lv' := [(24, .int (nI (fr + (j + 1)))), (23, .int (nI (fr + i))), (22, .int gg), (21, .int hh), (20, .int (nI nt)), (19, .int (nI d)), (18, .int (nI no)), (17, .int (nI wa)), (16, .int (nI to)), (15, .int (nI fr)), (0, .ref b), (1, .ref (ad 0)), (2, .ref (ad 12)), (3, .ref (ad 13)), (4, .ref (ad 14)), (7, .int (nI np)), (14, .int (nI k))]) hx hb dL_law_1086 hl (k := 0) rfl (nI_1 (fr + j)) (by decide) rfl (fun ls hl => ?_)
        refine lv_goto (tgt := 985) hx hb dL_law_1089 (by decide) ?_
        exact ih (j + 1) (by omega) _ _ ls (lwP_no hw (fun z => Int32.not_le.mpr z.2.1 q2)) (lv_sub hl [0, 1, 2, 3, 4, 5, 6, 7, 8, 9, 10, 11, 12, 13, 14, 15, 16] rfl)
      · refine lv_aload_n hx hb dL_law_1012 rfl (lv_at hl 13 rfl) ?_
        refine lv_iload hx hb dL_law_1013 (lv_at hl 1 rfl) ?_
        refine va_iald hx hb hK hP 13 0 hI.2.1.2.1.1 htI (vp_in_nI (by omega) (by decide)) dL_law_1015 ?_
        refine rd_i (j := fr + i) (nI_clamp (by omega)) ?_
        refine lv_if_le (tgt := 1086) hx hb dL_law_1016 (by decide) (fun q3 => ?_) (fun q3 => ?_)
        · refine lv_iinc (v := nI (fr + (j + 1))) (lv' := [(24, .int (nI (fr + (j + 1)))), (23, .int (nI (fr + i))), (22, .int gg), (21, .int hh), (20, .int (nI nt)), (19, .int (nI d)), (18, .int (nI no)), (17, .int (nI wa)), (16, .int (nI to)), (15, .int (nI fr)), (0, .ref b), (1, .ref (ad 0)), (2, .ref (ad 12)), (3, .ref (ad 13)), (4, .ref (ad 14)), (7, .int (nI np)), (14, .int (nI k))]) hx hb dL_law_1086 hl (k := 0) rfl (nI_1 (fr + j)) (by decide) rfl (fun ls hl => ?_)
          refine lv_goto (tgt := 985) hx hb dL_law_1089 (by decide) ?_
          exact ih (j + 1) (by omega) _ _ ls (lwP_no hw (fun z => z.2.2.1 q3)) (lv_sub hl [0, 1, 2, 3, 4, 5, 6, 7, 8, 9, 10, 11, 12, 13, 14, 15, 16] rfl)
        · refine lv_aload_n hx hb dL_law_1019 rfl (lv_at hl 13 rfl) ?_
          refine lv_iload hx hb dL_law_1020 (lv_at hl 0 rfl) ?_
          refine va_iald hx hb hK hP 13 0 hI.2.1.2.1.1 htI (vp_in_nI (by omega) (by decide)) dL_law_1022 ?_
          refine rd_i (j := fr + j) (nI_clamp (by omega)) ?_
          refine lv_aload_n hx hb dL_law_1023 rfl (lv_at hl 13 rfl) ?_
          refine lv_iload hx hb dL_law_1024 (lv_at hl 1 rfl) ?_
          refine va_iald hx hb hK hP 13 0 hI.2.1.2.1.1 htI (vp_in_nI (by omega) (by decide)) dL_law_1026 ?_
          refine rd_i (j := fr + i) (nI_clamp (by omega)) ?_
          refine lv_ineg hx hb dL_law_1027 ?_
          refine lv_icmp_ne (tgt := 1086) hx hb dL_law_1028 (by decide) (fun q4 => ?_) (fun q4 => ?_)
          · refine lv_iinc (v := nI (fr + (j + 1))) (lv' := [(24, .int (nI (fr + (j + 1)))), (23, .int (nI (fr + i))), (22, .int gg), (21, .int hh), (20, .int (nI nt)), (19, .int (nI d)), (18, .int (nI no)), (17, .int (nI wa)), (16, .int (nI to)), (15, .int (nI fr)), (0, .ref b), (1, .ref (ad 0)), (2, .ref (ad 12)), (3, .ref (ad 13)), (4, .ref (ad 14)), (7, .int (nI np)), (14, .int (nI k))]) hx hb dL_law_1086 hl (k := 0) rfl (nI_1 (fr + j)) (by decide) rfl (fun ls hl => ?_)
            refine lv_goto (tgt := 985) hx hb dL_law_1089 (by decide) ?_
            exact ih (j + 1) (by omega) _ _ ls (lwP_no hw (fun z => q4 z.2.2.2)) (lv_sub hl [0, 1, 2, 3, 4, 5, 6, 7, 8, 9, 10, 11, 12, 13, 14, 15, 16] rfl)
          · have hhit : hitP P M (nI wa) (fr + i) (fr + j) := ⟨q1, Int32.not_le.mp q2, q3, q4⟩
            obtain ⟨va0, va1⟩ := hV (fr + i) (by omega)
            obtain ⟨vb0, vb1⟩ := hV (fr + j) (by omega)
            refine lv_iconst (v := 1) hx hb dL_law_1031 (by decide) ?_
            refine lv_istore (lv' := [(21, .int (1 : Int32)), (24, .int (nI (fr + j))), (23, .int (nI (fr + i))), (22, .int gg), (20, .int (nI nt)), (19, .int (nI d)), (18, .int (nI no)), (17, .int (nI wa)), (16, .int (nI to)), (15, .int (nI fr)), (0, .ref b), (1, .ref (ad 0)), (2, .ref (ad 12)), (3, .ref (ad 13)), (4, .ref (ad 14)), (7, .int (nI np)), (14, .int (nI k))]) hx hb dL_law_1032 hl (by decide) rfl (fun ls hl => ?_)
            refine lv_aload hx hb dL_law_1034 (lv_at hl 14 rfl) ?_
            refine lv_iload hx hb dL_law_1036 (lv_at hl 2 rfl) ?_
            refine va_iald hx hb hK hP 14 0 hI.2.1.2.2.1.1 htI (vp_in_nI (by omega) (by decide)) dL_law_1038 ?_
            refine rd_i (j := fr + i) (nI_clamp (by omega)) ?_
            refine lv_aload hx hb dL_law_1039 (lv_at hl 14 rfl) ?_
            refine lv_iload hx hb dL_law_1041 (lv_at hl 1 rfl) ?_
            refine va_iald hx hb hK hP 14 0 hI.2.1.2.2.1.1 htI (vp_in_nI (by omega) (by decide)) dL_law_1043 ?_
            refine rd_i (j := fr + j) (nI_clamp (by omega)) ?_
            refine lv_icmp_le (tgt := 1061) hx hb dL_law_1044 (by decide) (fun q5 => ?_) (fun q5 => ?_)
            · refine lv_aload hx hb dL_law_1061 (lv_at hl 14 rfl) ?_
              refine lv_iload hx hb dL_law_1063 (lv_at hl 1 rfl) ?_
              refine va_iald hx hb hK hP 14 0 hI.2.1.2.2.1.1 htI (vp_in_nI (by omega) (by decide)) dL_law_1065 ?_
              refine rd_i (j := fr + j) (nI_clamp (by omega)) ?_
              refine lv_aload hx hb dL_law_1066 (lv_at hl 14 rfl) ?_
              refine lv_iload hx hb dL_law_1068 (lv_at hl 2 rfl) ?_
              refine va_iald hx hb hK hP 14 0 hI.2.1.2.2.1.1 htI (vp_in_nI (by omega) (by decide)) dL_law_1070 ?_
              refine rd_i (j := fr + i) (nI_clamp (by omega)) ?_
              refine lv_isub hx hb dL_law_1071 ?_
              have eo : jabs (V (fr + i) - V (fr + j)) = V (fr + j) - V (fr + i) := off_2 va0 va1 vb0 vb1 (Int32.not_lt.mpr q5)
              refine lv_istore (lv' := [(25, .int ((V (fr + j)) - (V (fr + i)))), (21, .int (1 : Int32)), (24, .int (nI (fr + j))), (23, .int (nI (fr + i))), (22, .int gg), (20, .int (nI nt)), (19, .int (nI d)), (18, .int (nI no)), (17, .int (nI wa)), (16, .int (nI to)), (15, .int (nI fr)), (0, .ref b), (1, .ref (ad 0)), (2, .ref (ad 12)), (3, .ref (ad 13)), (4, .ref (ad 14)), (7, .int (nI np)), (14, .int (nI k))]) hx hb dL_law_1072 hl (by decide) rfl (fun ls hl => ?_)
              refine lv_iload hx hb dL_law_1074 (lv_at hl 0 rfl) ?_
              refine lv_iconst (v := 2) hx hb dL_law_1076 (by decide) ?_
              refine lv_iload hx hb dL_law_1077 (lv_at hl 7 rfl) ?_
              refine lv_imul hx hb dL_law_1079 ?_
              refine lv_icmp_le (tgt := 1086) hx hb dL_law_1080 (by decide) (fun q6 => ?_) (fun q6 => ?_)
              · refine lv_iinc (v := nI (fr + (j + 1))) (lv' := [(24, .int (nI (fr + (j + 1)))), (25, .int ((V (fr + j)) - (V (fr + i)))), (21, .int (1 : Int32)), (23, .int (nI (fr + i))), (22, .int gg), (20, .int (nI nt)), (19, .int (nI d)), (18, .int (nI no)), (17, .int (nI wa)), (16, .int (nI to)), (15, .int (nI fr)), (0, .ref b), (1, .ref (ad 0)), (2, .ref (ad 12)), (3, .ref (ad 13)), (4, .ref (ad 14)), (7, .int (nI np)), (14, .int (nI k))]) hx hb dL_law_1086 hl (k := 2) rfl (nI_1 (fr + j)) (by decide) rfl (fun ls hl => ?_)
                refine lv_goto (tgt := 985) hx hb dL_law_1089 (by decide) ?_
                exact ih (j + 1) (by omega) _ _ ls (lwP_near hw hhit (fun z => z (by rw [eo]; exact q6))) (lv_sub hl [0, 3, 4, 2, 5, 6, 7, 8, 9, 10, 11, 12, 13, 14, 15, 16, 17] rfl)
              · refine lv_iconst (v := 0) hx hb dL_law_1083 (by decide) ?_
                refine lv_istore (lv' := [(22, .int (0 : Int32)), (25, .int ((V (fr + j)) - (V (fr + i)))), (21, .int (1 : Int32)), (24, .int (nI (fr + j))), (23, .int (nI (fr + i))), (20, .int (nI nt)), (19, .int (nI d)), (18, .int (nI no)), (17, .int (nI wa)), (16, .int (nI to)), (15, .int (nI fr)), (0, .ref b), (1, .ref (ad 0)), (2, .ref (ad 12)), (3, .ref (ad 13)), (4, .ref (ad 14)), (7, .int (nI np)), (14, .int (nI k))]) hx hb dL_law_1084 hl (by decide) rfl (fun ls hl => ?_)
                refine lv_iinc (v := nI (fr + (j + 1))) (lv' := [(24, .int (nI (fr + (j + 1)))), (22, .int (0 : Int32)), (25, .int ((V (fr + j)) - (V (fr + i)))), (21, .int (1 : Int32)), (23, .int (nI (fr + i))), (20, .int (nI nt)), (19, .int (nI d)), (18, .int (nI no)), (17, .int (nI wa)), (16, .int (nI to)), (15, .int (nI fr)), (0, .ref b), (1, .ref (ad 0)), (2, .ref (ad 12)), (3, .ref (ad 13)), (4, .ref (ad 14)), (7, .int (nI np)), (14, .int (nI k))]) hx hb dL_law_1086 hl (k := 3) rfl (nI_1 (fr + j)) (by decide) rfl (fun ls hl => ?_)
                refine lv_goto (tgt := 985) hx hb dL_law_1089 (by decide) ?_
                exact ih (j + 1) (by omega) _ _ ls (lwP_far hhit (fun z => q6 (by rw [← eo]; exact z))) (lv_sub hl [0, 4, 1, 3, 5, 6, 7, 8, 9, 10, 11, 12, 13, 14, 15, 16, 17] rfl)
            · refine lv_aload hx hb dL_law_1047 (lv_at hl 14 rfl) ?_
              refine lv_iload hx hb dL_law_1049 (lv_at hl 2 rfl) ?_
              refine va_iald hx hb hK hP 14 0 hI.2.1.2.2.1.1 htI (vp_in_nI (by omega) (by decide)) dL_law_1051 ?_
              refine rd_i (j := fr + i) (nI_clamp (by omega)) ?_
              refine lv_aload hx hb dL_law_1052 (lv_at hl 14 rfl) ?_
              refine lv_iload hx hb dL_law_1054 (lv_at hl 1 rfl) ?_
              refine va_iald hx hb hK hP 14 0 hI.2.1.2.2.1.1 htI (vp_in_nI (by omega) (by decide)) dL_law_1056 ?_
              refine rd_i (j := fr + j) (nI_clamp (by omega)) ?_
              refine lv_isub hx hb dL_law_1057 ?_
              refine lv_goto (tgt := 1072) hx hb dL_law_1058 (by decide) ?_
              have eo : jabs (V (fr + i) - V (fr + j)) = V (fr + i) - V (fr + j) := off_1 va0 va1 vb0 vb1 (Int32.not_le.mp q5)
              refine lv_istore (lv' := [(25, .int ((V (fr + i)) - (V (fr + j)))), (21, .int (1 : Int32)), (24, .int (nI (fr + j))), (23, .int (nI (fr + i))), (22, .int gg), (20, .int (nI nt)), (19, .int (nI d)), (18, .int (nI no)), (17, .int (nI wa)), (16, .int (nI to)), (15, .int (nI fr)), (0, .ref b), (1, .ref (ad 0)), (2, .ref (ad 12)), (3, .ref (ad 13)), (4, .ref (ad 14)), (7, .int (nI np)), (14, .int (nI k))]) hx hb dL_law_1072 hl (by decide) rfl (fun ls hl => ?_)
              refine lv_iload hx hb dL_law_1074 (lv_at hl 0 rfl) ?_
              refine lv_iconst (v := 2) hx hb dL_law_1076 (by decide) ?_
              refine lv_iload hx hb dL_law_1077 (lv_at hl 7 rfl) ?_
              refine lv_imul hx hb dL_law_1079 ?_
              refine lv_icmp_le (tgt := 1086) hx hb dL_law_1080 (by decide) (fun q6 => ?_) (fun q6 => ?_)
              · refine lv_iinc (v := nI (fr + (j + 1))) (lv' := [(24, .int (nI (fr + (j + 1)))), (25, .int ((V (fr + i)) - (V (fr + j)))), (21, .int (1 : Int32)), (23, .int (nI (fr + i))), (22, .int gg), (20, .int (nI nt)), (19, .int (nI d)), (18, .int (nI no)), (17, .int (nI wa)), (16, .int (nI to)), (15, .int (nI fr)), (0, .ref b), (1, .ref (ad 0)), (2, .ref (ad 12)), (3, .ref (ad 13)), (4, .ref (ad 14)), (7, .int (nI np)), (14, .int (nI k))]) hx hb dL_law_1086 hl (k := 2) rfl (nI_1 (fr + j)) (by decide) rfl (fun ls hl => ?_)
                refine lv_goto (tgt := 985) hx hb dL_law_1089 (by decide) ?_
                exact ih (j + 1) (by omega) _ _ ls (lwP_near hw hhit (fun z => z (by rw [eo]; exact q6))) (lv_sub hl [0, 3, 4, 2, 5, 6, 7, 8, 9, 10, 11, 12, 13, 14, 15, 16, 17] rfl)
              · refine lv_iconst (v := 0) hx hb dL_law_1083 (by decide) ?_
                refine lv_istore (lv' := [(22, .int (0 : Int32)), (25, .int ((V (fr + i)) - (V (fr + j)))), (21, .int (1 : Int32)), (24, .int (nI (fr + j))), (23, .int (nI (fr + i))), (20, .int (nI nt)), (19, .int (nI d)), (18, .int (nI no)), (17, .int (nI wa)), (16, .int (nI to)), (15, .int (nI fr)), (0, .ref b), (1, .ref (ad 0)), (2, .ref (ad 12)), (3, .ref (ad 13)), (4, .ref (ad 14)), (7, .int (nI np)), (14, .int (nI k))]) hx hb dL_law_1084 hl (by decide) rfl (fun ls hl => ?_)
                refine lv_iinc (v := nI (fr + (j + 1))) (lv' := [(24, .int (nI (fr + (j + 1)))), (22, .int (0 : Int32)), (25, .int ((V (fr + i)) - (V (fr + j)))), (21, .int (1 : Int32)), (23, .int (nI (fr + i))), (20, .int (nI nt)), (19, .int (nI d)), (18, .int (nI no)), (17, .int (nI wa)), (16, .int (nI to)), (15, .int (nI fr)), (0, .ref b), (1, .ref (ad 0)), (2, .ref (ad 12)), (3, .ref (ad 13)), (4, .ref (ad 14)), (7, .int (nI np)), (14, .int (nI k))]) hx hb dL_law_1086 hl (k := 3) rfl (nI_1 (fr + j)) (by decide) rfl (fun ls hl => ?_)
                refine lv_goto (tgt := 985) hx hb dL_law_1089 (by decide) ?_
                exact ih (j + 1) (by omega) _ _ ls (lwP_far hhit (fun z => q6 (by rw [← eo]; exact z))) (lv_sub hl [0, 4, 1, 3, 5, 6, 7, 8, 9, 10, 11, 12, 13, 14, 15, 16, 17] rfl)
set_option maxHeartbeats 4000000 in
set_option maxRecDepth 100000 in
theorem pairsO {p : Program} {l : Launch} {e : Env} {s : State} {m : MethodId} {below : List Frame} {meth : Method} {c : Code} (hnt : l.stackTraces = false) {G : va_G} {tys : List (ClassId × FieldType)} {tE mi : Nat} {cI cO : ClassId} (htI : tI tys cI) (htO : tO tys cO) {b L : Nat} {xs : Nat → Int32} (hL : L ≤ 260) (C0 : lw_At p s m meth c b L xs) {ad : Nat → Nat} (hK : va_K G vwCl tys s) (hE : env (fun q : Nat => s.heap.size ≤ q) tE mi s s.heap) {own : Nat → Nat} {P M V S T : Nat → Int32} {n : Nat} {cel : Nat → Int32} {ind cr num cur du : Int32} {wi dm : Int64} {ct cf co ca : Nat → Int32} {wd : Nat → Nat → Int32} {np nc k no wa to fr d nt N : Nat} {ws : va_W} {H : Heap} {locs : List Loc} {cells slots : Nat} {Q : State → Prop} (hI : inv cI cO tE ad own ws P M V S T n cel ind cr num cur du wi dm np nc ct cf co ca wd) (hV : ∀ i, i < np → 0 ≤ (V i).toInt ∧ (V i).toInt ≤ 1000) (hnp : np ≤ 57) (hN : fr + N = to + 1) (hto : to < np) (hc : cells ≤ 600130) (hs : slots ≤ 7301080) (hP : va_P G vwCl ws H) (hD : va_D (fun q : Nat => s.heap.size ≤ q) ws) (hS : va_S (fun q : Nat => s.heap.size ≤ q) s.heap H locs) (kk : ∀ (hh gg : Int32) (ls : Array Slot), lwP P M V (nI no) (nI wa) fr N N 0 hh gg → lv_has ls 26 [(22, .int gg), (21, .int hh), (20, .int (nI nt)), (19, .int (nI d)), (18, .int (nI no)), (17, .int (nI wa)), (16, .int (nI to)), (15, .int (nI fr)), (0, .ref b), (1, .ref (ad 0)), (2, .ref (ad 12)), (3, .ref (ad 13)), (4, .ref (ad 14)), (7, .int (nI np)), (14, .int (nI k))] → W p l e room_1 s m #[Value.ref b] below meth c H locs (cells) (slots) Q (F0 m 1098 ls [])) : ∀ (r9 i : Nat), i + r9 = N → ∀ (hh gg : Int32) (ls : Array Slot), lwP P M V (nI no) (nI wa) fr N i 0 hh gg → lv_has ls 26 [(23, .int (nI (fr + i))), (22, .int gg), (21, .int hh), (20, .int (nI nt)), (19, .int (nI d)), (18, .int (nI no)), (17, .int (nI wa)), (16, .int (nI to)), (15, .int (nI fr)), (0, .ref b), (1, .ref (ad 0)), (2, .ref (ad 12)), (3, .ref (ad 13)), (4, .ref (ad 14)), (7, .int (nI np)), (14, .int (nI k))] → W p l e room_1 s m #[Value.ref b] below meth c H locs (cells) (slots) Q (F0 m 974 ls []) := by
  have C1 := C0
  obtain ⟨hx, hb, hr, hml, hown, hts0, hX, hbl, hlocks, hgv⟩ := C1
  have hts : ∀ w ∈ wsL_law, w.before #[Value.ref b] s = true := fun w h => hts0 w (wsL_law_in w h)
  have hown : s.vm.findClass RL = some m.cls := hown
  have hA : ∀ q : Nat, s.heap.size ≤ q → (fun q : Nat => s.heap.size ≤ q) q := fun _ h => h
  have hbA : ¬ (fun q : Nat => s.heap.size ≤ q) b := Nat.not_le.mpr hbl
  intro r9
  induction r9 with
  | zero =>
    intro i hj hh gg ls hw hl
    have hjN : i = N := by omega
    subst hjN
    refine lv_iload hx hb dL_law_974 (lv_at hl 0 rfl) ?_
    refine lv_iload hx hb dL_law_976 (lv_at hl 7 rfl) ?_
    refine lv_icmp_gt (tgt := 1098) hx hb dL_law_978 (by decide) (fun c978 => ?_) (fun c978 => absurd (show nI to < nI (fr + i) from nI_lt (by omega) (by omega)) c978)
    exact kk hh gg ls hw (lv_sub hl [1, 2, 3, 4, 5, 6, 7, 8, 9, 10, 11, 12, 13, 14, 15] rfl)
  | succ r9 ih =>
    intro i hj hh gg ls hw hl
    refine lv_iload hx hb dL_law_974 (lv_at hl 0 rfl) ?_
    refine lv_iload hx hb dL_law_976 (lv_at hl 7 rfl) ?_
    refine lv_icmp_gt (tgt := 1098) hx hb dL_law_978 (by decide) (fun c978 => absurd c978 (nI_nlt (a := to) (b := fr + i) (by omega) (by omega))) (fun c978 => ?_)
    refine lv_iload hx hb dL_law_981 (lv_at hl 8 rfl) ?_
    refine lv_istore (lv' := [(24, .int (nI fr)), (23, .int (nI (fr + i))), (22, .int gg), (21, .int hh), (20, .int (nI nt)), (19, .int (nI d)), (18, .int (nI no)), (17, .int (nI wa)), (16, .int (nI to)), (15, .int (nI fr)), (0, .ref b), (1, .ref (ad 0)), (2, .ref (ad 12)), (3, .ref (ad 13)), (4, .ref (ad 14)), (7, .int (nI np)), (14, .int (nI k))]) hx hb dL_law_983 hl (by decide) rfl (fun ls hl => ?_)
    refine pairsI hnt htI htO hL C0 hK hE (i := i) (by omega) hI hV hnp hN hto hc hs hP hD hS (fun hh gg ls hw hl => ?_) N 0 (by omega) hh gg ls hw (lv_sub hl [0, 1, 2, 3, 4, 5, 6, 7, 8, 9, 10, 11, 12, 13, 14, 15, 16] rfl)
    refine lv_iinc (v := nI (fr + (i + 1))) (lv' := [(23, .int (nI (fr + (i + 1)))), (22, .int gg), (21, .int hh), (20, .int (nI nt)), (19, .int (nI d)), (18, .int (nI no)), (17, .int (nI wa)), (16, .int (nI to)), (15, .int (nI fr)), (0, .ref b), (1, .ref (ad 0)), (2, .ref (ad 12)), (3, .ref (ad 13)), (4, .ref (ad 14)), (7, .int (nI np)), (14, .int (nI k))]) hx hb dL_law_1092 hl (k := 0) rfl (nI_1 (fr + i)) (by decide) rfl (fun ls hl => ?_)
    refine lv_goto (tgt := 974) hx hb dL_law_1095 (by decide) ?_
    exact ih (i + 1) (by omega) hh gg ls (lwP_next hw) (lv_sub hl [0, 1, 2, 3, 4, 5, 6, 7, 8, 9, 10, 11, 12, 13, 14, 15] rfl)
