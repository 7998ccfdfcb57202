/-- what holds between two claims -/
def ci (cI cO : ClassId) (tE : Nat) (ad : Nat → Nat) (np nc : Nat) (ws : va_W) : Prop := ∃ (own : Nat → Nat) (P M V S T : Nat → Int32) (n : Nat) (cel : Nat → Int32) (ind cr num cur du : Int32) (wi dm : Int64) (ct cf co ca : Nat → Int32) (wd : Nat → Nat → Int32), inv cI cO tE ad own ws P M V S T n cel ind cr num cur du wi dm np nc ct cf co ca wd ∧ np ≤ 57 ∧ ∀ i, i < np → 0 ≤ (V i).toInt ∧ (V i).toInt ≤ 1000
set_option maxHeartbeats 4000000 in
set_option maxRecDepth 100000 in
theorem houses {p : Program} {l : Launch} {e : Env} {s : State} {m : MethodId} {below : List Frame} {meth : Method} {c : Code} (hnt : l.stackTraces = false) {G : va_G} {tys : List (ClassId × FieldType)} {tE mi : Nat} {cI cO : ClassId} (htI : tI tys cI) (htO : tO tys cO) {b L : Nat} {xs : Nat → Int32} (hL : L ≤ 260) (C0 : lw_At p s m meth c b L xs) {ad : Nat → Nat} (hK : va_K G vwCl tys s) (hE : env (fun q : Nat => s.heap.size ≤ q) tE mi s s.heap) {P M V S T : Nat → Int32} {n : Nat} {cel : Nat → Int32} {ind cr num cur du : Int32} {wi dm : Int64} {ct cf co ca : Nat → Int32} {np nc k no wa to fr X : Nat} {C9 S9 : Nat} {Q : State → Prop} (hX31 : X < 2 ^ 31) (hkn : k < nc) (hc9 : C9 ≤ 600130) (hs9 : S9 ≤ 7301080) (kk : ∀ (own : Nat → Nat) (d nt : Nat) (wd : Nat → Nat → Int32) (ws : va_W) (H : Heap) (locs : List Loc) (ls : Array Slot), d ≤ 7 → nt ≤ 7 → inv cI cO tE ad own ws P M V S T n cel ind cr num cur du wi dm np nc ct cf co ca wd → hCnt (wd k) 1 7 = nI d → hCnt (wd k) 2 7 = nI nt → va_P G vwCl ws H → va_D (fun q : Nat => s.heap.size ≤ q) ws → va_S (fun q : Nat => s.heap.size ≤ q) s.heap H locs → lv_has ls 26 [(20, .int (nI nt)), (19, .int (nI d)), (18, .int (nI no)), (17, .int (nI wa)), (16, .int (nI to)), (15, .int (nI fr)), (11, .int (nI X)), (0, .ref b), (1, .ref (ad 0)), (2, .ref (ad 12)), (3, .ref (ad 13)), (4, .ref (ad 14)), (7, .int (nI np)), (14, .int (nI k))] → W p l e room_1 s m #[Value.ref b] below meth c H locs (C9) (S9) Q (F0 m 964 ls [])) : ∀ (r9 h cells slots : Nat), h + r9 = 7 → cells + 2 * r9 ≤ C9 → slots + 12 * r9 ≤ S9 → ∀ (own : Nat → Nat) (d nt : Nat) (wd : Nat → Nat → Int32) (ws : va_W) (H : Heap) (locs : List Loc) (ls : Array Slot), d ≤ h → nt ≤ h → inv cI cO tE ad own ws P M V S T n cel ind cr num cur du wi dm np nc ct cf co ca wd → hCnt (wd k) 1 7 = nI d → hCnt (wd k) 2 7 = nI nt → (∀ j, h ≤ j → j < 7 → wd k j = 0) → va_P G vwCl ws H → va_D (fun q : Nat => s.heap.size ≤ q) ws → va_S (fun q : Nat => s.heap.size ≤ q) s.heap H locs → lv_has ls 26 [(21, .int (nI h)), (20, .int (nI nt)), (19, .int (nI d)), (18, .int (nI no)), (17, .int (nI wa)), (16, .int (nI to)), (15, .int (nI fr)), (11, .int (nI X)), (0, .ref b), (1, .ref (ad 0)), (2, .ref (ad 12)), (3, .ref (ad 13)), (4, .ref (ad 14)), (7, .int (nI np)), (14, .int (nI k))] → W p l e room_1 s m #[Value.ref b] below meth c H locs (cells) (slots) Q (F0 m 887 ls []) := by
  obtain ⟨hx, hb, hr, hml, hown, hts0, hX, hbl, hlocks, hgv⟩ := C0
  have hts : ∀ w ∈ wsL_law, w.before #[Value.ref b] s = true := fun w h => hts0 w (wsL_law_in w h)
  have hown : s.vm.findClass RL = some m.cls := hown
  have hA : ∀ q : Nat, s.heap.size ≤ q → (fun q : Nat => s.heap.size ≤ q) q := fun _ h => h
  have hbA : ¬ (fun q : Nat => s.heap.size ≤ q) b := Nat.not_le.mpr hbl
  intro r9
  induction r9 with
  | zero =>
    intro h cells slots hh hc hs own d nt wd ws H locs ls hd he hI e1 e2 hz hP hD hS hl
    have h7 : h = 7 := by omega
    subst h7
    refine lv_iload hx hb dL_law_887 (lv_at hl 0 rfl) ?_
    refine lv_bipush (v := 7) hx hb dL_law_889 (by decide) ?_
    refine lv_icmp_ge (tgt := 964) hx hb dL_law_891 (by decide) (fun c891 => ?_) (fun c891 => absurd (show nI 7 ≤ nI 7 from nI_le (Nat.le_refl 7) (by decide)) c891)
    refine W.widen (k := C9) (n := S9) (by omega) (by omega) ?_
    exact kk own d nt wd ws H locs ls hd he hI e1 e2 hP hD hS (lv_sub hl [1, 2, 3, 4, 5, 6, 7, 8, 9, 10, 11, 12, 13, 14] rfl)
  | succ r9 ih =>
    intro h cells slots hh hc hs own d nt wd ws H locs ls hd he hI e1 e2 hz hP hD hS hl
    refine lv_iload hx hb dL_law_887 (lv_at hl 0 rfl) ?_
    refine lv_bipush (v := 7) hx hb dL_law_889 (by decide) ?_
    refine lv_icmp_ge (tgt := 964) hx hb dL_law_891 (by decide) (fun c891 => absurd c891 (nI_ge (a := h) (b := 7) (by omega) (by decide))) (fun c891 => ?_)
    refine lv_iload hx hb dL_law_894 (lv_at hl 7 rfl) ?_
    refine lv_iload hx hb dL_law_896 (lv_at hl 0 rfl) ?_
    refine lv_ishr hx hb dL_law_898 ?_
    refine re_i (y := nI (X / 2 ^ h)) (pk_shrN hX31 _ _ (sh_h _ (by omega))) ?_
    refine lv_iconst (v := 3) hx hb dL_law_899 (by decide) ?_
    refine re_i (y := nI 3) (show (3 : Int32) = nI 3 from rfl) ?_
    refine vp_callSi (va_Run.run (va_runS (As := [.int (nI (X / 2 ^ h)), .int (nI 3)]) (rest := []) ⟨hx, hb, hml, hown, hts⟩ (metL_at l (X / 2 ^ h) 3 (Nat.lt_of_le_of_lt (Nat.div_le_self _ _) hX31) (by decide) (by decide)) (va_cwS 2 hts gL_law_L_at rfl rfl rfl (by decide +kernel) ⟨Nat.le_of_ble_eq_true rfl, Nat.le_of_ble_eq_true rfl⟩) ⟨pc0_b, pc0_u⟩ rfl rfl hl.1 rfl (lv_room (Nat.le_of_ble_eq_true rfl)) dL_law_900 ⟨by show cells + 0 ≤ 600130; omega, by show slots + 0 ≤ 7301080; omega⟩)) (fun r h => ?_)
    obtain ⟨k900, hk900, rfl⟩ := h
    refine lv_if_le (tgt := 958) hx hb dL_law_903 (by decide) (fun ct9 => ?_) (fun ct9 => ?_)
    · refine lv_iinc (v := nI (h + 1)) (lv' := [(21, .int (nI (h + 1))), (20, .int (nI nt)), (19, .int (nI d)), (18, .int (nI no)), (17, .int (nI wa)), (16, .int (nI to)), (15, .int (nI fr)), (11, .int (nI X)), (0, .ref b), (1, .ref (ad 0)), (2, .ref (ad 12)), (3, .ref (ad 13)), (4, .ref (ad 14)), (7, .int (nI np)), (14, .int (nI k))]) hx hb dL_law_958 hl (k := 0) rfl (nI_1 h) (by decide) rfl (fun ls hl => ?_)
      refine lv_goto (tgt := 887) hx hb dL_law_961 (by decide) ?_
      exact ih (h + 1) _ _ (by omega) (by show cells + 2 * r9 ≤ C9; omega) (by show slots + 12 * r9 ≤ S9; omega) own d nt wd _ _ _ _ (by omega) (by omega) hI e1 e2 (fun j h8 h9 => hz j (by omega) h9) hP hD hS (lv_sub hl [0, 1, 2, 3, 4, 5, 6, 7, 8, 9, 10, 11, 12, 13, 14] rfl)
    · refine lv_iload hx hb dL_law_906 (lv_at hl 7 rfl) ?_
      refine lv_iload hx hb dL_law_908 (lv_at hl 0 rfl) ?_
      refine lv_iconst (v := 3) hx hb dL_law_910 (by decide) ?_
      refine lv_iadd hx hb dL_law_911 ?_
      refine re_i (y := nI (h + 3)) (nI_add h 3) ?_
      refine lv_ishr hx hb dL_law_912 ?_
      refine re_i (y := nI (X / 2 ^ (h + 3))) (pk_shrN hX31 _ _ (sh_h _ (by omega))) ?_
      refine lv_iconst (v := 3) hx hb dL_law_913 (by decide) ?_
      refine re_i (y := nI 3) (show (3 : Int32) = nI 3 from rfl) ?_
      refine vp_callSi (va_Run.run (va_runS (As := [.int (nI (X / 2 ^ (h + 3))), .int (nI 3)]) (rest := []) ⟨hx, hb, hml, hown, hts⟩ (metL_at l (X / 2 ^ (h + 3)) 3 (Nat.lt_of_le_of_lt (Nat.div_le_self _ _) hX31) (by decide) (by decide)) (va_cwS 2 hts gL_law_L_at rfl rfl rfl (by decide +kernel) ⟨Nat.le_of_ble_eq_true rfl, Nat.le_of_ble_eq_true rfl⟩) ⟨pc0_b, pc0_u⟩ rfl rfl hl.1 rfl (lv_room (Nat.le_of_ble_eq_true rfl)) dL_law_914 ⟨by show cells + 0 ≤ 600130; omega, by show slots + 0 ≤ 7301080; omega⟩)) (fun r h => ?_)
      obtain ⟨k914, hk914, rfl⟩ := h
      refine lv_if_le (tgt := 924) hx hb dL_law_917 (by decide) (fun c917 => ?_) (fun c917 => ?_)
      · refine lv_iconst (v := 0) hx hb dL_law_924 (by decide) ?_
        refine lv_istore (lv' := [(22, .int (0 : Int32)), (21, .int (nI h)), (20, .int (nI nt)), (19, .int (nI d)), (18, .int (nI no)), (17, .int (nI wa)), (16, .int (nI to)), (15, .int (nI fr)), (11, .int (nI X)), (0, .ref b), (1, .ref (ad 0)), (2, .ref (ad 12)), (3, .ref (ad 13)), (4, .ref (ad 14)), (7, .int (nI np)), (14, .int (nI k))]) hx hb dL_law_925 hl (by decide) rfl (fun ls hl => ?_)
        refine lv_iload hx hb dL_law_927 (lv_at hl 0 rfl) ?_
        refine lv_if_eq (tgt := 938) hx hb dL_law_929 (by decide) (fun c929 => ?_) (fun c929 => absurd (by decide) c929)
        refine lv_iinc (v := nI (nt + 1)) (lv' := [(20, .int (nI (nt + 1))), (22, .int (0 : Int32)), (21, .int (nI h)), (19, .int (nI d)), (18, .int (nI no)), (17, .int (nI wa)), (16, .int (nI to)), (15, .int (nI fr)), (11, .int (nI X)), (0, .ref b), (1, .ref (ad 0)), (2, .ref (ad 12)), (3, .ref (ad 13)), (4, .ref (ad 14)), (7, .int (nI np)), (14, .int (nI k))]) hx hb dL_law_938 hl (k := 2) rfl (nI_1 nt) (by decide) rfl (fun ls hl => ?_)
        refine lv_aload_n hx hb dL_law_941 rfl (lv_at hl 10 rfl) ?_
        refine lv_iload hx hb dL_law_942 (lv_at hl 15 rfl) ?_
        refine lv_iload hx hb dL_law_944 (lv_at hl 2 rfl) ?_
        refine lv_iload hx hb dL_law_946 (lv_at hl 1 rfl) ?_
        refine va_calli (va_runV (As := [.int (nI k), .int (nI h), .int (0 : Int32)]) (rest := []) ⟨hx, hb, hml, hown, hts⟩ (op_repeats hnt G tys htI htO hI k h hkn (by omega) (0 : Int32)) (cwV 3 hts gL_law_X7_repeats rfl rfl rfl (by decide +kernel) ⟨Nat.le_of_ble_eq_true rfl, Nat.le_of_ble_eq_true rfl⟩) ⟨pcX_b, va_recv hK hP (ci := 7) (q0 := 0) rfl hI.1.1, pcX_u hP hK hD hS hA hE⟩ rfl rfl hl.1 rfl (lv_room (Nat.le_of_ble_eq_true rfl)) dL_law_948 ⟨by show cells + 2 ≤ 600130; omega, by show slots + 12 ≤ 7301080; omega⟩) hS (fun q _ h => h) (fun q h => h) (fun r w t H locs ht hvm hq hB hsz hk1 hS => ?_)
        rw [ht] at hB
        obtain ⟨hP, hD⟩ := hB
        obtain ⟨er, own2, hI⟩ := hq
        have hz0 : wd k h = 0 := hz h (Nat.le_refl h) (by omega)
        have f1 := hCnt_hi (f := wd k) (h := h) (x := 2) (w := 1) (by rw [hz0]; decide) 7 (by omega)
        have f2 := hCnt_hi (f := wd k) (h := h) (x := 2) (w := 2) (by rw [hz0]; decide) 7 (by omega)
        rw [if_neg (by decide), e1] at f1
        rw [if_pos rfl, e2, nI_1] at f2
        have ew : (if (0 : Int32) = 0 then (2 : Int32) else 1) = 2 := by decide
        rw [ew] at er hI
        refine re_i (y := nI d) (er.trans f1) ?_
        refine lv_iload hx hb dL_law_951 (lv_at hl 3 rfl) ?_
        refine lv_icmp_eq (tgt := 958) hx hb dL_law_953 (by decide) (fun c953 => ?_) (fun c953 => absurd (rfl) c953)
        refine lv_iinc (v := nI (h + 1)) (lv' := [(21, .int (nI (h + 1))), (20, .int (nI (nt + 1))), (22, .int (0 : Int32)), (19, .int (nI d)), (18, .int (nI no)), (17, .int (nI wa)), (16, .int (nI to)), (15, .int (nI fr)), (11, .int (nI X)), (0, .ref b), (1, .ref (ad 0)), (2, .ref (ad 12)), (3, .ref (ad 13)), (4, .ref (ad 14)), (7, .int (nI np)), (14, .int (nI k))]) hx hb dL_law_958 hl (k := 2) rfl (nI_1 h) (by decide) rfl (fun ls hl => ?_)
        refine lv_goto (tgt := 887) hx hb dL_law_961 (by decide) ?_
        exact ih (h + 1) _ _ (by omega) (by show cells + 2 + 2 * r9 ≤ C9; omega) (by show slots + 12 + 12 * r9 ≤ S9; omega) own2 d (nt + 1) _ _ _ _ _ (by omega) (by omega) hI (by rw [if_pos rfl]; exact f1) (by rw [if_pos rfl]; exact f2) (fun j h8 h9 => by rw [if_pos rfl, upd_ne (by omega)]; exact hz j (by omega) h9) hP hD hS (lv_sub hl [0, 1, 3, 4, 5, 6, 7, 8, 9, 10, 11, 12, 13, 14, 15] rfl)
      · refine lv_iconst (v := 1) hx hb dL_law_920 (by decide) ?_
        refine lv_goto (tgt := 925) hx hb dL_law_921 (by decide) ?_
        refine lv_istore (lv' := [(22, .int (1 : Int32)), (21, .int (nI h)), (20, .int (nI nt)), (19, .int (nI d)), (18, .int (nI no)), (17, .int (nI wa)), (16, .int (nI to)), (15, .int (nI fr)), (11, .int (nI X)), (0, .ref b), (1, .ref (ad 0)), (2, .ref (ad 12)), (3, .ref (ad 13)), (4, .ref (ad 14)), (7, .int (nI np)), (14, .int (nI k))]) hx hb dL_law_925 hl (by decide) rfl (fun ls hl => ?_)
        refine lv_iload hx hb dL_law_927 (lv_at hl 0 rfl) ?_
        refine lv_if_eq (tgt := 938) hx hb dL_law_929 (by decide) (fun c929 => absurd c929 (by decide)) (fun c929 => ?_)
        refine lv_iinc (v := nI (d + 1)) (lv' := [(19, .int (nI (d + 1))), (22, .int (1 : Int32)), (21, .int (nI h)), (20, .int (nI nt)), (18, .int (nI no)), (17, .int (nI wa)), (16, .int (nI to)), (15, .int (nI fr)), (11, .int (nI X)), (0, .ref b), (1, .ref (ad 0)), (2, .ref (ad 12)), (3, .ref (ad 13)), (4, .ref (ad 14)), (7, .int (nI np)), (14, .int (nI k))]) hx hb dL_law_932 hl (k := 3) rfl (nI_1 d) (by decide) rfl (fun ls hl => ?_)
        refine lv_goto (tgt := 941) hx hb dL_law_935 (by decide) ?_
        refine lv_aload_n hx hb dL_law_941 rfl (lv_at hl 10 rfl) ?_
        refine lv_iload hx hb dL_law_942 (lv_at hl 15 rfl) ?_
        refine lv_iload hx hb dL_law_944 (lv_at hl 2 rfl) ?_
        refine lv_iload hx hb dL_law_946 (lv_at hl 1 rfl) ?_
        refine va_calli (va_runV (As := [.int (nI k), .int (nI h), .int (1 : Int32)]) (rest := []) ⟨hx, hb, hml, hown, hts⟩ (op_repeats hnt G tys htI htO hI k h hkn (by omega) (1 : Int32)) (cwV 3 hts gL_law_X7_repeats rfl rfl rfl (by decide +kernel) ⟨Nat.le_of_ble_eq_true rfl, Nat.le_of_ble_eq_true rfl⟩) ⟨pcX_b, va_recv hK hP (ci := 7) (q0 := 0) rfl hI.1.1, pcX_u hP hK hD hS hA hE⟩ rfl rfl hl.1 rfl (lv_room (Nat.le_of_ble_eq_true rfl)) dL_law_948 ⟨by show cells + 2 ≤ 600130; omega, by show slots + 12 ≤ 7301080; omega⟩) hS (fun q _ h => h) (fun q h => h) (fun r w t H locs ht hvm hq hB hsz hk1 hS => ?_)
        rw [ht] at hB
        obtain ⟨hP, hD⟩ := hB
        obtain ⟨er, own2, hI⟩ := hq
        have hz0 : wd k h = 0 := hz h (Nat.le_refl h) (by omega)
        have f1 := hCnt_hi (f := wd k) (h := h) (x := 1) (w := 1) (by rw [hz0]; decide) 7 (by omega)
        have f2 := hCnt_hi (f := wd k) (h := h) (x := 1) (w := 2) (by rw [hz0]; decide) 7 (by omega)
        rw [if_pos rfl, e1, nI_1] at f1
        rw [if_neg (by decide), e2] at f2
        have ew : (if (1 : Int32) = 0 then (2 : Int32) else 1) = 1 := by decide
        rw [ew] at er hI
        refine re_i (y := nI (d + 1)) (er.trans f1) ?_
        refine lv_iload hx hb dL_law_951 (lv_at hl 0 rfl) ?_
        refine lv_icmp_eq (tgt := 958) hx hb dL_law_953 (by decide) (fun c953 => ?_) (fun c953 => absurd (rfl) c953)
        refine lv_iinc (v := nI (h + 1)) (lv' := [(21, .int (nI (h + 1))), (19, .int (nI (d + 1))), (22, .int (1 : Int32)), (20, .int (nI nt)), (18, .int (nI no)), (17, .int (nI wa)), (16, .int (nI to)), (15, .int (nI fr)), (11, .int (nI X)), (0, .ref b), (1, .ref (ad 0)), (2, .ref (ad 12)), (3, .ref (ad 13)), (4, .ref (ad 14)), (7, .int (nI np)), (14, .int (nI k))]) hx hb dL_law_958 hl (k := 2) rfl (nI_1 h) (by decide) rfl (fun ls hl => ?_)
        refine lv_goto (tgt := 887) hx hb dL_law_961 (by decide) ?_
        exact ih (h + 1) _ _ (by omega) (by show cells + 2 + 2 * r9 ≤ C9; omega) (by show slots + 12 + 12 * r9 ≤ S9; omega) own2 (d + 1) nt _ _ _ _ _ (by omega) (by omega) hI (by rw [if_pos rfl]; exact f1) (by rw [if_pos rfl]; exact f2) (fun j h8 h9 => by rw [if_pos rfl, upd_ne (by omega)]; exact hz j (by omega) h9) hP hD hS (lv_sub hl [0, 3, 1, 4, 5, 6, 7, 8, 9, 10, 11, 12, 13, 14, 15] rfl)
