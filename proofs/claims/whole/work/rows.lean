section
-- ===== PART A: goes FIRST, ahead of the names: the tables' words, and 'selects' of the private methods out of them =====
/-- a private method of a class that the tables say can be made, by its rows of tables_1 -/
def lw_okq (q : MethodName × Nat) : Prop := (q.1.cls ≠ "java/lang/invoke/MethodHandle" ∧ q.1.cls ≠ "java/lang/invoke/VarHandle") ∧ Cond.instantiable q.1.cls q.2 ∈ tables_1 ∧ Cond.privateMethod q.1 ∈ tables_1 ∧ Cond.instanceMethod q.1 ∈ tables_1
theorem lw_p0 : lw_okq (⟨"Vortexpin$Film", "leavesFrom", "(I)Z"⟩, 5) := ⟨⟨by decide +kernel, by decide +kernel⟩, List.mem_of_getElem? (i := 60) (by decide +kernel), List.mem_of_getElem? (i := 170) (by decide +kernel), List.mem_of_getElem? (i := 171) (by decide +kernel)⟩
theorem lw_p1 : lw_okq (⟨"Vortexpin$Film", "depthOf", "(I)I"⟩, 5) := ⟨⟨by decide +kernel, by decide +kernel⟩, List.mem_of_getElem? (i := 60) (by decide +kernel), List.mem_of_getElem? (i := 174) (by decide +kernel), List.mem_of_getElem? (i := 175) (by decide +kernel)⟩
theorem lw_p2 : lw_okq (⟨"Vortexpin$Film", "goalFrom", "(II)I"⟩, 5) := ⟨⟨by decide +kernel, by decide +kernel⟩, List.mem_of_getElem? (i := 60) (by decide +kernel), List.mem_of_getElem? (i := 181) (by decide +kernel), List.mem_of_getElem? (i := 182) (by decide +kernel)⟩
theorem lw_p3 : lw_okq (⟨"Vortexpin$Film", "calmestBeside", "(III)I"⟩, 5) := ⟨⟨by decide +kernel, by decide +kernel⟩, List.mem_of_getElem? (i := 60) (by decide +kernel), List.mem_of_getElem? (i := 192) (by decide +kernel), List.mem_of_getElem? (i := 193) (by decide +kernel)⟩
theorem lw_p4 : lw_okq (⟨"Vortexpin$Film", "isFree", "(I)Z"⟩, 5) := ⟨⟨by decide +kernel, by decide +kernel⟩, List.mem_of_getElem? (i := 60) (by decide +kernel), List.mem_of_getElem? (i := 199) (by decide +kernel), List.mem_of_getElem? (i := 200) (by decide +kernel)⟩
theorem lw_p5 : lw_okq (⟨"Vortexpin$Film", "creepGoal", "(III)I"⟩, 5) := ⟨⟨by decide +kernel, by decide +kernel⟩, List.mem_of_getElem? (i := 60) (by decide +kernel), List.mem_of_getElem? (i := 203) (by decide +kernel), List.mem_of_getElem? (i := 204) (by decide +kernel)⟩
theorem lw_p6 : lw_okq (⟨"java/lang/Throwable", "fillInStackTrace", "(I)Ljava/lang/Throwable;"⟩, 6) := ⟨⟨by decide +kernel, by decide +kernel⟩, List.mem_of_getElem? (i := 265) (by decide +kernel), List.mem_of_getElem? (i := 263) (by decide +kernel), List.mem_of_getElem? (i := 264) (by decide +kernel)⟩
theorem lw_p7 : lw_okq (⟨"java/util/ArrayList", "add", "(Ljava/lang/Object;[Ljava/lang/Object;I)V"⟩, 3) := ⟨⟨by decide +kernel, by decide +kernel⟩, List.mem_of_getElem? (i := 34) (by decide +kernel), List.mem_of_getElem? (i := 346) (by decide +kernel), List.mem_of_getElem? (i := 347) (by decide +kernel)⟩
theorem lw_p8 : lw_okq (⟨"java/util/ArrayList", "grow", "()[Ljava/lang/Object;"⟩, 3) := ⟨⟨by decide +kernel, by decide +kernel⟩, List.mem_of_getElem? (i := 34) (by decide +kernel), List.mem_of_getElem? (i := 350) (by decide +kernel), List.mem_of_getElem? (i := 351) (by decide +kernel)⟩
theorem lw_p9 : lw_okq (⟨"java/util/ArrayList", "grow", "(I)[Ljava/lang/Object;"⟩, 3) := ⟨⟨by decide +kernel, by decide +kernel⟩, List.mem_of_getElem? (i := 34) (by decide +kernel), List.mem_of_getElem? (i := 354) (by decide +kernel), List.mem_of_getElem? (i := 355) (by decide +kernel)⟩
theorem lw_p10 : lw_okq (⟨"Vortexpin$Sample", "boundOf", "(I)I"⟩, 5) := ⟨⟨by decide +kernel, by decide +kernel⟩, List.mem_of_getElem? (i := 318) (by decide +kernel), List.mem_of_getElem? (i := 448) (by decide +kernel), List.mem_of_getElem? (i := 449) (by decide +kernel)⟩
theorem lw_p11 : lw_okq (⟨"Vortexpin$Coil", "loseCurrent", "()V"⟩, 7) := ⟨⟨by decide +kernel, by decide +kernel⟩, List.mem_of_getElem? (i := 87) (by decide +kernel), List.mem_of_getElem? (i := 607) (by decide +kernel), List.mem_of_getElem? (i := 608) (by decide +kernel)⟩
theorem lw_p12 : lw_okq (⟨"Vortexpin$Coil", "isNormal", "(I)Z"⟩, 7) := ⟨⟨by decide +kernel, by decide +kernel⟩, List.mem_of_getElem? (i := 87) (by decide +kernel), List.mem_of_getElem? (i := 621) (by decide +kernel), List.mem_of_getElem? (i := 622) (by decide +kernel)⟩
theorem lw_p13 : lw_okq (⟨"Vortexpin$Coil", "spreadWarmth", "()V"⟩, 7) := ⟨⟨by decide +kernel, by decide +kernel⟩, List.mem_of_getElem? (i := 87) (by decide +kernel), List.mem_of_getElem? (i := 625) (by decide +kernel), List.mem_of_getElem? (i := 626) (by decide +kernel)⟩
theorem lw_p14 : lw_okq (⟨"Vortexpin$Coil", "watch", "()V"⟩, 7) := ⟨⟨by decide +kernel, by decide +kernel⟩, List.mem_of_getElem? (i := 87) (by decide +kernel), List.mem_of_getElem? (i := 630) (by decide +kernel), List.mem_of_getElem? (i := 631) (by decide +kernel)⟩
theorem lw_p15 : lw_okq (⟨"Vortexpin$Claim", "isOpen", "(Ljava/util/ArrayList;I)Z"⟩, 5) := ⟨⟨by decide +kernel, by decide +kernel⟩, List.mem_of_getElem? (i := 714) (by decide +kernel), List.mem_of_getElem? (i := 759) (by decide +kernel), List.mem_of_getElem? (i := 760) (by decide +kernel)⟩
def lw_privs_1 : List (MethodName × Nat) := [(⟨"Vortexpin$Film", "leavesFrom", "(I)Z"⟩, 5), (⟨"Vortexpin$Film", "depthOf", "(I)I"⟩, 5), (⟨"Vortexpin$Film", "goalFrom", "(II)I"⟩, 5), (⟨"Vortexpin$Film", "calmestBeside", "(III)I"⟩, 5), (⟨"Vortexpin$Film", "isFree", "(I)Z"⟩, 5), (⟨"Vortexpin$Film", "creepGoal", "(III)I"⟩, 5), (⟨"java/lang/Throwable", "fillInStackTrace", "(I)Ljava/lang/Throwable;"⟩, 6), (⟨"java/util/ArrayList", "add", "(Ljava/lang/Object;[Ljava/lang/Object;I)V"⟩, 3), (⟨"java/util/ArrayList", "grow", "()[Ljava/lang/Object;"⟩, 3), (⟨"java/util/ArrayList", "grow", "(I)[Ljava/lang/Object;"⟩, 3), (⟨"Vortexpin$Sample", "boundOf", "(I)I"⟩, 5), (⟨"Vortexpin$Coil", "loseCurrent", "()V"⟩, 7), (⟨"Vortexpin$Coil", "isNormal", "(I)Z"⟩, 7), (⟨"Vortexpin$Coil", "spreadWarmth", "()V"⟩, 7), (⟨"Vortexpin$Coil", "watch", "()V"⟩, 7), (⟨"Vortexpin$Claim", "isOpen", "(Ljava/util/ArrayList;I)Z"⟩, 5)]
theorem lw_r1 : ∀ q ∈ lw_privs_1, lw_okq q := List.forall_mem_cons.mpr ⟨lw_p0, List.forall_mem_cons.mpr ⟨lw_p1, List.forall_mem_cons.mpr ⟨lw_p2, List.forall_mem_cons.mpr ⟨lw_p3, List.forall_mem_cons.mpr ⟨lw_p4, List.forall_mem_cons.mpr ⟨lw_p5, List.forall_mem_cons.mpr ⟨lw_p6, List.forall_mem_cons.mpr ⟨lw_p7, List.forall_mem_cons.mpr ⟨lw_p8, List.forall_mem_cons.mpr ⟨lw_p9, List.forall_mem_cons.mpr ⟨lw_p10, List.forall_mem_cons.mpr ⟨lw_p11, List.forall_mem_cons.mpr ⟨lw_p12, List.forall_mem_cons.mpr ⟨lw_p13, List.forall_mem_cons.mpr ⟨lw_p14, List.forall_mem_cons.mpr ⟨lw_p15, fun _ h => absurd h List.not_mem_nil⟩⟩⟩⟩⟩⟩⟩⟩⟩⟩⟩⟩⟩⟩⟩⟩
theorem lw_p16 : lw_okq (⟨"VortexpinModel", "stop", "(I)I"⟩, 39) := ⟨⟨by decide +kernel, by decide +kernel⟩, List.mem_of_getElem? (i := 772) (by decide +kernel), List.mem_of_getElem? (i := 907) (by decide +kernel), List.mem_of_getElem? (i := 908) (by decide +kernel)⟩
theorem lw_p17 : lw_okq (⟨"VortexpinModel", "bound", "(II)I"⟩, 39) := ⟨⟨by decide +kernel, by decide +kernel⟩, List.mem_of_getElem? (i := 772) (by decide +kernel), List.mem_of_getElem? (i := 918) (by decide +kernel), List.mem_of_getElem? (i := 919) (by decide +kernel)⟩
theorem lw_p18 : lw_okq (⟨"VortexpinModel", "energyAt", "(II)I"⟩, 39) := ⟨⟨by decide +kernel, by decide +kernel⟩, List.mem_of_getElem? (i := 772) (by decide +kernel), List.mem_of_getElem? (i := 939) (by decide +kernel), List.mem_of_getElem? (i := 940) (by decide +kernel)⟩
theorem lw_p19 : lw_okq (⟨"VortexpinModel", "stepOnce", "()I"⟩, 39) := ⟨⟨by decide +kernel, by decide +kernel⟩, List.mem_of_getElem? (i := 772) (by decide +kernel), List.mem_of_getElem? (i := 947) (by decide +kernel), List.mem_of_getElem? (i := 948) (by decide +kernel)⟩
theorem lw_p20 : lw_okq (⟨"VortexpinModel", "leaves", "(I)Z"⟩, 39) := ⟨⟨by decide +kernel, by decide +kernel⟩, List.mem_of_getElem? (i := 772) (by decide +kernel), List.mem_of_getElem? (i := 951) (by decide +kernel), List.mem_of_getElem? (i := 952) (by decide +kernel)⟩
theorem lw_p21 : lw_okq (⟨"VortexpinModel", "go", "(II)V"⟩, 39) := ⟨⟨by decide +kernel, by decide +kernel⟩, List.mem_of_getElem? (i := 772) (by decide +kernel), List.mem_of_getElem? (i := 955) (by decide +kernel), List.mem_of_getElem? (i := 956) (by decide +kernel)⟩
theorem lw_p22 : lw_okq (⟨"VortexpinModel", "goal", "(I)I"⟩, 39) := ⟨⟨by decide +kernel, by decide +kernel⟩, List.mem_of_getElem? (i := 772) (by decide +kernel), List.mem_of_getElem? (i := 959) (by decide +kernel), List.mem_of_getElem? (i := 960) (by decide +kernel)⟩
theorem lw_p23 : lw_okq (⟨"VortexpinModel", "currentBy", "(II)I"⟩, 39) := ⟨⟨by decide +kernel, by decide +kernel⟩, List.mem_of_getElem? (i := 772) (by decide +kernel), List.mem_of_getElem? (i := 988) (by decide +kernel), List.mem_of_getElem? (i := 989) (by decide +kernel)⟩
theorem lw_p24 : lw_okq (⟨"VortexpinModel", "pulseOfTime", "()V"⟩, 39) := ⟨⟨by decide +kernel, by decide +kernel⟩, List.mem_of_getElem? (i := 772) (by decide +kernel), List.mem_of_getElem? (i := 1012) (by decide +kernel), List.mem_of_getElem? (i := 1013) (by decide +kernel)⟩
theorem lw_p25 : lw_okq (⟨"VortexpinModel", "dumpOn", "()V"⟩, 39) := ⟨⟨by decide +kernel, by decide +kernel⟩, List.mem_of_getElem? (i := 772) (by decide +kernel), List.mem_of_getElem? (i := 1016) (by decide +kernel), List.mem_of_getElem? (i := 1017) (by decide +kernel)⟩
theorem lw_p26 : lw_okq (⟨"VortexpinModel", "energyOfCoil", "()J"⟩, 39) := ⟨⟨by decide +kernel, by decide +kernel⟩, List.mem_of_getElem? (i := 772) (by decide +kernel), List.mem_of_getElem? (i := 1020) (by decide +kernel), List.mem_of_getElem? (i := 1021) (by decide +kernel)⟩
theorem lw_p27 : lw_okq (⟨"VortexpinModel", "normals", "(II)I"⟩, 39) := ⟨⟨by decide +kernel, by decide +kernel⟩, List.mem_of_getElem? (i := 772) (by decide +kernel), List.mem_of_getElem? (i := 1025) (by decide +kernel), List.mem_of_getElem? (i := 1026) (by decide +kernel)⟩
theorem lw_p28 : lw_okq (⟨"VortexpinModel", "isNormal", "(I)Z"⟩, 39) := ⟨⟨by decide +kernel, by decide +kernel⟩, List.mem_of_getElem? (i := 772) (by decide +kernel), List.mem_of_getElem? (i := 1029) (by decide +kernel), List.mem_of_getElem? (i := 1030) (by decide +kernel)⟩
theorem lw_p29 : lw_okq (⟨"VortexpinModel", "doubt", "()I"⟩, 39) := ⟨⟨by decide +kernel, by decide +kernel⟩, List.mem_of_getElem? (i := 772) (by decide +kernel), List.mem_of_getElem? (i := 1033) (by decide +kernel), List.mem_of_getElem? (i := 1034) (by decide +kernel)⟩
theorem lw_p30 : lw_okq (⟨"VortexpinModel", "houses", "(II)I"⟩, 39) := ⟨⟨by decide +kernel, by decide +kernel⟩, List.mem_of_getElem? (i := 772) (by decide +kernel), List.mem_of_getElem? (i := 1074) (by decide +kernel), List.mem_of_getElem? (i := 1075) (by decide +kernel)⟩
theorem lw_p31 : lw_okq (⟨"VortexpinModel", "isOpen", "(II)Z"⟩, 39) := ⟨⟨by decide +kernel, by decide +kernel⟩, List.mem_of_getElem? (i := 772) (by decide +kernel), List.mem_of_getElem? (i := 1082) (by decide +kernel), List.mem_of_getElem? (i := 1083) (by decide +kernel)⟩
def lw_privs_2 : List (MethodName × Nat) := [(⟨"VortexpinModel", "stop", "(I)I"⟩, 39), (⟨"VortexpinModel", "bound", "(II)I"⟩, 39), (⟨"VortexpinModel", "energyAt", "(II)I"⟩, 39), (⟨"VortexpinModel", "stepOnce", "()I"⟩, 39), (⟨"VortexpinModel", "leaves", "(I)Z"⟩, 39), (⟨"VortexpinModel", "go", "(II)V"⟩, 39), (⟨"VortexpinModel", "goal", "(I)I"⟩, 39), (⟨"VortexpinModel", "currentBy", "(II)I"⟩, 39), (⟨"VortexpinModel", "pulseOfTime", "()V"⟩, 39), (⟨"VortexpinModel", "dumpOn", "()V"⟩, 39), (⟨"VortexpinModel", "energyOfCoil", "()J"⟩, 39), (⟨"VortexpinModel", "normals", "(II)I"⟩, 39), (⟨"VortexpinModel", "isNormal", "(I)Z"⟩, 39), (⟨"VortexpinModel", "doubt", "()I"⟩, 39), (⟨"VortexpinModel", "houses", "(II)I"⟩, 39), (⟨"VortexpinModel", "isOpen", "(II)Z"⟩, 39)]
theorem lw_r2 : ∀ q ∈ lw_privs_2, lw_okq q := List.forall_mem_cons.mpr ⟨lw_p16, List.forall_mem_cons.mpr ⟨lw_p17, List.forall_mem_cons.mpr ⟨lw_p18, List.forall_mem_cons.mpr ⟨lw_p19, List.forall_mem_cons.mpr ⟨lw_p20, List.forall_mem_cons.mpr ⟨lw_p21, List.forall_mem_cons.mpr ⟨lw_p22, List.forall_mem_cons.mpr ⟨lw_p23, List.forall_mem_cons.mpr ⟨lw_p24, List.forall_mem_cons.mpr ⟨lw_p25, List.forall_mem_cons.mpr ⟨lw_p26, List.forall_mem_cons.mpr ⟨lw_p27, List.forall_mem_cons.mpr ⟨lw_p28, List.forall_mem_cons.mpr ⟨lw_p29, List.forall_mem_cons.mpr ⟨lw_p30, List.forall_mem_cons.mpr ⟨lw_p31, fun _ h => absurd h List.not_mem_nil⟩⟩⟩⟩⟩⟩⟩⟩⟩⟩⟩⟩⟩⟩⟩⟩
theorem lw_p32 : lw_okq (⟨"VortexpinModel", "arePair", "(III)Z"⟩, 39) := ⟨⟨by decide +kernel, by decide +kernel⟩, List.mem_of_getElem? (i := 772) (by decide +kernel), List.mem_of_getElem? (i := 1086) (by decide +kernel), List.mem_of_getElem? (i := 1087) (by decide +kernel)⟩
def lw_privs_3 : List (MethodName × Nat) := [(⟨"VortexpinModel", "arePair", "(III)Z"⟩, 39)]
theorem lw_r3 : ∀ q ∈ lw_privs_3, lw_okq q := List.forall_mem_cons.mpr ⟨lw_p32, fun _ h => absurd h List.not_mem_nil⟩
def lw_privs : List (MethodName × Nat) := lw_privs_1 ++ (lw_privs_2 ++ (lw_privs_3))
def lw_tbl : List Cond := k2_sels lw_privs ++ tables_1
theorem lw_privs_ok : ∀ q ∈ lw_privs, lw_okq q := by
  show ∀ q ∈ lw_privs_1 ++ (lw_privs_2 ++ (lw_privs_3)), lw_okq q
  exact List.forall_mem_append.mpr ⟨lw_r1, List.forall_mem_append.mpr ⟨lw_r2, lw_r3⟩⟩
/-- the streams that the claim lets the run draw from -/
abbrev lw_cs : List Choice := [Jvm.Choice.named "NaN.bits"]
theorem lw_bits : nanBits ∈ lw_cs := by first | decide | exact List.mem_cons_self | simp [lw_cs, nanBits]
-- ===== end of PART A; then your names; then what follows =====
end
section
/-! ===== BEGIN words of one list among another's, by their places ===== -/
theorem goodIn_r {big : List Cond} (ws : List Cond) (ps : List Nat) (hp : ws = ps.filterMap (fun i => big[i]?)) (h : ws.all goodWord = true) : GoodIn big ws := by
  intro w hw
  have h1 := List.all_eq_true.mp h w hw
  rw [hp] at hw
  obtain ⟨i, -, hi⟩ := List.mem_filterMap.mp hw
  have hm : w ∈ big := by first | exact List.mem_of_getElem? hi | exact List.getElem?_mem hi
  exact ⟨hm, good_of_word h1⟩
theorem goodIn_app {big a b : List Cond} (ha : GoodIn big a) (hb : GoodIn big b) : GoodIn big (a ++ b) := fun w h => (List.mem_append.mp h).elim (ha w) (hb w)
theorem goodIn_ca {big a b : List Cond} {c : Cond} (ha : GoodIn big (c :: a)) (hb : GoodIn big b) : GoodIn big (c :: (a ++ b)) := fun w h => (List.mem_cons.mp h).elim (fun e => ha w (List.mem_cons.mpr (Or.inl e))) (fun h => (List.mem_append.mp h).elim (fun h => ha w (List.mem_cons.mpr (Or.inr h))) (hb w))
theorem goodIn_sub {big ws : List Cond} (hm : ∀ w ∈ ws, w ∈ big) (h : ws.all goodWord = true) : GoodIn big ws := fun w hw => ⟨hm w hw, good_of_word (List.all_eq_true.mp h w hw)⟩
/-! ===== END ===== -/

/-! ===== BEGIN exceptions that leave a method, and their catching by the caller (launches without stack traces) ===== -/
section VXA
/-! The laws vx_back, vx_callV, vx_callS, vx_callSW, vx_throw0, vx_throwS follow proofs of the library, with one case more: JvmDerived/Free/Laws.lean (Back.of_free), Shelf42/LK1.lean (callV, callS), Shelf/KitTraced.lean (throwNew0V, throwNewS). -/
/-- where a method has thrown q: the class by its name, the cell, what was written, the world -/
def vx_T (XC : String → State → State → Prop) (st : State) (q : Addr) (t : State) (mc ms : Nat) (free : Addr → Prop) : Prop :=
  ∃ (E : String) (ce : Cell) (L : List Loc), XC E st t ∧ t.heap[q]? = some ce ∧ ce.vm = .none ∧ st.vm.findClass E = some ce.cls ∧ st.WarmedH t.vm ∧ st.sameButNew ({ t with vm := st.vm } : State) L mc ms ∧ ∀ z ∈ L, free z.base
def vx_Q (Qc : Array Value → State → Outcome → State → Prop) (XC : String → State → State → Prop) (mc ms : Nat) (free : Addr → Prop) : Array Value → State → Outcome → State → Prop := fun a st o t =>
  (Qc a st o t ∧ ∃ L, FrameEnd st o t L mc ms ∧ ∀ q ∈ L, free q.base) ∨ ∃ q, o = .threw q ∧ vx_T XC st q t mc ms free
/-- a callee that returns or throws -/
def vx_Met (l : Launch) (y : MethodName) (ws : List Cond) (rm : Room) (Pc : Array Value → State → Prop) (Qc : Array Value → State → Outcome → State → Prop) (XC : String → State → State → Prop) (mc ms : Nat) (free : Addr → Prop) : Prop :=
  MetFree l y (headSpec ws rm) Pc (fun _ _ _ _ _ => True) (vx_Q Qc XC mc ms free)
def vx_Post (XC : String → State → State → Prop) (mc ms : Nat) (free : Addr → Prop) : Pt → Array Value → Addr → Pt → Prop := fun A a q B =>
  ∃ (g : JFrame) (mk : MethodId) (t : State) (L : List Loc) (E : String) (ce : Cell), B.U.heap = t.heap ∧ B.U.vm = t.vm ∧ XC E (A.U.calling g mk a) t ∧ t.heap[q]? = some ce ∧ ce.vm = .none ∧ A.U.vm.findClass E = some ce.cls ∧ B.locs = A.locs ++ L ∧ (∀ z ∈ L, free z.base) ∧ B.cells = A.cells + mc ∧ B.slots = A.slots + ms
def vx_Back (l : Launch) (R : Room) (p : Program) (e : Env) (below : List Frame) (s : State) (sargs : Array Value) (y : MethodName) (len W9 : Nat)
    (Pre : Pt → Array Value → Prop) (Post : Pt → Array Value → Option Value → Pt → Prop) (PostX : Pt → Array Value → Addr → Pt → Prop) : Prop :=
  ∀ (m : MethodId) (meth : Method) (c : Code) (A : Pt) (g : JFrame) (ig : Instr) (mk : MethodId) (a : Array Value),
    Stand p l e R s m sargs below meth c A.U A.locs A.cells A.slots → g.method = m → g.locals.size = c.maxLocals → decode c.code g.pc = .ok (ig, len) →
    2 * g.monitorRoom + (g.stack.map fun v => v.category).sum ≤ W9 → A.U.methodNamed? y = some mk → Pre A a →
    (∃ (v : Option Value) (B : Pt), Stand p l e R s m sargs below meth c B.U B.locs B.cells B.slots ∧ Post A a v B ∧
      Steps p.tables e below (doInvoke e (A.U.setTop g) [] mk a).1 (B.U.setTop { g with pc := g.pc + len, stack := v.toList ++ g.stack })) ∨
    (∃ (q : Addr) (B : Pt), Stand p l e R s m sargs below meth c B.U B.locs B.cells B.slots ∧ PostX A a q B ∧
      Steps p.tables e below (doInvoke e (A.U.setTop g) [] mk a).1 ((B.U.setTop g).pushFrame (.throwing q)))
section Payer
variable {l : Launch} {R : Room} {p : Program} {e : Env} {below : List Frame} {s : State} {sargs : Array Value} {y : MethodName} {len W9 : Nat}
theorem vx_back {ws : List Cond} {rm : Room} {Pc : Array Value → State → Prop} {Qc : Array Value → State → Outcome → State → Prop} {XC : String → State → State → Prop} {mc ms : Nat} {free : Addr → Prop} {bytes : ByteArray} {maxL : Nat} {ret : Option FieldType}
    (hM : vx_Met l y ws rm Pc Qc XC mc ms free) (hblind : FrameBlind Pc) (hrc : rm.cells = mc) (hrs : rm.slots = ms)
    (hframes : rm.frames + 1 ≤ R.frames) (hlocals : W9 + (maxL + 11) + rm.locals ≤ R.locals)
    (hws : ∀ w ∈ ws, ∀ a' U, s.WarmedH U.vm → w.before a' U = true) (hcode : Cond.code y bytes maxL ret ∈ ws) (hinit : ∀ a' U, s.WarmedH U.vm → (Cond.initialized y.cls).before a' U = true) :
    vx_Back l R p e below s sargs y len W9 (PreOf R mc ms Pc) (PostOf Qc mc ms free) (vx_Post XC mc ms free) := by
  intro m meth c A g ig mk a X hg hsize hdg hW hn hp
  have h1 : (headSpec ws rm).pre.before a A.U = true := atoms_intro fun w hw => hws w hw _ _ X.warmed
  have h2 : (Cond.code y bytes maxL ret).before a A.U = true := hws _ hcode _ _ X.warmed
  have h3 : (Cond.initialized y.cls).before a A.U = true := hinit _ _ X.warmed
  have h4 : A.cells + (headSpec ws rm).room.cells ≤ R.cells := by rw [show (headSpec ws rm).room.cells = mc from hrc]; exact hp.1
  have h5 : A.slots + (headSpec ws rm).room.slots ≤ R.slots := by rw [show (headSpec ws rm).room.slots = ms from hrs]; exact hp.2.1
  have hPc : Pc a (A.U.calling g mk a) := hblind _ _ _ _ hp.2.2
  obtain ⟨U, Ls, c0, s0⟩ := A
  dsimp only [Pt.U, Pt.locs, Pt.cells, Pt.slots] at h1 h2 h3 h4 h5 X hn hPc ⊢
  obtain ⟨methY, cY, hmY, hcY, -, hlY, -, -, -, -⟩ := Cond.code_spec hn h2
  obtain ⟨kY, hkY, -⟩ := className_of_methodNamed hn
  have hinitY : kY.init = .initialized := Cond.initialized_spec (findClass_of_methodNamed hn) hkY h3
  have h : At U g.method c below := by rw [hg]; exact X.here
  have hlocals9 : W9 + (maxL + 11) + (headSpec ws rm).room.locals ≤ R.locals := hlocals
  have happ : (headSpec ws rm).appliesLoose y e.platform (U.calling g mk a) = true :=
    Spec.appliesLoose_calling (g := g) h hdg hn hkY hinitY
      (X.room_calling (g := g) (R' := (headSpec ws rm).room) hsize hmY hcY hframes (by rw [hlY]; omega) h4 h5) h1
  obtain ⟨mid, hmid⟩ := h.above
  have hfr : (U.setTop g).frames = (.java g :: mid) ++ below := by rw [State.frames_setTop' g h.top, hmid]; rfl
  obtain ⟨o, s₂, hsteps, -, hend, hq⟩ := Steps.callFree hM p X.admits X.cas X.clock (acts := []) hfr happ hPc trivial
  have hq' : vx_Q Qc XC mc ms free a (U.calling g mk a) o s₂ := hq
  rw [State.frames_setTop' g h.top] at hend
  obtain ⟨g₀, hg0⟩ := Option.isSome_iff_exists.mp h.top
  obtain ⟨r, hr⟩ := State.topJava?_eq_some.mp hg0
  have hr' : (({ U with heap := s₂.heap, slotsUsed := s₂.slotsUsed } : State).setVm s₂.vm).frames = .java g₀ :: r := hr
  rcases hq' with ⟨hqc, L, hfe, hL⟩ | ⟨q, rfl, E, ce, L, hx, hce, hcv, hcl, hW₂, hsm, hL⟩
  · obtain ⟨⟨v, rfl⟩, hW₂, e2, q2, q3, q4, q5, q6⟩ := id hfe
    have e3 : s₂ = ({ (U.calling g mk a).setFrames s₂.frames with heap := s₂.heap, slotsUsed := s₂.slotsUsed } : State).setVm s₂.vm := by
      have : s₂ = ({ s₂ with vm := (U.calling g mk a).vm } : State).setVm s₂.vm := rfl
      rw [e2] at this
      exact this
    obtain ⟨c₂, i₂, len₂, hc₂, hd₂, hf₂⟩ := hend
    have hW' : U.WarmedH s₂.vm := hW₂
    have hcc : c₂ = c := by
      have h1 : s₂.code? g.method = U.code? g.method := by
        rw [State.code?_eq, State.code?_eq, hW'.alike.method?]
      exact Option.some.inj (hc₂.symm.trans (h1.trans h.code))
    subst hcc
    have hlen : len₂ = len := by rw [hdg] at hd₂; cases hd₂; rfl
    subst hlen
    have hs₂ : s₂ = (({ U with heap := s₂.heap, slotsUsed := s₂.slotsUsed } : State).setVm s₂.vm).setTop { g with pc := g.pc + len₂, stack := v.toList ++ g.stack } := by
      refine e3.trans ?_
      rw [hf₂, State.calling_eq h.top, State.setFrames_setFrames, State.setTop_of_frames _ hr', hr]
      rfl
    have hsame : U.sameButNew ({ U with heap := s₂.heap, slotsUsed := s₂.slotsUsed } : State) L mc ms := by
      refine ⟨?_, q2, q3, q4, q5, q6⟩
      obtain ⟨t, ht, -⟩ := State.frames_cons hr
      show ({ U with heap := s₂.heap, slotsUsed := s₂.slotsUsed } : State) = { U.setFrames U.frames with heap := s₂.heap, slotsUsed := s₂.slotsUsed }
      rw [State.setFrames_self ht]
    subst hg
    refine Or.inl ⟨v, ⟨(({ U with heap := s₂.heap, slotsUsed := s₂.slotsUsed } : State).setVm s₂.vm), Ls ++ L, c0 + mc, s0 + ms⟩,
      ⟨X.admits, X.cas, X.clock, X.frames, X.room, X.hears, X.method, X.code, (X.here.setHeapUsed s₂.heap s₂.slotsUsed).setVm hW'.alike, X.tail, State.WarmedH.trans X.warmed hW', X.limits, X.bytes, X.same.trans (hsame.setVm s.vm)⟩,
      ⟨g, mk, s₂, L, rfl, rfl, hqc, rfl, hL, rfl, rfl⟩, ?_⟩
    show Steps p.tables e below _ ((({ U with heap := s₂.heap, slotsUsed := s₂.slotsUsed } : State).setVm s₂.vm).setTop { g with pc := g.pc + len₂, stack := v.toList ++ g.stack })
    rw [← hs₂]
    exact hsteps
  · obtain ⟨e2, q2, q3, q4, q5, q6⟩ := id hsm
    have e3 : s₂ = ({ (U.calling g mk a).setFrames s₂.frames with heap := s₂.heap, slotsUsed := s₂.slotsUsed } : State).setVm s₂.vm := by
      have : s₂ = ({ s₂ with vm := (U.calling g mk a).vm } : State).setVm s₂.vm := rfl
      rw [e2] at this
      exact this
    have hf₂ : s₂.frames = .throwing q :: .java g :: U.frames.tail := hend
    have hW' : U.WarmedH s₂.vm := hW₂
    have hs₂ : s₂ = ((({ U with heap := s₂.heap, slotsUsed := s₂.slotsUsed } : State).setVm s₂.vm).setTop g).pushFrame (.throwing q) := by
      refine e3.trans ?_
      rw [hf₂, State.calling_eq h.top, State.setFrames_setFrames, State.pushFrame, State.frames_setTop _ hr', State.setTop_of_frames _ hr', State.setFrames_setFrames, hr]
      rfl
    have hsame : U.sameButNew ({ U with heap := s₂.heap, slotsUsed := s₂.slotsUsed } : State) L mc ms := by
      refine ⟨?_, q2, q3, q4, q5, q6⟩
      obtain ⟨t, ht, -⟩ := State.frames_cons hr
      show ({ U with heap := s₂.heap, slotsUsed := s₂.slotsUsed } : State) = { U.setFrames U.frames with heap := s₂.heap, slotsUsed := s₂.slotsUsed }
      rw [State.setFrames_self ht]
    subst hg
    refine Or.inr ⟨q, ⟨(({ U with heap := s₂.heap, slotsUsed := s₂.slotsUsed } : State).setVm s₂.vm), Ls ++ L, c0 + mc, s0 + ms⟩,
      ⟨X.admits, X.cas, X.clock, X.frames, X.room, X.hears, X.method, X.code, (X.here.setHeapUsed s₂.heap s₂.slotsUsed).setVm hW'.alike, X.tail, State.WarmedH.trans X.warmed hW', X.limits, X.bytes, X.same.trans (hsame.setVm s.vm)⟩,
      ⟨g, mk, s₂, L, E, ce, rfl, rfl, hx, hce, hcv, hcl, rfl, hL, rfl, rfl⟩, ?_⟩
    show Steps p.tables e below _ (((({ U with heap := s₂.heap, slotsUsed := s₂.slotsUsed } : State).setVm s₂.vm).setTop g).pushFrame (.throwing q))
    rw [← hs₂]
    exact hsteps
end Payer
section Calls
variable {p : Program} {l : Launch} {e : Env} {R : Room} {s : State} {m : MethodId} {args : Array Value} {below : List Frame} {meth : Method} {c : Code} {T : State} {locs : List Loc} {cells slots : Nat}
theorem vx_callV (X : Stand p l e R s m args below meth c T locs cells slots) (hexec : p.tables.exec = Jvm.exec) {own C : String} {index : Nat} {y : MethodName} {bytes : ByteArray} {maxL : Nat} {ret : Option FieldType}
    (hown : s.vm.findClass own = some m.cls) (hlink : (Cond.methodLink own index y).before args s = true) (hinst : (Cond.instanceMethod y).before args s = true) (hsel : (Cond.selects C y y).before args s = true)
    (hcode : (Cond.code y bytes maxL ret).before args s = true) (hy : y.cls ≠ "java/lang/invoke/MethodHandle" ∧ y.cls ≠ "java/lang/invoke/VarHandle")
    {W9 : Nat} {Pre : Pt → Array Value → Prop} {Post : Pt → Array Value → Option Value → Pt → Prop} {PostX : Pt → Array Value → Addr → Pt → Prop} (hK : vx_Back l R p e below s args y 3 W9 Pre Post PostX)
    {b : Addr} {cellB : Cell} (hcell : T.heap[b]? = some cellB) (hobj : cellB.vm.isStatics = false) (hcls : s.vm.findClass C = some cellB.cls)
    {g : JFrame} (hg : g.method = m) (hsize : g.locals.size = c.maxLocals) {argsL rest : List Value} (hlen : ∀ sig, parseMethodDescriptor y.desc = some sig → argsL.length = sig.parameters.length)
    (hstack : g.stack = argsL.reverse ++ .ref b :: rest) (hW : 2 * g.monitorRoom + (rest.map fun v => v.category).sum ≤ W9) (hdg : decode c.code g.pc = .ok (.invokevirtual index, 3))
    (hpre : ∀ vm₁, s.WarmedH vm₁ → Pre ⟨T.setVm vm₁, locs, cells, slots⟩ (Value.ref b :: argsL).toArray) :
    (∃ (v : Option Value) (vm₁ : Vm) (B : Pt), s.WarmedH vm₁ ∧ Stand p l e R s m args below meth c B.U B.locs B.cells B.slots ∧ Post ⟨T.setVm vm₁, locs, cells, slots⟩ (Value.ref b :: argsL).toArray v B ∧
      ∀ target, Steps p.tables e below (B.U.setTop { g with pc := g.pc + 3, stack := v.toList ++ rest }) target → Steps p.tables e below (T.setTop g) target) ∨
    (∃ (q : Addr) (vm₁ : Vm) (B : Pt), s.WarmedH vm₁ ∧ Stand p l e R s m args below meth c B.U B.locs B.cells B.slots ∧ PostX ⟨T.setVm vm₁, locs, cells, slots⟩ (Value.ref b :: argsL).toArray q B ∧
      Steps p.tables e below (T.setTop g) ((B.U.setTop { g with stack := rest }).pushFrame (.throwing q))) := by
  obtain ⟨mk, methM, hnamed, hmethM, hstM, habM⟩ := Cond.instanceMethod_spec hinst
  obtain ⟨methM', cM, hmethM', -, -, -, -, -, -, hsigM⟩ := Cond.code_spec hnamed hcode
  cases hmethM.symm.trans hmethM'
  obtain ⟨c2, r2, m2, q1, q2, q3, q4, kP, hkP, hkPi⟩ := Cond.selects_spec hsel
  cases hcls.symm.trans q1
  cases (State.methodFound?_of_named hnamed hy).symm.trans q2
  cases hnamed.symm.trans q3
  have hselP : selectMethod e.platform s.vm cellB.cls mk = .method mk := by rw [Launch.admits_selectMethod X.admits]; exact q4
  obtain ⟨vm₁, X₁, hstep₁⟩ := X.invokevirtual hexec hown hlink hnamed hmethM hstM hkP hkPi hy (a := b) (cell := cellB) hcell
    (fun z h => by rw [h] at hobj; cases hobj) hselP hmethM habM hkP hkPi (g := g) hg (argsL := argsL) (rest := rest) (hlen _ hsigM) hstack hdg
  rcases hK m meth c ⟨T.setVm vm₁, locs, cells, slots⟩ { g with stack := rest } (.invokevirtual index) mk (Value.ref b :: argsL).toArray X₁ hg hsize hdg hW (X₁.named hnamed) (hpre vm₁ X₁.warmed) with ⟨v, B, X', hpost, hsteps⟩ | ⟨q, B, X', hpost, hsteps⟩
  · exact Or.inl ⟨v, vm₁, B, X₁.warmed, X', hpost, fun target h => hstep₁ _ fun acts => by rw [doInvoke_state]; exact hsteps.trans h⟩
  · exact Or.inr ⟨q, vm₁, B, X₁.warmed, X', hpost, hstep₁ _ fun acts => by rw [doInvoke_state]; exact hsteps⟩
theorem vx_callS (X : Stand p l e R s m args below meth c T locs cells slots) (hexec : p.tables.exec = Jvm.exec) {own : String} {index : Nat} {y : MethodName} {bytes : ByteArray} {maxL : Nat} {ret : Option FieldType}
    (hown : s.vm.findClass own = some m.cls) (hlink : (Cond.methodLink own index y).before args s = true) (hstat : (Cond.static y).before args s = true) (hinit : (Cond.initialized y.cls).before args s = true)
    (hcode : (Cond.code y bytes maxL ret).before args s = true) (hy : y.cls ≠ "java/lang/invoke/MethodHandle" ∧ y.cls ≠ "java/lang/invoke/VarHandle")
    {W9 : Nat} {Pre : Pt → Array Value → Prop} {Post : Pt → Array Value → Option Value → Pt → Prop} {PostX : Pt → Array Value → Addr → Pt → Prop} (hK : vx_Back l R p e below s args y 3 W9 Pre Post PostX)
    {g : JFrame} (hg : g.method = m) (hsize : g.locals.size = c.maxLocals) {argsL rest : List Value} (hlen : ∀ sig, parseMethodDescriptor y.desc = some sig → argsL.length = sig.parameters.length)
    (hstack : g.stack = argsL.reverse ++ rest) (hW : 2 * g.monitorRoom + (rest.map fun v => v.category).sum ≤ W9) (hdg : decode c.code g.pc = .ok (.invokestatic index, 3))
    (hpre : ∀ vm₁, s.WarmedH vm₁ → Pre ⟨T.setVm vm₁, locs, cells, slots⟩ argsL.toArray) :
    (∃ (v : Option Value) (vm₁ : Vm) (B : Pt), s.WarmedH vm₁ ∧ Stand p l e R s m args below meth c B.U B.locs B.cells B.slots ∧ Post ⟨T.setVm vm₁, locs, cells, slots⟩ argsL.toArray v B ∧
      ∀ target, Steps p.tables e below (B.U.setTop { g with pc := g.pc + 3, stack := v.toList ++ rest }) target → Steps p.tables e below (T.setTop g) target) ∨
    (∃ (q : Addr) (vm₁ : Vm) (B : Pt), s.WarmedH vm₁ ∧ Stand p l e R s m args below meth c B.U B.locs B.cells B.slots ∧ PostX ⟨T.setVm vm₁, locs, cells, slots⟩ argsL.toArray q B ∧
      Steps p.tables e below (T.setTop g) ((B.U.setTop { g with stack := rest }).pushFrame (.throwing q))) := by
  obtain ⟨mk, hnamed⟩ := Cond.code_named hcode
  obtain ⟨methM, cM, hmethM, -, -, -, -, -, -, hsigM⟩ := Cond.code_spec hnamed hcode
  have hstatic : methM.isStatic = true := Cond.static_spec hnamed hmethM hstat
  obtain ⟨kP, hkP, -⟩ := className_of_methodNamed hnamed
  have hinitP : kP.init = .initialized := Cond.initialized_spec (findClass_of_methodNamed hnamed) hkP hinit
  obtain ⟨vm₁, X₁, hstep₁⟩ := X.invokestatic hexec hown hlink hnamed hmethM hstatic hkP hinitP hy (g := g) hg (argsL := argsL) (rest := rest) (hlen _ hsigM) hstack hdg
  rcases hK m meth c ⟨T.setVm vm₁, locs, cells, slots⟩ { g with stack := rest } (.invokestatic index) mk argsL.toArray X₁ hg hsize hdg hW (X₁.named hnamed) (hpre vm₁ X₁.warmed) with ⟨v, B, X', hpost, hsteps⟩ | ⟨q, B, X', hpost, hsteps⟩
  · exact Or.inl ⟨v, vm₁, B, X₁.warmed, X', hpost, fun target h => hstep₁ _ fun acts => by rw [doInvoke_state]; exact hsteps.trans h⟩
  · exact Or.inr ⟨q, vm₁, B, X₁.warmed, X', hpost, hstep₁ _ fun acts => by rw [doInvoke_state]; exact hsteps⟩
end Calls
theorem vx_cls {s : State} {T : State} {vm₁ : Vm} {E : String} {k : ClassId} (hW : s.WarmedH vm₁) (h : (T.setVm vm₁).vm.findClass E = some k) : s.vm.findClass E = some k := by
  have h1 : vm₁.findClass E = some k := h
  rw [hW.alike.findClass] at h1
  exact h1
/-- the method's frame g, with q thrown over it -/
def vx_W (p : Program) (l : Launch) (e : Env) (R : Room) (s : State) (m : MethodId) (args : Array Value) (below : List Frame) (meth : Method) (c : Code) (H : Heap) (locs : List Loc) (cells slots : Nat) (Q : State → Prop) (g : JFrame) (q : Addr) : Prop :=
  ∀ T : State, T.heap = H → Stand p l e R s m args below meth c T locs cells slots → ∃ t, Steps p.tables e below ((T.setTop g).pushFrame (.throwing q)) t ∧ Q t
def vx_Run (p : Program) (l : Launch) (e : Env) (R : Room) (s : State) (m : MethodId) (args : Array Value) (below : List Frame) (meth : Method) (c : Code) (H : Heap) (locs : List Loc) (cells slots mc ms : Nat) (g : JFrame) (rest : List Value) (Qa : State → Outcome → State → Prop) (XC : String → State → State → Prop) (free : Addr → Prop) : Prop :=
  ∀ T : State, T.heap = H → Stand p l e R s m args below meth c T locs cells slots →
    (∃ (v : Option Value) (st₀ t T' : State) (L : List Loc), st₀.heap = H ∧ Stand p l e R s m args below meth c T' (locs ++ L) (cells + mc) (slots + ms) ∧ (∀ q ∈ L, free q.base) ∧ T'.heap = t.heap ∧ T'.vm = t.vm ∧ Qa st₀ (.returned v) t ∧
      Goes p e below T g T' { g with pc := g.pc + 3, stack := v.toList ++ rest }) ∨
    (∃ (q : Addr) (st₀ t T' : State) (L : List Loc) (E : String) (ce : Cell), st₀.heap = H ∧ Stand p l e R s m args below meth c T' (locs ++ L) (cells + mc) (slots + ms) ∧ (∀ z ∈ L, free z.base) ∧ T'.heap = t.heap ∧ T'.vm = t.vm ∧ XC E st₀ t ∧ t.heap[q]? = some ce ∧ ce.vm = .none ∧ s.vm.findClass E = some ce.cls ∧
      Steps p.tables e below (T.setTop g) ((T'.setTop { g with stack := rest }).pushFrame (.throwing q)))
def vx_X {S : Type} (px : S → Prop) (B : String → S → State → Prop) (A : Nat → Prop) : String → State → State → Prop := fun E st t => ∃ u : S, px u ∧ B E u t ∧ va_F A st t
section Runs
variable {p : Program} {l : Launch} {e : Env} {R : Room} {s : State} {m : MethodId} {args : Array Value} {below : List Frame} {meth : Method} {c : Code} {H : Heap} {locs : List Loc} {cells slots : Nat}
variable {y : MethodName} {bytes cc : ByteArray} {maxL nL mc ms n index : Nat} {ret : Option FieldType} {ws : List Cond} {rm : Room} {Pc : Array Value → State → Prop} {Qc : Array Value → State → Outcome → State → Prop} {XC : String → State → State → Prop} {free : Addr → Prop} {Ts : List Cond} {own C : String} {b : Addr} {As rest : List Value} {g : JFrame}
theorem vx_callBack (cb : CallB R s args own index y bytes maxL ret ws rm mc ms n) (hM : vx_Met l y ws rm Pc Qc XC mc ms free) (hbl : FrameBlind Pc) : vx_Back l R p e below s args y 3 8 (PreOf R mc ms Pc) (PostOf Qc mc ms free) (vx_Post XC mc ms free) := by
  obtain ⟨hrc, hrs, hfr, hlo, hws, hcw, -, hini, -⟩ := cb
  exact vx_back (bytes := bytes) (maxL := maxL) (ret := ret) hM hbl hrc hrs hfr hlo hws hcw (fun a' U hW => word_at hW (Or.inl (by first | rfl | simp [Cond.onTables, Cond.keeps, Cond.steady])) hini)
theorem vx_runV (S : CallFix p m c cc nL s args Ts own) (hM : vx_Met l y ws rm Pc Qc XC mc ms free) (cw : CallW R s args own C index y bytes maxL ret ws rm mc ms n) (hp : PreV s H C b Pc As)
    (hg : g.method = m) (hn : As.length = n) (hsize : g.locals.size = nL) (hstack : g.stack = As.reverse ++ .ref b :: rest) (hW : 2 * g.monitorRoom + (rest.map fun v => v.category).sum ≤ 8) (hdg : decode cc g.pc = .ok (.invokevirtual index, 3)) (hf : cells + mc ≤ R.cells ∧ slots + ms ≤ R.slots) :
    vx_Run p l e R s m args below meth c H locs cells slots mc ms g rest (Qc (Value.ref b :: As).toArray) XC free := by
  have hK : vx_Back l R p e below s args y 3 8 (PreOf R mc ms Pc) (PostOf Qc mc ms free) (vx_Post XC mc ms free) := vx_callBack cw.1 hM hp.1
  obtain ⟨⟨-, -, -, -, -, -, hcode, -, hy, hlen, hl⟩, hin, hse⟩ := cw
  obtain ⟨hx, hb, hml, ho, -⟩ := S
  obtain ⟨-, ⟨cellB, hcB, hoB, hclB⟩, hPc⟩ := hp
  intro T hT X
  rcases vx_callV X hx (C := C) (bytes := bytes) (maxL := maxL) (ret := ret) ho hl hin hse hcode hy hK (by rw [hT]; exact hcB) hoB hclB hg (hsize.trans hml.symm) (argsL := As) (rest := rest) (fun sig h => hn.trans (hlen sig h)) hstack hW (by rw [hb]; exact hdg)
    (fun vm₁ hW₁ => ⟨hf.1, hf.2, hPc (T.setVm vm₁) hT hW₁⟩) with ⟨v, vm₁, ⟨U', l2, c2, s2⟩, hW₁, X', ⟨g', mk, t, L, e1, e2, hq, h1, hL, h2, h3⟩, st⟩ | ⟨q, vm₁, ⟨U', l2, c2, s2⟩, hW₁, X', ⟨g', mk, t, L, E, ce, e1, e2, hq, hce, hcv, hcl, h1, hL, h2, h3⟩, st⟩
  · dsimp only [Pt.U, Pt.locs, Pt.cells, Pt.slots] at X' e1 e2 h1 h2 h3 st
    subst h1; subst h2; subst h3
    exact Or.inl ⟨v, (T.setVm vm₁).calling g' mk (Value.ref b :: As).toArray, t, U', L, hT, X', hL, e1, e2, hq, st⟩
  · dsimp only [Pt.U, Pt.locs, Pt.cells, Pt.slots] at X' e1 e2 h1 h2 h3 st hcl
    subst h1; subst h2; subst h3
    exact Or.inr ⟨q, (T.setVm vm₁).calling g' mk (Value.ref b :: As).toArray, t, U', L, E, ce, hT, X', hL, e1, e2, hq, hce, hcv, vx_cls hW₁ hcl, st⟩
theorem vx_runS (S : CallFix p m c cc nL s args Ts own) (hM : vx_Met l y ws rm Pc Qc XC mc ms free) (cw : CallB R s args own index y bytes maxL ret ws rm mc ms n ∧ (Cond.static y).before args s = true) (hp : PreS s H Pc As)
    (hg : g.method = m) (hn : As.length = n) (hsize : g.locals.size = nL) (hstack : g.stack = As.reverse ++ rest) (hW : 2 * g.monitorRoom + (rest.map fun v => v.category).sum ≤ 8) (hdg : decode cc g.pc = .ok (.invokestatic index, 3)) (hf : cells + mc ≤ R.cells ∧ slots + ms ≤ R.slots) :
    vx_Run p l e R s m args below meth c H locs cells slots mc ms g rest (Qc As.toArray) XC free := by
  have hK : vx_Back l R p e below s args y 3 8 (PreOf R mc ms Pc) (PostOf Qc mc ms free) (vx_Post XC mc ms free) := vx_callBack cw.1 hM hp.1
  obtain ⟨⟨-, -, -, -, -, -, hcode, hini, hy, hlen, hl⟩, hstt⟩ := cw
  obtain ⟨hx, hb, hml, ho, -⟩ := S
  intro T hT X
  rcases vx_callS X hx (bytes := bytes) (maxL := maxL) (ret := ret) ho hl hstt hini hcode hy hK hg (hsize.trans hml.symm) (argsL := As) (rest := rest) (fun sig h => hn.trans (hlen sig h)) hstack hW (by rw [hb]; exact hdg)
    (fun vm₁ hW₁ => ⟨hf.1, hf.2, hp.2 (T.setVm vm₁) hT hW₁⟩) with ⟨v, vm₁, ⟨U', l2, c2, s2⟩, hW₁, X', ⟨g', mk, t, L, e1, e2, hq, h1, hL, h2, h3⟩, st⟩ | ⟨q, vm₁, ⟨U', l2, c2, s2⟩, hW₁, X', ⟨g', mk, t, L, E, ce, e1, e2, hq, hce, hcv, hcl, h1, hL, h2, h3⟩, st⟩
  · dsimp only [Pt.U, Pt.locs, Pt.cells, Pt.slots] at X' e1 e2 h1 h2 h3 st
    subst h1; subst h2; subst h3
    exact Or.inl ⟨v, (T.setVm vm₁).calling g' mk As.toArray, t, U', L, hT, X', hL, e1, e2, hq, st⟩
  · dsimp only [Pt.U, Pt.locs, Pt.cells, Pt.slots] at X' e1 e2 h1 h2 h3 st hcl
    subst h1; subst h2; subst h3
    exact Or.inr ⟨q, (T.setVm vm₁).calling g' mk As.toArray, t, U', L, E, ce, hT, X', hL, e1, e2, hq, hce, hcv, vx_cls hW₁ hcl, st⟩
end Runs
section Rows
variable {p : Program} {l : Launch} {e : Env} {R : Room} {s : State} {m : MethodId} {args : Array Value} {below : List Frame} {meth : Method} {c : Code} {H : Heap} {locs : List Loc} {cells slots : Nat} {Q : State → Prop}
variable {mc ms : Nat} {free : Addr → Prop} {A0 A1 : Nat → Prop} {H0 : Heap} {a : Array Value} {pc : Nat} {ls : Array Slot} {st0 rest : List Value}
theorem vx_keep {st₀ t T' : State} {L : List Loc} (h0 : st₀.heap = H) (e1 : T'.heap = t.heap) (hS : va_S A0 H0 H locs) (hA : ∀ q, q < H.size → A1 q → A0 q) (hf : ∀ q, free q → A0 q) (hL : ∀ q ∈ L, free q.base) (hF : va_F A1 st₀ t) :
    H.size ≤ T'.heap.size ∧ (∀ q : Nat, q < H.size → ¬ A1 q → T'.heap[q]? = H[q]?) ∧ va_S A0 H0 T'.heap (locs ++ L) := by
  obtain ⟨hz, hk⟩ := hF
  rw [h0] at hz hk
  exact ⟨by rw [e1]; exact hz, fun q h1 h2 => by rw [e1]; exact hk q h1 h2,
    ⟨Nat.le_trans hS.1 (by rw [e1]; exact hz), fun q h1 h2 => by rw [e1, hk q (Nat.lt_of_lt_of_le h1 hS.1) (fun z => h2 (hA q (Nat.lt_of_lt_of_le h1 hS.1) z))]; exact hS.2.1 q h1 h2, fun q hq => by
      rcases List.mem_append.mp hq with h | h
      · exact hS.2.2 q h
      · exact hf _ (hL q h)⟩⟩
theorem vx_calli {S SX : Type} {post : Int32 → S → Prop} {px : SX → Prop} {B : S → State → Prop} {BX : String → SX → State → Prop} {AX : Nat → Prop} (hr : vx_Run p l e R s m args below meth c H locs cells slots mc ms (F0 m pc ls st0) rest (va_Qi post B A1 a) (vx_X px BX AX) free) (hS : va_S A0 H0 H locs) (hA : ∀ q, q < H.size → A1 q → A0 q) (hf : ∀ q, free q → A0 q) (hAX : ∀ q, q < H.size → AX q → A0 q)
    (kx : ∀ (E : String) (ce : Cell) (q9 : Addr) (u : SX) (t : State) (H1 : Heap) (locs1 : List Loc), t.heap = H1 → s.vm.Alike t.vm → px u → BX E u t → H.size ≤ H1.size → (∀ q : Nat, q < H.size → ¬ AX q → H1[q]? = H[q]?) → va_S A0 H0 H1 locs1 → H1[q9]? = some ce → ce.vm = .none → s.vm.findClass E = some ce.cls → vx_W p l e R s m args below meth c H1 locs1 (cells + mc) (slots + ms) Q (F0 m pc ls rest) q9)
    (kk : ∀ (r : Int32) (u : S) (t : State) (H1 : Heap) (locs1 : List Loc), t.heap = H1 → s.vm.Alike t.vm → post r u → B u t → H.size ≤ H1.size → (∀ q : Nat, q < H.size → ¬ A1 q → H1[q]? = H[q]?) → va_S A0 H0 H1 locs1 → W p l e R s m args below meth c H1 locs1 (cells + mc) (slots + ms) Q (F0 m (pc + 3) ls (.int r :: rest))) : W p l e R s m args below meth c H locs cells slots Q (F0 m pc ls st0) := by
  intro T hT X
  rcases hr T hT X with ⟨v, st₀, t, T', L, h0, X', hL, e1, e2, ⟨⟨r, u, hv, hp, hb⟩, hF⟩, st⟩ | ⟨q, st₀, t, T', L, E, ce, h0, X', hL, e1, e2, ⟨u, hp, hb, hF⟩, hce, hcv, hcl, st⟩
  · cases hv
    obtain ⟨k1, k2, k3⟩ := vx_keep h0 e1 hS hA hf hL hF
    obtain ⟨t2, a1, b1⟩ := kk r u t T'.heap (locs ++ L) e1.symm (by rw [← e2]; exact X'.warmed.alike) hp hb k1 k2 k3 T' rfl X'
    exact ⟨t2, st t2 a1, b1⟩
  · obtain ⟨k1, k2, k3⟩ := vx_keep h0 e1 hS hAX hf hL hF
    obtain ⟨t2, a1, b1⟩ := kx E ce q u t T'.heap (locs ++ L) e1.symm (by rw [← e2]; exact X'.warmed.alike) hp hb k1 k2 k3 (by rw [e1]; exact hce) hcv hcl T' rfl X'
    exact ⟨t2, st.trans a1, b1⟩
theorem vx_calll {S SX : Type} {post : Int64 → S → Prop} {px : SX → Prop} {B : S → State → Prop} {BX : String → SX → State → Prop} {AX : Nat → Prop} (hr : vx_Run p l e R s m args below meth c H locs cells slots mc ms (F0 m pc ls st0) rest (va_Ql post B A1 a) (vx_X px BX AX) free) (hS : va_S A0 H0 H locs) (hA : ∀ q, q < H.size → A1 q → A0 q) (hf : ∀ q, free q → A0 q) (hAX : ∀ q, q < H.size → AX q → A0 q)
    (kx : ∀ (E : String) (ce : Cell) (q9 : Addr) (u : SX) (t : State) (H1 : Heap) (locs1 : List Loc), t.heap = H1 → s.vm.Alike t.vm → px u → BX E u t → H.size ≤ H1.size → (∀ q : Nat, q < H.size → ¬ AX q → H1[q]? = H[q]?) → va_S A0 H0 H1 locs1 → H1[q9]? = some ce → ce.vm = .none → s.vm.findClass E = some ce.cls → vx_W p l e R s m args below meth c H1 locs1 (cells + mc) (slots + ms) Q (F0 m pc ls rest) q9)
    (kk : ∀ (r : Int64) (u : S) (t : State) (H1 : Heap) (locs1 : List Loc), t.heap = H1 → s.vm.Alike t.vm → post r u → B u t → H.size ≤ H1.size → (∀ q : Nat, q < H.size → ¬ A1 q → H1[q]? = H[q]?) → va_S A0 H0 H1 locs1 → W p l e R s m args below meth c H1 locs1 (cells + mc) (slots + ms) Q (F0 m (pc + 3) ls (.long r :: rest))) : W p l e R s m args below meth c H locs cells slots Q (F0 m pc ls st0) := by
  intro T hT X
  rcases hr T hT X with ⟨v, st₀, t, T', L, h0, X', hL, e1, e2, ⟨⟨r, u, hv, hp, hb⟩, hF⟩, st⟩ | ⟨q, st₀, t, T', L, E, ce, h0, X', hL, e1, e2, ⟨u, hp, hb, hF⟩, hce, hcv, hcl, st⟩
  · cases hv
    obtain ⟨k1, k2, k3⟩ := vx_keep h0 e1 hS hA hf hL hF
    obtain ⟨t2, a1, b1⟩ := kk r u t T'.heap (locs ++ L) e1.symm (by rw [← e2]; exact X'.warmed.alike) hp hb k1 k2 k3 T' rfl X'
    exact ⟨t2, st t2 a1, b1⟩
  · obtain ⟨k1, k2, k3⟩ := vx_keep h0 e1 hS hAX hf hL hF
    obtain ⟨t2, a1, b1⟩ := kx E ce q u t T'.heap (locs ++ L) e1.symm (by rw [← e2]; exact X'.warmed.alike) hp hb k1 k2 k3 (by rw [e1]; exact hce) hcv hcl T' rfl X'
    exact ⟨t2, st.trans a1, b1⟩
theorem vx_callf {S SX : Type} {post : UInt32 → S → Prop} {px : SX → Prop} {B : S → State → Prop} {BX : String → SX → State → Prop} {AX : Nat → Prop} (hr : vx_Run p l e R s m args below meth c H locs cells slots mc ms (F0 m pc ls st0) rest (va_Qf post B A1 a) (vx_X px BX AX) free) (hS : va_S A0 H0 H locs) (hA : ∀ q, q < H.size → A1 q → A0 q) (hf : ∀ q, free q → A0 q) (hAX : ∀ q, q < H.size → AX q → A0 q)
    (kx : ∀ (E : String) (ce : Cell) (q9 : Addr) (u : SX) (t : State) (H1 : Heap) (locs1 : List Loc), t.heap = H1 → s.vm.Alike t.vm → px u → BX E u t → H.size ≤ H1.size → (∀ q : Nat, q < H.size → ¬ AX q → H1[q]? = H[q]?) → va_S A0 H0 H1 locs1 → H1[q9]? = some ce → ce.vm = .none → s.vm.findClass E = some ce.cls → vx_W p l e R s m args below meth c H1 locs1 (cells + mc) (slots + ms) Q (F0 m pc ls rest) q9)
    (kk : ∀ (r : UInt32) (u : S) (t : State) (H1 : Heap) (locs1 : List Loc), t.heap = H1 → s.vm.Alike t.vm → post r u → B u t → H.size ≤ H1.size → (∀ q : Nat, q < H.size → ¬ A1 q → H1[q]? = H[q]?) → va_S A0 H0 H1 locs1 → W p l e R s m args below meth c H1 locs1 (cells + mc) (slots + ms) Q (F0 m (pc + 3) ls (.float r :: rest))) : W p l e R s m args below meth c H locs cells slots Q (F0 m pc ls st0) := by
  intro T hT X
  rcases hr T hT X with ⟨v, st₀, t, T', L, h0, X', hL, e1, e2, ⟨⟨r, u, hv, hp, hb⟩, hF⟩, st⟩ | ⟨q, st₀, t, T', L, E, ce, h0, X', hL, e1, e2, ⟨u, hp, hb, hF⟩, hce, hcv, hcl, st⟩
  · cases hv
    obtain ⟨k1, k2, k3⟩ := vx_keep h0 e1 hS hA hf hL hF
    obtain ⟨t2, a1, b1⟩ := kk r u t T'.heap (locs ++ L) e1.symm (by rw [← e2]; exact X'.warmed.alike) hp hb k1 k2 k3 T' rfl X'
    exact ⟨t2, st t2 a1, b1⟩
  · obtain ⟨k1, k2, k3⟩ := vx_keep h0 e1 hS hAX hf hL hF
    obtain ⟨t2, a1, b1⟩ := kx E ce q u t T'.heap (locs ++ L) e1.symm (by rw [← e2]; exact X'.warmed.alike) hp hb k1 k2 k3 (by rw [e1]; exact hce) hcv hcl T' rfl X'
    exact ⟨t2, st.trans a1, b1⟩
theorem vx_calld {S SX : Type} {post : UInt64 → S → Prop} {px : SX → Prop} {B : S → State → Prop} {BX : String → SX → State → Prop} {AX : Nat → Prop} (hr : vx_Run p l e R s m args below meth c H locs cells slots mc ms (F0 m pc ls st0) rest (va_Qd post B A1 a) (vx_X px BX AX) free) (hS : va_S A0 H0 H locs) (hA : ∀ q, q < H.size → A1 q → A0 q) (hf : ∀ q, free q → A0 q) (hAX : ∀ q, q < H.size → AX q → A0 q)
    (kx : ∀ (E : String) (ce : Cell) (q9 : Addr) (u : SX) (t : State) (H1 : Heap) (locs1 : List Loc), t.heap = H1 → s.vm.Alike t.vm → px u → BX E u t → H.size ≤ H1.size → (∀ q : Nat, q < H.size → ¬ AX q → H1[q]? = H[q]?) → va_S A0 H0 H1 locs1 → H1[q9]? = some ce → ce.vm = .none → s.vm.findClass E = some ce.cls → vx_W p l e R s m args below meth c H1 locs1 (cells + mc) (slots + ms) Q (F0 m pc ls rest) q9)
    (kk : ∀ (r : UInt64) (u : S) (t : State) (H1 : Heap) (locs1 : List Loc), t.heap = H1 → s.vm.Alike t.vm → post r u → B u t → H.size ≤ H1.size → (∀ q : Nat, q < H.size → ¬ A1 q → H1[q]? = H[q]?) → va_S A0 H0 H1 locs1 → W p l e R s m args below meth c H1 locs1 (cells + mc) (slots + ms) Q (F0 m (pc + 3) ls (.double r :: rest))) : W p l e R s m args below meth c H locs cells slots Q (F0 m pc ls st0) := by
  intro T hT X
  rcases hr T hT X with ⟨v, st₀, t, T', L, h0, X', hL, e1, e2, ⟨⟨r, u, hv, hp, hb⟩, hF⟩, st⟩ | ⟨q, st₀, t, T', L, E, ce, h0, X', hL, e1, e2, ⟨u, hp, hb, hF⟩, hce, hcv, hcl, st⟩
  · cases hv
    obtain ⟨k1, k2, k3⟩ := vx_keep h0 e1 hS hA hf hL hF
    obtain ⟨t2, a1, b1⟩ := kk r u t T'.heap (locs ++ L) e1.symm (by rw [← e2]; exact X'.warmed.alike) hp hb k1 k2 k3 T' rfl X'
    exact ⟨t2, st t2 a1, b1⟩
  · obtain ⟨k1, k2, k3⟩ := vx_keep h0 e1 hS hAX hf hL hF
    obtain ⟨t2, a1, b1⟩ := kx E ce q u t T'.heap (locs ++ L) e1.symm (by rw [← e2]; exact X'.warmed.alike) hp hb k1 k2 k3 (by rw [e1]; exact hce) hcv hcl T' rfl X'
    exact ⟨t2, st.trans a1, b1⟩
theorem vx_callv {S SX : Type} {post : S → Prop} {px : SX → Prop} {B : S → State → Prop} {BX : String → SX → State → Prop} {AX : Nat → Prop} (hr : vx_Run p l e R s m args below meth c H locs cells slots mc ms (F0 m pc ls st0) rest (va_Qv post B A1 a) (vx_X px BX AX) free) (hS : va_S A0 H0 H locs) (hA : ∀ q, q < H.size → A1 q → A0 q) (hf : ∀ q, free q → A0 q) (hAX : ∀ q, q < H.size → AX q → A0 q)
    (kx : ∀ (E : String) (ce : Cell) (q9 : Addr) (u : SX) (t : State) (H1 : Heap) (locs1 : List Loc), t.heap = H1 → s.vm.Alike t.vm → px u → BX E u t → H.size ≤ H1.size → (∀ q : Nat, q < H.size → ¬ AX q → H1[q]? = H[q]?) → va_S A0 H0 H1 locs1 → H1[q9]? = some ce → ce.vm = .none → s.vm.findClass E = some ce.cls → vx_W p l e R s m args below meth c H1 locs1 (cells + mc) (slots + ms) Q (F0 m pc ls rest) q9)
    (kk : ∀ (u : S) (t : State) (H1 : Heap) (locs1 : List Loc), t.heap = H1 → s.vm.Alike t.vm → post u → B u t → H.size ≤ H1.size → (∀ q : Nat, q < H.size → ¬ A1 q → H1[q]? = H[q]?) → va_S A0 H0 H1 locs1 → W p l e R s m args below meth c H1 locs1 (cells + mc) (slots + ms) Q (F0 m (pc + 3) ls (rest))) : W p l e R s m args below meth c H locs cells slots Q (F0 m pc ls st0) := by
  intro T hT X
  rcases hr T hT X with ⟨v, st₀, t, T', L, h0, X', hL, e1, e2, ⟨⟨u, hv, hp, hb⟩, hF⟩, st⟩ | ⟨q, st₀, t, T', L, E, ce, h0, X', hL, e1, e2, ⟨u, hp, hb, hF⟩, hce, hcv, hcl, st⟩
  · cases hv
    obtain ⟨k1, k2, k3⟩ := vx_keep h0 e1 hS hA hf hL hF
    obtain ⟨t2, a1, b1⟩ := kk u t T'.heap (locs ++ L) e1.symm (by rw [← e2]; exact X'.warmed.alike) hp hb k1 k2 k3 T' rfl X'
    exact ⟨t2, st t2 a1, b1⟩
  · obtain ⟨k1, k2, k3⟩ := vx_keep h0 e1 hS hAX hf hL hF
    obtain ⟨t2, a1, b1⟩ := kx E ce q u t T'.heap (locs ++ L) e1.symm (by rw [← e2]; exact X'.warmed.alike) hp hb k1 k2 k3 (by rw [e1]; exact hce) hcv hcl T' rfl X'
    exact ⟨t2, st.trans a1, b1⟩
/-- caught by the row x of this method's table; the rows ahead don't take it -/
theorem vx_catch {own name : String} {E : String} {ce : Cell} {q : Addr} (hown : s.vm.findClass own = some m.cls) (pre : List ExceptionTableEntry) (x : ExceptionTableEntry) (suf : List ExceptionTableEntry) (hsplit : c.exceptionTable.toList = pre ++ x :: suf)
    (hpass : ∀ z ∈ pre, covers z pc = false ∨ (z.catchType ≠ 0 ∧ ∃ nm : String, (Cond.classLink own z.catchType nm).before args s = true ∧ va_Nc E nm s)) (hx : covers x pc = true) (h0 : x.catchType ≠ 0)
    (hlink : (Cond.classLink own x.catchType name).before args s = true) (hcast : (Cond.castable E name).before args s = true) (hcell : H[q]? = some ce) (hv : ce.vm = .none) (hcl : s.vm.findClass E = some ce.cls)
    (kk : W p l e R s m args below meth c H locs cells slots Q (F0 m x.handlerPc ls [.ref q])) : vx_W p l e R s m args below meth c H locs cells slots Q (F0 m pc ls rest) q := by
  intro T hT X
  have hpl : e.platform.magicAccessors = ({} : Platform).magicAccessors := by rw [X.admits.platform]
  obtain ⟨c3, c4, hc3, hc4, hasg⟩ := Cond.castable_spec hcast
  cases Option.some.inj (hc3.symm.trans hcl)
  obtain ⟨c5, hc5, hcl5⟩ := Cond.classLink_spec hown hlink e.platform hpl
  cases Option.some.inj (hc4.symm.trans hc5)
  obtain ⟨vm', X', st⟩ := X.thenCaughtThrough q (g := F0 m pc ls rest) rfl (Steps.refl _) (by rw [hT]; exact hcell) (by rw [hv]; rfl) (by obtain ⟨k9, h9, -⟩ := Vm.findClass_spec hcl; exact ⟨k9, h9⟩) pre x suf hsplit
    (fun z hz => by
      rcases hpass z hz with h | ⟨hz0, nm, hl1, hn1⟩
      · exact Or.inl h
      · obtain ⟨c6, hc6, hcl6⟩ := Cond.classLink_spec hown hl1 e.platform hpl
        obtain ⟨a8, b8, h1, h2, h3⟩ := hn1
        cases Option.some.inj (h1.symm.trans hcl)
        cases Option.some.inj (h2.symm.trans hc6)
        exact Or.inr ⟨hz0, _, hcl6, h3⟩) hx (Or.inr ⟨h0, c4, hcl5, hasg⟩)
  obtain ⟨t, a1, b1⟩ := kk (T.setVm vm') hT X'
  exact ⟨t, st.trans a1, b1⟩
end Rows
section Ends
variable {p : Program} {l : Launch} {e : Env} {R : Room} {s : State} {m : MethodId} {args : Array Value} {below : List Frame} {meth : Method} {c : Code} {H : Heap} {locs : List Loc} {cells slots : Nat} {Q : State → Prop}
variable {mc ms : Nat} {free : Addr → Prop} {A0 A1 : Nat → Prop} {H0 : Heap} {a : Array Value} {ls : Array Slot} {st0 rest : List Value}
variable {Qc : Array Value → State → Outcome → State → Prop} {XC : String → State → State → Prop}
/-- what a body that may throw owes at its end -/
def vx_MQ (below : List Frame) (Qc : Array Value → State → Outcome → State → Prop) (XC : String → State → State → Prop) (a : Array Value) (s : State) (mc ms : Nat) (free : Addr → Prop) : State → Prop := fun t =>
  ∃ o, t.status = .running ∧ Ended t below o ∧ vx_Q Qc XC mc ms free a s o t
theorem vx_ret {g : JFrame} {mc ms : Nat} (k : W p l e R s m args below meth c H locs cells slots (MQ below Qc args s mc ms free) g) : W p l e R s m args below meth c H locs cells slots (vx_MQ below Qc XC args s mc ms free) g := by
  intro T hT X
  obtain ⟨t, a1, o, b1, b2, b3, b4⟩ := k T hT X
  exact ⟨t, a1, o, b1, b2, Or.inl ⟨b3, b4⟩⟩
/-- not caught here: it goes on to the caller -/
theorem vx_widen {g : JFrame} {q : Addr} {k n : Nat} (h1 : cells ≤ k) (h2 : slots ≤ n) (kk : vx_W p l e R s m args below meth c H locs k n Q g q) : vx_W p l e R s m args below meth c H locs cells slots Q g q := fun T hT X => kk T hT (stand_widen X h1 h2)
theorem vx_out {pc : Nat} {E : String} {ce : Cell} {q : Addr} {mc ms : Nat} (hout : ∀ x ∈ c.exceptionTable.toList, covers x pc = false) (hlocks : meth.locks = false) (hcell : H[q]? = some ce) (hv : ce.vm = .none) (hcl : s.vm.findClass E = some ce.cls)
    (hx : ∀ t : State, t.heap = H → s.vm.Alike t.vm → XC E s t) (hf : ∀ z ∈ locs, free z.base) (hc : cells ≤ mc) (hs : slots ≤ ms) :
    vx_W p l e R s m args below meth c H locs cells slots (vx_MQ below Qc XC args s mc ms free) (F0 m pc ls rest) q := by
  intro T hT X
  obtain ⟨st1, hrun, hend, hW, hsm⟩ := X.leaveThrown q (g := F0 m pc ls rest) rfl rfl rfl hout hlocks
  have hcell9 : (T.setFrames (.throwing q :: below)).heap[q]? = some ce := by
    show T.heap[q]? = some ce
    rw [hT]; exact hcell
  exact ⟨_, st1, .threw q, hrun, hend, Or.inr ⟨q, rfl, E, ce, locs, hx _ hT hW.alike, hcell9, hv, hcl, hW, hsm.mono hc hs, hf⟩⟩
theorem vx_frame {U : State} {k n : Nat} (h : s.sameButNew ({ U with vm := s.vm } : State) locs k n) : s.heap.size ≤ U.heap.size ∧ ∀ q : Nat, q < s.heap.size → (∀ z ∈ locs, z.base ≠ q) → U.heap[q]? = s.heap[q]? := by
  obtain ⟨-, h2, -, -, -, h6⟩ := h
  refine ⟨h2, fun q hq hz => ?_⟩
  obtain ⟨c9, e1, e2, e3, e4⟩ := h6 q _ (Array.getElem?_eq_getElem hq)
  have hs : c9.slots = (s.heap[q]).slots := Array.ext_getElem? fun i => e4 i fun hm => hz _ hm rfl
  have h9 : c9 = s.heap[q] := by
    rw [hs] at e2
    exact e2
  have e5 : U.heap[q]? = some c9 := e1
  rw [e5, h9, Array.getElem?_eq_getElem hq]
/-- the words of a throw but the four that speak of the heap -/
def vx_no (w : Cond) : Bool := decide (w ≠ .isRef (.static Bundle.tN "UNASSIGNED_STACK" Bundle.steD)) && decide (w ≠ .isRef (.static Bundle.tN "SUPPRESSED_SENTINEL" Bundle.listD)) && decide (w ≠ .laysStatic Bundle.tN "UNASSIGNED_STACK" Bundle.steD) && decide (w ≠ .laysStatic Bundle.tN "SUPPRESSED_SENTINEL" Bundle.listD)
def vx_at0 (own : String) (ic : Nat) (X : String) (names : List String) : List Cond := (Bundle.ownAtoms0 own ic X names).filter vx_no
def vx_atS (own : String) (ic : Nat) (X : String) (names : List String) : List Cond := (Bundle.ownAtoms own ic X names).filter vx_no
/-- a word that the tables alone decide, or a good one -/
def vx_ot (w : Cond) : Bool := w.onTables || goodWord w
theorem vx_ot_at {args a' : Array Value} {s U : State} {w : Cond} (hW : s.WarmedH U.vm) (hvm : s.vm = U.vm) (hg : vx_ot w = true) (h : w.before args s = true) : w.before a' U = true := by
  simp only [vx_ot, Bool.or_eq_true] at hg
  rcases hg with hg | hg
  · exact va_tabs hg hvm h
  · exact word_at hW (good_of_word hg) h
/-- a list's words: the good ones out of the method's own list, the others by premises of their own -/
theorem vx_hat {args : Array Value} {s : State} {L B : List Cond} (h1 : ∀ w ∈ L.filter goodWord, w.before args s = true) (h2 : ∀ w ∈ L.filter (fun w => !goodWord w), w ∈ B) (h3 : ∀ w ∈ B, w.before args s = true) : ∀ w ∈ L, w.before args s = true := by
  intro w hw
  by_cases g : goodWord w = true
  · exact h1 w (List.mem_filter.mpr ⟨hw, g⟩)
  · refine h3 w (h2 w (List.mem_filter.mpr ⟨hw, ?_⟩))
    show (!goodWord w) = true
    cases hgw : goodWord w
    · rfl
    · exact absurd hgw g
theorem vx_c {args : Array Value} {s : State} {w : Cond} {B : List Cond} (h : w.before args s = true) (t : ∀ w ∈ B, w.before args s = true) : ∀ w' ∈ w :: B, w'.before args s = true := fun w' h' => (List.mem_cons.mp h').elim (fun e => by rw [e]; exact h) (t w')
theorem vx_n {args : Array Value} {s : State} : ∀ w ∈ ([] : List Cond), w.before args s = true := fun _ h => nomatch h
theorem vx_own {args : Array Value} {s : State} {L : List Cond} (h1 : ∀ w ∈ L.filter vx_no, w.before args s = true)
    (hU : (Cond.isRef (.static Bundle.tN "UNASSIGNED_STACK" Bundle.steD)).before args s = true) (hN : (Cond.isRef (.static Bundle.tN "SUPPRESSED_SENTINEL" Bundle.listD)).before args s = true)
    (lU : (Cond.laysStatic Bundle.tN "UNASSIGNED_STACK" Bundle.steD).before args s = true) (lN : (Cond.laysStatic Bundle.tN "SUPPRESSED_SENTINEL" Bundle.listD).before args s = true) : ∀ w ∈ L, w.before args s = true := by
  intro w hw
  by_cases e1 : w = .isRef (.static Bundle.tN "UNASSIGNED_STACK" Bundle.steD)
  · rw [e1]; exact hU
  · by_cases e2 : w = .isRef (.static Bundle.tN "SUPPRESSED_SENTINEL" Bundle.listD)
    · rw [e2]; exact hN
    · by_cases e3 : w = .laysStatic Bundle.tN "UNASSIGNED_STACK" Bundle.steD
      · rw [e3]; exact lU
      · by_cases e4 : w = .laysStatic Bundle.tN "SUPPRESSED_SENTINEL" Bundle.listD
        · rw [e4]; exact lN
        · exact h1 w (List.mem_filter.mpr ⟨hw, by unfold vx_no; rw [decide_eq_true e1, decide_eq_true e2, decide_eq_true e3, decide_eq_true e4]; rfl⟩)
/-- where a static field lies, its class's statics cell in H -/
def vx_L (C n d : String) (A : Nat → Prop) (U : State) (H : Heap) : Prop := ∃ (c : ClassId) (k : Class) (i : Nat) (f : Field) (a : Nat) (cell : Cell), U.vm.findClass C = some c ∧ U.fieldFound? C n d = some (c, k, i, f) ∧ f.isStatic = true ∧ k.statics = some a ∧ H[a]? = some cell ∧ cell.vm.isStatics = true ∧ cell.cls = c ∧ f.slot < cell.slots.size ∧ k.staticTypes[f.slot]? = some f.type ∧ ¬ A a
theorem vx_L.moved {C n d : String} {A : Nat → Prop} {u U : State} {H : Heap} (hvm : u.vm.Alike U.vm) (h : vx_L C n d A u H) : vx_L C n d A U H := by
  obtain ⟨c, k, i, f, a, cell, h1, h2, h3, h4, h5, h6, h7, h8, h9, h10⟩ := h
  obtain ⟨k', hi', he⟩ := State.fieldFound?_setVm hvm h2
  exact ⟨c, k', i, f, a, cell, by rw [hvm.findClass]; exact h1, hi', h3, by rw [he]; exact h4, h5, h6, h7, h8, by rw [he]; exact h9, h10⟩
theorem vx_L.kept {C n d : String} {A : Nat → Prop} {U : State} {H H1 : Heap} (h : vx_L C n d A U H) (hq : ∀ a : Nat, a < H.size → ¬ A a → H1[a]? = H[a]?) : vx_L C n d A U H1 := by
  obtain ⟨c, k, i, f, a, cell, h1, h2, h3, h4, h5, h6, h7, h8, h9, h10⟩ := h
  exact ⟨c, k, i, f, a, cell, h1, h2, h3, h4, by rw [hq a (Array.getElem?_eq_some_iff.mp h5).1 h10]; exact h5, h6, h7, h8, h9, h10⟩
theorem vx_L.narrow {C n d : String} {A B : Nat → Prop} {U : State} {H : Heap} (h : vx_L C n d A U H) (hAB : ∀ q, B q → A q) : vx_L C n d B U H := by
  obtain ⟨c, k, i, f, a, cell, h1, h2, h3, h4, h5, h6, h7, h8, h9, h10⟩ := h
  exact ⟨c, k, i, f, a, cell, h1, h2, h3, h4, h5, h6, h7, h8, h9, fun z => h10 (hAB _ z)⟩
theorem vx_L.word {C n d : String} {A : Nat → Prop} {s : State} {args : Array Value} (h : vx_L C n d A s s.heap) : (Cond.laysStatic C n d).before args s = true := by
  obtain ⟨c, k, i, f, a, cell, h1, h2, h3, h4, h5, h6, h7, h8, h9, -⟩ := h
  show (Cond.laysStatic C n d).holds args s none s [] = true
  exact Cond.laysStatic_of h1 h2 h3 h4 h5 h6 h7 h8 h9
/-- .. and what it holds: null or some reference -/
def vx_Zq (C n d : String) (A : Nat → Prop) (U : State) (H : Heap) : Prop := va_Zq C n d A U H ∧ vx_L C n d A U H
theorem vx_Zq.moved {C n d : String} {A : Nat → Prop} {u U : State} {H : Heap} (hvm : u.vm.Alike U.vm) (h : vx_Zq C n d A u H) : vx_Zq C n d A U H := ⟨va_Zq.moved hvm h.1, vx_L.moved hvm h.2⟩
theorem vx_Zq.kept {C n d : String} {A : Nat → Prop} {U : State} {H H1 : Heap} (h : vx_Zq C n d A U H) (hq : ∀ a : Nat, a < H.size → ¬ A a → H1[a]? = H[a]?) : vx_Zq C n d A U H1 := ⟨va_Zq.kept h.1 hq, vx_L.kept h.2 hq⟩
theorem vx_Zq.narrow {C n d : String} {A B : Nat → Prop} {U : State} {H : Heap} (h : vx_Zq C n d A U H) (hAB : ∀ q, B q → A q) : vx_Zq C n d B U H := ⟨va_Zq.narrow h.1 hAB, vx_L.narrow h.2 hAB⟩
theorem vx_Zqof {args : Array Value} {s : State} {C n d : String} {A : Nat → Prop} (hl : (Cond.laysStatic C n d).before args s = true) (hini : (Cond.initialized C).before args s = true) (h : (Cond.isRef (.static C n d)).before args s = true) (hA : ∀ a : Nat, a < s.heap.size → ¬ A a) : vx_Zq C n d A s s.heap := by
  refine ⟨va_Zqof hl hini h hA, ?_⟩
  obtain ⟨c, k, i, f, a, cell, h1, h2, h3, h4, h5, h6, h7, h8, h9⟩ := Cond.laysStatic_spec hl
  exact ⟨c, k, i, f, a, cell, h1, h2, h3, h4, h5, h6, h7, h8, h9, hA a (Array.getElem?_eq_some_iff.mp h5).1⟩
theorem vx_isRef {C n d : String} {v : Value} {A : Nat → Prop} {s : State} {args : Array Value} (h : va_Z C n d v A s s.heap) (hv : v.isRef = true) : (Cond.isRef (.static C n d)).before args s = true := by
  obtain ⟨cf, kf, fi, f, a, cell, h1, h2, h3, h4, h5, h6, h7, -⟩ := h
  have he : (Term.static C n d).eval args s none [] s = some v := by
    simp [Term.eval, State.fieldNamed?, h1, h2, h4, h5, h6, h7]
  simp only [Cond.before, Cond.holds, Cond.value, he]
  cases v <;> simp_all [Value.isRef]
theorem vx_isRefq {C n d : String} {A : Nat → Prop} {s : State} {args : Array Value} (h : va_Zq C n d A s s.heap) : (Cond.isRef (.static C n d)).before args s = true := by
  rcases h with h | ⟨t, h⟩
  · exact vx_isRef h rfl
  · exact vx_isRef h rfl
/-- the same frame, seen from here: as if the method were called anew in this heap -/
theorem vx_rebase {T : State} (X : Stand p l e R s m args below meth c T locs cells slots) {R' : Room} (hf : R'.frames ≤ R.frames) (hl : R'.locals ≤ R.locals) (hc : cells + R'.cells ≤ R.cells) (hs : slots + R'.slots ≤ R.slots) :
    Stand p l e R' ((T.setVm s.vm).setFrames (.invoking m args :: below)) m args below meth c T [] 0 0 := by
  have htop : (T.setVm s.vm).topJava?.isSome := X.here.top
  have hF : ((T.setVm s.vm).setFrames (.invoking m args :: below)).frames = .invoking m args :: below := State.frames_setFrames _ (State.cur_lt_of_top htop)
  obtain ⟨g₀, hg0⟩ := Option.isSome_iff_exists.mp htop
  obtain ⟨r, hr⟩ := State.topJava?_eq_some.mp hg0
  have hl9 : e.platform.stackLimits (T.setVm s.vm).me = e.platform.stackLimits s.me := X.limits
  have hb9 : (T.setVm s.vm).me.stackBytes = s.me.stackBytes := X.bytes
  refine ⟨X.admits, X.cas, X.clock, hF, ?_, X.hears, X.method, X.code, X.here, X.tail, X.warmed, ?_, ?_, ?_⟩
  · have h := X.room
    have hU : ((T.setVm s.vm).setFrames (.invoking m args :: below)).localsInUse = s.localsInUse := by
      rw [State.localsInUse_invoking hF (meth := meth) (c := c) X.method X.code, State.localsInUse_invoking X.frames X.method X.code]
    simp only [State.hasRoom, Bool.and_eq_true, decide_eq_true_eq] at h ⊢
    obtain ⟨⟨⟨⟨h1, h2, h3, h4, h5, h6⟩, h7⟩, h8⟩, h9⟩ := h
    rw [X.frames, List.length_cons] at h2 h3
    have q1 := X.heapSize
    have q2 := X.used
    simp only [hF, hU, List.length_cons, State.stackLimits_setFrames, State.stackBytes_setFrames, hl9, hb9]
    refine ⟨⟨⟨⟨by omega, by omega, by omega, by omega, by omega, h6⟩, ?_⟩, ?_⟩, X.book⟩
    · show T.heap.size + R'.cells ≤ e.platform.maxCells
      omega
    · show T.slotsUsed + R'.slots ≤ e.platform.maxSlots
      omega
  · rw [State.stackLimits_setFrames]; rfl
  · rw [State.stackBytes_setFrames]; rfl
  · refine ⟨?_, Nat.le_refl _, Nat.le_refl _, ?_, ?_, fun a c9 h9 => ⟨c9, h9, rfl, rfl, fun _ _ => rfl⟩⟩
    · obtain ⟨t, ht, -⟩ := State.frames_cons hr
      show T.setVm s.vm = { ((T.setVm s.vm).setFrames (.invoking m args :: below)).setFrames (T.setVm s.vm).frames with heap := T.heap, slotsUsed := T.slotsUsed }
      rw [State.setFrames_setFrames, State.setFrames_self ht]
      rfl
    · show T.slotsUsed = T.slotsUsed + ((T.heap.toList.drop T.heap.size).map (·.slots.size)).sum
      rw [List.drop_eq_nil_of_le (Nat.le_of_eq Array.length_toList)]
      rfl
    · show ((T.heap.toList.drop T.heap.size).map (·.slots.size)).sum ≤ 0
      rw [List.drop_eq_nil_of_le (Nat.le_of_eq Array.length_toList)]
      exact Nat.le_refl _
/-- 'throw new E()': new; dup; invokespecial; athrow -/
theorem vx_throw0 {cc : ByteArray} {pc : Nat} (hexec : p.tables.exec = Jvm.exec) (hb : c.code = cc) (hl : l.stackTraces = false) {own cls : String} {names : List String} {ik ic mc ms : Nat} {A : Nat → Prop}
    (hown : s.vm.findClass own = some m.cls) (hcls : Bundle.fit cls = true) (hnames : ∀ n ∈ names, Bundle.fit n = true)
    (hk : (Cond.classLink own ik cls).before args s = true) (hini : (Cond.initialized cls).before args s = true) (hat : ∀ w ∈ vx_at0 own ic cls names, w.before args s = true)
    (hgood : ∀ w ∈ Cond.classLink own ik cls :: Cond.initialized cls :: vx_at0 own ic cls names, vx_ot w = true)
    (hU : vx_Zq Bundle.tN "UNASSIGNED_STACK" Bundle.steD A s s.heap) (hN : vx_Zq Bundle.tN "SUPPRESSED_SENTINEL" Bundle.listD A s s.heap) (hS : va_S A s.heap H locs) (hsize : ls.size = c.maxLocals)
    (d0 : decode cc pc = .ok (.new ik, 3)) (d3 : decode cc (pc + 3) = .ok (.dup, 1)) (d4 : decode cc (pc + 4) = .ok (.invokespecial ic, 3)) (d7 : decode cc (pc + 7) = .ok (.athrow, 1))
    (hout : ∀ x ∈ c.exceptionTable.toList, covers x (pc + 7) = false)
    (hRframes : names.length + 3 < R.frames) (hRlocals : (rest.map fun v => v.category).sum + (13 * (names.length + 1) + 42) ≤ R.locals) (hRcells : cells + 1 ≤ R.cells) (hRslots : slots + 6 ≤ R.slots) (hlocks : meth.locks = false)
    (hx : ∀ t : State, s.vm.Alike t.vm → H.size ≤ t.heap.size → (∀ q : Nat, q < H.size → t.heap[q]? = H[q]?) → XC cls s t)
    (hf : ∀ z ∈ locs, free z.base) (hc : cells + 1 ≤ mc) (hs : slots + 6 ≤ ms) :
    W p l e R s m args below meth c H locs cells slots (vx_MQ below Qc XC args s mc ms free) (F0 m pc ls rest) := by
  intro T hT X
  have htr : e.platform.stackTraces = false := (show e.platform.stackTraces = l.stackTraces by rw [X.admits.platform]).trans hl
  have Y := vx_rebase X (R' := { frames := R.frames, locals := R.locals, cells := 1, slots := 6 }) (Nat.le_refl _) (Nat.le_refl _) hRcells hRslots
  obtain ⟨s', hA⟩ : ∃ z, z = (T.setVm s.vm).setFrames (.invoking m args :: below) := ⟨_, rfl⟩
  rw [← hA] at Y
  have hvm : s'.vm = s.vm := by rw [hA]; rfl
  have hhp : s'.heap = H := by rw [hA]; exact hT
  have hW0 : s.WarmedH s'.vm := by rw [hvm]; exact State.WarmedH.refl s
  have hat' : ∀ w ∈ vx_at0 own ic cls names, w.before args s' = true := fun w hw => vx_ot_at hW0 hvm.symm (hgood w (List.mem_cons_of_mem _ (List.mem_cons_of_mem _ hw))) (hat w hw)
  have hk' : (Cond.classLink own ik cls).before args s' = true := vx_ot_at hW0 hvm.symm (hgood _ List.mem_cons_self) hk
  have hini' : (Cond.initialized cls).before args s' = true := vx_ot_at hW0 hvm.symm (hgood _ (List.mem_cons_of_mem _ List.mem_cons_self)) hini
  have hU' : vx_Zq Bundle.tN "UNASSIGNED_STACK" Bundle.steD A s' s'.heap := by rw [hhp]; exact vx_Zq.moved hW0.alike (hU.kept hS.2.1)
  have hN' : vx_Zq Bundle.tN "SUPPRESSED_SENTINEL" Bundle.listD A s' s'.heap := by rw [hhp]; exact vx_Zq.moved hW0.alike (hN.kept hS.2.1)
  have h : ∀ w ∈ Bundle.ownAtoms0 own ic cls names, w.before args s' = true := vx_own hat' (vx_isRefq hU'.1) (vx_isRefq hN'.1) hU'.2.word hN'.2.word
  have hown' : s'.vm.findClass own = some m.cls := by rw [hvm]; exact hown
  have hins : (Cond.instantiable cls 6).before args s' = true := h _ (by simp [Bundle.ownAtoms0])
  obtain ⟨vm₁, cX, kX, hfX, hkX, -, -, X₁, st1⟩ := Y.newCold hexec (own := own) (C := cls) (index := ik) (n := 6) hown' hk' hins hini'
    (g := F0 m pc ls rest) rfl (by rw [hb]; exact d0) (Nat.le_refl _) (Nat.le_refl _)
  generalize hT1 : (T.setVm vm₁).pushCell { cls := cX, slots := kX.instanceTypes.map defaultValue, vm := .none } = T1 at X₁ st1
  have hcat : (Value.ref T.heap.size).category = 1 := rfl
  have hcellA : T1.heap[T.heap.size]? = some (freshCell cX kX) := by rw [← hT1]; exact State.heap_pushCell_size _ _
  have d3' : decode c.code (pc + 3) = .ok (.dup, 1) := by rw [hb]; exact d3
  obtain ⟨U, hsteps, hrun, hend, hW, hsame, ce, hce, hO⟩ := X₁.ctorThrow0 hexec htr (own := own) (cls := cls) (names := names) (ic := ic) hown' hcls hnames h (fun x hx => nomatch hx) hfX hkX hcellA (by rw [hhp, hT]; exact Nat.le_refl _)
    (g := { method := m, pc := pc + 4, locals := ls, stack := .ref T.heap.size :: .ref T.heap.size :: rest, locked := none }) rfl hsize rfl rfl (rest := rest) rfl
    (by rw [hb]; exact d4) (by rw [hb]; exact d7) hout hRframes (by simp only [List.map_cons, List.sum_cons, hcat]; omega) hlocks
  obtain ⟨f1, f2⟩ := vx_frame hsame
  rw [hhp] at f1 f2
  have hWs : s.WarmedH U.vm := State.WarmedH.trans hW0 hW
  have hcl : s.vm.findClass cls = some ce.cls := by
    have h9 := hO.cls
    rw [hvm] at h9
    exact h9
  have hall : s.sameButNew ({ U with vm := s.vm } : State) locs mc ms := by
    subst hA
    obtain ⟨e1, e2⟩ := hsame
    rw [State.setFrames_setFrames] at e1
    have h2 : (T.setVm s.vm).sameButNew ({ U with vm := s.vm } : State) [] (0 + 1) (0 + 6) := ⟨e1, e2⟩
    have h3 := X.same.trans h2
    rw [List.append_nil] at h3
    exact h3.mono hc hs
  refine ⟨U, ?_, .threw T.heap.size, hrun, hend, Or.inr ⟨T.heap.size, rfl, cls, ce, locs, hx U hWs.alike f1 (fun q hq => f2 q hq (fun z hz => nomatch hz)), hce, hO.vm, hcl, hWs, hall, hf⟩⟩
  refine st1 _ ?_
  show Steps p.tables e below (T1.setTop { method := m, pc := pc + 3, locals := ls, stack := .ref T.heap.size :: rest, locked := none }) _
  jvm_step X₁.here [X₁.here.top, hexec, d3', Value.category]
  exact hsteps
/-- 'throw new E("text")': new; dup; ldc; invokespecial; athrow -/
theorem vx_throwS {cc : ByteArray} {pc : Nat} (hexec : p.tables.exec = Jvm.exec) (hb : c.code = cc) (hl : l.stackTraces = false) {own cls text : String} {names : List String} {ik is ic mc ms sa : Nat} {A : Nat → Prop}
    (hown : s.vm.findClass own = some m.cls) (hcls : Bundle.fit cls = true) (hnames : ∀ n ∈ names, Bundle.fit n = true)
    (hk : (Cond.classLink own ik cls).before args s = true) (hini : (Cond.initialized cls).before args s = true) (hstr : vk_R own is text sa s) (hat : ∀ w ∈ vx_atS own ic cls names, w.before args s = true)
    (hgood : ∀ w ∈ Cond.classLink own ik cls :: Cond.initialized cls :: vx_atS own ic cls names, vx_ot w = true)
    (hU : vx_Zq Bundle.tN "UNASSIGNED_STACK" Bundle.steD A s s.heap) (hN : vx_Zq Bundle.tN "SUPPRESSED_SENTINEL" Bundle.listD A s s.heap) (hS : va_S A s.heap H locs) (hsize : ls.size = c.maxLocals)
    (d0 : decode cc pc = .ok (.new ik, 3)) (d3 : decode cc (pc + 3) = .ok (.dup, 1)) (d4 : decode cc (pc + 4) = .ok (.ldc is, 2)) (d6 : decode cc (pc + 6) = .ok (.invokespecial ic, 3)) (d9 : decode cc (pc + 9) = .ok (.athrow, 1))
    (hout : ∀ x ∈ c.exceptionTable.toList, covers x (pc + 9) = false)
    (hRframes : names.length + 3 < R.frames) (hRlocals : (rest.map fun v => v.category).sum + (13 * (names.length + 1) + 43) ≤ R.locals) (hRcells : cells + 1 ≤ R.cells) (hRslots : slots + 6 ≤ R.slots) (hlocks : meth.locks = false)
    (hx : ∀ t : State, s.vm.Alike t.vm → H.size ≤ t.heap.size → (∀ q : Nat, q < H.size → t.heap[q]? = H[q]?) → XC cls s t)
    (hf : ∀ z ∈ locs, free z.base) (hc : cells + 1 ≤ mc) (hs : slots + 6 ≤ ms) :
    W p l e R s m args below meth c H locs cells slots (vx_MQ below Qc XC args s mc ms free) (F0 m pc ls rest) := by
  intro T hT X
  have htr : e.platform.stackTraces = false := (show e.platform.stackTraces = l.stackTraces by rw [X.admits.platform]).trans hl
  have Y := vx_rebase X (R' := { frames := R.frames, locals := R.locals, cells := 1, slots := 6 }) (Nat.le_refl _) (Nat.le_refl _) hRcells hRslots
  obtain ⟨s', hA⟩ : ∃ z, z = (T.setVm s.vm).setFrames (.invoking m args :: below) := ⟨_, rfl⟩
  rw [← hA] at Y
  have hvm : s'.vm = s.vm := by rw [hA]; rfl
  have hhp : s'.heap = H := by rw [hA]; exact hT
  have hW0 : s.WarmedH s'.vm := by rw [hvm]; exact State.WarmedH.refl s
  have hat' : ∀ w ∈ vx_atS own ic cls names, w.before args s' = true := fun w hw => vx_ot_at hW0 hvm.symm (hgood w (List.mem_cons_of_mem _ (List.mem_cons_of_mem _ hw))) (hat w hw)
  have hk' : (Cond.classLink own ik cls).before args s' = true := vx_ot_at hW0 hvm.symm (hgood _ List.mem_cons_self) hk
  have hini' : (Cond.initialized cls).before args s' = true := vx_ot_at hW0 hvm.symm (hgood _ (List.mem_cons_of_mem _ List.mem_cons_self)) hini
  have hU' : vx_Zq Bundle.tN "UNASSIGNED_STACK" Bundle.steD A s' s'.heap := by rw [hhp]; exact vx_Zq.moved hW0.alike (hU.kept hS.2.1)
  have hN' : vx_Zq Bundle.tN "SUPPRESSED_SENTINEL" Bundle.listD A s' s'.heap := by rw [hhp]; exact vx_Zq.moved hW0.alike (hN.kept hS.2.1)
  have h : ∀ w ∈ Bundle.ownAtoms own ic cls names, w.before args s' = true := vx_own hat' (vx_isRefq hU'.1) (vx_isRefq hN'.1) hU'.2.word hN'.2.word
  have hown' : s'.vm.findClass own = some m.cls := by rw [hvm]; exact hown
  have hins : (Cond.instantiable cls 6).before args s' = true := h _ (by simp [Bundle.ownAtoms])
  obtain ⟨vm₁, cX, kX, hfX, hkX, -, -, X₁, st1⟩ := Y.newCold hexec (own := own) (C := cls) (index := ik) (n := 6) hown' hk' hins hini'
    (g := F0 m pc ls rest) rfl (by rw [hb]; exact d0) (Nat.le_refl _) (Nat.le_refl _)
  generalize hT1 : (T.setVm vm₁).pushCell { cls := cX, slots := kX.instanceTypes.map defaultValue, vm := .none } = T1 at X₁ st1
  have hcat : (Value.ref T.heap.size).category = 1 := rfl
  have hcellA : T1.heap[T.heap.size]? = some (freshCell cX kX) := by rw [← hT1]; exact State.heap_pushCell_size _ _
  have d3' : decode c.code (pc + 3) = .ok (.dup, 1) := by rw [hb]; exact d3
  have d4' : decode c.code (pc + 4) = .ok (.ldc is, 2) := by rw [hb]; exact d4
  have hstr' : vk_R own is text sa s' := vk_R.warm hW0 hstr
  obtain ⟨U, hsteps, hrun, hend, hW, hsame, ce, hce, hO⟩ := X₁.ctorThrowS hexec htr (own := own) (cls := cls) (names := names) (ic := ic) hown' hcls hnames h (fun x hx => nomatch hx) hfX hkX hcellA (by rw [hhp, hT]; exact Nat.le_refl _) (msg := .ref sa) rfl
    (g := { method := m, pc := pc + 6, locals := ls, stack := .ref sa :: .ref T.heap.size :: .ref T.heap.size :: rest, locked := none }) rfl hsize rfl rfl (rest := rest) rfl
    (by rw [hb]; exact d6) (by rw [hb]; exact d9) hout hRframes (by simp only [List.map_cons, List.sum_cons, hcat]; omega) hlocks
  obtain ⟨f1, f2⟩ := vx_frame hsame
  rw [hhp] at f1 f2
  have hWs : s.WarmedH U.vm := State.WarmedH.trans hW0 hW
  have hcl : s.vm.findClass cls = some ce.cls := by
    have h9 := hO.cls
    rw [hvm] at h9
    exact h9
  have hall : s.sameButNew ({ U with vm := s.vm } : State) locs mc ms := by
    subst hA
    obtain ⟨e1, e2⟩ := hsame
    rw [State.setFrames_setFrames] at e1
    have h2 : (T.setVm s.vm).sameButNew ({ U with vm := s.vm } : State) [] (0 + 1) (0 + 6) := ⟨e1, e2⟩
    have h3 := X.same.trans h2
    rw [List.append_nil] at h3
    exact h3.mono hc hs
  refine ⟨U, ?_, .threw T.heap.size, hrun, hend, Or.inr ⟨T.heap.size, rfl, cls, ce, locs, hx U hWs.alike f1 (fun q hq => f2 q hq (fun z hz => nomatch hz)), hce, hO.vm, hcl, hWs, hall, hf⟩⟩
  refine st1 _ ?_
  show Steps p.tables e below (T1.setTop { method := m, pc := pc + 3, locals := ls, stack := .ref T.heap.size :: rest, locked := none }) _
  jvm_step X₁.here [X₁.here.top, hexec, d3', Value.category]
  exact X₁.ldcString hexec (own := own) (text := text) (index := is) (a := sa) hown' hstr'.1 hstr'.2
    (g := { method := m, pc := pc + 4, locals := ls, stack := .ref T.heap.size :: .ref T.heap.size :: rest, locked := none }) rfl d4' _ hsteps
/-- 'throw new E("text")', the text by a wide index -/
theorem vx_throwSW {cc : ByteArray} {pc : Nat} (hexec : p.tables.exec = Jvm.exec) (hb : c.code = cc) (hl : l.stackTraces = false) {own cls text : String} {names : List String} {ik is ic mc ms sa : Nat} {A : Nat → Prop}
    (hown : s.vm.findClass own = some m.cls) (hcls : Bundle.fit cls = true) (hnames : ∀ n ∈ names, Bundle.fit n = true)
    (hk : (Cond.classLink own ik cls).before args s = true) (hini : (Cond.initialized cls).before args s = true) (hstr : vk_R own is text sa s) (hat : ∀ w ∈ vx_atS own ic cls names, w.before args s = true)
    (hgood : ∀ w ∈ Cond.classLink own ik cls :: Cond.initialized cls :: vx_atS own ic cls names, vx_ot w = true)
    (hU : vx_Zq Bundle.tN "UNASSIGNED_STACK" Bundle.steD A s s.heap) (hN : vx_Zq Bundle.tN "SUPPRESSED_SENTINEL" Bundle.listD A s s.heap) (hS : va_S A s.heap H locs) (hsize : ls.size = c.maxLocals)
    (d0 : decode cc pc = .ok (.new ik, 3)) (d3 : decode cc (pc + 3) = .ok (.dup, 1)) (d4 : decode cc (pc + 4) = .ok (.ldc_w is, 3)) (d7 : decode cc (pc + 7) = .ok (.invokespecial ic, 3)) (d10 : decode cc (pc + 10) = .ok (.athrow, 1))
    (hout : ∀ x ∈ c.exceptionTable.toList, covers x (pc + 10) = false)
    (hRframes : names.length + 3 < R.frames) (hRlocals : (rest.map fun v => v.category).sum + (13 * (names.length + 1) + 43) ≤ R.locals) (hRcells : cells + 1 ≤ R.cells) (hRslots : slots + 6 ≤ R.slots) (hlocks : meth.locks = false)
    (hx : ∀ t : State, s.vm.Alike t.vm → H.size ≤ t.heap.size → (∀ q : Nat, q < H.size → t.heap[q]? = H[q]?) → XC cls s t)
    (hf : ∀ z ∈ locs, free z.base) (hc : cells + 1 ≤ mc) (hs : slots + 6 ≤ ms) :
    W p l e R s m args below meth c H locs cells slots (vx_MQ below Qc XC args s mc ms free) (F0 m pc ls rest) := by
  intro T hT X
  have htr : e.platform.stackTraces = false := (show e.platform.stackTraces = l.stackTraces by rw [X.admits.platform]).trans hl
  have Y := vx_rebase X (R' := { frames := R.frames, locals := R.locals, cells := 1, slots := 6 }) (Nat.le_refl _) (Nat.le_refl _) hRcells hRslots
  obtain ⟨s', hA⟩ : ∃ z, z = (T.setVm s.vm).setFrames (.invoking m args :: below) := ⟨_, rfl⟩
  rw [← hA] at Y
  have hvm : s'.vm = s.vm := by rw [hA]; rfl
  have hhp : s'.heap = H := by rw [hA]; exact hT
  have hW0 : s.WarmedH s'.vm := by rw [hvm]; exact State.WarmedH.refl s
  have hat' : ∀ w ∈ vx_atS own ic cls names, w.before args s' = true := fun w hw => vx_ot_at hW0 hvm.symm (hgood w (List.mem_cons_of_mem _ (List.mem_cons_of_mem _ hw))) (hat w hw)
  have hk' : (Cond.classLink own ik cls).before args s' = true := vx_ot_at hW0 hvm.symm (hgood _ List.mem_cons_self) hk
  have hini' : (Cond.initialized cls).before args s' = true := vx_ot_at hW0 hvm.symm (hgood _ (List.mem_cons_of_mem _ List.mem_cons_self)) hini
  have hU' : vx_Zq Bundle.tN "UNASSIGNED_STACK" Bundle.steD A s' s'.heap := by rw [hhp]; exact vx_Zq.moved hW0.alike (hU.kept hS.2.1)
  have hN' : vx_Zq Bundle.tN "SUPPRESSED_SENTINEL" Bundle.listD A s' s'.heap := by rw [hhp]; exact vx_Zq.moved hW0.alike (hN.kept hS.2.1)
  have h : ∀ w ∈ Bundle.ownAtoms own ic cls names, w.before args s' = true := vx_own hat' (vx_isRefq hU'.1) (vx_isRefq hN'.1) hU'.2.word hN'.2.word
  have hown' : s'.vm.findClass own = some m.cls := by rw [hvm]; exact hown
  have hins : (Cond.instantiable cls 6).before args s' = true := h _ (by simp [Bundle.ownAtoms])
  obtain ⟨vm₁, cX, kX, hfX, hkX, -, -, X₁, st1⟩ := Y.newCold hexec (own := own) (C := cls) (index := ik) (n := 6) hown' hk' hins hini'
    (g := F0 m pc ls rest) rfl (by rw [hb]; exact d0) (Nat.le_refl _) (Nat.le_refl _)
  generalize hT1 : (T.setVm vm₁).pushCell { cls := cX, slots := kX.instanceTypes.map defaultValue, vm := .none } = T1 at X₁ st1
  have hcat : (Value.ref T.heap.size).category = 1 := rfl
  have hcellA : T1.heap[T.heap.size]? = some (freshCell cX kX) := by rw [← hT1]; exact State.heap_pushCell_size _ _
  have d3' : decode c.code (pc + 3) = .ok (.dup, 1) := by rw [hb]; exact d3
  have d4' : decode c.code (pc + 4) = .ok (.ldc_w is, 3) := by rw [hb]; exact d4
  have hstr' : vk_R own is text sa s' := vk_R.warm hW0 hstr
  obtain ⟨U, hsteps, hrun, hend, hW, hsame, ce, hce, hO⟩ := X₁.ctorThrowS hexec htr (own := own) (cls := cls) (names := names) (ic := ic) hown' hcls hnames h (fun x hx => nomatch hx) hfX hkX hcellA (by rw [hhp, hT]; exact Nat.le_refl _) (msg := .ref sa) rfl
    (g := { method := m, pc := pc + 7, locals := ls, stack := .ref sa :: .ref T.heap.size :: .ref T.heap.size :: rest, locked := none }) rfl hsize rfl rfl (rest := rest) rfl
    (by rw [hb]; exact d7) (by rw [hb]; exact d10) hout hRframes (by simp only [List.map_cons, List.sum_cons, hcat]; omega) hlocks
  obtain ⟨f1, f2⟩ := vx_frame hsame
  rw [hhp] at f1 f2
  have hWs : s.WarmedH U.vm := State.WarmedH.trans hW0 hW
  have hcl : s.vm.findClass cls = some ce.cls := by
    have h9 := hO.cls
    rw [hvm] at h9
    exact h9
  have hall : s.sameButNew ({ U with vm := s.vm } : State) locs mc ms := by
    subst hA
    obtain ⟨e1, e2⟩ := hsame
    rw [State.setFrames_setFrames] at e1
    have h2 : (T.setVm s.vm).sameButNew ({ U with vm := s.vm } : State) [] (0 + 1) (0 + 6) := ⟨e1, e2⟩
    have h3 := X.same.trans h2
    rw [List.append_nil] at h3
    exact h3.mono hc hs
  refine ⟨U, ?_, .threw T.heap.size, hrun, hend, Or.inr ⟨T.heap.size, rfl, cls, ce, locs, hx U hWs.alike f1 (fun q hq => f2 q hq (fun z hz => nomatch hz)), hce, hO.vm, hcl, hWs, hall, hf⟩⟩
  refine st1 _ ?_
  show Steps p.tables e below (T1.setTop { method := m, pc := pc + 3, locals := ls, stack := .ref T.heap.size :: rest, locked := none }) _
  jvm_step X₁.here [X₁.here.top, hexec, d3', Value.category]
  exact X₁.ldcStringW hexec (own := own) (text := text) (index := is) (a := sa) hown' hstr'.1 hstr'.2
    (g := { method := m, pc := pc + 4, locals := ls, stack := .ref T.heap.size :: .ref T.heap.size :: rest, locked := none }) rfl d4' _ hsteps
end Ends
section Bodies
variable {l : Launch}
theorem vx_ofW {y : MethodName} {ws ws' : List Cond} {rm : Room} {Pc : Array Value → State → Prop} {Qc : Array Value → State → Outcome → State → Prop} {XC : String → State → State → Prop} {mc ms : Nat} {free : Addr → Prop} {cc : ByteArray} {maxL : Nat} {ret : Option FieldType}
    (hy : plainName y.cls = true) (hw : ws = Cond.code y cc maxL ret :: ws')
    (body : ∀ p e s m args below meth c s₁, BodyLoose p l y (headSpec ws rm) cc maxL ret e s m args below meth c s₁ → c.maxLocals = maxL → (∀ x ∈ c.exceptionTable.toList, False) → Pc args s →
      W p l e (headSpec ws rm).room s m args below meth c s.heap [] 0 0 (vx_MQ below Qc XC args s mc ms free) (entryFrame m args maxL)) : vx_Met l y ws rm Pc Qc XC mc ms free := by
  refine MetFree.of_bodyS (code := cc) (maxLocals := maxL) (ret := ret) hy ?_ ?_
  · intro args s m h hn
    obtain ⟨meth, c, h1, h2, h3, h4, h5, h6, -, -⟩ := Cond.code_spec hn (atoms_spec (ws := ws) h _ (by rw [hw]; exact List.mem_cons_self))
    exact ⟨meth, c, h1, h2, h3, h4, h5, h6⟩
  · intro p e s m args below meth c s₁ B hml hP _
    have hh0 : s₁.heap = s.heap := by rw [B.state]; rfl
    have ht : ∀ x ∈ c.exceptionTable.toList, False := by
      obtain ⟨meth9, c9, h1, h2, -, -, -, -, h7, -⟩ := Cond.code_spec B.named (atoms_spec (ws := ws) B.pre _ (by rw [hw]; exact List.mem_cons_self))
      cases Option.some.inj (h1.symm.trans B.method)
      cases Option.some.inj (h2.symm.trans (Stand.of_body B).code)
      intro x hx
      rw [Array.isEmpty_iff.mp h7] at hx
      cases hx
    obtain ⟨t, a1, o, b1, b2, b3⟩ := body p e s m args below meth c s₁ B hml ht hP s₁ hh0 (Stand.of_body B)
    exact ⟨t, o, a1, b1, b2, b3⟩
/-- the table of a body with handlers -/
theorem vx_table {p : Program} {x y : MethodName} {S : Spec} {cc bytes : ByteArray} {maxL maxL' : Nat} {ret ret' : Option FieldType} {e : Env} {s s₁ : State} {m : MethodId} {args : Array Value} {below : List Frame} {meth : Method} {c : Code} {hh : List (Nat × Nat × Nat × Nat)}
    (B : BodyLoose p l y S cc maxL ret e s m args below meth c s₁) (h : (Cond.codeWith y bytes maxL' ret' hh).before args s = true) : c.exceptionTable.toList = tableOf hh := by
  obtain ⟨m9, meth9, c9, hn9, h1, h2, -, -, h6, -⟩ := Cond.codeWith_spec h
  cases Option.some.inj (hn9.symm.trans B.named)
  cases Option.some.inj (h1.symm.trans B.method)
  cases Option.some.inj (h2.symm.trans (Stand.of_body B).code)
  rw [← h6, table_eq]
end Bodies
end VXA
/-! ===== END ===== -/
/-! ===== BEGIN a static call of a method with an exception table ===== -/
section VXS
variable {p : Program} {l : Launch} {e : Env} {R : Room} {s : State} {m : MethodId} {args : Array Value} {below : List Frame} {meth : Method} {c : Code} {T : State} {H : Heap} {locs : List Loc} {cells slots : Nat}
abbrev vx_CSW (R : Room) (s : State) (args : Array Value) (own : String) (index : Nat) (y : MethodName) (bytes : ByteArray) (maxL : Nat) (ret : Option FieldType) (hh : List (Nat × Nat × Nat × Nat)) (ws : List Cond) (rm : Room) (mc ms n : Nat) : Prop :=
  (rm.cells = mc ∧ rm.slots = ms ∧ rm.frames + 1 ≤ R.frames ∧ 8 + (maxL + 11) + rm.locals ≤ R.locals ∧ (∀ w ∈ ws, ∀ (a' : Array Value) (U : State), s.WarmedH U.vm → w.before a' U = true) ∧ Cond.codeWith y bytes maxL ret hh ∈ ws) ∧
  (Cond.codeWith y bytes maxL ret hh).before args s = true ∧ (Cond.initialized y.cls).before args s = true ∧ (y.cls ≠ "java/lang/invoke/MethodHandle" ∧ y.cls ≠ "java/lang/invoke/VarHandle") ∧
  (∀ sig, parseMethodDescriptor y.desc = some sig → n = sig.parameters.length) ∧ (Cond.methodLink own index y).before args s = true ∧ (Cond.static y).before args s = true
theorem vx_cwSW {own : String} {index maxL mc ms : Nat} {y : MethodName} {bytes : ByteArray} {ret : Option FieldType} {hh : List (Nat × Nat × Nat × Nat)} {Ts ws ws' : List Cond} {rm : Room} (n : Nat) (ht : ∀ w ∈ Ts, w.before args s = true) (hT : GoodIn Ts (va_wsS own index y ws)) (hw : ws = Cond.codeWith y bytes maxL ret hh :: ws') (hrc : rm.cells = mc) (hrs : rm.slots = ms)
    (hd : y.cls ≠ "java/lang/invoke/MethodHandle" ∧ y.cls ≠ "java/lang/invoke/VarHandle" ∧ (parseMethodDescriptor y.desc).map (fun d => d.parameters.length) = some n) (hR : rm.frames + 1 ≤ R.frames ∧ 8 + (maxL + 11) + rm.locals ≤ R.locals) :
    vx_CSW R s args own index y bytes maxL ret hh ws rm mc ms n := by
  have ok : ∀ w ∈ va_wsS own index y ws, w.before args s = true := fun w h => ht w (hT w h).1
  have hG : GoodIn Ts ws := fun w h => hT w (by unfold va_wsS; exact List.mem_append_right _ h)
  have hc : Cond.codeWith y bytes maxL ret hh ∈ ws := by rw [hw]; exact List.mem_cons_self
  refine ⟨⟨hrc, hrs, hR.1, hR.2, pay_in ht hG, hc⟩, ht _ (hG _ hc).1, ok _ (by simp [va_wsS]), ⟨hd.1, hd.2.1⟩, fun sig h => ?_, ok _ (by simp [va_wsS]), ok _ (by simp [va_wsS])⟩
  have h2 := hd.2.2
  rw [h] at h2
  exact (Option.some.inj h2).symm
theorem vx_callSW (X : Stand p l e R s m args below meth c T locs cells slots) (hexec : p.tables.exec = Jvm.exec) {own : String} {index : Nat} {y : MethodName} {bytes : ByteArray} {maxL : Nat} {ret : Option FieldType} {hh : List (Nat × Nat × Nat × Nat)}
    (hown : s.vm.findClass own = some m.cls) (hlink : (Cond.methodLink own index y).before args s = true) (hstat : (Cond.static y).before args s = true) (hinit : (Cond.initialized y.cls).before args s = true)
    (hcode : (Cond.codeWith y bytes maxL ret hh).before args s = true) (hy : y.cls ≠ "java/lang/invoke/MethodHandle" ∧ y.cls ≠ "java/lang/invoke/VarHandle")
    {W9 : Nat} {Pre : Pt → Array Value → Prop} {Post : Pt → Array Value → Option Value → Pt → Prop} (hK : Back l R p e below s args y 3 W9 Pre Post)
    {g : JFrame} (hg : g.method = m) (hsize : g.locals.size = c.maxLocals) {argsL rest : List Value} (hlen : ∀ sig, parseMethodDescriptor y.desc = some sig → argsL.length = sig.parameters.length)
    (hstack : g.stack = argsL.reverse ++ rest) (hW : 2 * g.monitorRoom + (rest.map fun v => v.category).sum ≤ W9) (hdg : decode c.code g.pc = .ok (.invokestatic index, 3))
    (hpre : ∀ vm₁, s.WarmedH vm₁ → Pre ⟨T.setVm vm₁, locs, cells, slots⟩ argsL.toArray) :
    ∃ (v : Option Value) (vm₁ : Vm) (B : Pt), s.WarmedH vm₁ ∧ Stand p l e R s m args below meth c B.U B.locs B.cells B.slots ∧ Post ⟨T.setVm vm₁, locs, cells, slots⟩ argsL.toArray v B ∧
      ∀ target, Steps p.tables e below (B.U.setTop { g with pc := g.pc + 3, stack := v.toList ++ rest }) target → Steps p.tables e below (T.setTop g) target := by
  obtain ⟨mk, methM, cM, hnamed, hmethM, -, -, -, -, -, -, hsigM⟩ := Cond.codeWith_spec hcode
  have hstatic : methM.isStatic = true := Cond.static_spec hnamed hmethM hstat
  obtain ⟨kP, hkP, -⟩ := className_of_methodNamed hnamed
  have hinitP : kP.init = .initialized := Cond.initialized_spec (findClass_of_methodNamed hnamed) hkP hinit
  obtain ⟨vm₁, X₁, hstep₁⟩ := X.invokestatic hexec hown hlink hnamed hmethM hstatic hkP hinitP hy (g := g) hg (argsL := argsL) (rest := rest) (hlen _ hsigM) hstack hdg
  obtain ⟨v, B, X', hpost, hsteps⟩ := hK m meth c ⟨T.setVm vm₁, locs, cells, slots⟩ { g with stack := rest } (.invokestatic index) mk argsL.toArray X₁ hg hsize hdg hW (X₁.named hnamed) (hpre vm₁ X₁.warmed)
  exact ⟨v, vm₁, B, X₁.warmed, X', hpost, fun target h => hstep₁ _ fun acts => by rw [doInvoke_state]; exact hsteps.trans h⟩
theorem vx_runSW {y : MethodName} {bytes cc : ByteArray} {maxL nL mc ms n index : Nat} {ret : Option FieldType} {hh : List (Nat × Nat × Nat × Nat)} {ws : List Cond} {rm : Room} {Pc : Array Value → State → Prop} {Qc : Array Value → State → Outcome → State → Prop} {free : Addr → Prop} {Ts : List Cond} {own : String} {As rest : List Value} {g : JFrame}
    (S : CallFix p m c cc nL s args Ts own) (hM : Met l y ws rm Pc Qc mc ms free) (cw : vx_CSW R s args own index y bytes maxL ret hh ws rm mc ms n) (hp : PreS s H Pc As)
    (hg : g.method = m) (hn : As.length = n) (hsize : g.locals.size = nL) (hstack : g.stack = As.reverse ++ rest) (hW : 2 * g.monitorRoom + (rest.map fun v => v.category).sum ≤ 8) (hdg : decode cc g.pc = .ok (.invokestatic index, 3)) (hf : cells + mc ≤ R.cells ∧ slots + ms ≤ R.slots) :
    va_Run p l e R s m args below meth c H locs cells slots mc ms g rest (Qc As.toArray) (free) := by
  obtain ⟨⟨hrc, hrs, hfr, hlo, hws, hcw⟩, hcode, hini, hy, hlen, hl, hstt⟩ := cw
  have hK : Back l R p e below s args y 3 8 (PreOf R mc ms Pc) (PostOf Qc mc ms free) := va_backW (hh := hh) (bytes := bytes) (maxL := maxL) (ret := ret) hM hp.1 hrc hrs hfr hlo hws hcw (fun a' U hW => word_at hW (Or.inl (by first | rfl | simp [Cond.onTables, Cond.keeps, Cond.steady])) hini)
  obtain ⟨hx, hb, hml, ho, -⟩ := S
  intro T hT X
  obtain ⟨v, vm₁, ⟨U', l2, c2, s2⟩, hW₁, X', ⟨g', mk, t, L, e1, e2, hq, h1, hL, h2, h3⟩, st⟩ := vx_callSW X hx (hh := hh) (bytes := bytes) (maxL := maxL) (ret := ret) ho hl hstt hini hcode hy hK hg (hsize.trans hml.symm) (argsL := As) (rest := rest) (fun sig h => hn.trans (hlen sig h)) hstack hW (by rw [hb]; exact hdg)
    (fun vm₁ hW₁ => ⟨hf.1, hf.2, hp.2 (T.setVm vm₁) hT hW₁⟩)
  dsimp only [Pt.U, Pt.locs, Pt.cells, Pt.slots] at X' e1 e2 h1 h2 h3 st
  subst h1; subst h2; subst h3
  exact ⟨v, (T.setVm vm₁).calling g' mk As.toArray, t, U', L, hT, X', hL, e1, e2, hq, st⟩
/-- not caught here, past rows that name other classes: it goes on to the caller -/
theorem vx_outP {p : Program} {l : Launch} {e : Env} {R : Room} {s : State} {m : MethodId} {args : Array Value} {below : List Frame} {meth : Method} {c : Code} {H : Heap} {locs : List Loc} {cells slots : Nat} {free : Addr → Prop} {ls : Array Slot} {rest : List Value} {Qc : Array Value → State → Outcome → State → Prop} {XC : String → State → State → Prop}
    {pc : Nat} {own E : String} {ce : Cell} {q : Addr} {mc ms : Nat} (hown : s.vm.findClass own = some m.cls) (hlocks : meth.locks = false)
    (hpass : ∀ z ∈ c.exceptionTable.toList, covers z pc = false ∨ (z.catchType ≠ 0 ∧ ∃ nm : String, (Cond.classLink own z.catchType nm).before args s = true ∧ va_Nc E nm s)) (hcell : H[q]? = some ce) (hv : ce.vm = .none) (hcl : s.vm.findClass E = some ce.cls)
    (hx : ∀ t : State, t.heap = H → s.vm.Alike t.vm → XC E s t) (hf : ∀ z ∈ locs, free z.base) (hc : cells ≤ mc) (hs : slots ≤ ms) :
    vx_W p l e R s m args below meth c H locs cells slots (vx_MQ below Qc XC args s mc ms free) (F0 m pc ls rest) q := by
  intro T hT X
  have hpl : e.platform.magicAccessors = ({} : Platform).magicAccessors := by rw [X.admits.platform]
  obtain ⟨vm', hW', X', st⟩ := X.outThrough hlocks q (g := F0 m pc ls rest) rfl rfl rfl (cell := ce) (by rw [hT]; exact hcell) (by rw [hv]; rfl)
    (by obtain ⟨k9, h9, -⟩ := Vm.findClass_spec hcl; exact ⟨k9, h9⟩) (fun z hz => by
      rcases hpass z hz with h | ⟨hz0, nm, hl1, hn1⟩
      · exact Or.inl h
      · obtain ⟨c6, hc6, hcl6⟩ := Cond.classLink_spec hown hl1 e.platform hpl
        obtain ⟨a8, b8, h1, h2, h3⟩ := hn1
        cases Option.some.inj (h1.symm.trans hcl)
        cases Option.some.inj (h2.symm.trans hc6)
        exact Or.inr ⟨hz0, _, hcl6, h3⟩)
  obtain ⟨g₀, hfr⟩ := X'.frames_eq
  have hcell9 : ((T.setVm vm').setFrames (.throwing q :: below)).heap[q]? = some ce := by
    show T.heap[q]? = some ce
    rw [hT]; exact hcell
  have hend : Ended ((T.setVm vm').setFrames (.throwing q :: below)) below (.threw q) := State.frames_setFrames _ (State.cur_lt_of_frames hfr)
  refine ⟨(T.setVm vm').setFrames (.throwing q :: below), ?_, .threw q, X'.here.running, hend, Or.inr ⟨q, rfl, E, ce, locs, hx _ hT (X'.ends _).1.alike, hcell9, hv, hcl, (X'.ends _).1, (X'.ends _).2.mono hc hs, hf⟩⟩
  rw [X.pushThrowing_eq]
  exact st
/-- a thing of a world lies in the heap -/
theorem vx_lt {D : va_G} {cl : List vw_C} {ws : va_W} {H1 : Heap} (h : va_P D cl ws H1) {k : Nat} {q : Nat × va_E} (hk : ws[k]? = some q) : q.1 < H1.size := (h k q hk).lt
end VXS
/-! ===== END ===== -/
/-! ===== BEGIN methods with a table of their own: called by a name, returning or throwing ===== -/
section VXH
/-! vx_backW, vx_callVX, vx_callSX, vx_callVW, vx_runVW, vx_runVX, vx_runSX, vx_ofWH follow the same proofs as their sisters above (Free/Laws.lean, Shelf42/LK1.lean); vx_outP calls Shelf42/NT130.lean (outThrough). -/
section
variable {l : Launch} {R : Room} {p : Program} {e : Env} {below : List Frame} {s : State} {sargs : Array Value} {y : MethodName} {len W9 : Nat}
theorem vx_backW {ws : List Cond} {rm : Room} {Pc : Array Value → State → Prop} {Qc : Array Value → State → Outcome → State → Prop} {XC : String → State → State → Prop} {mc ms : Nat} {free : Addr → Prop} {bytes : ByteArray} {maxL : Nat} {ret : Option FieldType} {hh : List (Nat × Nat × Nat × Nat)}
    (hM : vx_Met l y ws rm Pc Qc XC mc ms free) (hblind : FrameBlind Pc) (hrc : rm.cells = mc) (hrs : rm.slots = ms)
    (hframes : rm.frames + 1 ≤ R.frames) (hlocals : W9 + (maxL + 11) + rm.locals ≤ R.locals)
    (hws : ∀ w ∈ ws, ∀ a' U, s.WarmedH U.vm → w.before a' U = true) (hcode : Cond.codeWith y bytes maxL ret hh ∈ ws) (hinit : ∀ a' U, s.WarmedH U.vm → (Cond.initialized y.cls).before a' U = true) :
    vx_Back l R p e below s sargs y len W9 (PreOf R mc ms Pc) (PostOf Qc mc ms free) (vx_Post XC mc ms free) := by
  intro m meth c A g ig mk a X hg hsize hdg hW hn hp
  have h1 : (headSpec ws rm).pre.before a A.U = true := atoms_intro fun w hw => hws w hw _ _ X.warmed
  have h2 : (Cond.codeWith y bytes maxL ret hh).before a A.U = true := hws _ hcode _ _ X.warmed
  have h3 : (Cond.initialized y.cls).before a A.U = true := hinit _ _ X.warmed
  have h4 : A.cells + (headSpec ws rm).room.cells ≤ R.cells := by rw [show (headSpec ws rm).room.cells = mc from hrc]; exact hp.1
  have h5 : A.slots + (headSpec ws rm).room.slots ≤ R.slots := by rw [show (headSpec ws rm).room.slots = ms from hrs]; exact hp.2.1
  have hPc : Pc a (A.U.calling g mk a) := hblind _ _ _ _ hp.2.2
  obtain ⟨U, Ls, c0, s0⟩ := A
  dsimp only [Pt.U, Pt.locs, Pt.cells, Pt.slots] at h1 h2 h3 h4 h5 X hn hPc ⊢
  obtain ⟨m9, methY, cY, hn9, hmY, hcY, -, hlY, -⟩ := Cond.codeWith_spec h2
  cases Option.some.inj (hn9.symm.trans hn)
  obtain ⟨kY, hkY, -⟩ := className_of_methodNamed hn
  have hinitY : kY.init = .initialized := Cond.initialized_spec (findClass_of_methodNamed hn) hkY h3
  have h : At U g.method c below := by rw [hg]; exact X.here
  have hlocals9 : W9 + (maxL + 11) + (headSpec ws rm).room.locals ≤ R.locals := hlocals
  have happ : (headSpec ws rm).appliesLoose y e.platform (U.calling g mk a) = true :=
    Spec.appliesLoose_calling (g := g) h hdg hn hkY hinitY
      (X.room_calling (g := g) (R' := (headSpec ws rm).room) hsize hmY hcY hframes (by rw [hlY]; omega) h4 h5) h1
  obtain ⟨mid, hmid⟩ := h.above
  have hfr : (U.setTop g).frames = (.java g :: mid) ++ below := by rw [State.frames_setTop' g h.top, hmid]; rfl
  obtain ⟨o, s₂, hsteps, -, hend, hq⟩ := Steps.callFree hM p X.admits X.cas X.clock (acts := []) hfr happ hPc trivial
  have hq' : vx_Q Qc XC mc ms free a (U.calling g mk a) o s₂ := hq
  rw [State.frames_setTop' g h.top] at hend
  obtain ⟨g₀, hg0⟩ := Option.isSome_iff_exists.mp h.top
  obtain ⟨r, hr⟩ := State.topJava?_eq_some.mp hg0
  have hr' : (({ U with heap := s₂.heap, slotsUsed := s₂.slotsUsed } : State).setVm s₂.vm).frames = .java g₀ :: r := hr
  rcases hq' with ⟨hqc, L, hfe, hL⟩ | ⟨q, rfl, E, ce, L, hx, hce, hcv, hcl, hW₂, hsm, hL⟩
  · obtain ⟨⟨v, rfl⟩, hW₂, e2, q2, q3, q4, q5, q6⟩ := id hfe
    have e3 : s₂ = ({ (U.calling g mk a).setFrames s₂.frames with heap := s₂.heap, slotsUsed := s₂.slotsUsed } : State).setVm s₂.vm := by
      have : s₂ = ({ s₂ with vm := (U.calling g mk a).vm } : State).setVm s₂.vm := rfl
      rw [e2] at this
      exact this
    obtain ⟨c₂, i₂, len₂, hc₂, hd₂, hf₂⟩ := hend
    have hW' : U.WarmedH s₂.vm := hW₂
    have hcc : c₂ = c := by
      have h1 : s₂.code? g.method = U.code? g.method := by
        rw [State.code?_eq, State.code?_eq, hW'.alike.method?]
      exact Option.some.inj (hc₂.symm.trans (h1.trans h.code))
    subst hcc
    have hlen : len₂ = len := by rw [hdg] at hd₂; cases hd₂; rfl
    subst hlen
    have hs₂ : s₂ = (({ U with heap := s₂.heap, slotsUsed := s₂.slotsUsed } : State).setVm s₂.vm).setTop { g with pc := g.pc + len₂, stack := v.toList ++ g.stack } := by
      refine e3.trans ?_
      rw [hf₂, State.calling_eq h.top, State.setFrames_setFrames, State.setTop_of_frames _ hr', hr]
      rfl
    have hsame : U.sameButNew ({ U with heap := s₂.heap, slotsUsed := s₂.slotsUsed } : State) L mc ms := by
      refine ⟨?_, q2, q3, q4, q5, q6⟩
      obtain ⟨t, ht, -⟩ := State.frames_cons hr
      show ({ U with heap := s₂.heap, slotsUsed := s₂.slotsUsed } : State) = { U.setFrames U.frames with heap := s₂.heap, slotsUsed := s₂.slotsUsed }
      rw [State.setFrames_self ht]
    subst hg
    refine Or.inl ⟨v, ⟨(({ U with heap := s₂.heap, slotsUsed := s₂.slotsUsed } : State).setVm s₂.vm), Ls ++ L, c0 + mc, s0 + ms⟩,
      ⟨X.admits, X.cas, X.clock, X.frames, X.room, X.hears, X.method, X.code, (X.here.setHeapUsed s₂.heap s₂.slotsUsed).setVm hW'.alike, X.tail, State.WarmedH.trans X.warmed hW', X.limits, X.bytes, X.same.trans (hsame.setVm s.vm)⟩,
      ⟨g, mk, s₂, L, rfl, rfl, hqc, rfl, hL, rfl, rfl⟩, ?_⟩
    show Steps p.tables e below _ ((({ U with heap := s₂.heap, slotsUsed := s₂.slotsUsed } : State).setVm s₂.vm).setTop { g with pc := g.pc + len₂, stack := v.toList ++ g.stack })
    rw [← hs₂]
    exact hsteps
  · obtain ⟨e2, q2, q3, q4, q5, q6⟩ := id hsm
    have e3 : s₂ = ({ (U.calling g mk a).setFrames s₂.frames with heap := s₂.heap, slotsUsed := s₂.slotsUsed } : State).setVm s₂.vm := by
      have : s₂ = ({ s₂ with vm := (U.calling g mk a).vm } : State).setVm s₂.vm := rfl
      rw [e2] at this
      exact this
    have hf₂ : s₂.frames = .throwing q :: .java g :: U.frames.tail := hend
    have hW' : U.WarmedH s₂.vm := hW₂
    have hs₂ : s₂ = ((({ U with heap := s₂.heap, slotsUsed := s₂.slotsUsed } : State).setVm s₂.vm).setTop g).pushFrame (.throwing q) := by
      refine e3.trans ?_
      rw [hf₂, State.calling_eq h.top, State.setFrames_setFrames, State.pushFrame, State.frames_setTop _ hr', State.setTop_of_frames _ hr', State.setFrames_setFrames, hr]
      rfl
    have hsame : U.sameButNew ({ U with heap := s₂.heap, slotsUsed := s₂.slotsUsed } : State) L mc ms := by
      refine ⟨?_, q2, q3, q4, q5, q6⟩
      obtain ⟨t, ht, -⟩ := State.frames_cons hr
      show ({ U with heap := s₂.heap, slotsUsed := s₂.slotsUsed } : State) = { U.setFrames U.frames with heap := s₂.heap, slotsUsed := s₂.slotsUsed }
      rw [State.setFrames_self ht]
    subst hg
    refine Or.inr ⟨q, ⟨(({ U with heap := s₂.heap, slotsUsed := s₂.slotsUsed } : State).setVm s₂.vm), Ls ++ L, c0 + mc, s0 + ms⟩,
      ⟨X.admits, X.cas, X.clock, X.frames, X.room, X.hears, X.method, X.code, (X.here.setHeapUsed s₂.heap s₂.slotsUsed).setVm hW'.alike, X.tail, State.WarmedH.trans X.warmed hW', X.limits, X.bytes, X.same.trans (hsame.setVm s.vm)⟩,
      ⟨g, mk, s₂, L, E, ce, rfl, rfl, hx, hce, hcv, hcl, rfl, hL, rfl, rfl⟩, ?_⟩
    show Steps p.tables e below _ (((({ U with heap := s₂.heap, slotsUsed := s₂.slotsUsed } : State).setVm s₂.vm).setTop g).pushFrame (.throwing q))
    rw [← hs₂]
    exact hsteps
end
variable {p : Program} {l : Launch} {e : Env} {R : Room} {s : State} {m : MethodId} {args : Array Value} {below : List Frame} {meth : Method} {c : Code} {T : State} {H : Heap} {locs : List Loc} {cells slots : Nat}
theorem vx_callVX (X : Stand p l e R s m args below meth c T locs cells slots) (hexec : p.tables.exec = Jvm.exec) {own C : String} {index : Nat} {y : MethodName} {bytes : ByteArray} {maxL : Nat} {ret : Option FieldType} {hh : List (Nat × Nat × Nat × Nat)}
    (hown : s.vm.findClass own = some m.cls) (hlink : (Cond.methodLink own index y).before args s = true) (hinst : (Cond.instanceMethod y).before args s = true) (hsel : (Cond.selects C y y).before args s = true)
    (hcode : (Cond.codeWith y bytes maxL ret hh).before args s = true) (hy : y.cls ≠ "java/lang/invoke/MethodHandle" ∧ y.cls ≠ "java/lang/invoke/VarHandle")
    {W9 : Nat} {Pre : Pt → Array Value → Prop} {Post : Pt → Array Value → Option Value → Pt → Prop} {PostX : Pt → Array Value → Addr → Pt → Prop} (hK : vx_Back l R p e below s args y 3 W9 Pre Post PostX)
    {b : Addr} {cellB : Cell} (hcell : T.heap[b]? = some cellB) (hobj : cellB.vm.isStatics = false) (hcls : s.vm.findClass C = some cellB.cls)
    {g : JFrame} (hg : g.method = m) (hsize : g.locals.size = c.maxLocals) {argsL rest : List Value} (hlen : ∀ sig, parseMethodDescriptor y.desc = some sig → argsL.length = sig.parameters.length)
    (hstack : g.stack = argsL.reverse ++ .ref b :: rest) (hW : 2 * g.monitorRoom + (rest.map fun v => v.category).sum ≤ W9) (hdg : decode c.code g.pc = .ok (.invokevirtual index, 3))
    (hpre : ∀ vm₁, s.WarmedH vm₁ → Pre ⟨T.setVm vm₁, locs, cells, slots⟩ (Value.ref b :: argsL).toArray) :
    (∃ (v : Option Value) (vm₁ : Vm) (B : Pt), s.WarmedH vm₁ ∧ Stand p l e R s m args below meth c B.U B.locs B.cells B.slots ∧ Post ⟨T.setVm vm₁, locs, cells, slots⟩ (Value.ref b :: argsL).toArray v B ∧
      ∀ target, Steps p.tables e below (B.U.setTop { g with pc := g.pc + 3, stack := v.toList ++ rest }) target → Steps p.tables e below (T.setTop g) target) ∨
    (∃ (q : Addr) (vm₁ : Vm) (B : Pt), s.WarmedH vm₁ ∧ Stand p l e R s m args below meth c B.U B.locs B.cells B.slots ∧ PostX ⟨T.setVm vm₁, locs, cells, slots⟩ (Value.ref b :: argsL).toArray q B ∧
      Steps p.tables e below (T.setTop g) ((B.U.setTop { g with stack := rest }).pushFrame (.throwing q))) := by
  obtain ⟨mk, methM, hnamed, hmethM, hstM, habM⟩ := Cond.instanceMethod_spec hinst
  obtain ⟨m8, methM', cM, hn8, hmethM', -, -, -, -, -, -, hsigM⟩ := Cond.codeWith_spec hcode
  cases Option.some.inj (hn8.symm.trans hnamed)
  cases hmethM.symm.trans hmethM'
  obtain ⟨c2, r2, m2, q1, q2, q3, q4, kP, hkP, hkPi⟩ := Cond.selects_spec hsel
  cases hcls.symm.trans q1
  cases (State.methodFound?_of_named hnamed hy).symm.trans q2
  cases hnamed.symm.trans q3
  have hselP : selectMethod e.platform s.vm cellB.cls mk = .method mk := by rw [Launch.admits_selectMethod X.admits]; exact q4
  obtain ⟨vm₁, X₁, hstep₁⟩ := X.invokevirtual hexec hown hlink hnamed hmethM hstM hkP hkPi hy (a := b) (cell := cellB) hcell
    (fun z h => by rw [h] at hobj; cases hobj) hselP hmethM habM hkP hkPi (g := g) hg (argsL := argsL) (rest := rest) (hlen _ hsigM) hstack hdg
  rcases hK m meth c ⟨T.setVm vm₁, locs, cells, slots⟩ { g with stack := rest } (.invokevirtual index) mk (Value.ref b :: argsL).toArray X₁ hg hsize hdg hW (X₁.named hnamed) (hpre vm₁ X₁.warmed) with ⟨v, B, X', hpost, hsteps⟩ | ⟨q, B, X', hpost, hsteps⟩
  · exact Or.inl ⟨v, vm₁, B, X₁.warmed, X', hpost, fun target h => hstep₁ _ fun acts => by rw [doInvoke_state]; exact hsteps.trans h⟩
  · exact Or.inr ⟨q, vm₁, B, X₁.warmed, X', hpost, hstep₁ _ fun acts => by rw [doInvoke_state]; exact hsteps⟩
theorem vx_callSX (X : Stand p l e R s m args below meth c T locs cells slots) (hexec : p.tables.exec = Jvm.exec) {own : String} {index : Nat} {y : MethodName} {bytes : ByteArray} {maxL : Nat} {ret : Option FieldType} {hh : List (Nat × Nat × Nat × Nat)}
    (hown : s.vm.findClass own = some m.cls) (hlink : (Cond.methodLink own index y).before args s = true) (hstat : (Cond.static y).before args s = true) (hinit : (Cond.initialized y.cls).before args s = true)
    (hcode : (Cond.codeWith y bytes maxL ret hh).before args s = true) (hy : y.cls ≠ "java/lang/invoke/MethodHandle" ∧ y.cls ≠ "java/lang/invoke/VarHandle")
    {W9 : Nat} {Pre : Pt → Array Value → Prop} {Post : Pt → Array Value → Option Value → Pt → Prop} {PostX : Pt → Array Value → Addr → Pt → Prop} (hK : vx_Back l R p e below s args y 3 W9 Pre Post PostX)
    {g : JFrame} (hg : g.method = m) (hsize : g.locals.size = c.maxLocals) {argsL rest : List Value} (hlen : ∀ sig, parseMethodDescriptor y.desc = some sig → argsL.length = sig.parameters.length)
    (hstack : g.stack = argsL.reverse ++ rest) (hW : 2 * g.monitorRoom + (rest.map fun v => v.category).sum ≤ W9) (hdg : decode c.code g.pc = .ok (.invokestatic index, 3))
    (hpre : ∀ vm₁, s.WarmedH vm₁ → Pre ⟨T.setVm vm₁, locs, cells, slots⟩ argsL.toArray) :
    (∃ (v : Option Value) (vm₁ : Vm) (B : Pt), s.WarmedH vm₁ ∧ Stand p l e R s m args below meth c B.U B.locs B.cells B.slots ∧ Post ⟨T.setVm vm₁, locs, cells, slots⟩ argsL.toArray v B ∧
      ∀ target, Steps p.tables e below (B.U.setTop { g with pc := g.pc + 3, stack := v.toList ++ rest }) target → Steps p.tables e below (T.setTop g) target) ∨
    (∃ (q : Addr) (vm₁ : Vm) (B : Pt), s.WarmedH vm₁ ∧ Stand p l e R s m args below meth c B.U B.locs B.cells B.slots ∧ PostX ⟨T.setVm vm₁, locs, cells, slots⟩ argsL.toArray q B ∧
      Steps p.tables e below (T.setTop g) ((B.U.setTop { g with stack := rest }).pushFrame (.throwing q))) := by
  obtain ⟨mk, methM, cM, hnamed, hmethM, -, -, -, -, -, -, hsigM⟩ := Cond.codeWith_spec hcode
  have hstatic : methM.isStatic = true := Cond.static_spec hnamed hmethM hstat
  obtain ⟨kP, hkP, -⟩ := className_of_methodNamed hnamed
  have hinitP : kP.init = .initialized := Cond.initialized_spec (findClass_of_methodNamed hnamed) hkP hinit
  obtain ⟨vm₁, X₁, hstep₁⟩ := X.invokestatic hexec hown hlink hnamed hmethM hstatic hkP hinitP hy (g := g) hg (argsL := argsL) (rest := rest) (hlen _ hsigM) hstack hdg
  rcases hK m meth c ⟨T.setVm vm₁, locs, cells, slots⟩ { g with stack := rest } (.invokestatic index) mk argsL.toArray X₁ hg hsize hdg hW (X₁.named hnamed) (hpre vm₁ X₁.warmed) with ⟨v, B, X', hpost, hsteps⟩ | ⟨q, B, X', hpost, hsteps⟩
  · exact Or.inl ⟨v, vm₁, B, X₁.warmed, X', hpost, fun target h => hstep₁ _ fun acts => by rw [doInvoke_state]; exact hsteps.trans h⟩
  · exact Or.inr ⟨q, vm₁, B, X₁.warmed, X', hpost, hstep₁ _ fun acts => by rw [doInvoke_state]; exact hsteps⟩
theorem vx_callVW (X : Stand p l e R s m args below meth c T locs cells slots) (hexec : p.tables.exec = Jvm.exec) {own C : String} {index : Nat} {y : MethodName} {bytes : ByteArray} {maxL : Nat} {ret : Option FieldType} {hh : List (Nat × Nat × Nat × Nat)}
    (hown : s.vm.findClass own = some m.cls) (hlink : (Cond.methodLink own index y).before args s = true) (hinst : (Cond.instanceMethod y).before args s = true) (hsel : (Cond.selects C y y).before args s = true)
    (hcode : (Cond.codeWith y bytes maxL ret hh).before args s = true) (hy : y.cls ≠ "java/lang/invoke/MethodHandle" ∧ y.cls ≠ "java/lang/invoke/VarHandle")
    {W9 : Nat} {Pre : Pt → Array Value → Prop} {Post : Pt → Array Value → Option Value → Pt → Prop} (hK : Back l R p e below s args y 3 W9 Pre Post)
    {b : Addr} {cellB : Cell} (hcell : T.heap[b]? = some cellB) (hobj : cellB.vm.isStatics = false) (hcls : s.vm.findClass C = some cellB.cls)
    {g : JFrame} (hg : g.method = m) (hsize : g.locals.size = c.maxLocals) {argsL rest : List Value} (hlen : ∀ sig, parseMethodDescriptor y.desc = some sig → argsL.length = sig.parameters.length)
    (hstack : g.stack = argsL.reverse ++ .ref b :: rest) (hW : 2 * g.monitorRoom + (rest.map fun v => v.category).sum ≤ W9) (hdg : decode c.code g.pc = .ok (.invokevirtual index, 3))
    (hpre : ∀ vm₁, s.WarmedH vm₁ → Pre ⟨T.setVm vm₁, locs, cells, slots⟩ (Value.ref b :: argsL).toArray) :
    ∃ (v : Option Value) (vm₁ : Vm) (B : Pt), s.WarmedH vm₁ ∧ Stand p l e R s m args below meth c B.U B.locs B.cells B.slots ∧ Post ⟨T.setVm vm₁, locs, cells, slots⟩ (Value.ref b :: argsL).toArray v B ∧
      ∀ target, Steps p.tables e below (B.U.setTop { g with pc := g.pc + 3, stack := v.toList ++ rest }) target → Steps p.tables e below (T.setTop g) target := by
  obtain ⟨mk, methM, hnamed, hmethM, hstM, habM⟩ := Cond.instanceMethod_spec hinst
  obtain ⟨m8, methM', cM, hn8, hmethM', -, -, -, -, -, -, hsigM⟩ := Cond.codeWith_spec hcode
  cases Option.some.inj (hn8.symm.trans hnamed)
  cases hmethM.symm.trans hmethM'
  obtain ⟨c2, r2, m2, q1, q2, q3, q4, kP, hkP, hkPi⟩ := Cond.selects_spec hsel
  cases hcls.symm.trans q1
  cases (State.methodFound?_of_named hnamed hy).symm.trans q2
  cases hnamed.symm.trans q3
  have hselP : selectMethod e.platform s.vm cellB.cls mk = .method mk := by rw [Launch.admits_selectMethod X.admits]; exact q4
  obtain ⟨vm₁, X₁, hstep₁⟩ := X.invokevirtual hexec hown hlink hnamed hmethM hstM hkP hkPi hy (a := b) (cell := cellB) hcell
    (fun z h => by rw [h] at hobj; cases hobj) hselP hmethM habM hkP hkPi (g := g) hg (argsL := argsL) (rest := rest) (hlen _ hsigM) hstack hdg
  obtain ⟨v, B, X', hpost, hsteps⟩ := hK m meth c ⟨T.setVm vm₁, locs, cells, slots⟩ { g with stack := rest } (.invokevirtual index) mk (Value.ref b :: argsL).toArray X₁ hg hsize hdg hW (X₁.named hnamed) (hpre vm₁ X₁.warmed)
  exact ⟨v, vm₁, B, X₁.warmed, X', hpost, fun target h => hstep₁ _ fun acts => by rw [doInvoke_state]; exact hsteps.trans h⟩
abbrev vx_CVW (R : Room) (s : State) (args : Array Value) (own C : String) (index : Nat) (y : MethodName) (bytes : ByteArray) (maxL : Nat) (ret : Option FieldType) (hh : List (Nat × Nat × Nat × Nat)) (ws : List Cond) (rm : Room) (mc ms n : Nat) : Prop :=
  (rm.cells = mc ∧ rm.slots = ms ∧ rm.frames + 1 ≤ R.frames ∧ 8 + (maxL + 11) + rm.locals ≤ R.locals ∧ (∀ w ∈ ws, ∀ (a' : Array Value) (U : State), s.WarmedH U.vm → w.before a' U = true) ∧ Cond.codeWith y bytes maxL ret hh ∈ ws) ∧
  (Cond.codeWith y bytes maxL ret hh).before args s = true ∧ (Cond.initialized y.cls).before args s = true ∧ (y.cls ≠ "java/lang/invoke/MethodHandle" ∧ y.cls ≠ "java/lang/invoke/VarHandle") ∧
  (∀ sig, parseMethodDescriptor y.desc = some sig → n = sig.parameters.length) ∧ (Cond.methodLink own index y).before args s = true ∧ (Cond.instanceMethod y).before args s = true ∧ (Cond.selects C y y).before args s = true
theorem vx_cwVW {own C : String} {index maxL mc ms : Nat} {y : MethodName} {bytes : ByteArray} {ret : Option FieldType} {hh : List (Nat × Nat × Nat × Nat)} {Ts ws ws' : List Cond} {rm : Room} (n : Nat) (ht : ∀ w ∈ Ts, w.before args s = true) (hT : GoodIn Ts (wsV own index C y ws)) (hw : ws = Cond.codeWith y bytes maxL ret hh :: ws') (hrc : rm.cells = mc) (hrs : rm.slots = ms)
    (hd : y.cls = C ∧ y.cls ≠ "java/lang/invoke/MethodHandle" ∧ y.cls ≠ "java/lang/invoke/VarHandle" ∧ (parseMethodDescriptor y.desc).map (fun d => d.parameters.length) = some n) (hR : rm.frames + 1 ≤ R.frames ∧ 8 + (maxL + 11) + rm.locals ≤ R.locals) :
    vx_CVW R s args own C index y bytes maxL ret hh ws rm mc ms n := by
  obtain ⟨hC, hd⟩ := hd
  subst hC
  have ok : ∀ w ∈ wsV own index y.cls y ws, w.before args s = true := fun w h => ht w (hT w h).1
  have hG : GoodIn Ts ws := fun w h => hT w (by unfold wsV; exact List.mem_append_right _ h)
  have hc : Cond.codeWith y bytes maxL ret hh ∈ ws := by rw [hw]; exact List.mem_cons_self
  refine ⟨⟨hrc, hrs, hR.1, hR.2, pay_in ht hG, hc⟩, ht _ (hG _ hc).1, ok _ (by simp [wsV]), ⟨hd.1, hd.2.1⟩, fun sig h => ?_, ok _ (by simp [wsV]), ok _ (by simp [wsV]), ok _ (by simp [wsV])⟩
  have h2 := hd.2.2
  rw [h] at h2
  exact (Option.some.inj h2).symm
theorem vx_runVW {y : MethodName} {bytes cc : ByteArray} {maxL nL mc ms n index : Nat} {ret : Option FieldType} {hh : List (Nat × Nat × Nat × Nat)} {ws : List Cond} {rm : Room} {Pc : Array Value → State → Prop} {Qc : Array Value → State → Outcome → State → Prop} {free : Addr → Prop} {Ts : List Cond} {own C : String} {b : Addr} {As rest : List Value} {g : JFrame}
    (S : CallFix p m c cc nL s args Ts own) (hM : Met l y ws rm Pc Qc mc ms free) (cw : vx_CVW R s args own C index y bytes maxL ret hh ws rm mc ms n) (hp : PreV s H C b Pc As)
    (hg : g.method = m) (hn : As.length = n) (hsize : g.locals.size = nL) (hstack : g.stack = As.reverse ++ .ref b :: rest) (hW : 2 * g.monitorRoom + (rest.map fun v => v.category).sum ≤ 8) (hdg : decode cc g.pc = .ok (.invokevirtual index, 3)) (hf : cells + mc ≤ R.cells ∧ slots + ms ≤ R.slots) :
    va_Run p l e R s m args below meth c H locs cells slots mc ms g rest (Qc (Value.ref b :: As).toArray) free := by
  obtain ⟨⟨hrc, hrs, hfr, hlo, hws, hcw⟩, hcode, hini, hy, hlen, hl, hin, hse⟩ := cw
  have hK : Back l R p e below s args y 3 8 (PreOf R mc ms Pc) (PostOf Qc mc ms free) := va_backW (hh := hh) (bytes := bytes) (maxL := maxL) (ret := ret) hM hp.1 hrc hrs hfr hlo hws hcw (fun a' U hW => word_at hW (Or.inl (by first | rfl | simp [Cond.onTables, Cond.keeps, Cond.steady])) hini)
  obtain ⟨hx, hb, hml, ho, -⟩ := S
  obtain ⟨-, ⟨cellB, hcB, hoB, hclB⟩, hPc⟩ := hp
  intro T hT X
  obtain ⟨v, vm₁, ⟨U', l2, c2, s2⟩, hW₁, X', ⟨g', mk, t, L, e1, e2, hq, h1, hL, h2, h3⟩, st⟩ := vx_callVW X hx (C := C) (hh := hh) (bytes := bytes) (maxL := maxL) (ret := ret) ho hl hin hse hcode hy hK (by rw [hT]; exact hcB) hoB hclB hg (hsize.trans hml.symm) (argsL := As) (rest := rest) (fun sig h => hn.trans (hlen sig h)) hstack hW (by rw [hb]; exact hdg)
    (fun vm₁ hW₁ => ⟨hf.1, hf.2, hPc (T.setVm vm₁) hT hW₁⟩)
  dsimp only [Pt.U, Pt.locs, Pt.cells, Pt.slots] at X' e1 e2 h1 h2 h3 st
  subst h1; subst h2; subst h3
  exact ⟨v, (T.setVm vm₁).calling g' mk (Value.ref b :: As).toArray, t, U', L, hT, X', hL, e1, e2, hq, st⟩
section
variable {y : MethodName} {bytes cc : ByteArray} {maxL nL mc ms n index : Nat} {ret : Option FieldType} {ws : List Cond} {rm : Room} {Pc : Array Value → State → Prop} {Qc : Array Value → State → Outcome → State → Prop} {XC : String → State → State → Prop} {free : Addr → Prop} {Ts : List Cond} {own C : String} {b : Addr} {As rest : List Value} {g : JFrame}
theorem vx_runVX {hh : List (Nat × Nat × Nat × Nat)} (S : CallFix p m c cc nL s args Ts own) (hM : vx_Met l y ws rm Pc Qc XC mc ms free) (cw : vx_CVW R s args own C index y bytes maxL ret hh ws rm mc ms n) (hp : PreV s H C b Pc As)
    (hg : g.method = m) (hn : As.length = n) (hsize : g.locals.size = nL) (hstack : g.stack = As.reverse ++ .ref b :: rest) (hW : 2 * g.monitorRoom + (rest.map fun v => v.category).sum ≤ 8) (hdg : decode cc g.pc = .ok (.invokevirtual index, 3)) (hf : cells + mc ≤ R.cells ∧ slots + ms ≤ R.slots) :
    vx_Run p l e R s m args below meth c H locs cells slots mc ms g rest (Qc (Value.ref b :: As).toArray) XC free := by
  obtain ⟨⟨hrc, hrs, hfr, hlo, hws, hcw⟩, hcode, hini, hy, hlen, hl, hin, hse⟩ := cw
  have hK : vx_Back l R p e below s args y 3 8 (PreOf R mc ms Pc) (PostOf Qc mc ms free) (vx_Post XC mc ms free) := vx_backW (hh := hh) (bytes := bytes) (maxL := maxL) (ret := ret) hM hp.1 hrc hrs hfr hlo hws hcw (fun a' U hW => word_at hW (Or.inl (by first | rfl | simp [Cond.onTables, Cond.keeps, Cond.steady])) hini)
  obtain ⟨hx, hb, hml, ho, -⟩ := S
  obtain ⟨-, ⟨cellB, hcB, hoB, hclB⟩, hPc⟩ := hp
  intro T hT X
  rcases vx_callVX X hx (C := C) (hh := hh) (bytes := bytes) (maxL := maxL) (ret := ret) ho hl hin hse hcode hy hK (by rw [hT]; exact hcB) hoB hclB hg (hsize.trans hml.symm) (argsL := As) (rest := rest) (fun sig h => hn.trans (hlen sig h)) hstack hW (by rw [hb]; exact hdg)
    (fun vm₁ hW₁ => ⟨hf.1, hf.2, hPc (T.setVm vm₁) hT hW₁⟩) with ⟨v, vm₁, ⟨U', l2, c2, s2⟩, hW₁, X', ⟨g', mk, t, L, e1, e2, hq, h1, hL, h2, h3⟩, st⟩ | ⟨q, vm₁, ⟨U', l2, c2, s2⟩, hW₁, X', ⟨g', mk, t, L, E, ce, e1, e2, hq, hce, hcv, hcl, h1, hL, h2, h3⟩, st⟩
  · dsimp only [Pt.U, Pt.locs, Pt.cells, Pt.slots] at X' e1 e2 h1 h2 h3 st
    subst h1; subst h2; subst h3
    exact Or.inl ⟨v, (T.setVm vm₁).calling g' mk (Value.ref b :: As).toArray, t, U', L, hT, X', hL, e1, e2, hq, st⟩
  · dsimp only [Pt.U, Pt.locs, Pt.cells, Pt.slots] at X' e1 e2 h1 h2 h3 st hcl
    subst h1; subst h2; subst h3
    exact Or.inr ⟨q, (T.setVm vm₁).calling g' mk (Value.ref b :: As).toArray, t, U', L, E, ce, hT, X', hL, e1, e2, hq, hce, hcv, vx_cls hW₁ hcl, st⟩
theorem vx_runSX {hh : List (Nat × Nat × Nat × Nat)} (S : CallFix p m c cc nL s args Ts own) (hM : vx_Met l y ws rm Pc Qc XC mc ms free) (cw : vx_CSW R s args own index y bytes maxL ret hh ws rm mc ms n) (hp : PreS s H Pc As)
    (hg : g.method = m) (hn : As.length = n) (hsize : g.locals.size = nL) (hstack : g.stack = As.reverse ++ rest) (hW : 2 * g.monitorRoom + (rest.map fun v => v.category).sum ≤ 8) (hdg : decode cc g.pc = .ok (.invokestatic index, 3)) (hf : cells + mc ≤ R.cells ∧ slots + ms ≤ R.slots) :
    vx_Run p l e R s m args below meth c H locs cells slots mc ms g rest (Qc As.toArray) XC free := by
  obtain ⟨⟨hrc, hrs, hfr, hlo, hws, hcw⟩, hcode, hini, hy, hlen, hl, hstt⟩ := cw
  have hK : vx_Back l R p e below s args y 3 8 (PreOf R mc ms Pc) (PostOf Qc mc ms free) (vx_Post XC mc ms free) := vx_backW (hh := hh) (bytes := bytes) (maxL := maxL) (ret := ret) hM hp.1 hrc hrs hfr hlo hws hcw (fun a' U hW => word_at hW (Or.inl (by first | rfl | simp [Cond.onTables, Cond.keeps, Cond.steady])) hini)
  obtain ⟨hx, hb, hml, ho, -⟩ := S
  intro T hT X
  rcases vx_callSX X hx (hh := hh) (bytes := bytes) (maxL := maxL) (ret := ret) ho hl hstt hini hcode hy hK hg (hsize.trans hml.symm) (argsL := As) (rest := rest) (fun sig h => hn.trans (hlen sig h)) hstack hW (by rw [hb]; exact hdg)
    (fun vm₁ hW₁ => ⟨hf.1, hf.2, hp.2 (T.setVm vm₁) hT hW₁⟩) with ⟨v, vm₁, ⟨U', l2, c2, s2⟩, hW₁, X', ⟨g', mk, t, L, e1, e2, hq, h1, hL, h2, h3⟩, st⟩ | ⟨q, vm₁, ⟨U', l2, c2, s2⟩, hW₁, X', ⟨g', mk, t, L, E, ce, e1, e2, hq, hce, hcv, hcl, h1, hL, h2, h3⟩, st⟩
  · dsimp only [Pt.U, Pt.locs, Pt.cells, Pt.slots] at X' e1 e2 h1 h2 h3 st
    subst h1; subst h2; subst h3
    exact Or.inl ⟨v, (T.setVm vm₁).calling g' mk As.toArray, t, U', L, hT, X', hL, e1, e2, hq, st⟩
  · dsimp only [Pt.U, Pt.locs, Pt.cells, Pt.slots] at X' e1 e2 h1 h2 h3 st hcl
    subst h1; subst h2; subst h3
    exact Or.inr ⟨q, (T.setVm vm₁).calling g' mk As.toArray, t, U', L, E, ce, hT, X', hL, e1, e2, hq, hce, hcv, vx_cls hW₁ hcl, st⟩
end
end VXH
theorem vx_ofWH {l : Launch} {y : MethodName} {ws ws' : List Cond} {rm : Room} {Pc : Array Value → State → Prop} {Qc : Array Value → State → Outcome → State → Prop} {XC : String → State → State → Prop} {mc ms : Nat} {free : Addr → Prop} {cc : ByteArray} {maxL : Nat} {ret : Option FieldType} {hh : List (Nat × Nat × Nat × Nat)}
    (hy : plainName y.cls = true) (hw : ws = Cond.codeWith y cc maxL ret hh :: ws')
    (body : ∀ p e s m args below meth c s₁, BodyLoose p l y (headSpec ws rm) cc maxL ret e s m args below meth c s₁ → c.maxLocals = maxL → Pc args s →
      W p l e (headSpec ws rm).room s m args below meth c s.heap [] 0 0 (vx_MQ below Qc XC args s mc ms free) (entryFrame m args maxL)) : vx_Met l y ws rm Pc Qc XC mc ms free := by
  refine MetFree.of_bodyS (code := cc) (maxLocals := maxL) (ret := ret) hy ?_ ?_
  · intro args s m h hn
    obtain ⟨m9, meth, c, hn9, h1, h2, h3, h4, -, h5, h6, -⟩ := Cond.codeWith_spec (atoms_spec (ws := ws) h _ (by rw [hw]; exact List.mem_cons_self))
    cases hn.symm.trans hn9
    exact ⟨meth, c, h1, h2, h3, h4, h5, h6⟩
  · intro p e s m args below meth c s₁ B hml hP _
    have hh0 : s₁.heap = s.heap := by rw [B.state]; rfl
    obtain ⟨t, a1, o, b1, b2, b3⟩ := body p e s m args below meth c s₁ B hml hP s₁ hh0 (Stand.of_body B)
    exact ⟨t, o, a1, b1, b2, b3⟩
/-! ===== END ===== -/
end
section
/-! ===== BEGIN printed: names, fields, word lists, decode rows ===== -/
def RX0 : String := "Vortexpin$Claim"
def TX0 : u_T := fun k => match k with
  | 0 => ("Vortexpin$Claim", "temperature", "I", true)
  | 1 => ("Vortexpin$Claim", "from", "I", true)
  | 2 => ("Vortexpin$Claim", "to", "I", true)
  | 3 => ("Vortexpin$Claim", "pointsThen", "I", true)
  | _ => ("Vortexpin$Claim", "words", "[I", true)
def tyX0 : Nat → FieldType := fun k => match k with
  | 0 => .int
  | 1 => .int
  | 2 => .int
  | 3 => .int
  | _ => .array .int
abbrev wsX00 : List Cond := u_ws RX0 TX0 5
theorem nmX0 : ∀ a, a < 5 → ∀ b, b < 5 → a ≠ b → (TX0 a).2.1 ≠ (TX0 b).2.1 := by decide +kernel
theorem tyX0_ok : ∀ k, k < 5 → parseFieldDescriptor (TX0 k).2.2.1 = some (tyX0 k) := by decide +kernel
abbrev cX0_init : ByteArray := prog_2_method_1_code
def yX0_init : MethodName := ⟨RX0, "<init>", "(IIII)V"⟩
abbrev cX0_housesThat : ByteArray := prog_2_method_2_code
def yX0_housesThat : MethodName := ⟨RX0, "housesThat", "(I)I"⟩
abbrev cX0_verdict : ByteArray := prog_2_method_3_code
def yX0_verdict : MethodName := ⟨RX0, "verdict", "(Ljava/util/ArrayList;I)I"⟩
abbrev cX0_isOpen : ByteArray := prog_2_method_4_code
def yX0_isOpen : MethodName := ⟨RX0, "isOpen", "(Ljava/util/ArrayList;I)Z"⟩
def RX1 : String := "Vortexpin$Coil"
def TX1 : u_T := fun k => match k with
  | 0 => ("Vortexpin$Coil", "warmths", "[I", false)
  | 1 => ("Vortexpin$Coil", "spare", "[I", false)
  | 2 => ("Vortexpin$Coil", "current", "I", false)
  | 3 => ("Vortexpin$Coil", "dumped", "Z", false)
  | 4 => ("Vortexpin$Coil", "doubtfulInRow", "I", false)
  | 5 => ("Vortexpin$Coil", "toWire", "J", false)
  | _ => ("Vortexpin$Coil", "toDump", "J", false)
def tyX1 : Nat → FieldType := fun k => match k with
  | 0 => .array .int
  | 1 => .array .int
  | 2 => .int
  | 3 => .boolean
  | 4 => .int
  | 5 => .long
  | _ => .long
abbrev wsX10 : List Cond := u_ws RX1 TX1 7
theorem nmX1 : ∀ a, a < 7 → ∀ b, b < 7 → a ≠ b → (TX1 a).2.1 ≠ (TX1 b).2.1 := by decide +kernel
theorem tyX1_ok : ∀ k, k < 7 → parseFieldDescriptor (TX1 k).2.2.1 = some (tyX1 k) := by decide +kernel
abbrev cX1_init : ByteArray := prog_3_method_1_code
def yX1_init : MethodName := ⟨RX1, "<init>", "()V"⟩
abbrev cX1_runPulse : ByteArray := prog_3_method_2_code
def yX1_runPulse : MethodName := ⟨RX1, "runPulse", "()V"⟩
abbrev cX1_loseCurrent : ByteArray := prog_3_method_3_code
def yX1_loseCurrent : MethodName := ⟨RX1, "loseCurrent", "()V"⟩
abbrev cX1_spreadWarmth : ByteArray := prog_3_method_4_code
def yX1_spreadWarmth : MethodName := ⟨RX1, "spreadWarmth", "()V"⟩
abbrev cX1_watch : ByteArray := prog_3_method_5_code
def yX1_watch : MethodName := ⟨RX1, "watch", "()V"⟩
abbrev cX1_doubt : ByteArray := prog_3_method_6_code
def yX1_doubt : MethodName := ⟨RX1, "doubt", "()I"⟩
abbrev cX1_normalParts : ByteArray := prog_3_method_7_code
def yX1_normalParts : MethodName := ⟨RX1, "normalParts", "(II)I"⟩
abbrev cX1_isNormal : ByteArray := prog_3_method_8_code
def yX1_isNormal : MethodName := ⟨RX1, "isNormal", "(I)Z"⟩
abbrev cX1_stored : ByteArray := prog_3_method_9_code
def yX1_stored : MethodName := ⟨RX1, "stored", "()J"⟩
def RX2 : String := "Vortexpin$Counter"
def TX2 : u_T := fun k => match k with
  | 0 => ("Vortexpin$Counter", "lower", "I", false)
  | 1 => ("Vortexpin$Counter", "upper", "I", false)
  | _ => ("Vortexpin$Counter", "count", "I", false)
def tyX2 : Nat → FieldType := fun k => match k with
  | 0 => .int
  | 1 => .int
  | _ => .int
abbrev wsX20 : List Cond := u_ws RX2 TX2 3
theorem nmX2 : ∀ a, a < 3 → ∀ b, b < 3 → a ≠ b → (TX2 a).2.1 ≠ (TX2 b).2.1 := by decide +kernel
theorem tyX2_ok : ∀ k, k < 3 → parseFieldDescriptor (TX2 k).2.2.1 = some (tyX2 k) := by decide +kernel
abbrev cX2_init : ByteArray := prog_4_method_1_code
def yX2_init : MethodName := ⟨RX2, "<init>", "()V"⟩
abbrev cX2_take : ByteArray := prog_4_method_2_code
def yX2_take : MethodName := ⟨RX2, "take", "(II)I"⟩
def RX3 : String := "Vortexpin$Film"
def TX3 : u_T := fun k => match k with
  | 0 => ("Vortexpin$Film", "depths", "[I", true)
  | 1 => ("Vortexpin$Film", "cells", "[I", true)
  | 2 => ("Vortexpin$Film", "entered", "I", false)
  | 3 => ("Vortexpin$Film", "drive", "I", false)
  | _ => ("Vortexpin$Film", "heat", "I", false)
def tyX3 : Nat → FieldType := fun k => match k with
  | 0 => .array .int
  | 1 => .array .int
  | 2 => .int
  | 3 => .int
  | _ => .int
abbrev wsX30 : List Cond := u_ws RX3 TX3 5
theorem nmX3 : ∀ a, a < 5 → ∀ b, b < 5 → a ≠ b → (TX3 a).2.1 ≠ (TX3 b).2.1 := by decide +kernel
theorem tyX3_ok : ∀ k, k < 5 → parseFieldDescriptor (TX3 k).2.2.1 = some (tyX3 k) := by decide +kernel
abbrev cX3_init : ByteArray := prog_5_method_1_code
def yX3_init : MethodName := ⟨RX3, "<init>", "()V"⟩
abbrev cX3_runStep : ByteArray := prog_5_method_2_code
def yX3_runStep : MethodName := ⟨RX3, "runStep", "()I"⟩
abbrev cX3_leavesFrom : ByteArray := prog_5_method_3_code
def yX3_leavesFrom : MethodName := ⟨RX3, "leavesFrom", "(I)Z"⟩
abbrev cX3_goalFrom : ByteArray := prog_5_method_4_code
def yX3_goalFrom : MethodName := ⟨RX3, "goalFrom", "(II)I"⟩
abbrev cX3_calmestBeside : ByteArray := prog_5_method_5_code
def yX3_calmestBeside : MethodName := ⟨RX3, "calmestBeside", "(III)I"⟩
abbrev cX3_creepGoal : ByteArray := prog_5_method_6_code
def yX3_creepGoal : MethodName := ⟨RX3, "creepGoal", "(III)I"⟩
abbrev cX3_calmestEntry : ByteArray := prog_5_method_7_code
def yX3_calmestEntry : MethodName := ⟨RX3, "calmestEntry", "(I)I"⟩
abbrev cX3_energyAt : ByteArray := prog_5_method_8_code
def yX3_energyAt : MethodName := ⟨RX3, "energyAt", "(II)I"⟩
abbrev cX3_repulsion : ByteArray := prog_5_method_9_code
def yX3_repulsion : MethodName := ⟨RX3, "repulsion", "(II)I"⟩
abbrev cX3_beside : ByteArray := prog_5_method_10_code
def yX3_beside : MethodName := ⟨RX3, "beside", "(II)I"⟩
abbrev cX3_isFree : ByteArray := prog_5_method_11_code
def yX3_isFree : MethodName := ⟨RX3, "isFree", "(I)Z"⟩
abbrev cX3_depthOf : ByteArray := prog_5_method_12_code
def yX3_depthOf : MethodName := ⟨RX3, "depthOf", "(I)I"⟩
abbrev cX3_cellOf : ByteArray := prog_5_method_13_code
def yX3_cellOf : MethodName := ⟨RX3, "cellOf", "(I)I"⟩
def RX4 : String := "Vortexpin$Point"
def TX4 : u_T := fun k => match k with
  | 0 => ("Vortexpin$Point", "temperature", "I", true)
  | 1 => ("Vortexpin$Point", "current", "I", true)
  | _ => ("Vortexpin$Point", "voltage", "I", true)
def tyX4 : Nat → FieldType := fun k => match k with
  | 0 => .int
  | 1 => .int
  | _ => .int
abbrev wsX40 : List Cond := u_ws RX4 TX4 3
theorem nmX4 : ∀ a, a < 3 → ∀ b, b < 3 → a ≠ b → (TX4 a).2.1 ≠ (TX4 b).2.1 := by decide +kernel
theorem tyX4_ok : ∀ k, k < 3 → parseFieldDescriptor (TX4 k).2.2.1 = some (tyX4 k) := by decide +kernel
abbrev cX4_init : ByteArray := prog_6_method_1_code
def yX4_init : MethodName := ⟨RX4, "<init>", "(III)V"⟩
abbrev cX4_mirrors : ByteArray := prog_6_method_2_code
def yX4_mirrors : MethodName := ⟨RX4, "mirrors", "(LVortexpin$Point;)Z"⟩
def RX5 : String := "Vortexpin$Ring"
def TX5 : u_T := fun k => match k with
  | 0 => ("Vortexpin$Ring", "inductance", "I", true)
  | 1 => ("Vortexpin$Ring", "critical", "I", true)
  | 2 => ("Vortexpin$Ring", "flux", "I", false)
  | 3 => ("Vortexpin$Ring", "number", "I", false)
  | _ => ("Vortexpin$Ring", "slips", "I", false)
def tyX5 : Nat → FieldType := fun k => match k with
  | 0 => .int
  | 1 => .int
  | 2 => .int
  | 3 => .int
  | _ => .int
abbrev wsX50 : List Cond := u_ws RX5 TX5 5
theorem nmX5 : ∀ a, a < 5 → ∀ b, b < 5 → a ≠ b → (TX5 a).2.1 ≠ (TX5 b).2.1 := by decide +kernel
theorem tyX5_ok : ∀ k, k < 5 → parseFieldDescriptor (TX5 k).2.2.1 = some (tyX5 k) := by decide +kernel
abbrev cX5_init : ByteArray := prog_7_method_1_code
def yX5_init : MethodName := ⟨RX5, "<init>", "(II)V"⟩
abbrev cX5_currentWith : ByteArray := prog_7_method_2_code
def yX5_currentWith : MethodName := ⟨RX5, "currentWith", "(I)I"⟩
abbrev cX5_settle : ByteArray := prog_7_method_3_code
def yX5_settle : MethodName := ⟨RX5, "settle", "()I"⟩
abbrev cX5_nearestNumber : ByteArray := prog_7_method_4_code
def yX5_nearestNumber : MethodName := ⟨RX5, "nearestNumber", "()I"⟩
def RX6 : String := "Vortexpin$Sample"
def TX6 : u_T := fun k => match k with
  | 0 => ("Vortexpin$Sample", "critical", "I", true)
  | 1 => ("Vortexpin$Sample", "lower", "I", true)
  | 2 => ("Vortexpin$Sample", "upper", "I", true)
  | 3 => ("Vortexpin$Sample", "temperature", "I", false)
  | _ => ("Vortexpin$Sample", "field", "I", false)
def tyX6 : Nat → FieldType := fun k => match k with
  | 0 => .int
  | 1 => .int
  | 2 => .int
  | 3 => .int
  | _ => .int
abbrev wsX60 : List Cond := u_ws RX6 TX6 5
theorem nmX6 : ∀ a, a < 5 → ∀ b, b < 5 → a ≠ b → (TX6 a).2.1 ≠ (TX6 b).2.1 := by decide +kernel
theorem tyX6_ok : ∀ k, k < 5 → parseFieldDescriptor (TX6 k).2.2.1 = some (tyX6 k) := by decide +kernel
abbrev cX6_init : ByteArray := prog_8_method_1_code
def yX6_init : MethodName := ⟨RX6, "<init>", "(III)V"⟩
abbrev cX6_phase : ByteArray := prog_8_method_2_code
def yX6_phase : MethodName := ⟨RX6, "phase", "()I"⟩
abbrev cX6_boundOf : ByteArray := prog_8_method_3_code
def yX6_boundOf : MethodName := ⟨RX6, "boundOf", "(I)I"⟩
abbrev cX6_penetration : ByteArray := prog_8_method_4_code
def yX6_penetration : MethodName := ⟨RX6, "penetration", "()D"⟩
def RX7 : String := "Vortexpin"
def TX7 : u_T := fun k => match k with
  | 0 => ("Vortexpin", "samples", "Ljava/util/ArrayList;", true)
  | 1 => ("Vortexpin", "film", "LVortexpin$Film;", true)
  | 2 => ("Vortexpin", "rings", "Ljava/util/ArrayList;", true)
  | 3 => ("Vortexpin", "coil", "LVortexpin$Coil;", true)
  | 4 => ("Vortexpin", "counter", "LVortexpin$Counter;", true)
  | 5 => ("Vortexpin", "points", "Ljava/util/ArrayList;", true)
  | _ => ("Vortexpin", "claims", "Ljava/util/ArrayList;", true)
def tyX7 : Nat → FieldType := fun k => match k with
  | 0 => .object "java/util/ArrayList"
  | 1 => .object "Vortexpin$Film"
  | 2 => .object "java/util/ArrayList"
  | 3 => .object "Vortexpin$Coil"
  | 4 => .object "Vortexpin$Counter"
  | 5 => .object "java/util/ArrayList"
  | _ => .object "java/util/ArrayList"
abbrev wsX70 : List Cond := u_ws RX7 TX7 7
theorem nmX7 : ∀ a, a < 7 → ∀ b, b < 7 → a ≠ b → (TX7 a).2.1 ≠ (TX7 b).2.1 := by decide +kernel
theorem tyX7_ok : ∀ k, k < 7 → parseFieldDescriptor (TX7 k).2.2.1 = some (tyX7 k) := by decide +kernel
abbrev cX7_init : ByteArray := prog_1_method_1_code
def yX7_init : MethodName := ⟨RX7, "<init>", "()V"⟩
abbrev cX7_sample : ByteArray := prog_1_method_2_code
def yX7_sample : MethodName := ⟨RX7, "sample", "(III)I"⟩
abbrev cX7_set : ByteArray := prog_1_method_3_code
def yX7_set : MethodName := ⟨RX7, "set", "(III)I"⟩
abbrev cX7_deep : ByteArray := prog_1_method_4_code
def yX7_deep : MethodName := ⟨RX7, "deep", "(I)D"⟩
abbrev cX7_pin : ByteArray := prog_1_method_5_code
def yX7_pin : MethodName := ⟨RX7, "pin", "(II)I"⟩
abbrev cX7_drive : ByteArray := prog_1_method_6_code
def yX7_drive : MethodName := ⟨RX7, "drive", "(II)V"⟩
abbrev cX7_enter : ByteArray := prog_1_method_7_code
def yX7_enter : MethodName := ⟨RX7, "enter", "(I)I"⟩
abbrev cX7_step : ByteArray := prog_1_method_8_code
def yX7_step : MethodName := ⟨RX7, "step", "()I"⟩
abbrev cX7_avalanche : ByteArray := prog_1_method_9_code
def yX7_avalanche : MethodName := ⟨RX7, "avalanche", "()I"⟩
abbrev cX7_whirlAt : ByteArray := prog_1_method_10_code
def yX7_whirlAt : MethodName := ⟨RX7, "whirlAt", "(I)I"⟩
abbrev cX7_energy : ByteArray := prog_1_method_11_code
def yX7_energy : MethodName := ⟨RX7, "energy", "(I)I"⟩
abbrev cX7_ring : ByteArray := prog_1_method_12_code
def yX7_ring : MethodName := ⟨RX7, "ring", "(II)I"⟩
abbrev cX7_flux : ByteArray := prog_1_method_13_code
def yX7_flux : MethodName := ⟨RX7, "flux", "(II)I"⟩
abbrev cX7_warm : ByteArray := prog_1_method_14_code
def yX7_warm : MethodName := ⟨RX7, "warm", "(I)I"⟩
abbrev cX7_ofRing : ByteArray := prog_1_method_15_code
def yX7_ofRing : MethodName := ⟨RX7, "ofRing", "(II)I"⟩
abbrev cX7_current : ByteArray := prog_1_method_16_code
def yX7_current : MethodName := ⟨RX7, "current", "(I)I"⟩
abbrev cX7_heat : ByteArray := prog_1_method_17_code
def yX7_heat : MethodName := ⟨RX7, "heat", "(II)I"⟩
abbrev cX7_pass : ByteArray := prog_1_method_18_code
def yX7_pass : MethodName := ⟨RX7, "pass", "(I)I"⟩
abbrev cX7_warmth : ByteArray := prog_1_method_19_code
def yX7_warmth : MethodName := ⟨RX7, "warmth", "(I)I"⟩
abbrev cX7_ofCoil : ByteArray := prog_1_method_20_code
def yX7_ofCoil : MethodName := ⟨RX7, "ofCoil", "(I)J"⟩
abbrev cX7_share : ByteArray := prog_1_method_21_code
def yX7_share : MethodName := ⟨RX7, "share", "()D"⟩
abbrev cX7_margins : ByteArray := prog_1_method_22_code
def yX7_margins : MethodName := ⟨RX7, "margins", "(II)V"⟩
abbrev cX7_pulse : ByteArray := prog_1_method_23_code
def yX7_pulse : MethodName := ⟨RX7, "pulse", "(II)I"⟩
abbrev cX7_bit : ByteArray := prog_1_method_24_code
def yX7_bit : MethodName := ⟨RX7, "bit", "(I)I"⟩
abbrev cX7_point : ByteArray := prog_1_method_25_code
def yX7_point : MethodName := ⟨RX7, "point", "(III)I"⟩
abbrev cX7_claim : ByteArray := prog_1_method_26_code
def yX7_claim : MethodName := ⟨RX7, "claim", "(III)I"⟩
abbrev cX7_repeats : ByteArray := prog_1_method_27_code
def yX7_repeats : MethodName := ⟨RX7, "repeats", "(IIZ)I"⟩
abbrev cX7_judge : ByteArray := prog_1_method_28_code
def yX7_judge : MethodName := ⟨RX7, "judge", "(II)I"⟩
abbrev cX7_refuseOutside : ByteArray := prog_1_method_29_code
def yX7_refuseOutside : MethodName := ⟨RX7, "refuseOutside", "(III)V"⟩
abbrev cX7_refuseUnknown : ByteArray := prog_1_method_30_code
def yX7_refuseUnknown : MethodName := ⟨RX7, "refuseUnknown", "(II)V"⟩
abbrev cX7_refuseFull : ByteArray := prog_1_method_31_code
def yX7_refuseFull : MethodName := ⟨RX7, "refuseFull", "(II)V"⟩
def RX8 : String := "VortexpinModel"
def TX8 : u_T := fun k => match k with
  | 0 => ("VortexpinModel", "thrown", "I", false)
  | 1 => ("VortexpinModel", "samples", "I", false)
  | 2 => ("VortexpinModel", "critical", "[I", true)
  | 3 => ("VortexpinModel", "lower", "[I", true)
  | 4 => ("VortexpinModel", "upper", "[I", true)
  | 5 => ("VortexpinModel", "warmthOf", "[I", true)
  | 6 => ("VortexpinModel", "field", "[I", true)
  | 7 => ("VortexpinModel", "depth", "[I", true)
  | 8 => ("VortexpinModel", "whirlIn", "[I", true)
  | 9 => ("VortexpinModel", "whirls", "I", false)
  | 10 => ("VortexpinModel", "cellOf", "[I", true)
  | 11 => ("VortexpinModel", "drive", "I", false)
  | 12 => ("VortexpinModel", "heat", "I", false)
  | 13 => ("VortexpinModel", "rings", "I", false)
  | 14 => ("VortexpinModel", "inductance", "[I", true)
  | 15 => ("VortexpinModel", "ringCritical", "[I", true)
  | 16 => ("VortexpinModel", "fluxOf", "[I", true)
  | 17 => ("VortexpinModel", "number", "[I", true)
  | 18 => ("VortexpinModel", "slips", "[I", true)
  | 19 => ("VortexpinModel", "part", "[I", true)
  | 20 => ("VortexpinModel", "partThen", "[I", true)
  | 21 => ("VortexpinModel", "current", "I", false)
  | 22 => ("VortexpinModel", "isDumped", "Z", false)
  | 23 => ("VortexpinModel", "inRow", "I", false)
  | 24 => ("VortexpinModel", "wire", "J", false)
  | 25 => ("VortexpinModel", "dump", "J", false)
  | 26 => ("VortexpinModel", "lowerMargin", "I", false)
  | 27 => ("VortexpinModel", "upperMargin", "I", false)
  | 28 => ("VortexpinModel", "count", "I", false)
  | 29 => ("VortexpinModel", "points", "I", false)
  | 30 => ("VortexpinModel", "pointWarmth", "[I", true)
  | 31 => ("VortexpinModel", "pointCurrent", "[I", true)
  | 32 => ("VortexpinModel", "voltage", "[I", true)
  | 33 => ("VortexpinModel", "claims", "I", false)
  | 34 => ("VortexpinModel", "claimWarmth", "[I", true)
  | 35 => ("VortexpinModel", "claimFrom", "[I", true)
  | 36 => ("VortexpinModel", "claimTo", "[I", true)
  | 37 => ("VortexpinModel", "claimAll", "[I", true)
  | _ => ("VortexpinModel", "house", "[I", true)
def tyX8 : Nat → FieldType := fun k => match k with
  | 0 => .int
  | 1 => .int
  | 2 => .array .int
  | 3 => .array .int
  | 4 => .array .int
  | 5 => .array .int
  | 6 => .array .int
  | 7 => .array .int
  | 8 => .array .int
  | 9 => .int
  | 10 => .array .int
  | 11 => .int
  | 12 => .int
  | 13 => .int
  | 14 => .array .int
  | 15 => .array .int
  | 16 => .array .int
  | 17 => .array .int
  | 18 => .array .int
  | 19 => .array .int
  | 20 => .array .int
  | 21 => .int
  | 22 => .boolean
  | 23 => .int
  | 24 => .long
  | 25 => .long
  | 26 => .int
  | 27 => .int
  | 28 => .int
  | 29 => .int
  | 30 => .array .int
  | 31 => .array .int
  | 32 => .array .int
  | 33 => .int
  | 34 => .array .int
  | 35 => .array .int
  | 36 => .array .int
  | 37 => .array .int
  | _ => .array .int
abbrev wsX80 : List Cond := u_ws RX8 TX8 39
theorem nmX8 : ∀ a, a < 39 → ∀ b, b < 39 → a ≠ b → (TX8 a).2.1 ≠ (TX8 b).2.1 := by decide +kernel
theorem tyX8_ok : ∀ k, k < 39 → parseFieldDescriptor (TX8 k).2.2.1 = some (tyX8 k) := by decide +kernel
abbrev cX8_init : ByteArray := prog_10_method_1_code
def yX8_init : MethodName := ⟨RX8, "<init>", "()V"⟩
abbrev cX8_thrown : ByteArray := prog_10_method_2_code
def yX8_thrown : MethodName := ⟨RX8, "thrown", "()I"⟩
abbrev cX8_stop : ByteArray := prog_10_method_3_code
def yX8_stop : MethodName := ⟨RX8, "stop", "(I)I"⟩
abbrev cX8_in : ByteArray := prog_10_method_4_code
def yX8_in : MethodName := ⟨RX8, "in", "(III)Z"⟩
abbrev cX8_size : ByteArray := prog_10_method_5_code
def yX8_size : MethodName := ⟨RX8, "size", "(I)I"⟩
abbrev cX8_sample : ByteArray := prog_10_method_6_code
def yX8_sample : MethodName := ⟨RX8, "sample", "(III)I"⟩
abbrev cX8_bound : ByteArray := prog_10_method_7_code
def yX8_bound : MethodName := ⟨RX8, "bound", "(II)I"⟩
abbrev cX8_set : ByteArray := prog_10_method_8_code
def yX8_set : MethodName := ⟨RX8, "set", "(III)I"⟩
abbrev cX8_deep : ByteArray := prog_10_method_9_code
def yX8_deep : MethodName := ⟨RX8, "deep", "(I)D"⟩
abbrev cX8_pin : ByteArray := prog_10_method_10_code
def yX8_pin : MethodName := ⟨RX8, "pin", "(II)I"⟩
abbrev cX8_drive : ByteArray := prog_10_method_11_code
def yX8_drive : MethodName := ⟨RX8, "drive", "(II)V"⟩
abbrev cX8_energyAt : ByteArray := prog_10_method_12_code
def yX8_energyAt : MethodName := ⟨RX8, "energyAt", "(II)I"⟩
abbrev cX8_enter : ByteArray := prog_10_method_13_code
def yX8_enter : MethodName := ⟨RX8, "enter", "(I)I"⟩
abbrev cX8_go : ByteArray := prog_10_method_14_code
def yX8_go : MethodName := ⟨RX8, "go", "(II)V"⟩
abbrev cX8_beside : ByteArray := prog_10_method_15_code
def yX8_beside : MethodName := ⟨RX8, "beside", "(II)I"⟩
abbrev cX8_leaves : ByteArray := prog_10_method_16_code
def yX8_leaves : MethodName := ⟨RX8, "leaves", "(I)Z"⟩
abbrev cX8_goal : ByteArray := prog_10_method_17_code
def yX8_goal : MethodName := ⟨RX8, "goal", "(I)I"⟩
abbrev cX8_stepOnce : ByteArray := prog_10_method_18_code
def yX8_stepOnce : MethodName := ⟨RX8, "stepOnce", "()I"⟩
abbrev cX8_step : ByteArray := prog_10_method_19_code
def yX8_step : MethodName := ⟨RX8, "step", "()I"⟩
abbrev cX8_avalanche : ByteArray := prog_10_method_20_code
def yX8_avalanche : MethodName := ⟨RX8, "avalanche", "()I"⟩
abbrev cX8_whirlAt : ByteArray := prog_10_method_21_code
def yX8_whirlAt : MethodName := ⟨RX8, "whirlAt", "(I)I"⟩
abbrev cX8_energy : ByteArray := prog_10_method_22_code
def yX8_energy : MethodName := ⟨RX8, "energy", "(I)I"⟩
abbrev cX8_ring : ByteArray := prog_10_method_23_code
def yX8_ring : MethodName := ⟨RX8, "ring", "(II)I"⟩
abbrev cX8_currentBy : ByteArray := prog_10_method_24_code
def yX8_currentBy : MethodName := ⟨RX8, "currentBy", "(II)I"⟩
abbrev cX8_flux : ByteArray := prog_10_method_25_code
def yX8_flux : MethodName := ⟨RX8, "flux", "(II)I"⟩
abbrev cX8_warm : ByteArray := prog_10_method_26_code
def yX8_warm : MethodName := ⟨RX8, "warm", "(I)I"⟩
abbrev cX8_ofRing : ByteArray := prog_10_method_27_code
def yX8_ofRing : MethodName := ⟨RX8, "ofRing", "(II)I"⟩
abbrev cX8_current : ByteArray := prog_10_method_28_code
def yX8_current : MethodName := ⟨RX8, "current", "(I)I"⟩
abbrev cX8_heat : ByteArray := prog_10_method_29_code
def yX8_heat : MethodName := ⟨RX8, "heat", "(II)I"⟩
abbrev cX8_isNormal : ByteArray := prog_10_method_30_code
def yX8_isNormal : MethodName := ⟨RX8, "isNormal", "(I)Z"⟩
abbrev cX8_normals : ByteArray := prog_10_method_31_code
def yX8_normals : MethodName := ⟨RX8, "normals", "(II)I"⟩
abbrev cX8_doubt : ByteArray := prog_10_method_32_code
def yX8_doubt : MethodName := ⟨RX8, "doubt", "()I"⟩
abbrev cX8_energyOfCoil : ByteArray := prog_10_method_33_code
def yX8_energyOfCoil : MethodName := ⟨RX8, "energyOfCoil", "()J"⟩
abbrev cX8_dumpOn : ByteArray := prog_10_method_34_code
def yX8_dumpOn : MethodName := ⟨RX8, "dumpOn", "()V"⟩
abbrev cX8_pulseOfTime : ByteArray := prog_10_method_35_code
def yX8_pulseOfTime : MethodName := ⟨RX8, "pulseOfTime", "()V"⟩
abbrev cX8_pass : ByteArray := prog_10_method_36_code
def yX8_pass : MethodName := ⟨RX8, "pass", "(I)I"⟩
abbrev cX8_warmth : ByteArray := prog_10_method_37_code
def yX8_warmth : MethodName := ⟨RX8, "warmth", "(I)I"⟩
abbrev cX8_ofCoil : ByteArray := prog_10_method_38_code
def yX8_ofCoil : MethodName := ⟨RX8, "ofCoil", "(I)J"⟩
abbrev cX8_share : ByteArray := prog_10_method_39_code
def yX8_share : MethodName := ⟨RX8, "share", "()D"⟩
abbrev cX8_margins : ByteArray := prog_10_method_40_code
def yX8_margins : MethodName := ⟨RX8, "margins", "(II)V"⟩
abbrev cX8_pulse : ByteArray := prog_10_method_41_code
def yX8_pulse : MethodName := ⟨RX8, "pulse", "(II)I"⟩
abbrev cX8_bit : ByteArray := prog_10_method_42_code
def yX8_bit : MethodName := ⟨RX8, "bit", "(I)I"⟩
abbrev cX8_point : ByteArray := prog_10_method_43_code
def yX8_point : MethodName := ⟨RX8, "point", "(III)I"⟩
abbrev cX8_claim : ByteArray := prog_10_method_44_code
def yX8_claim : MethodName := ⟨RX8, "claim", "(III)I"⟩
abbrev cX8_houses : ByteArray := prog_10_method_45_code
def yX8_houses : MethodName := ⟨RX8, "houses", "(II)I"⟩
abbrev cX8_repeats : ByteArray := prog_10_method_46_code
def yX8_repeats : MethodName := ⟨RX8, "repeats", "(IIZ)I"⟩
abbrev cX8_arePair : ByteArray := prog_10_method_47_code
def yX8_arePair : MethodName := ⟨RX8, "arePair", "(III)Z"⟩
abbrev cX8_isOpen : ByteArray := prog_10_method_48_code
def yX8_isOpen : MethodName := ⟨RX8, "isOpen", "(II)Z"⟩
abbrev cX8_judge : ByteArray := prog_10_method_49_code
def yX8_judge : MethodName := ⟨RX8, "judge", "(II)I"⟩
def RJx145de : String := "java/io/Serializable"
def TJx145de : u_T := fun k => match k with
  | _ => ("", "", "", false)
def tyJx145de : Nat → FieldType := fun k => match k with
  | _ => .int
abbrev wsJx145de0 : List Cond := u_ws RJx145de TJx145de 0
theorem nmJx145de : ∀ a, a < 0 → ∀ b, b < 0 → a ≠ b → (TJx145de a).2.1 ≠ (TJx145de b).2.1 := by decide +kernel
theorem tyJx145de_ok : ∀ k, k < 0 → parseFieldDescriptor (TJx145de k).2.2.1 = some (tyJx145de k) := by decide +kernel
def RJx8e188 : String := "java/lang/Cloneable"
def TJx8e188 : u_T := fun k => match k with
  | _ => ("", "", "", false)
def tyJx8e188 : Nat → FieldType := fun k => match k with
  | _ => .int
abbrev wsJx8e1880 : List Cond := u_ws RJx8e188 TJx8e188 0
theorem nmJx8e188 : ∀ a, a < 0 → ∀ b, b < 0 → a ≠ b → (TJx8e188 a).2.1 ≠ (TJx8e188 b).2.1 := by decide +kernel
theorem tyJx8e188_ok : ∀ k, k < 0 → parseFieldDescriptor (TJx8e188 k).2.2.1 = some (tyJx8e188 k) := by decide +kernel
def RJxab1ab : String := "java/lang/Iterable"
def TJxab1ab : u_T := fun k => match k with
  | _ => ("", "", "", false)
def tyJxab1ab : Nat → FieldType := fun k => match k with
  | _ => .int
abbrev wsJxab1ab0 : List Cond := u_ws RJxab1ab TJxab1ab 0
theorem nmJxab1ab : ∀ a, a < 0 → ∀ b, b < 0 → a ≠ b → (TJxab1ab a).2.1 ≠ (TJxab1ab b).2.1 := by decide +kernel
theorem tyJxab1ab_ok : ∀ k, k < 0 → parseFieldDescriptor (TJxab1ab k).2.2.1 = some (tyJxab1ab k) := by decide +kernel
def RJ9 : String := "java/lang/Math"
def TJ9 : u_T := fun k => match k with
  | _ => ("", "", "", false)
def tyJ9 : Nat → FieldType := fun k => match k with
  | _ => .int
abbrev wsJ90 : List Cond := u_ws RJ9 TJ9 0
theorem nmJ9 : ∀ a, a < 0 → ∀ b, b < 0 → a ≠ b → (TJ9 a).2.1 ≠ (TJ9 b).2.1 := by decide +kernel
theorem tyJ9_ok : ∀ k, k < 0 → parseFieldDescriptor (TJ9 k).2.2.1 = some (tyJ9 k) := by decide +kernel
abbrev cJ9_floorDiv_7cf53 : ByteArray := prog_18_method_47_code
def yJ9_floorDiv_7cf53 : MethodName := ⟨RJ9, "floorDiv", "(II)I"⟩
abbrev cJ9_abs_0f7a4 : ByteArray := prog_18_method_59_code
def yJ9_abs_0f7a4 : MethodName := ⟨RJ9, "abs", "(I)I"⟩
abbrev cJ9_max_7cf53 : ByteArray := prog_18_method_65_code
def yJ9_max_7cf53 : MethodName := ⟨RJ9, "max", "(II)I"⟩
abbrev cJ9_min_7cf53 : ByteArray := prog_18_method_69_code
def yJ9_min_7cf53 : MethodName := ⟨RJ9, "min", "(II)I"⟩
def RJ0 : String := "java/lang/String"
def TJ0 : u_T := fun k => match k with
  | _ => ("", "", "", false)
def tyJ0 : Nat → FieldType := fun k => match k with
  | _ => .int
abbrev wsJ00 : List Cond := u_ws RJ0 TJ0 0
theorem nmJ0 : ∀ a, a < 0 → ∀ b, b < 0 → a ≠ b → (TJ0 a).2.1 ≠ (TJ0 b).2.1 := by decide +kernel
theorem tyJ0_ok : ∀ k, k < 0 → parseFieldDescriptor (TJ0 k).2.2.1 = some (tyJ0 k) := by decide +kernel
def RJ10 : String := "java/lang/System"
def TJ10 : u_T := fun k => match k with
  | _ => ("", "", "", false)
def tyJ10 : Nat → FieldType := fun k => match k with
  | _ => .int
abbrev wsJ100 : List Cond := u_ws RJ10 TJ10 0
theorem nmJ10 : ∀ a, a < 0 → ∀ b, b < 0 → a ≠ b → (TJ10 a).2.1 ≠ (TJ10 b).2.1 := by decide +kernel
theorem tyJ10_ok : ∀ k, k < 0 → parseFieldDescriptor (TJ10 k).2.2.1 = some (tyJ10 k) := by decide +kernel
def RJxa1e45 : String := "java/util/AbstractCollection"
def TJxa1e45 : u_T := fun k => match k with
  | _ => ("", "", "", false)
def tyJxa1e45 : Nat → FieldType := fun k => match k with
  | _ => .int
abbrev wsJxa1e450 : List Cond := u_ws RJxa1e45 TJxa1e45 0
theorem nmJxa1e45 : ∀ a, a < 0 → ∀ b, b < 0 → a ≠ b → (TJxa1e45 a).2.1 ≠ (TJxa1e45 b).2.1 := by decide +kernel
theorem tyJxa1e45_ok : ∀ k, k < 0 → parseFieldDescriptor (TJxa1e45 k).2.2.1 = some (tyJxa1e45 k) := by decide +kernel
abbrev cJxa1e45_init_da8c8 : ByteArray := prog_23_method_1_code
def yJxa1e45_init_da8c8 : MethodName := ⟨RJxa1e45, "<init>", "()V"⟩
def RJxc12de : String := "java/util/AbstractList"
def TJxc12de : u_T := fun k => match k with
  | _ => ("", "", "", false)
def tyJxc12de : Nat → FieldType := fun k => match k with
  | _ => .int
abbrev wsJxc12de0 : List Cond := u_ws RJxc12de TJxc12de 0
theorem nmJxc12de : ∀ a, a < 0 → ∀ b, b < 0 → a ≠ b → (TJxc12de a).2.1 ≠ (TJxc12de b).2.1 := by decide +kernel
theorem tyJxc12de_ok : ∀ k, k < 0 → parseFieldDescriptor (TJxc12de k).2.2.1 = some (tyJxc12de k) := by decide +kernel
abbrev cJxc12de_init_da8c8 : ByteArray := prog_24_method_1_code
def yJxc12de_init_da8c8 : MethodName := ⟨RJxc12de, "<init>", "()V"⟩
def RJx4a65c : String := "java/util/ArrayList"
def TJx4a65c : u_T := fun k => match k with
  | 0 => ("java/util/AbstractList", "modCount", "I", false)
  | 1 => ("java/util/ArrayList", "elementData", "[Ljava/lang/Object;", false)
  | _ => ("java/util/ArrayList", "size", "I", false)
def tyJx4a65c : Nat → FieldType := fun k => match k with
  | 0 => .int
  | 1 => .array (.object "java/lang/Object")
  | _ => .int
abbrev wsJx4a65c0 : List Cond := u_ws RJx4a65c TJx4a65c 3
theorem nmJx4a65c : ∀ a, a < 3 → ∀ b, b < 3 → a ≠ b → (TJx4a65c a).2.1 ≠ (TJx4a65c b).2.1 := by decide +kernel
theorem tyJx4a65c_ok : ∀ k, k < 3 → parseFieldDescriptor (TJx4a65c k).2.2.1 = some (tyJx4a65c k) := by decide +kernel
abbrev cJx4a65c_init_da8c8 : ByteArray := prog_25_method_2_code
def yJx4a65c_init_da8c8 : MethodName := ⟨RJx4a65c, "<init>", "()V"⟩
abbrev cJx4a65c_grow_92f84 : ByteArray := prog_25_method_6_code
def yJx4a65c_grow_92f84 : MethodName := ⟨RJx4a65c, "grow", "(I)[Ljava/lang/Object;"⟩
abbrev cJx4a65c_grow_d5877 : ByteArray := prog_25_method_7_code
def yJx4a65c_grow_d5877 : MethodName := ⟨RJx4a65c, "grow", "()[Ljava/lang/Object;"⟩
abbrev cJx4a65c_size_8abf5 : ByteArray := prog_25_method_8_code
def yJx4a65c_size_8abf5 : MethodName := ⟨RJx4a65c, "size", "()I"⟩
abbrev cJx4a65c_elementData_915e3 : ByteArray := prog_25_method_18_code
def yJx4a65c_elementData_915e3 : MethodName := ⟨RJx4a65c, "elementData", "(I)Ljava/lang/Object;"⟩
abbrev cJx4a65c_get_915e3 : ByteArray := prog_25_method_20_code
def yJx4a65c_get_915e3 : MethodName := ⟨RJx4a65c, "get", "(I)Ljava/lang/Object;"⟩
abbrev cJx4a65c_add_72be8 : ByteArray := prog_25_method_24_code
def yJx4a65c_add_72be8 : MethodName := ⟨RJx4a65c, "add", "(Ljava/lang/Object;[Ljava/lang/Object;I)V"⟩
abbrev cJx4a65c_add_9ea2d : ByteArray := prog_25_method_25_code
def yJx4a65c_add_9ea2d : MethodName := ⟨RJx4a65c, "add", "(Ljava/lang/Object;)Z"⟩
def RJ7 : String := "java/util/Arrays"
def TJ7 : u_T := fun k => match k with
  | _ => ("", "", "", false)
def tyJ7 : Nat → FieldType := fun k => match k with
  | _ => .int
abbrev wsJ70 : List Cond := u_ws RJ7 TJ7 0
theorem nmJ7 : ∀ a, a < 0 → ∀ b, b < 0 → a ≠ b → (TJ7 a).2.1 ≠ (TJ7 b).2.1 := by decide +kernel
theorem tyJ7_ok : ∀ k, k < 0 → parseFieldDescriptor (TJ7 k).2.2.1 = some (tyJ7 k) := by decide +kernel
abbrev cJ7_copyOf_1904c : ByteArray := prog_26_method_119_code
def yJ7_copyOf_1904c : MethodName := ⟨RJ7, "copyOf", "([Ljava/lang/Object;I)[Ljava/lang/Object;"⟩
abbrev cJ7_copyOf_6403c : ByteArray := prog_26_method_120_code
def yJ7_copyOf_6403c : MethodName := ⟨RJ7, "copyOf", "([Ljava/lang/Object;ILjava/lang/Class;)[Ljava/lang/Object;"⟩
def RJx5ef63 : String := "java/util/Collection"
def TJx5ef63 : u_T := fun k => match k with
  | _ => ("", "", "", false)
def tyJx5ef63 : Nat → FieldType := fun k => match k with
  | _ => .int
abbrev wsJx5ef630 : List Cond := u_ws RJx5ef63 TJx5ef63 0
theorem nmJx5ef63 : ∀ a, a < 0 → ∀ b, b < 0 → a ≠ b → (TJx5ef63 a).2.1 ≠ (TJx5ef63 b).2.1 := by decide +kernel
theorem tyJx5ef63_ok : ∀ k, k < 0 → parseFieldDescriptor (TJx5ef63 k).2.2.1 = some (tyJx5ef63 k) := by decide +kernel
def RJxbd725 : String := "java/util/List"
def TJxbd725 : u_T := fun k => match k with
  | _ => ("", "", "", false)
def tyJxbd725 : Nat → FieldType := fun k => match k with
  | _ => .int
abbrev wsJxbd7250 : List Cond := u_ws RJxbd725 TJxbd725 0
theorem nmJxbd725 : ∀ a, a < 0 → ∀ b, b < 0 → a ≠ b → (TJxbd725 a).2.1 ≠ (TJxbd725 b).2.1 := by decide +kernel
theorem tyJxbd725_ok : ∀ k, k < 0 → parseFieldDescriptor (TJxbd725 k).2.2.1 = some (tyJxbd725 k) := by decide +kernel
def RJ15 : String := "java/util/Objects"
def TJ15 : u_T := fun k => match k with
  | _ => ("", "", "", false)
def tyJ15 : Nat → FieldType := fun k => match k with
  | _ => .int
abbrev wsJ150 : List Cond := u_ws RJ15 TJ15 0
theorem nmJ15 : ∀ a, a < 0 → ∀ b, b < 0 → a ≠ b → (TJ15 a).2.1 ≠ (TJ15 b).2.1 := by decide +kernel
theorem tyJ15_ok : ∀ k, k < 0 → parseFieldDescriptor (TJ15 k).2.2.1 = some (tyJ15 k) := by decide +kernel
abbrev cJ15_checkIndex_7cf53 : ByteArray := prog_29_method_17_code
def yJ15_checkIndex_7cf53 : MethodName := ⟨RJ15, "checkIndex", "(II)I"⟩
def RJxf0a74 : String := "java/util/RandomAccess"
def TJxf0a74 : u_T := fun k => match k with
  | _ => ("", "", "", false)
def tyJxf0a74 : Nat → FieldType := fun k => match k with
  | _ => .int
abbrev wsJxf0a740 : List Cond := u_ws RJxf0a74 TJxf0a74 0
theorem nmJxf0a74 : ∀ a, a < 0 → ∀ b, b < 0 → a ≠ b → (TJxf0a74 a).2.1 ≠ (TJxf0a74 b).2.1 := by decide +kernel
theorem tyJxf0a74_ok : ∀ k, k < 0 → parseFieldDescriptor (TJxf0a74 k).2.2.1 = some (tyJxf0a74 k) := by decide +kernel
def RJxa66e6 : String := "java/util/SequencedCollection"
def TJxa66e6 : u_T := fun k => match k with
  | _ => ("", "", "", false)
def tyJxa66e6 : Nat → FieldType := fun k => match k with
  | _ => .int
abbrev wsJxa66e60 : List Cond := u_ws RJxa66e6 TJxa66e6 0
theorem nmJxa66e6 : ∀ a, a < 0 → ∀ b, b < 0 → a ≠ b → (TJxa66e6 a).2.1 ≠ (TJxa66e6 b).2.1 := by decide +kernel
theorem tyJxa66e6_ok : ∀ k, k < 0 → parseFieldDescriptor (TJxa66e6 k).2.2.1 = some (tyJxa66e6 k) := by decide +kernel
def RJ8 : String := "jdk/internal/util/ArraysSupport"
def TJ8 : u_T := fun k => match k with
  | _ => ("", "", "", false)
def tyJ8 : Nat → FieldType := fun k => match k with
  | _ => .int
abbrev wsJ80 : List Cond := u_ws RJ8 TJ8 0
theorem nmJ8 : ∀ a, a < 0 → ∀ b, b < 0 → a ≠ b → (TJ8 a).2.1 ≠ (TJ8 b).2.1 := by decide +kernel
theorem tyJ8_ok : ∀ k, k < 0 → parseFieldDescriptor (TJ8 k).2.2.1 = some (tyJ8 k) := by decide +kernel
abbrev cJ8_newLength_cabcc : ByteArray := prog_32_method_27_code
def yJ8_newLength_cabcc : MethodName := ⟨RJ8, "newLength", "(III)I"⟩
abbrev cJ8_hugeLength_7cf53 : ByteArray := prog_32_method_28_code
def yJ8_hugeLength_7cf53 : MethodName := ⟨RJ8, "hugeLength", "(II)I"⟩
def RJ3 : String := "jdk/internal/util/Preconditions"
def TJ3 : u_T := fun k => match k with
  | _ => ("", "", "", false)
def tyJ3 : Nat → FieldType := fun k => match k with
  | _ => .int
abbrev wsJ30 : List Cond := u_ws RJ3 TJ3 0
theorem nmJ3 : ∀ a, a < 0 → ∀ b, b < 0 → a ≠ b → (TJ3 a).2.1 ≠ (TJ3 b).2.1 := by decide +kernel
theorem tyJ3_ok : ∀ k, k < 0 → parseFieldDescriptor (TJ3 k).2.2.1 = some (tyJ3 k) := by decide +kernel
abbrev cJ3_checkIndex_8e157 : ByteArray := prog_33_method_11_code
def yJ3_checkIndex_8e157 : MethodName := ⟨RJ3, "checkIndex", "(IILjava/util/function/BiFunction;)I"⟩
def RL : String := "VortexpinLaw"
abbrev cL_sample : ByteArray := method_3_code
def yL_sample : MethodName := ⟨RL, "sample", "(LVortexpin;III[J)I"⟩
abbrev cL_set : ByteArray := method_4_code
def yL_set : MethodName := ⟨RL, "set", "(LVortexpin;III[J)I"⟩
abbrev cL_deep : ByteArray := method_5_code
def yL_deep : MethodName := ⟨RL, "deep", "(LVortexpin;I[D)I"⟩
abbrev cL_pin : ByteArray := method_6_code
def yL_pin : MethodName := ⟨RL, "pin", "(LVortexpin;II[J)I"⟩
abbrev cL_drive : ByteArray := method_7_code
def yL_drive : MethodName := ⟨RL, "drive", "(LVortexpin;II)I"⟩
abbrev cL_enter : ByteArray := method_8_code
def yL_enter : MethodName := ⟨RL, "enter", "(LVortexpin;I[J)I"⟩
abbrev cL_whirlAt : ByteArray := method_9_code
def yL_whirlAt : MethodName := ⟨RL, "whirlAt", "(LVortexpin;I[J)I"⟩
abbrev cL_energy : ByteArray := method_10_code
def yL_energy : MethodName := ⟨RL, "energy", "(LVortexpin;I[J)I"⟩
abbrev cL_ring : ByteArray := method_11_code
def yL_ring : MethodName := ⟨RL, "ring", "(LVortexpin;II[J)I"⟩
abbrev cL_flux : ByteArray := method_12_code
def yL_flux : MethodName := ⟨RL, "flux", "(LVortexpin;II[J)I"⟩
abbrev cL_warm : ByteArray := method_13_code
def yL_warm : MethodName := ⟨RL, "warm", "(LVortexpin;I[J)I"⟩
abbrev cL_ofRing : ByteArray := method_14_code
def yL_ofRing : MethodName := ⟨RL, "ofRing", "(LVortexpin;II[J)I"⟩
abbrev cL_current : ByteArray := method_15_code
def yL_current : MethodName := ⟨RL, "current", "(LVortexpin;I[J)I"⟩
abbrev cL_heat : ByteArray := method_16_code
def yL_heat : MethodName := ⟨RL, "heat", "(LVortexpin;II[J)I"⟩
abbrev cL_pass : ByteArray := method_17_code
def yL_pass : MethodName := ⟨RL, "pass", "(LVortexpin;I[J)I"⟩
abbrev cL_warmth : ByteArray := method_18_code
def yL_warmth : MethodName := ⟨RL, "warmth", "(LVortexpin;I[J)I"⟩
abbrev cL_ofCoil : ByteArray := method_19_code
def yL_ofCoil : MethodName := ⟨RL, "ofCoil", "(LVortexpin;I[J)I"⟩
abbrev cL_margins : ByteArray := method_20_code
def yL_margins : MethodName := ⟨RL, "margins", "(LVortexpin;II)I"⟩
abbrev cL_pulse : ByteArray := method_21_code
def yL_pulse : MethodName := ⟨RL, "pulse", "(LVortexpin;II[J)I"⟩
abbrev cL_bit : ByteArray := method_22_code
def yL_bit : MethodName := ⟨RL, "bit", "(LVortexpin;I[J)I"⟩
abbrev cL_point : ByteArray := method_23_code
def yL_point : MethodName := ⟨RL, "point", "(LVortexpin;III[J)I"⟩
abbrev cL_claim : ByteArray := method_24_code
def yL_claim : MethodName := ⟨RL, "claim", "(LVortexpin;III[J)I"⟩
abbrev cL_repeats : ByteArray := method_25_code
def yL_repeats : MethodName := ⟨RL, "repeats", "(LVortexpin;IIZ[J)I"⟩
abbrev cL_judge : ByteArray := method_26_code
def yL_judge : MethodName := ⟨RL, "judge", "(LVortexpin;II[J)I"⟩
abbrev cL_law : ByteArray := code
def yL_law : MethodName := ⟨RL, "law", "([I)Z"⟩
def wsX0_init : List Cond := .code yX0_init cX0_init 5 none :: ([.methodLink RX0 3 objectInit, .instanceMethod objectInit, .code objectInit ⟨#[0xb1]⟩ 1 none, .fieldLink RX0 9 "Vortexpin$Claim" "temperature" "I", .fieldLink RX0 15 "Vortexpin$Claim" "from" "I", .fieldLink RX0 18 "Vortexpin$Claim" "to" "I", .fieldLink RX0 21 "Vortexpin$Claim" "pointsThen" "I", .arrayClass .int, .fieldLink RX0 24 "Vortexpin$Claim" "words" "[I"] ++ wsX00)
def wsX0_housesThat : List Cond := .code yX0_housesThat cX0_housesThat 4 (some .int) :: ([.fieldLink RX0 24 "Vortexpin$Claim" "words" "[I"] ++ wsX00)
def wsJx4a65c_size_8abf5 : List Cond := .code yJx4a65c_size_8abf5 cJx4a65c_size_8abf5 1 (some .int) :: ([.fieldLink RJx4a65c 48 "java/util/ArrayList" "size" "I"] ++ wsJx4a65c0)
def wsJ3_checkIndex_8e157 : List Cond := .code yJ3_checkIndex_8e157 cJ3_checkIndex_8e157 3 (some .int) :: ([])
def wsJ15_checkIndex_7cf53 : List Cond := .code yJ15_checkIndex_7cf53 cJ15_checkIndex_7cf53 2 (some .int) :: ([.methodLink RJ15 105 yJ3_checkIndex_8e157, .static yJ3_checkIndex_8e157, .initialized RJ3, .code yJ3_checkIndex_8e157 cJ3_checkIndex_8e157 3 (some .int)])
def wsJx4a65c_elementData_915e3 : List Cond := .code yJx4a65c_elementData_915e3 cJx4a65c_elementData_915e3 2 (some (.object "java/lang/Object")) :: ([.fieldLink RJx4a65c 9 "java/util/ArrayList" "elementData" "[Ljava/lang/Object;"] ++ wsJx4a65c0)
def wsJx4a65c_get_915e3 : List Cond := .code yJx4a65c_get_915e3 cJx4a65c_get_915e3 2 (some (.object "java/lang/Object")) :: ([.fieldLink RJx4a65c 48 "java/util/ArrayList" "size" "I", .methodLink RJx4a65c 118 yJ15_checkIndex_7cf53, .static yJ15_checkIndex_7cf53, .initialized RJ15, .code yJ15_checkIndex_7cf53 cJ15_checkIndex_7cf53 2 (some .int), .methodLink RJ15 105 yJ3_checkIndex_8e157, .static yJ3_checkIndex_8e157, .initialized RJ3, .code yJ3_checkIndex_8e157 cJ3_checkIndex_8e157 3 (some .int), .methodLink RJx4a65c 123 yJx4a65c_elementData_915e3, .instanceMethod yJx4a65c_elementData_915e3, .selects RJx4a65c yJx4a65c_elementData_915e3 yJx4a65c_elementData_915e3, .initialized RJx4a65c, .code yJx4a65c_elementData_915e3 cJx4a65c_elementData_915e3 2 (some (.object "java/lang/Object")), .fieldLink RJx4a65c 9 "java/util/ArrayList" "elementData" "[Ljava/lang/Object;"] ++ wsJx4a65c0)
def wsX4_mirrors : List Cond := .code yX4_mirrors cX4_mirrors 2 (some .boolean) :: ([.fieldLink RX4 13 "Vortexpin$Point" "current" "I", .fieldLink RX4 7 "Vortexpin$Point" "temperature" "I"] ++ wsX40)
def wsX0_isOpen_r1 : List Cond := [Cond.fieldLink RX0 15 "Vortexpin$Claim" "from" "I", Cond.fieldLink RX0 18 "Vortexpin$Claim" "to" "I", Cond.classLink RX0 46 "Vortexpin$Point", Cond.fieldLink RX0 48 "Vortexpin$Point" "temperature" "I", Cond.fieldLink RX0 9 "Vortexpin$Claim" "temperature" "I", Cond.fieldLink RX0 53 "Vortexpin$Point" "voltage" "I", Cond.methodLink RX0 56 Lib.Math.abs.name, Cond.static Lib.Math.abs.name, Cond.initialized "java/lang/Math", Cond.code Lib.Math.abs.name Lib.Math.abs.code 1 (some .int), Cond.methodLink RX0 36 yJx4a65c_size_8abf5, Cond.instanceMethod yJx4a65c_size_8abf5, Cond.selects RJx4a65c yJx4a65c_size_8abf5 yJx4a65c_size_8abf5, Cond.initialized RJx4a65c, Cond.code yJx4a65c_size_8abf5 cJx4a65c_size_8abf5 1 (some .int), Cond.fieldLink RJx4a65c 48 "java/util/ArrayList" "size" "I", Cond.methodLink RX0 42 yJx4a65c_get_915e3, Cond.instanceMethod yJx4a65c_get_915e3, Cond.selects RJx4a65c yJx4a65c_get_915e3 yJx4a65c_get_915e3, Cond.code yJx4a65c_get_915e3 cJx4a65c_get_915e3 2 (some (.object "java/lang/Object")), Cond.methodLink RJx4a65c 118 yJ15_checkIndex_7cf53, Cond.static yJ15_checkIndex_7cf53, Cond.initialized RJ15, Cond.code yJ15_checkIndex_7cf53 cJ15_checkIndex_7cf53 2 (some .int)]
def wsX0_isOpen_r2 : List Cond := [Cond.methodLink RJ15 105 yJ3_checkIndex_8e157, Cond.static yJ3_checkIndex_8e157, Cond.initialized RJ3, Cond.code yJ3_checkIndex_8e157 cJ3_checkIndex_8e157 3 (some .int), Cond.methodLink RJx4a65c 123 yJx4a65c_elementData_915e3, Cond.instanceMethod yJx4a65c_elementData_915e3, Cond.selects RJx4a65c yJx4a65c_elementData_915e3 yJx4a65c_elementData_915e3, Cond.code yJx4a65c_elementData_915e3 cJx4a65c_elementData_915e3 2 (some (.object "java/lang/Object")), Cond.fieldLink RJx4a65c 9 "java/util/ArrayList" "elementData" "[Ljava/lang/Object;", Cond.methodLink RX0 49 yX4_mirrors, Cond.instanceMethod yX4_mirrors, Cond.selects RX4 yX4_mirrors yX4_mirrors, Cond.initialized RX4, Cond.code yX4_mirrors cX4_mirrors 2 (some .boolean), Cond.fieldLink RX4 13 "Vortexpin$Point" "current" "I", Cond.fieldLink RX4 7 "Vortexpin$Point" "temperature" "I"]
def wsX0_isOpen : List Cond := .code yX0_isOpen cX0_isOpen 8 (some .boolean) :: ((wsX0_isOpen_r1 ++ wsX0_isOpen_r2) ++ wsX00 ++ wsX40 ++ wsJx4a65c0)
def wsX0_verdict_r1 : List Cond := [Cond.fieldLink RX0 18 "Vortexpin$Claim" "to" "I", Cond.fieldLink RX0 15 "Vortexpin$Claim" "from" "I", Cond.fieldLink RX0 21 "Vortexpin$Claim" "pointsThen" "I", Cond.methodLink RX0 28 yX0_isOpen, Cond.instanceMethod yX0_isOpen, Cond.selects RX0 yX0_isOpen yX0_isOpen, Cond.initialized RX0, Cond.code yX0_isOpen cX0_isOpen 8 (some .boolean), Cond.classLink RX0 46 "Vortexpin$Point", Cond.fieldLink RX0 48 "Vortexpin$Point" "temperature" "I", Cond.fieldLink RX0 9 "Vortexpin$Claim" "temperature" "I", Cond.fieldLink RX0 53 "Vortexpin$Point" "voltage" "I", Cond.methodLink RX0 56 Lib.Math.abs.name, Cond.static Lib.Math.abs.name, Cond.initialized "java/lang/Math", Cond.code Lib.Math.abs.name Lib.Math.abs.code 1 (some .int), Cond.methodLink RX0 36 yJx4a65c_size_8abf5, Cond.instanceMethod yJx4a65c_size_8abf5, Cond.selects RJx4a65c yJx4a65c_size_8abf5 yJx4a65c_size_8abf5, Cond.initialized RJx4a65c, Cond.code yJx4a65c_size_8abf5 cJx4a65c_size_8abf5 1 (some .int), Cond.fieldLink RJx4a65c 48 "java/util/ArrayList" "size" "I", Cond.methodLink RX0 42 yJx4a65c_get_915e3, Cond.instanceMethod yJx4a65c_get_915e3]
def wsX0_verdict_r2 : List Cond := [Cond.selects RJx4a65c yJx4a65c_get_915e3 yJx4a65c_get_915e3, Cond.code yJx4a65c_get_915e3 cJx4a65c_get_915e3 2 (some (.object "java/lang/Object")), Cond.methodLink RJx4a65c 118 yJ15_checkIndex_7cf53, Cond.static yJ15_checkIndex_7cf53, Cond.initialized RJ15, Cond.code yJ15_checkIndex_7cf53 cJ15_checkIndex_7cf53 2 (some .int), Cond.methodLink RJ15 105 yJ3_checkIndex_8e157, Cond.static yJ3_checkIndex_8e157, Cond.initialized RJ3, Cond.code yJ3_checkIndex_8e157 cJ3_checkIndex_8e157 3 (some .int), Cond.methodLink RJx4a65c 123 yJx4a65c_elementData_915e3, Cond.instanceMethod yJx4a65c_elementData_915e3, Cond.selects RJx4a65c yJx4a65c_elementData_915e3 yJx4a65c_elementData_915e3, Cond.code yJx4a65c_elementData_915e3 cJx4a65c_elementData_915e3 2 (some (.object "java/lang/Object")), Cond.fieldLink RJx4a65c 9 "java/util/ArrayList" "elementData" "[Ljava/lang/Object;", Cond.methodLink RX0 49 yX4_mirrors, Cond.instanceMethod yX4_mirrors, Cond.selects RX4 yX4_mirrors yX4_mirrors, Cond.initialized RX4, Cond.code yX4_mirrors cX4_mirrors 2 (some .boolean), Cond.fieldLink RX4 13 "Vortexpin$Point" "current" "I", Cond.fieldLink RX4 7 "Vortexpin$Point" "temperature" "I", Cond.methodLink RX0 32 yX0_housesThat, Cond.instanceMethod yX0_housesThat]
def wsX0_verdict_r3 : List Cond := [Cond.selects RX0 yX0_housesThat yX0_housesThat, Cond.code yX0_housesThat cX0_housesThat 4 (some .int), Cond.fieldLink RX0 24 "Vortexpin$Claim" "words" "[I"]
def wsX0_verdict : List Cond := .code yX0_verdict cX0_verdict 4 (some .int) :: ((wsX0_verdict_r1 ++ (wsX0_verdict_r2 ++ wsX0_verdict_r3)) ++ wsX00 ++ wsX40 ++ wsJx4a65c0)
def wsX1_init : List Cond := .code yX1_init cX1_init 2 none :: ([.methodLink RX1 1 objectInit, .instanceMethod objectInit, .code objectInit ⟨#[0xb1]⟩ 1 none, .arrayClass .int, .fieldLink RX1 9 "Vortexpin$Coil" "warmths" "[I", .fieldLink RX1 13 "Vortexpin$Coil" "spare" "[I"] ++ wsX10)
def wsX1_stored : List Cond := .code yX1_stored cX1_stored 1 (some .long) :: ([.constantLong RX1 71 (50), .fieldLink RX1 33 "Vortexpin$Coil" "current" "I"] ++ wsX10)
def wsX1_isNormal : List Cond := .code yX1_isNormal cX1_isNormal 2 (some .boolean) :: ([.fieldLink RX1 33 "Vortexpin$Coil" "current" "I"] ++ wsX10)
def wsX1_normalParts : List Cond := .code yX1_normalParts cX1_normalParts 5 (some .int) :: ([.methodLink RX1 68 Lib.Math.max.name, .static Lib.Math.max.name, .initialized "java/lang/Math", .code Lib.Math.max.name Lib.Math.max.code 2 (some .int), .fieldLink RX1 9 "Vortexpin$Coil" "warmths" "[I", .methodLink RX1 48 yX1_isNormal, .instanceMethod yX1_isNormal, .selects RX1 yX1_isNormal yX1_isNormal, .initialized RX1, .code yX1_isNormal cX1_isNormal 2 (some .boolean), .fieldLink RX1 33 "Vortexpin$Coil" "current" "I"] ++ wsX10)
def wsX1_loseCurrent : List Cond := .code yX1_loseCurrent cX1_loseCurrent 8 none :: ([.fieldLink RX1 33 "Vortexpin$Coil" "current" "I", .fieldLink RX1 41 "Vortexpin$Coil" "toWire" "J", .fieldLink RX1 45 "Vortexpin$Coil" "toDump" "J", .methodLink RX1 29 yX1_stored, .instanceMethod yX1_stored, .selects RX1 yX1_stored yX1_stored, .initialized RX1, .code yX1_stored cX1_stored 1 (some .long), .constantLong RX1 71 (50), .methodLink RX1 37 yX1_normalParts, .instanceMethod yX1_normalParts, .selects RX1 yX1_normalParts yX1_normalParts, .code yX1_normalParts cX1_normalParts 5 (some .int), .methodLink RX1 68 Lib.Math.max.name, .static Lib.Math.max.name, .initialized "java/lang/Math", .code Lib.Math.max.name Lib.Math.max.code 2 (some .int), .fieldLink RX1 9 "Vortexpin$Coil" "warmths" "[I", .methodLink RX1 48 yX1_isNormal, .instanceMethod yX1_isNormal, .selects RX1 yX1_isNormal yX1_isNormal, .code yX1_isNormal cX1_isNormal 2 (some .boolean)] ++ wsX10)
def wsX1_spreadWarmth : List Cond := .code yX1_spreadWarmth cX1_spreadWarmth 5 none :: ([.fieldLink RX1 9 "Vortexpin$Coil" "warmths" "[I", .fieldLink RX1 13 "Vortexpin$Coil" "spare" "[I", .fieldLink RX1 33 "Vortexpin$Coil" "current" "I", .methodLink RX1 52 Lib.Math.min.name, .static Lib.Math.min.name, .initialized "java/lang/Math", .code Lib.Math.min.name Lib.Math.min.code 2 (some .int), .methodLink RX1 48 yX1_isNormal, .instanceMethod yX1_isNormal, .selects RX1 yX1_isNormal yX1_isNormal, .initialized RX1, .code yX1_isNormal cX1_isNormal 2 (some .boolean)] ++ wsX10)
def wsX1_doubt : List Cond := .code yX1_doubt cX1_doubt 1 (some .int) :: ([.methodLink RX1 37 yX1_normalParts, .instanceMethod yX1_normalParts, .selects RX1 yX1_normalParts yX1_normalParts, .initialized RX1, .code yX1_normalParts cX1_normalParts 5 (some .int), .methodLink RX1 68 Lib.Math.max.name, .static Lib.Math.max.name, .initialized "java/lang/Math", .code Lib.Math.max.name Lib.Math.max.code 2 (some .int), .fieldLink RX1 9 "Vortexpin$Coil" "warmths" "[I", .methodLink RX1 48 yX1_isNormal, .instanceMethod yX1_isNormal, .selects RX1 yX1_isNormal yX1_isNormal, .code yX1_isNormal cX1_isNormal 2 (some .boolean), .fieldLink RX1 33 "Vortexpin$Coil" "current" "I"] ++ wsX10)
def wsX1_watch : List Cond := .code yX1_watch cX1_watch 1 none :: ([.methodLink RX1 61 Lib.Math.abs.name, .static Lib.Math.abs.name, .initialized "java/lang/Math", .code Lib.Math.abs.name Lib.Math.abs.code 1 (some .int), .fieldLink RX1 65 "Vortexpin$Coil" "doubtfulInRow" "I", .fieldLink RX1 16 "Vortexpin$Coil" "dumped" "Z", .methodLink RX1 57 yX1_doubt, .instanceMethod yX1_doubt, .selects RX1 yX1_doubt yX1_doubt, .initialized RX1, .code yX1_doubt cX1_doubt 1 (some .int), .methodLink RX1 37 yX1_normalParts, .instanceMethod yX1_normalParts, .selects RX1 yX1_normalParts yX1_normalParts, .code yX1_normalParts cX1_normalParts 5 (some .int), .methodLink RX1 68 Lib.Math.max.name, .static Lib.Math.max.name, .code Lib.Math.max.name Lib.Math.max.code 2 (some .int), .fieldLink RX1 9 "Vortexpin$Coil" "warmths" "[I", .methodLink RX1 48 yX1_isNormal, .instanceMethod yX1_isNormal, .selects RX1 yX1_isNormal yX1_isNormal, .code yX1_isNormal cX1_isNormal 2 (some .boolean), .fieldLink RX1 33 "Vortexpin$Coil" "current" "I"] ++ wsX10)
def wsX1_runPulse_r1 : List Cond := [Cond.fieldLink RX1 16 "Vortexpin$Coil" "dumped" "Z", Cond.methodLink RX1 20 yX1_loseCurrent, Cond.instanceMethod yX1_loseCurrent, Cond.selects RX1 yX1_loseCurrent yX1_loseCurrent, Cond.initialized RX1, Cond.code yX1_loseCurrent cX1_loseCurrent 8 none, Cond.fieldLink RX1 33 "Vortexpin$Coil" "current" "I", Cond.fieldLink RX1 41 "Vortexpin$Coil" "toWire" "J", Cond.fieldLink RX1 45 "Vortexpin$Coil" "toDump" "J", Cond.methodLink RX1 29 yX1_stored, Cond.instanceMethod yX1_stored, Cond.selects RX1 yX1_stored yX1_stored, Cond.code yX1_stored cX1_stored 1 (some .long), Cond.constantLong RX1 71 (50), Cond.methodLink RX1 37 yX1_normalParts, Cond.instanceMethod yX1_normalParts, Cond.selects RX1 yX1_normalParts yX1_normalParts, Cond.code yX1_normalParts cX1_normalParts 5 (some .int), Cond.methodLink RX1 68 Lib.Math.max.name, Cond.static Lib.Math.max.name, Cond.initialized "java/lang/Math", Cond.code Lib.Math.max.name Lib.Math.max.code 2 (some .int), Cond.fieldLink RX1 9 "Vortexpin$Coil" "warmths" "[I", Cond.methodLink RX1 48 yX1_isNormal]
def wsX1_runPulse_r2 : List Cond := [Cond.instanceMethod yX1_isNormal, Cond.selects RX1 yX1_isNormal yX1_isNormal, Cond.code yX1_isNormal cX1_isNormal 2 (some .boolean), Cond.methodLink RX1 23 yX1_spreadWarmth, Cond.instanceMethod yX1_spreadWarmth, Cond.selects RX1 yX1_spreadWarmth yX1_spreadWarmth, Cond.code yX1_spreadWarmth cX1_spreadWarmth 5 none, Cond.fieldLink RX1 13 "Vortexpin$Coil" "spare" "[I", Cond.methodLink RX1 52 Lib.Math.min.name, Cond.static Lib.Math.min.name, Cond.code Lib.Math.min.name Lib.Math.min.code 2 (some .int), Cond.methodLink RX1 26 yX1_watch, Cond.instanceMethod yX1_watch, Cond.selects RX1 yX1_watch yX1_watch, Cond.code yX1_watch cX1_watch 1 none, Cond.methodLink RX1 61 Lib.Math.abs.name, Cond.static Lib.Math.abs.name, Cond.code Lib.Math.abs.name Lib.Math.abs.code 1 (some .int), Cond.fieldLink RX1 65 "Vortexpin$Coil" "doubtfulInRow" "I", Cond.methodLink RX1 57 yX1_doubt, Cond.instanceMethod yX1_doubt, Cond.selects RX1 yX1_doubt yX1_doubt, Cond.code yX1_doubt cX1_doubt 1 (some .int)]
def wsX1_runPulse : List Cond := .code yX1_runPulse cX1_runPulse 1 none :: ((wsX1_runPulse_r1 ++ wsX1_runPulse_r2) ++ wsX10)
def wsX2_init : List Cond := .code yX2_init cX2_init 1 none :: ([.methodLink RX2 1 objectInit, .instanceMethod objectInit, .code objectInit ⟨#[0xb1]⟩ 1 none, .fieldLink RX2 7 "Vortexpin$Counter" "lower" "I", .fieldLink RX2 13 "Vortexpin$Counter" "upper" "I"] ++ wsX20)
def wsX2_take : List Cond := .code yX2_take cX2_take 3 (some .int) :: ([.fieldLink RX2 7 "Vortexpin$Counter" "lower" "I", .fieldLink RX2 16 "Vortexpin$Counter" "count" "I", .fieldLink RX2 13 "Vortexpin$Counter" "upper" "I", .constant RX2 19 (65536)] ++ wsX20)
def wsX3_init : List Cond := .code yX3_init cX3_init 2 none :: ([.methodLink RX3 5 objectInit, .instanceMethod objectInit, .code objectInit ⟨#[0xb1]⟩ 1 none, .arrayClass .int, .fieldLink RX3 11 "Vortexpin$Film" "depths" "[I", .fieldLink RX3 15 "Vortexpin$Film" "cells" "[I"] ++ wsX30)
def wsX3_depthOf : List Cond := .code yX3_depthOf cX3_depthOf 2 (some .int) :: ([.fieldLink RX3 11 "Vortexpin$Film" "depths" "[I"] ++ wsX30)
def wsX3_leavesFrom : List Cond := .code yX3_leavesFrom cX3_leavesFrom 3 (some .boolean) :: ([.fieldLink RX3 26 "Vortexpin$Film" "drive" "I", .methodLink RX3 34 Lib.Math.abs.name, .static Lib.Math.abs.name, .initialized "java/lang/Math", .code Lib.Math.abs.name Lib.Math.abs.code 1 (some .int), .fieldLink RX3 39 "Vortexpin$Film" "heat" "I", .methodLink RX3 30 yX3_depthOf, .instanceMethod yX3_depthOf, .selects RX3 yX3_depthOf yX3_depthOf, .initialized RX3, .code yX3_depthOf cX3_depthOf 2 (some .int), .fieldLink RX3 11 "Vortexpin$Film" "depths" "[I"] ++ wsX30)
def wsX3_repulsion : List Cond := .code yX3_repulsion cX3_repulsion 4 (some .int) :: ([.methodLink RX3 34 Lib.Math.abs.name, .static Lib.Math.abs.name, .initialized "java/lang/Math", .code Lib.Math.abs.name Lib.Math.abs.code 1 (some .int)])
def wsX3_energyAt : List Cond := .code yX3_energyAt cX3_energyAt 5 (some .int) :: ([.fieldLink RX3 15 "Vortexpin$Film" "cells" "[I", .fieldLink RX3 26 "Vortexpin$Film" "drive" "I", .methodLink RX3 58 yX3_repulsion, .static yX3_repulsion, .initialized RX3, .code yX3_repulsion cX3_repulsion 4 (some .int), .methodLink RX3 34 Lib.Math.abs.name, .static Lib.Math.abs.name, .initialized "java/lang/Math", .code Lib.Math.abs.name Lib.Math.abs.code 1 (some .int), .methodLink RX3 30 yX3_depthOf, .instanceMethod yX3_depthOf, .selects RX3 yX3_depthOf yX3_depthOf, .code yX3_depthOf cX3_depthOf 2 (some .int), .fieldLink RX3 11 "Vortexpin$Film" "depths" "[I"] ++ wsX30)
def wsX3_beside : List Cond := .code yX3_beside cX3_beside 4 (some .int) :: ([])
def wsX3_isFree : List Cond := .code yX3_isFree cX3_isFree 3 (some .boolean) :: ([.fieldLink RX3 15 "Vortexpin$Film" "cells" "[I"] ++ wsX30)
def wsX3_calmestBeside_r1 : List Cond := [Cond.methodLink RX3 52 yX3_beside, Cond.static yX3_beside, Cond.initialized RX3, Cond.code yX3_beside cX3_beside 4 (some .int), Cond.methodLink RX3 55 yX3_isFree, Cond.instanceMethod yX3_isFree, Cond.selects RX3 yX3_isFree yX3_isFree, Cond.code yX3_isFree cX3_isFree 3 (some .boolean), Cond.fieldLink RX3 15 "Vortexpin$Film" "cells" "[I", Cond.methodLink RX3 42 yX3_energyAt, Cond.instanceMethod yX3_energyAt, Cond.selects RX3 yX3_energyAt yX3_energyAt, Cond.code yX3_energyAt cX3_energyAt 5 (some .int), Cond.fieldLink RX3 26 "Vortexpin$Film" "drive" "I", Cond.methodLink RX3 58 yX3_repulsion, Cond.static yX3_repulsion, Cond.code yX3_repulsion cX3_repulsion 4 (some .int), Cond.methodLink RX3 34 Lib.Math.abs.name, Cond.static Lib.Math.abs.name, Cond.initialized "java/lang/Math", Cond.code Lib.Math.abs.name Lib.Math.abs.code 1 (some .int), Cond.methodLink RX3 30 yX3_depthOf, Cond.instanceMethod yX3_depthOf, Cond.selects RX3 yX3_depthOf yX3_depthOf]
def wsX3_calmestBeside_r2 : List Cond := [Cond.code yX3_depthOf cX3_depthOf 2 (some .int), Cond.fieldLink RX3 11 "Vortexpin$Film" "depths" "[I"]
def wsX3_calmestBeside : List Cond := .code yX3_calmestBeside cX3_calmestBeside 9 (some .int) :: ((wsX3_calmestBeside_r1 ++ wsX3_calmestBeside_r2) ++ wsX30)
def wsX3_creepGoal_r1 : List Cond := [Cond.fieldLink RX3 26 "Vortexpin$Film" "drive" "I", Cond.fieldLink RX3 39 "Vortexpin$Film" "heat" "I", Cond.methodLink RX3 52 yX3_beside, Cond.static yX3_beside, Cond.initialized RX3, Cond.code yX3_beside cX3_beside 4 (some .int), Cond.methodLink RX3 55 yX3_isFree, Cond.instanceMethod yX3_isFree, Cond.selects RX3 yX3_isFree yX3_isFree, Cond.code yX3_isFree cX3_isFree 3 (some .boolean), Cond.fieldLink RX3 15 "Vortexpin$Film" "cells" "[I", Cond.methodLink RX3 42 yX3_energyAt, Cond.instanceMethod yX3_energyAt, Cond.selects RX3 yX3_energyAt yX3_energyAt, Cond.code yX3_energyAt cX3_energyAt 5 (some .int), Cond.methodLink RX3 58 yX3_repulsion, Cond.static yX3_repulsion, Cond.code yX3_repulsion cX3_repulsion 4 (some .int), Cond.methodLink RX3 34 Lib.Math.abs.name, Cond.static Lib.Math.abs.name, Cond.initialized "java/lang/Math", Cond.code Lib.Math.abs.name Lib.Math.abs.code 1 (some .int), Cond.methodLink RX3 30 yX3_depthOf, Cond.instanceMethod yX3_depthOf]
def wsX3_creepGoal_r2 : List Cond := [Cond.selects RX3 yX3_depthOf yX3_depthOf, Cond.code yX3_depthOf cX3_depthOf 2 (some .int), Cond.fieldLink RX3 11 "Vortexpin$Film" "depths" "[I"]
def wsX3_creepGoal : List Cond := .code yX3_creepGoal cX3_creepGoal 5 (some .int) :: ((wsX3_creepGoal_r1 ++ wsX3_creepGoal_r2) ++ wsX30)
def wsX3_goalFrom_r1 : List Cond := [Cond.methodLink RX3 42 yX3_energyAt, Cond.instanceMethod yX3_energyAt, Cond.selects RX3 yX3_energyAt yX3_energyAt, Cond.initialized RX3, Cond.code yX3_energyAt cX3_energyAt 5 (some .int), Cond.fieldLink RX3 15 "Vortexpin$Film" "cells" "[I", Cond.fieldLink RX3 26 "Vortexpin$Film" "drive" "I", Cond.methodLink RX3 58 yX3_repulsion, Cond.static yX3_repulsion, Cond.code yX3_repulsion cX3_repulsion 4 (some .int), Cond.methodLink RX3 34 Lib.Math.abs.name, Cond.static Lib.Math.abs.name, Cond.initialized "java/lang/Math", Cond.code Lib.Math.abs.name Lib.Math.abs.code 1 (some .int), Cond.methodLink RX3 30 yX3_depthOf, Cond.instanceMethod yX3_depthOf, Cond.selects RX3 yX3_depthOf yX3_depthOf, Cond.code yX3_depthOf cX3_depthOf 2 (some .int), Cond.fieldLink RX3 11 "Vortexpin$Film" "depths" "[I", Cond.methodLink RX3 45 yX3_calmestBeside, Cond.instanceMethod yX3_calmestBeside, Cond.selects RX3 yX3_calmestBeside yX3_calmestBeside, Cond.code yX3_calmestBeside cX3_calmestBeside 9 (some .int), Cond.methodLink RX3 52 yX3_beside]
def wsX3_goalFrom_r2 : List Cond := [Cond.static yX3_beside, Cond.code yX3_beside cX3_beside 4 (some .int), Cond.methodLink RX3 55 yX3_isFree, Cond.instanceMethod yX3_isFree, Cond.selects RX3 yX3_isFree yX3_isFree, Cond.code yX3_isFree cX3_isFree 3 (some .boolean), Cond.methodLink RX3 49 yX3_creepGoal, Cond.instanceMethod yX3_creepGoal, Cond.selects RX3 yX3_creepGoal yX3_creepGoal, Cond.code yX3_creepGoal cX3_creepGoal 5 (some .int), Cond.fieldLink RX3 39 "Vortexpin$Film" "heat" "I"]
def wsX3_goalFrom : List Cond := .code yX3_goalFrom cX3_goalFrom 5 (some .int) :: ((wsX3_goalFrom_r1 ++ wsX3_goalFrom_r2) ++ wsX30)
def wsX3_runStep_r1 : List Cond := [Cond.fieldLink RX3 15 "Vortexpin$Film" "cells" "[I", Cond.methodLink RX3 18 yX3_leavesFrom, Cond.instanceMethod yX3_leavesFrom, Cond.selects RX3 yX3_leavesFrom yX3_leavesFrom, Cond.initialized RX3, Cond.code yX3_leavesFrom cX3_leavesFrom 3 (some .boolean), Cond.fieldLink RX3 26 "Vortexpin$Film" "drive" "I", Cond.methodLink RX3 34 Lib.Math.abs.name, Cond.static Lib.Math.abs.name, Cond.initialized "java/lang/Math", Cond.code Lib.Math.abs.name Lib.Math.abs.code 1 (some .int), Cond.fieldLink RX3 39 "Vortexpin$Film" "heat" "I", Cond.methodLink RX3 30 yX3_depthOf, Cond.instanceMethod yX3_depthOf, Cond.selects RX3 yX3_depthOf yX3_depthOf, Cond.code yX3_depthOf cX3_depthOf 2 (some .int), Cond.fieldLink RX3 11 "Vortexpin$Film" "depths" "[I", Cond.methodLink RX3 22 yX3_goalFrom, Cond.instanceMethod yX3_goalFrom, Cond.selects RX3 yX3_goalFrom yX3_goalFrom, Cond.code yX3_goalFrom cX3_goalFrom 5 (some .int), Cond.methodLink RX3 42 yX3_energyAt, Cond.instanceMethod yX3_energyAt, Cond.selects RX3 yX3_energyAt yX3_energyAt]
def wsX3_runStep_r2 : List Cond := [Cond.code yX3_energyAt cX3_energyAt 5 (some .int), Cond.methodLink RX3 58 yX3_repulsion, Cond.static yX3_repulsion, Cond.code yX3_repulsion cX3_repulsion 4 (some .int), Cond.methodLink RX3 45 yX3_calmestBeside, Cond.instanceMethod yX3_calmestBeside, Cond.selects RX3 yX3_calmestBeside yX3_calmestBeside, Cond.code yX3_calmestBeside cX3_calmestBeside 9 (some .int), Cond.methodLink RX3 52 yX3_beside, Cond.static yX3_beside, Cond.code yX3_beside cX3_beside 4 (some .int), Cond.methodLink RX3 55 yX3_isFree, Cond.instanceMethod yX3_isFree, Cond.selects RX3 yX3_isFree yX3_isFree, Cond.code yX3_isFree cX3_isFree 3 (some .boolean), Cond.methodLink RX3 49 yX3_creepGoal, Cond.instanceMethod yX3_creepGoal, Cond.selects RX3 yX3_creepGoal yX3_creepGoal, Cond.code yX3_creepGoal cX3_creepGoal 5 (some .int)]
def wsX3_runStep : List Cond := .code yX3_runStep cX3_runStep 5 (some .int) :: ((wsX3_runStep_r1 ++ wsX3_runStep_r2) ++ wsX30)
def wsX3_calmestEntry : List Cond := .code yX3_calmestEntry cX3_calmestEntry 7 (some .int) :: ([.methodLink RX3 55 yX3_isFree, .instanceMethod yX3_isFree, .selects RX3 yX3_isFree yX3_isFree, .initialized RX3, .code yX3_isFree cX3_isFree 3 (some .boolean), .fieldLink RX3 15 "Vortexpin$Film" "cells" "[I", .methodLink RX3 42 yX3_energyAt, .instanceMethod yX3_energyAt, .selects RX3 yX3_energyAt yX3_energyAt, .code yX3_energyAt cX3_energyAt 5 (some .int), .fieldLink RX3 26 "Vortexpin$Film" "drive" "I", .methodLink RX3 58 yX3_repulsion, .static yX3_repulsion, .code yX3_repulsion cX3_repulsion 4 (some .int), .methodLink RX3 34 Lib.Math.abs.name, .static Lib.Math.abs.name, .initialized "java/lang/Math", .code Lib.Math.abs.name Lib.Math.abs.code 1 (some .int), .methodLink RX3 30 yX3_depthOf, .instanceMethod yX3_depthOf, .selects RX3 yX3_depthOf yX3_depthOf, .code yX3_depthOf cX3_depthOf 2 (some .int), .fieldLink RX3 11 "Vortexpin$Film" "depths" "[I"] ++ wsX30)
def wsX3_cellOf : List Cond := .code yX3_cellOf cX3_cellOf 2 (some .int) :: ([.fieldLink RX3 15 "Vortexpin$Film" "cells" "[I"] ++ wsX30)
def wsX4_init : List Cond := .code yX4_init cX4_init 4 none :: ([.methodLink RX4 1 objectInit, .instanceMethod objectInit, .code objectInit ⟨#[0xb1]⟩ 1 none, .fieldLink RX4 7 "Vortexpin$Point" "temperature" "I", .fieldLink RX4 13 "Vortexpin$Point" "current" "I", .fieldLink RX4 16 "Vortexpin$Point" "voltage" "I"] ++ wsX40)
def wsX5_init : List Cond := .code yX5_init cX5_init 3 none :: ([.methodLink RX5 1 objectInit, .instanceMethod objectInit, .code objectInit ⟨#[0xb1]⟩ 1 none, .fieldLink RX5 7 "Vortexpin$Ring" "inductance" "I", .fieldLink RX5 13 "Vortexpin$Ring" "critical" "I"] ++ wsX50)
def wsX5_currentWith : List Cond := .code yX5_currentWith cX5_currentWith 2 (some .int) :: ([.fieldLink RX5 7 "Vortexpin$Ring" "inductance" "I", .fieldLink RX5 16 "Vortexpin$Ring" "flux" "I"] ++ wsX50)
def wsX5_settle : List Cond := .code yX5_settle cX5_settle 5 (some .int) :: ([.fieldLink RX5 19 "Vortexpin$Ring" "number" "I", .constant RX5 22 (1000000), .methodLink RX5 27 Lib.Math.abs.name, .static Lib.Math.abs.name, .initialized "java/lang/Math", .code Lib.Math.abs.name Lib.Math.abs.code 1 (some .int), .fieldLink RX5 13 "Vortexpin$Ring" "critical" "I", .fieldLink RX5 32 "Vortexpin$Ring" "slips" "I", .methodLink RX5 23 yX5_currentWith, .instanceMethod yX5_currentWith, .selects RX5 yX5_currentWith yX5_currentWith, .initialized RX5, .code yX5_currentWith cX5_currentWith 2 (some .int), .fieldLink RX5 7 "Vortexpin$Ring" "inductance" "I", .fieldLink RX5 16 "Vortexpin$Ring" "flux" "I"] ++ wsX50)
def wsJ9_floorDiv_7cf53 : List Cond := .code yJ9_floorDiv_7cf53 cJ9_floorDiv_7cf53 3 (some .int) :: ([])
def wsX5_nearestNumber : List Cond := .code yX5_nearestNumber cX5_nearestNumber 1 (some .int) :: ([.fieldLink RX5 16 "Vortexpin$Ring" "flux" "I", .methodLink RX5 35 yJ9_floorDiv_7cf53, .static yJ9_floorDiv_7cf53, .initialized RJ9, .code yJ9_floorDiv_7cf53 cJ9_floorDiv_7cf53 3 (some .int)] ++ wsX50)
def wsX6_init : List Cond := .code yX6_init cX6_init 4 none :: ([.methodLink RX6 3 objectInit, .instanceMethod objectInit, .code objectInit ⟨#[0xb1]⟩ 1 none, .fieldLink RX6 9 "Vortexpin$Sample" "critical" "I", .fieldLink RX6 15 "Vortexpin$Sample" "lower" "I", .fieldLink RX6 18 "Vortexpin$Sample" "upper" "I"] ++ wsX60)
def wsX6_boundOf : List Cond := .code yX6_boundOf cX6_boundOf 3 (some .int) :: ([.fieldLink RX6 9 "Vortexpin$Sample" "critical" "I", .fieldLink RX6 30 "Vortexpin$Sample" "temperature" "I"] ++ wsX60)
def wsX6_phase : List Cond := .code yX6_phase cX6_phase 3 (some .int) :: ([.fieldLink RX6 15 "Vortexpin$Sample" "lower" "I", .fieldLink RX6 18 "Vortexpin$Sample" "upper" "I", .fieldLink RX6 21 "Vortexpin$Sample" "field" "I", .methodLink RX6 24 Lib.Math.abs.name, .static Lib.Math.abs.name, .initialized "java/lang/Math", .code Lib.Math.abs.name Lib.Math.abs.code 1 (some .int), .fieldLink RX6 30 "Vortexpin$Sample" "temperature" "I", .fieldLink RX6 9 "Vortexpin$Sample" "critical" "I", .methodLink RX6 33 yX6_boundOf, .instanceMethod yX6_boundOf, .selects RX6 yX6_boundOf yX6_boundOf, .initialized RX6, .code yX6_boundOf cX6_boundOf 3 (some .int)] ++ wsX60)
def wsX6_penetration : List Cond := .code yX6_penetration cX6_penetration 5 (some .double) :: ([.fieldLink RX6 30 "Vortexpin$Sample" "temperature" "I", .fieldLink RX6 9 "Vortexpin$Sample" "critical" "I", .constantDouble RX6 36 (4636737291354636288)] ++ wsX60)
def wsJxa1e45_init_da8c8 : List Cond := .code yJxa1e45_init_da8c8 cJxa1e45_init_da8c8 1 none :: ([.methodLink RJxa1e45 1 objectInit, .instanceMethod objectInit, .code objectInit ⟨#[0xb1]⟩ 1 none])
def wsJxc12de_init_da8c8 : List Cond := .code yJxc12de_init_da8c8 cJxc12de_init_da8c8 1 none :: ([.fieldLink RJxc12de 7 "java/util/AbstractList" "modCount" "I", .methodLink RJxc12de 1 yJxa1e45_init_da8c8, .instanceMethod yJxa1e45_init_da8c8, .initialized RJxa1e45, .code yJxa1e45_init_da8c8 cJxa1e45_init_da8c8 1 none, .methodLink RJxa1e45 1 objectInit, .instanceMethod objectInit, .code objectInit ⟨#[0xb1]⟩ 1 none] ++ wsJx4a65c0)
def wsJx4a65c_init_da8c8 : List Cond := .code yJx4a65c_init_da8c8 cJx4a65c_init_da8c8 1 none :: ([.fieldLink RJx4a65c 39 "java/util/ArrayList" "DEFAULTCAPACITY_EMPTY_ELEMENTDATA" "[Ljava/lang/Object;", .fieldLink RJx4a65c 9 "java/util/ArrayList" "elementData" "[Ljava/lang/Object;", .methodLink RJx4a65c 1 yJxc12de_init_da8c8, .instanceMethod yJxc12de_init_da8c8, .initialized RJxc12de, .code yJxc12de_init_da8c8 cJxc12de_init_da8c8 1 none, .fieldLink RJxc12de 7 "java/util/AbstractList" "modCount" "I", .methodLink RJxc12de 1 yJxa1e45_init_da8c8, .instanceMethod yJxa1e45_init_da8c8, .initialized RJxa1e45, .code yJxa1e45_init_da8c8 cJxa1e45_init_da8c8 1 none, .methodLink RJxa1e45 1 objectInit, .instanceMethod objectInit, .code objectInit ⟨#[0xb1]⟩ 1 none] ++ wsJx4a65c0)
def wsX7_init_r1 : List Cond := [Cond.methodLink RX7 1 objectInit, Cond.instanceMethod objectInit, Cond.code objectInit ⟨#[0xb1]⟩ 1 none, Cond.classLink RX7 7 RJx4a65c, Cond.instantiable RJx4a65c 3, Cond.initialized RJx4a65c, Cond.fieldLink RX7 10 "Vortexpin" "samples" "Ljava/util/ArrayList;", Cond.classLink RX7 16 RX3, Cond.instantiable RX3 5, Cond.initialized RX3, Cond.fieldLink RX7 19 "Vortexpin" "film" "LVortexpin$Film;", Cond.fieldLink RX7 23 "Vortexpin" "rings" "Ljava/util/ArrayList;", Cond.classLink RX7 26 RX1, Cond.instantiable RX1 7, Cond.initialized RX1, Cond.fieldLink RX7 29 "Vortexpin" "coil" "LVortexpin$Coil;", Cond.classLink RX7 33 RX2, Cond.instantiable RX2 3, Cond.initialized RX2, Cond.fieldLink RX7 36 "Vortexpin" "counter" "LVortexpin$Counter;", Cond.fieldLink RX7 40 "Vortexpin" "points" "Ljava/util/ArrayList;", Cond.fieldLink RX7 43 "Vortexpin" "claims" "Ljava/util/ArrayList;", Cond.methodLink RX7 9 yJx4a65c_init_da8c8, Cond.instanceMethod yJx4a65c_init_da8c8]
def wsX7_init_r2 : List Cond := [Cond.code yJx4a65c_init_da8c8 cJx4a65c_init_da8c8 1 none, Cond.fieldLink RJx4a65c 39 "java/util/ArrayList" "DEFAULTCAPACITY_EMPTY_ELEMENTDATA" "[Ljava/lang/Object;", Cond.fieldLink RJx4a65c 9 "java/util/ArrayList" "elementData" "[Ljava/lang/Object;", Cond.methodLink RJx4a65c 1 yJxc12de_init_da8c8, Cond.instanceMethod yJxc12de_init_da8c8, Cond.initialized RJxc12de, Cond.code yJxc12de_init_da8c8 cJxc12de_init_da8c8 1 none, Cond.fieldLink RJxc12de 7 "java/util/AbstractList" "modCount" "I", Cond.methodLink RJxc12de 1 yJxa1e45_init_da8c8, Cond.instanceMethod yJxa1e45_init_da8c8, Cond.initialized RJxa1e45, Cond.code yJxa1e45_init_da8c8 cJxa1e45_init_da8c8 1 none, Cond.methodLink RJxa1e45 1 objectInit, Cond.methodLink RX7 18 yX3_init, Cond.instanceMethod yX3_init, Cond.code yX3_init cX3_init 2 none, Cond.methodLink RX3 5 objectInit, Cond.arrayClass .int, Cond.fieldLink RX3 11 "Vortexpin$Film" "depths" "[I", Cond.fieldLink RX3 15 "Vortexpin$Film" "cells" "[I", Cond.methodLink RX7 28 yX1_init, Cond.instanceMethod yX1_init, Cond.code yX1_init cX1_init 2 none, Cond.methodLink RX1 1 objectInit]
def wsX7_init_r3 : List Cond := [Cond.fieldLink RX1 9 "Vortexpin$Coil" "warmths" "[I", Cond.fieldLink RX1 13 "Vortexpin$Coil" "spare" "[I", Cond.methodLink RX7 35 yX2_init, Cond.instanceMethod yX2_init, Cond.code yX2_init cX2_init 1 none, Cond.methodLink RX2 1 objectInit, Cond.fieldLink RX2 7 "Vortexpin$Counter" "lower" "I", Cond.fieldLink RX2 13 "Vortexpin$Counter" "upper" "I"]
def wsX7_init : List Cond := .code yX7_init cX7_init 1 none :: ((wsX7_init_r1 ++ (wsX7_init_r2 ++ wsX7_init_r3)) ++ wsJx4a65c0 ++ wsX70 ++ wsX30 ++ wsX10 ++ wsX20)
def wsX7_refuseOutside : List Cond := .code yX7_refuseOutside cX7_refuseOutside 3 none :: ([.classLink RX7 209 "java/lang/IllegalArgumentException", .initialized "java/lang/IllegalArgumentException"] ++ (vx_atS RX7 213 "java/lang/IllegalArgumentException" ["java/lang/RuntimeException", "java/lang/Exception"]).filter goodWord)
def wsX7_refuseFull : List Cond := .code yX7_refuseFull cX7_refuseFull 2 none :: ([.classLink RX7 221 "java/lang/IllegalStateException", .initialized "java/lang/IllegalStateException"] ++ (vx_atS RX7 225 "java/lang/IllegalStateException" ["java/lang/RuntimeException", "java/lang/Exception"]).filter goodWord)
def wsJ8_hugeLength_7cf53 : List Cond := .code yJ8_hugeLength_7cf53 cJ8_hugeLength_7cf53 3 (some .int) :: ([.constant RJ8 200 (2147483639)])
def wsJ8_newLength_cabcc : List Cond := .code yJ8_newLength_cabcc cJ8_newLength_cabcc 4 (some .int) :: ([.methodLink RJ8 194 Lib.Math.max.name, .static Lib.Math.max.name, .initialized "java/lang/Math", .code Lib.Math.max.name Lib.Math.max.code 2 (some .int), .constant RJ8 200 (2147483639), .methodLink RJ8 201 yJ8_hugeLength_7cf53, .static yJ8_hugeLength_7cf53, .initialized RJ8, .code yJ8_hugeLength_7cf53 cJ8_hugeLength_7cf53 3 (some .int)])
def wsJ7_copyOf_6403c : List Cond := .code yJ7_copyOf_6403c cJ7_copyOf_6403c 4 (some (.array (.object "java/lang/Object"))) :: ([.classLink RJ7 110 "[Ljava/lang/Object;", .classLink RJ7 2 "java/lang/Object", .methodLink RJ7 304 Lib.Math.min.name, .static Lib.Math.min.name, .initialized "java/lang/Math", .code Lib.Math.min.name Lib.Math.min.code 2 (some .int), .methodLink RJ7 150 arraycopyName, .native arraycopyName, .static arraycopyName, .initialized "java/lang/System"])
def wsJ7_copyOf_1904c : List Cond := .code yJ7_copyOf_1904c cJ7_copyOf_1904c 2 (some (.array (.object "java/lang/Object"))) :: ([.methodLink RJ7 86 ⟨"java/lang/Object", "getClass", "()Ljava/lang/Class;"⟩, .selects "[Ljava/lang/Object;" ⟨"java/lang/Object", "getClass", "()Ljava/lang/Class;"⟩ ⟨"java/lang/Object", "getClass", "()Ljava/lang/Class;"⟩, .instanceMethod ⟨"java/lang/Object", "getClass", "()Ljava/lang/Class;"⟩, .native ⟨"java/lang/Object", "getClass", "()Ljava/lang/Class;"⟩, .methodLink RJ7 300 yJ7_copyOf_6403c, .static yJ7_copyOf_6403c, .initialized RJ7, .code yJ7_copyOf_6403c cJ7_copyOf_6403c 4 (some (.array (.object "java/lang/Object"))), .classLink RJ7 110 "[Ljava/lang/Object;", .classLink RJ7 2 "java/lang/Object", .methodLink RJ7 304 Lib.Math.min.name, .static Lib.Math.min.name, .initialized "java/lang/Math", .code Lib.Math.min.name Lib.Math.min.code 2 (some .int), .methodLink RJ7 150 arraycopyName, .native arraycopyName, .static arraycopyName, .initialized "java/lang/System"])
def wsJx4a65c_grow_92f84_r1 : List Cond := [Cond.fieldLink RJx4a65c 9 "java/util/ArrayList" "elementData" "[Ljava/lang/Object;", Cond.fieldLink RJx4a65c 39 "java/util/ArrayList" "DEFAULTCAPACITY_EMPTY_ELEMENTDATA" "[Ljava/lang/Object;", Cond.methodLink RJx4a65c 79 Lib.Math.max.name, Cond.static Lib.Math.max.name, Cond.initialized "java/lang/Math", Cond.code Lib.Math.max.name Lib.Math.max.code 2 (some .int), Cond.classLink RJx4a65c 7 "java/lang/Object", Cond.methodLink RJx4a65c 73 yJ8_newLength_cabcc, Cond.static yJ8_newLength_cabcc, Cond.initialized RJ8, Cond.code yJ8_newLength_cabcc cJ8_newLength_cabcc 4 (some .int), Cond.methodLink RJ8 194 Lib.Math.max.name, Cond.constant RJ8 200 (2147483639), Cond.methodLink RJ8 201 yJ8_hugeLength_7cf53, Cond.static yJ8_hugeLength_7cf53, Cond.code yJ8_hugeLength_7cf53 cJ8_hugeLength_7cf53 3 (some .int), Cond.methodLink RJx4a65c 66 yJ7_copyOf_1904c, Cond.static yJ7_copyOf_1904c, Cond.initialized RJ7, Cond.code yJ7_copyOf_1904c cJ7_copyOf_1904c 2 (some (.array (.object "java/lang/Object"))), Cond.methodLink RJ7 86 ⟨"java/lang/Object", "getClass", "()Ljava/lang/Class;"⟩, Cond.selects "[Ljava/lang/Object;" ⟨"java/lang/Object", "getClass", "()Ljava/lang/Class;"⟩ ⟨"java/lang/Object", "getClass", "()Ljava/lang/Class;"⟩, Cond.instanceMethod ⟨"java/lang/Object", "getClass", "()Ljava/lang/Class;"⟩, Cond.native ⟨"java/lang/Object", "getClass", "()Ljava/lang/Class;"⟩]
def wsJx4a65c_grow_92f84_r2 : List Cond := [Cond.methodLink RJ7 300 yJ7_copyOf_6403c, Cond.static yJ7_copyOf_6403c, Cond.code yJ7_copyOf_6403c cJ7_copyOf_6403c 4 (some (.array (.object "java/lang/Object"))), Cond.classLink RJ7 110 "[Ljava/lang/Object;", Cond.classLink RJ7 2 "java/lang/Object", Cond.methodLink RJ7 304 Lib.Math.min.name, Cond.static Lib.Math.min.name, Cond.code Lib.Math.min.name Lib.Math.min.code 2 (some .int), Cond.methodLink RJ7 150 arraycopyName, Cond.native arraycopyName, Cond.static arraycopyName, Cond.initialized "java/lang/System"]
def wsJx4a65c_grow_92f84 : List Cond := .code yJx4a65c_grow_92f84 cJx4a65c_grow_92f84 4 (some (.array (.object "java/lang/Object"))) :: ((wsJx4a65c_grow_92f84_r1 ++ wsJx4a65c_grow_92f84_r2) ++ wsJx4a65c0)
def wsJx4a65c_grow_d5877_r1 : List Cond := [Cond.fieldLink RJx4a65c 48 "java/util/ArrayList" "size" "I", Cond.methodLink RJx4a65c 69 yJx4a65c_grow_92f84, Cond.instanceMethod yJx4a65c_grow_92f84, Cond.selects RJx4a65c yJx4a65c_grow_92f84 yJx4a65c_grow_92f84, Cond.initialized RJx4a65c, Cond.code yJx4a65c_grow_92f84 cJx4a65c_grow_92f84 4 (some (.array (.object "java/lang/Object"))), Cond.fieldLink RJx4a65c 9 "java/util/ArrayList" "elementData" "[Ljava/lang/Object;", Cond.fieldLink RJx4a65c 39 "java/util/ArrayList" "DEFAULTCAPACITY_EMPTY_ELEMENTDATA" "[Ljava/lang/Object;", Cond.methodLink RJx4a65c 79 Lib.Math.max.name, Cond.static Lib.Math.max.name, Cond.initialized "java/lang/Math", Cond.code Lib.Math.max.name Lib.Math.max.code 2 (some .int), Cond.classLink RJx4a65c 7 "java/lang/Object", Cond.methodLink RJx4a65c 73 yJ8_newLength_cabcc, Cond.static yJ8_newLength_cabcc, Cond.initialized RJ8, Cond.code yJ8_newLength_cabcc cJ8_newLength_cabcc 4 (some .int), Cond.methodLink RJ8 194 Lib.Math.max.name, Cond.constant RJ8 200 (2147483639), Cond.methodLink RJ8 201 yJ8_hugeLength_7cf53, Cond.static yJ8_hugeLength_7cf53, Cond.code yJ8_hugeLength_7cf53 cJ8_hugeLength_7cf53 3 (some .int), Cond.methodLink RJx4a65c 66 yJ7_copyOf_1904c, Cond.static yJ7_copyOf_1904c]
def wsJx4a65c_grow_d5877_r2 : List Cond := [Cond.initialized RJ7, Cond.code yJ7_copyOf_1904c cJ7_copyOf_1904c 2 (some (.array (.object "java/lang/Object"))), Cond.methodLink RJ7 86 ⟨"java/lang/Object", "getClass", "()Ljava/lang/Class;"⟩, Cond.selects "[Ljava/lang/Object;" ⟨"java/lang/Object", "getClass", "()Ljava/lang/Class;"⟩ ⟨"java/lang/Object", "getClass", "()Ljava/lang/Class;"⟩, Cond.instanceMethod ⟨"java/lang/Object", "getClass", "()Ljava/lang/Class;"⟩, Cond.native ⟨"java/lang/Object", "getClass", "()Ljava/lang/Class;"⟩, Cond.methodLink RJ7 300 yJ7_copyOf_6403c, Cond.static yJ7_copyOf_6403c, Cond.code yJ7_copyOf_6403c cJ7_copyOf_6403c 4 (some (.array (.object "java/lang/Object"))), Cond.classLink RJ7 110 "[Ljava/lang/Object;", Cond.classLink RJ7 2 "java/lang/Object", Cond.methodLink RJ7 304 Lib.Math.min.name, Cond.static Lib.Math.min.name, Cond.code Lib.Math.min.name Lib.Math.min.code 2 (some .int), Cond.methodLink RJ7 150 arraycopyName, Cond.native arraycopyName, Cond.static arraycopyName, Cond.initialized "java/lang/System"]
def wsJx4a65c_grow_d5877 : List Cond := .code yJx4a65c_grow_d5877 cJx4a65c_grow_d5877 1 (some (.array (.object "java/lang/Object"))) :: ((wsJx4a65c_grow_d5877_r1 ++ wsJx4a65c_grow_d5877_r2) ++ wsJx4a65c0)
def wsJx4a65c_add_72be8_r1 : List Cond := [Cond.fieldLink RJx4a65c 48 "java/util/ArrayList" "size" "I", Cond.methodLink RJx4a65c 129 yJx4a65c_grow_d5877, Cond.instanceMethod yJx4a65c_grow_d5877, Cond.selects RJx4a65c yJx4a65c_grow_d5877 yJx4a65c_grow_d5877, Cond.initialized RJx4a65c, Cond.code yJx4a65c_grow_d5877 cJx4a65c_grow_d5877 1 (some (.array (.object "java/lang/Object"))), Cond.methodLink RJx4a65c 69 yJx4a65c_grow_92f84, Cond.instanceMethod yJx4a65c_grow_92f84, Cond.selects RJx4a65c yJx4a65c_grow_92f84 yJx4a65c_grow_92f84, Cond.code yJx4a65c_grow_92f84 cJx4a65c_grow_92f84 4 (some (.array (.object "java/lang/Object"))), Cond.fieldLink RJx4a65c 9 "java/util/ArrayList" "elementData" "[Ljava/lang/Object;", Cond.fieldLink RJx4a65c 39 "java/util/ArrayList" "DEFAULTCAPACITY_EMPTY_ELEMENTDATA" "[Ljava/lang/Object;", Cond.methodLink RJx4a65c 79 Lib.Math.max.name, Cond.static Lib.Math.max.name, Cond.initialized "java/lang/Math", Cond.code Lib.Math.max.name Lib.Math.max.code 2 (some .int), Cond.classLink RJx4a65c 7 "java/lang/Object", Cond.methodLink RJx4a65c 73 yJ8_newLength_cabcc, Cond.static yJ8_newLength_cabcc, Cond.initialized RJ8, Cond.code yJ8_newLength_cabcc cJ8_newLength_cabcc 4 (some .int), Cond.methodLink RJ8 194 Lib.Math.max.name, Cond.constant RJ8 200 (2147483639), Cond.methodLink RJ8 201 yJ8_hugeLength_7cf53]
def wsJx4a65c_add_72be8_r2 : List Cond := [Cond.static yJ8_hugeLength_7cf53, Cond.code yJ8_hugeLength_7cf53 cJ8_hugeLength_7cf53 3 (some .int), Cond.methodLink RJx4a65c 66 yJ7_copyOf_1904c, Cond.static yJ7_copyOf_1904c, Cond.initialized RJ7, Cond.code yJ7_copyOf_1904c cJ7_copyOf_1904c 2 (some (.array (.object "java/lang/Object"))), Cond.methodLink RJ7 86 ⟨"java/lang/Object", "getClass", "()Ljava/lang/Class;"⟩, Cond.selects "[Ljava/lang/Object;" ⟨"java/lang/Object", "getClass", "()Ljava/lang/Class;"⟩ ⟨"java/lang/Object", "getClass", "()Ljava/lang/Class;"⟩, Cond.instanceMethod ⟨"java/lang/Object", "getClass", "()Ljava/lang/Class;"⟩, Cond.native ⟨"java/lang/Object", "getClass", "()Ljava/lang/Class;"⟩, Cond.methodLink RJ7 300 yJ7_copyOf_6403c, Cond.static yJ7_copyOf_6403c, Cond.code yJ7_copyOf_6403c cJ7_copyOf_6403c 4 (some (.array (.object "java/lang/Object"))), Cond.classLink RJ7 110 "[Ljava/lang/Object;", Cond.classLink RJ7 2 "java/lang/Object", Cond.methodLink RJ7 304 Lib.Math.min.name, Cond.static Lib.Math.min.name, Cond.code Lib.Math.min.name Lib.Math.min.code 2 (some .int), Cond.methodLink RJ7 150 arraycopyName, Cond.native arraycopyName, Cond.static arraycopyName, Cond.initialized "java/lang/System"]
def wsJx4a65c_add_72be8 : List Cond := .code yJx4a65c_add_72be8 cJx4a65c_add_72be8 4 none :: ((wsJx4a65c_add_72be8_r1 ++ wsJx4a65c_add_72be8_r2) ++ wsJx4a65c0)
def wsJx4a65c_add_9ea2d_r1 : List Cond := [Cond.fieldLink RJx4a65c 63 "java/util/ArrayList" "modCount" "I", Cond.sameField "java/util/ArrayList" "java/util/AbstractList" "modCount" "I", Cond.fieldLink RJx4a65c 9 "java/util/ArrayList" "elementData" "[Ljava/lang/Object;", Cond.fieldLink RJx4a65c 48 "java/util/ArrayList" "size" "I", Cond.methodLink RJx4a65c 131 yJx4a65c_add_72be8, Cond.instanceMethod yJx4a65c_add_72be8, Cond.selects RJx4a65c yJx4a65c_add_72be8 yJx4a65c_add_72be8, Cond.initialized RJx4a65c, Cond.code yJx4a65c_add_72be8 cJx4a65c_add_72be8 4 none, Cond.methodLink RJx4a65c 129 yJx4a65c_grow_d5877, Cond.instanceMethod yJx4a65c_grow_d5877, Cond.selects RJx4a65c yJx4a65c_grow_d5877 yJx4a65c_grow_d5877, Cond.code yJx4a65c_grow_d5877 cJx4a65c_grow_d5877 1 (some (.array (.object "java/lang/Object"))), Cond.methodLink RJx4a65c 69 yJx4a65c_grow_92f84, Cond.instanceMethod yJx4a65c_grow_92f84, Cond.selects RJx4a65c yJx4a65c_grow_92f84 yJx4a65c_grow_92f84, Cond.code yJx4a65c_grow_92f84 cJx4a65c_grow_92f84 4 (some (.array (.object "java/lang/Object"))), Cond.fieldLink RJx4a65c 39 "java/util/ArrayList" "DEFAULTCAPACITY_EMPTY_ELEMENTDATA" "[Ljava/lang/Object;", Cond.methodLink RJx4a65c 79 Lib.Math.max.name, Cond.static Lib.Math.max.name, Cond.initialized "java/lang/Math", Cond.code Lib.Math.max.name Lib.Math.max.code 2 (some .int), Cond.classLink RJx4a65c 7 "java/lang/Object", Cond.methodLink RJx4a65c 73 yJ8_newLength_cabcc]
def wsJx4a65c_add_9ea2d_r2 : List Cond := [Cond.static yJ8_newLength_cabcc, Cond.initialized RJ8, Cond.code yJ8_newLength_cabcc cJ8_newLength_cabcc 4 (some .int), Cond.methodLink RJ8 194 Lib.Math.max.name, Cond.constant RJ8 200 (2147483639), Cond.methodLink RJ8 201 yJ8_hugeLength_7cf53, Cond.static yJ8_hugeLength_7cf53, Cond.code yJ8_hugeLength_7cf53 cJ8_hugeLength_7cf53 3 (some .int), Cond.methodLink RJx4a65c 66 yJ7_copyOf_1904c, Cond.static yJ7_copyOf_1904c, Cond.initialized RJ7, Cond.code yJ7_copyOf_1904c cJ7_copyOf_1904c 2 (some (.array (.object "java/lang/Object"))), Cond.methodLink RJ7 86 ⟨"java/lang/Object", "getClass", "()Ljava/lang/Class;"⟩, Cond.selects "[Ljava/lang/Object;" ⟨"java/lang/Object", "getClass", "()Ljava/lang/Class;"⟩ ⟨"java/lang/Object", "getClass", "()Ljava/lang/Class;"⟩, Cond.instanceMethod ⟨"java/lang/Object", "getClass", "()Ljava/lang/Class;"⟩, Cond.native ⟨"java/lang/Object", "getClass", "()Ljava/lang/Class;"⟩, Cond.methodLink RJ7 300 yJ7_copyOf_6403c, Cond.static yJ7_copyOf_6403c, Cond.code yJ7_copyOf_6403c cJ7_copyOf_6403c 4 (some (.array (.object "java/lang/Object"))), Cond.classLink RJ7 110 "[Ljava/lang/Object;", Cond.classLink RJ7 2 "java/lang/Object", Cond.methodLink RJ7 304 Lib.Math.min.name, Cond.static Lib.Math.min.name, Cond.code Lib.Math.min.name Lib.Math.min.code 2 (some .int)]
def wsJx4a65c_add_9ea2d_r3 : List Cond := [Cond.methodLink RJ7 150 arraycopyName, Cond.native arraycopyName, Cond.static arraycopyName, Cond.initialized "java/lang/System"]
def wsJx4a65c_add_9ea2d : List Cond := .code yJx4a65c_add_9ea2d cJx4a65c_add_9ea2d 2 (some .boolean) :: ((wsJx4a65c_add_9ea2d_r1 ++ (wsJx4a65c_add_9ea2d_r2 ++ wsJx4a65c_add_9ea2d_r3)) ++ wsJx4a65c0)
def wsX7_sample_r1 : List Cond := [Cond.fieldLink RX7 10 "Vortexpin" "samples" "Ljava/util/ArrayList;", Cond.classLink RX7 58 RX6, Cond.instantiable RX6 5, Cond.initialized RX6, Cond.methodLink RX7 46 yX7_refuseOutside, Cond.static yX7_refuseOutside, Cond.initialized RX7, Cond.code yX7_refuseOutside cX7_refuseOutside 3 none, Cond.classLink RX7 209 "java/lang/IllegalArgumentException", Cond.initialized "java/lang/IllegalArgumentException", Cond.methodLink RX7 50 yJx4a65c_size_8abf5, Cond.instanceMethod yJx4a65c_size_8abf5, Cond.selects RJx4a65c yJx4a65c_size_8abf5 yJx4a65c_size_8abf5, Cond.initialized RJx4a65c, Cond.code yJx4a65c_size_8abf5 cJx4a65c_size_8abf5 1 (some .int), Cond.fieldLink RJx4a65c 48 "java/util/ArrayList" "size" "I", Cond.methodLink RX7 54 yX7_refuseFull, Cond.static yX7_refuseFull, Cond.code yX7_refuseFull cX7_refuseFull 2 none, Cond.classLink RX7 221 "java/lang/IllegalStateException", Cond.initialized "java/lang/IllegalStateException", Cond.methodLink RX7 60 yX6_init, Cond.instanceMethod yX6_init, Cond.code yX6_init cX6_init 4 none]
def wsX7_sample_r2 : List Cond := [Cond.methodLink RX6 3 objectInit, Cond.instanceMethod objectInit, Cond.code objectInit ⟨#[0xb1]⟩ 1 none, Cond.fieldLink RX6 9 "Vortexpin$Sample" "critical" "I", Cond.fieldLink RX6 15 "Vortexpin$Sample" "lower" "I", Cond.fieldLink RX6 18 "Vortexpin$Sample" "upper" "I", Cond.methodLink RX7 62 yJx4a65c_add_9ea2d, Cond.instanceMethod yJx4a65c_add_9ea2d, Cond.selects RJx4a65c yJx4a65c_add_9ea2d yJx4a65c_add_9ea2d, Cond.code yJx4a65c_add_9ea2d cJx4a65c_add_9ea2d 2 (some .boolean), Cond.fieldLink RJx4a65c 63 "java/util/ArrayList" "modCount" "I", Cond.sameField "java/util/ArrayList" "java/util/AbstractList" "modCount" "I", Cond.fieldLink RJx4a65c 9 "java/util/ArrayList" "elementData" "[Ljava/lang/Object;", Cond.methodLink RJx4a65c 131 yJx4a65c_add_72be8, Cond.instanceMethod yJx4a65c_add_72be8, Cond.selects RJx4a65c yJx4a65c_add_72be8 yJx4a65c_add_72be8, Cond.code yJx4a65c_add_72be8 cJx4a65c_add_72be8 4 none, Cond.methodLink RJx4a65c 129 yJx4a65c_grow_d5877, Cond.instanceMethod yJx4a65c_grow_d5877, Cond.selects RJx4a65c yJx4a65c_grow_d5877 yJx4a65c_grow_d5877, Cond.code yJx4a65c_grow_d5877 cJx4a65c_grow_d5877 1 (some (.array (.object "java/lang/Object"))), Cond.methodLink RJx4a65c 69 yJx4a65c_grow_92f84, Cond.instanceMethod yJx4a65c_grow_92f84, Cond.selects RJx4a65c yJx4a65c_grow_92f84 yJx4a65c_grow_92f84]
def wsX7_sample_r3 : List Cond := [Cond.code yJx4a65c_grow_92f84 cJx4a65c_grow_92f84 4 (some (.array (.object "java/lang/Object"))), Cond.fieldLink RJx4a65c 39 "java/util/ArrayList" "DEFAULTCAPACITY_EMPTY_ELEMENTDATA" "[Ljava/lang/Object;", Cond.methodLink RJx4a65c 79 Lib.Math.max.name, Cond.static Lib.Math.max.name, Cond.initialized "java/lang/Math", Cond.code Lib.Math.max.name Lib.Math.max.code 2 (some .int), Cond.classLink RJx4a65c 7 "java/lang/Object", Cond.methodLink RJx4a65c 73 yJ8_newLength_cabcc, Cond.static yJ8_newLength_cabcc, Cond.initialized RJ8, Cond.code yJ8_newLength_cabcc cJ8_newLength_cabcc 4 (some .int), Cond.methodLink RJ8 194 Lib.Math.max.name, Cond.constant RJ8 200 (2147483639), Cond.methodLink RJ8 201 yJ8_hugeLength_7cf53, Cond.static yJ8_hugeLength_7cf53, Cond.code yJ8_hugeLength_7cf53 cJ8_hugeLength_7cf53 3 (some .int), Cond.methodLink RJx4a65c 66 yJ7_copyOf_1904c, Cond.static yJ7_copyOf_1904c, Cond.initialized RJ7, Cond.code yJ7_copyOf_1904c cJ7_copyOf_1904c 2 (some (.array (.object "java/lang/Object"))), Cond.methodLink RJ7 86 ⟨"java/lang/Object", "getClass", "()Ljava/lang/Class;"⟩, Cond.selects "[Ljava/lang/Object;" ⟨"java/lang/Object", "getClass", "()Ljava/lang/Class;"⟩ ⟨"java/lang/Object", "getClass", "()Ljava/lang/Class;"⟩, Cond.instanceMethod ⟨"java/lang/Object", "getClass", "()Ljava/lang/Class;"⟩, Cond.native ⟨"java/lang/Object", "getClass", "()Ljava/lang/Class;"⟩]
def wsX7_sample_r4 : List Cond := [Cond.methodLink RJ7 300 yJ7_copyOf_6403c, Cond.static yJ7_copyOf_6403c, Cond.code yJ7_copyOf_6403c cJ7_copyOf_6403c 4 (some (.array (.object "java/lang/Object"))), Cond.classLink RJ7 110 "[Ljava/lang/Object;", Cond.classLink RJ7 2 "java/lang/Object", Cond.methodLink RJ7 304 Lib.Math.min.name, Cond.static Lib.Math.min.name, Cond.code Lib.Math.min.name Lib.Math.min.code 2 (some .int), Cond.methodLink RJ7 150 arraycopyName, Cond.native arraycopyName, Cond.static arraycopyName, Cond.initialized "java/lang/System"]
def wsX7_sample : List Cond := .code yX7_sample cX7_sample 4 (some .int) :: ((wsX7_sample_r1 ++ (wsX7_sample_r2 ++ (wsX7_sample_r3 ++ wsX7_sample_r4))) ++ wsX70 ++ wsX60 ++ wsJx4a65c0 ++ (vx_atS RX7 213 "java/lang/IllegalArgumentException" ["java/lang/RuntimeException", "java/lang/Exception"]).filter goodWord ++ (vx_atS RX7 225 "java/lang/IllegalStateException" ["java/lang/RuntimeException", "java/lang/Exception"]).filter goodWord)
def wsX7_refuseUnknown : List Cond := .code yX7_refuseUnknown cX7_refuseUnknown 2 none :: ([.classLink RX7 216 "java/lang/IndexOutOfBoundsException", .initialized "java/lang/IndexOutOfBoundsException"] ++ (vx_atS RX7 220 "java/lang/IndexOutOfBoundsException" ["java/lang/RuntimeException", "java/lang/Exception"]).filter goodWord)
def wsX7_set_r1 : List Cond := [Cond.fieldLink RX7 10 "Vortexpin" "samples" "Ljava/util/ArrayList;", Cond.classLink RX7 58 "Vortexpin$Sample", Cond.fieldLink RX7 73 "Vortexpin$Sample" "temperature" "I", Cond.fieldLink RX7 77 "Vortexpin$Sample" "field" "I", Cond.methodLink RX7 50 yJx4a65c_size_8abf5, Cond.instanceMethod yJx4a65c_size_8abf5, Cond.selects RJx4a65c yJx4a65c_size_8abf5 yJx4a65c_size_8abf5, Cond.initialized RJx4a65c, Cond.code yJx4a65c_size_8abf5 cJx4a65c_size_8abf5 1 (some .int), Cond.fieldLink RJx4a65c 48 "java/util/ArrayList" "size" "I", Cond.methodLink RX7 66 yX7_refuseUnknown, Cond.static yX7_refuseUnknown, Cond.initialized RX7, Cond.code yX7_refuseUnknown cX7_refuseUnknown 2 none, Cond.classLink RX7 216 "java/lang/IndexOutOfBoundsException", Cond.initialized "java/lang/IndexOutOfBoundsException", Cond.methodLink RX7 46 yX7_refuseOutside, Cond.static yX7_refuseOutside, Cond.code yX7_refuseOutside cX7_refuseOutside 3 none, Cond.classLink RX7 209 "java/lang/IllegalArgumentException", Cond.initialized "java/lang/IllegalArgumentException", Cond.methodLink RX7 69 yJx4a65c_get_915e3, Cond.instanceMethod yJx4a65c_get_915e3, Cond.selects RJx4a65c yJx4a65c_get_915e3 yJx4a65c_get_915e3]
def wsX7_set_r2 : List Cond := [Cond.code yJx4a65c_get_915e3 cJx4a65c_get_915e3 2 (some (.object "java/lang/Object")), Cond.methodLink RJx4a65c 118 yJ15_checkIndex_7cf53, Cond.static yJ15_checkIndex_7cf53, Cond.initialized RJ15, Cond.code yJ15_checkIndex_7cf53 cJ15_checkIndex_7cf53 2 (some .int), Cond.methodLink RJ15 105 yJ3_checkIndex_8e157, Cond.static yJ3_checkIndex_8e157, Cond.initialized RJ3, Cond.code yJ3_checkIndex_8e157 cJ3_checkIndex_8e157 3 (some .int), Cond.methodLink RJx4a65c 123 yJx4a65c_elementData_915e3, Cond.instanceMethod yJx4a65c_elementData_915e3, Cond.selects RJx4a65c yJx4a65c_elementData_915e3 yJx4a65c_elementData_915e3, Cond.code yJx4a65c_elementData_915e3 cJx4a65c_elementData_915e3 2 (some (.object "java/lang/Object")), Cond.fieldLink RJx4a65c 9 "java/util/ArrayList" "elementData" "[Ljava/lang/Object;", Cond.methodLink RX7 80 yX6_phase, Cond.instanceMethod yX6_phase, Cond.selects RX6 yX6_phase yX6_phase, Cond.initialized RX6, Cond.code yX6_phase cX6_phase 3 (some .int), Cond.fieldLink RX6 15 "Vortexpin$Sample" "lower" "I", Cond.fieldLink RX6 18 "Vortexpin$Sample" "upper" "I", Cond.fieldLink RX6 21 "Vortexpin$Sample" "field" "I", Cond.methodLink RX6 24 Lib.Math.abs.name, Cond.static Lib.Math.abs.name]
def wsX7_set_r3 : List Cond := [Cond.initialized "java/lang/Math", Cond.code Lib.Math.abs.name Lib.Math.abs.code 1 (some .int), Cond.fieldLink RX6 30 "Vortexpin$Sample" "temperature" "I", Cond.fieldLink RX6 9 "Vortexpin$Sample" "critical" "I", Cond.methodLink RX6 33 yX6_boundOf, Cond.instanceMethod yX6_boundOf, Cond.selects RX6 yX6_boundOf yX6_boundOf, Cond.code yX6_boundOf cX6_boundOf 3 (some .int)]
def wsX7_set : List Cond := .code yX7_set cX7_set 5 (some .int) :: ((wsX7_set_r1 ++ (wsX7_set_r2 ++ wsX7_set_r3)) ++ wsX70 ++ wsX60 ++ wsJx4a65c0 ++ (vx_atS RX7 220 "java/lang/IndexOutOfBoundsException" ["java/lang/RuntimeException", "java/lang/Exception"]).filter goodWord ++ (vx_atS RX7 213 "java/lang/IllegalArgumentException" ["java/lang/RuntimeException", "java/lang/Exception"]).filter goodWord)
def wsX7_deep_r1 : List Cond := [Cond.fieldLink RX7 10 "Vortexpin" "samples" "Ljava/util/ArrayList;", Cond.classLink RX7 58 "Vortexpin$Sample", Cond.methodLink RX7 50 yJx4a65c_size_8abf5, Cond.instanceMethod yJx4a65c_size_8abf5, Cond.selects RJx4a65c yJx4a65c_size_8abf5 yJx4a65c_size_8abf5, Cond.initialized RJx4a65c, Cond.code yJx4a65c_size_8abf5 cJx4a65c_size_8abf5 1 (some .int), Cond.fieldLink RJx4a65c 48 "java/util/ArrayList" "size" "I", Cond.methodLink RX7 66 yX7_refuseUnknown, Cond.static yX7_refuseUnknown, Cond.initialized RX7, Cond.code yX7_refuseUnknown cX7_refuseUnknown 2 none, Cond.classLink RX7 216 "java/lang/IndexOutOfBoundsException", Cond.initialized "java/lang/IndexOutOfBoundsException", Cond.methodLink RX7 69 yJx4a65c_get_915e3, Cond.instanceMethod yJx4a65c_get_915e3, Cond.selects RJx4a65c yJx4a65c_get_915e3 yJx4a65c_get_915e3, Cond.code yJx4a65c_get_915e3 cJx4a65c_get_915e3 2 (some (.object "java/lang/Object")), Cond.methodLink RJx4a65c 118 yJ15_checkIndex_7cf53, Cond.static yJ15_checkIndex_7cf53, Cond.initialized RJ15, Cond.code yJ15_checkIndex_7cf53 cJ15_checkIndex_7cf53 2 (some .int), Cond.methodLink RJ15 105 yJ3_checkIndex_8e157, Cond.static yJ3_checkIndex_8e157]
def wsX7_deep_r2 : List Cond := [Cond.initialized RJ3, Cond.code yJ3_checkIndex_8e157 cJ3_checkIndex_8e157 3 (some .int), Cond.methodLink RJx4a65c 123 yJx4a65c_elementData_915e3, Cond.instanceMethod yJx4a65c_elementData_915e3, Cond.selects RJx4a65c yJx4a65c_elementData_915e3 yJx4a65c_elementData_915e3, Cond.code yJx4a65c_elementData_915e3 cJx4a65c_elementData_915e3 2 (some (.object "java/lang/Object")), Cond.fieldLink RJx4a65c 9 "java/util/ArrayList" "elementData" "[Ljava/lang/Object;", Cond.methodLink RX7 83 yX6_penetration, Cond.instanceMethod yX6_penetration, Cond.selects RX6 yX6_penetration yX6_penetration, Cond.initialized RX6, Cond.code yX6_penetration cX6_penetration 5 (some .double), Cond.fieldLink RX6 30 "Vortexpin$Sample" "temperature" "I", Cond.fieldLink RX6 9 "Vortexpin$Sample" "critical" "I", Cond.constantDouble RX6 36 (4636737291354636288)]
def wsX7_deep : List Cond := .code yX7_deep cX7_deep 2 (some .double) :: ((wsX7_deep_r1 ++ wsX7_deep_r2) ++ wsX70 ++ wsJx4a65c0 ++ wsX60 ++ (vx_atS RX7 220 "java/lang/IndexOutOfBoundsException" ["java/lang/RuntimeException", "java/lang/Exception"]).filter goodWord)
def wsX7_pin : List Cond := .code yX7_pin cX7_pin 4 (some .int) :: ([.fieldLink RX7 19 "Vortexpin" "film" "LVortexpin$Film;", .fieldLink RX7 87 "Vortexpin$Film" "depths" "[I", .methodLink RX7 66 yX7_refuseUnknown, .static yX7_refuseUnknown, .initialized RX7, .code yX7_refuseUnknown cX7_refuseUnknown 2 none, .classLink RX7 216 "java/lang/IndexOutOfBoundsException", .initialized "java/lang/IndexOutOfBoundsException", .methodLink RX7 46 yX7_refuseOutside, .static yX7_refuseOutside, .code yX7_refuseOutside cX7_refuseOutside 3 none, .classLink RX7 209 "java/lang/IllegalArgumentException", .initialized "java/lang/IllegalArgumentException"] ++ wsX70 ++ wsX30 ++ (vx_atS RX7 220 "java/lang/IndexOutOfBoundsException" ["java/lang/RuntimeException", "java/lang/Exception"]).filter goodWord ++ (vx_atS RX7 213 "java/lang/IllegalArgumentException" ["java/lang/RuntimeException", "java/lang/Exception"]).filter goodWord)
def wsX7_drive : List Cond := .code yX7_drive cX7_drive 3 none :: ([.fieldLink RX7 19 "Vortexpin" "film" "LVortexpin$Film;", .fieldLink RX7 91 "Vortexpin$Film" "drive" "I", .fieldLink RX7 94 "Vortexpin$Film" "heat" "I", .methodLink RX7 46 yX7_refuseOutside, .static yX7_refuseOutside, .initialized RX7, .code yX7_refuseOutside cX7_refuseOutside 3 none, .classLink RX7 209 "java/lang/IllegalArgumentException", .initialized "java/lang/IllegalArgumentException"] ++ wsX70 ++ wsX30 ++ (vx_atS RX7 213 "java/lang/IllegalArgumentException" ["java/lang/RuntimeException", "java/lang/Exception"]).filter goodWord)
def wsX7_enter_r1 : List Cond := [Cond.fieldLink RX7 19 "Vortexpin" "film" "LVortexpin$Film;", Cond.fieldLink RX7 97 "Vortexpin$Film" "entered" "I", Cond.fieldLink RX7 108 "Vortexpin$Film" "cells" "[I", Cond.methodLink RX7 46 yX7_refuseOutside, Cond.static yX7_refuseOutside, Cond.initialized RX7, Cond.code yX7_refuseOutside cX7_refuseOutside 3 none, Cond.classLink RX7 209 "java/lang/IllegalArgumentException", Cond.initialized "java/lang/IllegalArgumentException", Cond.methodLink RX7 54 yX7_refuseFull, Cond.static yX7_refuseFull, Cond.code yX7_refuseFull cX7_refuseFull 2 none, Cond.classLink RX7 221 "java/lang/IllegalStateException", Cond.initialized "java/lang/IllegalStateException", Cond.methodLink RX7 100 yX3_calmestEntry, Cond.instanceMethod yX3_calmestEntry, Cond.selects RX3 yX3_calmestEntry yX3_calmestEntry, Cond.initialized RX3, Cond.code yX3_calmestEntry cX3_calmestEntry 7 (some .int), Cond.methodLink RX3 55 yX3_isFree, Cond.instanceMethod yX3_isFree, Cond.selects RX3 yX3_isFree yX3_isFree, Cond.code yX3_isFree cX3_isFree 3 (some .boolean), Cond.fieldLink RX3 15 "Vortexpin$Film" "cells" "[I"]
def wsX7_enter_r2 : List Cond := [Cond.methodLink RX3 42 yX3_energyAt, Cond.instanceMethod yX3_energyAt, Cond.selects RX3 yX3_energyAt yX3_energyAt, Cond.code yX3_energyAt cX3_energyAt 5 (some .int), Cond.fieldLink RX3 26 "Vortexpin$Film" "drive" "I", Cond.methodLink RX3 58 yX3_repulsion, Cond.static yX3_repulsion, Cond.code yX3_repulsion cX3_repulsion 4 (some .int), Cond.methodLink RX3 34 Lib.Math.abs.name, Cond.static Lib.Math.abs.name, Cond.initialized "java/lang/Math", Cond.code Lib.Math.abs.name Lib.Math.abs.code 1 (some .int), Cond.methodLink RX3 30 yX3_depthOf, Cond.instanceMethod yX3_depthOf, Cond.selects RX3 yX3_depthOf yX3_depthOf, Cond.code yX3_depthOf cX3_depthOf 2 (some .int), Cond.fieldLink RX3 11 "Vortexpin$Film" "depths" "[I", Cond.methodLink RX7 104 yX3_energyAt]
def wsX7_enter : List Cond := .code yX7_enter cX7_enter 4 (some .int) :: ((wsX7_enter_r1 ++ wsX7_enter_r2) ++ wsX70 ++ wsX30 ++ (vx_atS RX7 213 "java/lang/IllegalArgumentException" ["java/lang/RuntimeException", "java/lang/Exception"]).filter goodWord ++ (vx_atS RX7 225 "java/lang/IllegalStateException" ["java/lang/RuntimeException", "java/lang/Exception"]).filter goodWord)
def wsX7_step_r1 : List Cond := [Cond.fieldLink RX7 19 "Vortexpin" "film" "LVortexpin$Film;", Cond.methodLink RX7 111 yX3_runStep, Cond.instanceMethod yX3_runStep, Cond.selects RX3 yX3_runStep yX3_runStep, Cond.initialized RX3, Cond.code yX3_runStep cX3_runStep 5 (some .int), Cond.fieldLink RX3 15 "Vortexpin$Film" "cells" "[I", Cond.methodLink RX3 18 yX3_leavesFrom, Cond.instanceMethod yX3_leavesFrom, Cond.selects RX3 yX3_leavesFrom yX3_leavesFrom, Cond.code yX3_leavesFrom cX3_leavesFrom 3 (some .boolean), Cond.fieldLink RX3 26 "Vortexpin$Film" "drive" "I", Cond.methodLink RX3 34 Lib.Math.abs.name, Cond.static Lib.Math.abs.name, Cond.initialized "java/lang/Math", Cond.code Lib.Math.abs.name Lib.Math.abs.code 1 (some .int), Cond.fieldLink RX3 39 "Vortexpin$Film" "heat" "I", Cond.methodLink RX3 30 yX3_depthOf, Cond.instanceMethod yX3_depthOf, Cond.selects RX3 yX3_depthOf yX3_depthOf, Cond.code yX3_depthOf cX3_depthOf 2 (some .int), Cond.fieldLink RX3 11 "Vortexpin$Film" "depths" "[I", Cond.methodLink RX3 22 yX3_goalFrom, Cond.instanceMethod yX3_goalFrom]
def wsX7_step_r2 : List Cond := [Cond.selects RX3 yX3_goalFrom yX3_goalFrom, Cond.code yX3_goalFrom cX3_goalFrom 5 (some .int), Cond.methodLink RX3 42 yX3_energyAt, Cond.instanceMethod yX3_energyAt, Cond.selects RX3 yX3_energyAt yX3_energyAt, Cond.code yX3_energyAt cX3_energyAt 5 (some .int), Cond.methodLink RX3 58 yX3_repulsion, Cond.static yX3_repulsion, Cond.code yX3_repulsion cX3_repulsion 4 (some .int), Cond.methodLink RX3 45 yX3_calmestBeside, Cond.instanceMethod yX3_calmestBeside, Cond.selects RX3 yX3_calmestBeside yX3_calmestBeside, Cond.code yX3_calmestBeside cX3_calmestBeside 9 (some .int), Cond.methodLink RX3 52 yX3_beside, Cond.static yX3_beside, Cond.code yX3_beside cX3_beside 4 (some .int), Cond.methodLink RX3 55 yX3_isFree, Cond.instanceMethod yX3_isFree, Cond.selects RX3 yX3_isFree yX3_isFree, Cond.code yX3_isFree cX3_isFree 3 (some .boolean), Cond.methodLink RX3 49 yX3_creepGoal, Cond.instanceMethod yX3_creepGoal, Cond.selects RX3 yX3_creepGoal yX3_creepGoal, Cond.code yX3_creepGoal cX3_creepGoal 5 (some .int)]
def wsX7_step : List Cond := .code yX7_step cX7_step 1 (some .int) :: ((wsX7_step_r1 ++ wsX7_step_r2) ++ wsX70 ++ wsX30)
def wsX7_avalanche_r1 : List Cond := [Cond.fieldLink RX7 19 "Vortexpin" "film" "LVortexpin$Film;", Cond.methodLink RX7 111 yX3_runStep, Cond.instanceMethod yX3_runStep, Cond.selects RX3 yX3_runStep yX3_runStep, Cond.initialized RX3, Cond.code yX3_runStep cX3_runStep 5 (some .int), Cond.fieldLink RX3 15 "Vortexpin$Film" "cells" "[I", Cond.methodLink RX3 18 yX3_leavesFrom, Cond.instanceMethod yX3_leavesFrom, Cond.selects RX3 yX3_leavesFrom yX3_leavesFrom, Cond.code yX3_leavesFrom cX3_leavesFrom 3 (some .boolean), Cond.fieldLink RX3 26 "Vortexpin$Film" "drive" "I", Cond.methodLink RX3 34 Lib.Math.abs.name, Cond.static Lib.Math.abs.name, Cond.initialized "java/lang/Math", Cond.code Lib.Math.abs.name Lib.Math.abs.code 1 (some .int), Cond.fieldLink RX3 39 "Vortexpin$Film" "heat" "I", Cond.methodLink RX3 30 yX3_depthOf, Cond.instanceMethod yX3_depthOf, Cond.selects RX3 yX3_depthOf yX3_depthOf, Cond.code yX3_depthOf cX3_depthOf 2 (some .int), Cond.fieldLink RX3 11 "Vortexpin$Film" "depths" "[I", Cond.methodLink RX3 22 yX3_goalFrom, Cond.instanceMethod yX3_goalFrom]
def wsX7_avalanche_r2 : List Cond := [Cond.selects RX3 yX3_goalFrom yX3_goalFrom, Cond.code yX3_goalFrom cX3_goalFrom 5 (some .int), Cond.methodLink RX3 42 yX3_energyAt, Cond.instanceMethod yX3_energyAt, Cond.selects RX3 yX3_energyAt yX3_energyAt, Cond.code yX3_energyAt cX3_energyAt 5 (some .int), Cond.methodLink RX3 58 yX3_repulsion, Cond.static yX3_repulsion, Cond.code yX3_repulsion cX3_repulsion 4 (some .int), Cond.methodLink RX3 45 yX3_calmestBeside, Cond.instanceMethod yX3_calmestBeside, Cond.selects RX3 yX3_calmestBeside yX3_calmestBeside, Cond.code yX3_calmestBeside cX3_calmestBeside 9 (some .int), Cond.methodLink RX3 52 yX3_beside, Cond.static yX3_beside, Cond.code yX3_beside cX3_beside 4 (some .int), Cond.methodLink RX3 55 yX3_isFree, Cond.instanceMethod yX3_isFree, Cond.selects RX3 yX3_isFree yX3_isFree, Cond.code yX3_isFree cX3_isFree 3 (some .boolean), Cond.methodLink RX3 49 yX3_creepGoal, Cond.instanceMethod yX3_creepGoal, Cond.selects RX3 yX3_creepGoal yX3_creepGoal, Cond.code yX3_creepGoal cX3_creepGoal 5 (some .int)]
def wsX7_avalanche : List Cond := .code yX7_avalanche cX7_avalanche 4 (some .int) :: ((wsX7_avalanche_r1 ++ wsX7_avalanche_r2) ++ wsX70 ++ wsX30)
def wsX7_whirlAt : List Cond := .code yX7_whirlAt cX7_whirlAt 2 (some .int) :: ([.fieldLink RX7 19 "Vortexpin" "film" "LVortexpin$Film;", .fieldLink RX7 97 "Vortexpin$Film" "entered" "I", .methodLink RX7 66 yX7_refuseUnknown, .static yX7_refuseUnknown, .initialized RX7, .code yX7_refuseUnknown cX7_refuseUnknown 2 none, .classLink RX7 216 "java/lang/IndexOutOfBoundsException", .initialized "java/lang/IndexOutOfBoundsException", .methodLink RX7 114 yX3_cellOf, .instanceMethod yX3_cellOf, .selects RX3 yX3_cellOf yX3_cellOf, .initialized RX3, .code yX3_cellOf cX3_cellOf 2 (some .int), .fieldLink RX3 15 "Vortexpin$Film" "cells" "[I"] ++ wsX70 ++ wsX30 ++ (vx_atS RX7 220 "java/lang/IndexOutOfBoundsException" ["java/lang/RuntimeException", "java/lang/Exception"]).filter goodWord)
def wsX7_energy_r1 : List Cond := [Cond.fieldLink RX7 19 "Vortexpin" "film" "LVortexpin$Film;", Cond.fieldLink RX7 97 "Vortexpin$Film" "entered" "I", Cond.methodLink RX7 66 yX7_refuseUnknown, Cond.static yX7_refuseUnknown, Cond.initialized RX7, Cond.code yX7_refuseUnknown cX7_refuseUnknown 2 none, Cond.classLink RX7 216 "java/lang/IndexOutOfBoundsException", Cond.initialized "java/lang/IndexOutOfBoundsException", Cond.methodLink RX7 114 yX3_cellOf, Cond.instanceMethod yX3_cellOf, Cond.selects RX3 yX3_cellOf yX3_cellOf, Cond.initialized RX3, Cond.code yX3_cellOf cX3_cellOf 2 (some .int), Cond.fieldLink RX3 15 "Vortexpin$Film" "cells" "[I", Cond.methodLink RX7 104 yX3_energyAt, Cond.instanceMethod yX3_energyAt, Cond.selects RX3 yX3_energyAt yX3_energyAt, Cond.code yX3_energyAt cX3_energyAt 5 (some .int), Cond.fieldLink RX3 26 "Vortexpin$Film" "drive" "I", Cond.methodLink RX3 58 yX3_repulsion, Cond.static yX3_repulsion, Cond.code yX3_repulsion cX3_repulsion 4 (some .int), Cond.methodLink RX3 34 Lib.Math.abs.name, Cond.static Lib.Math.abs.name]
def wsX7_energy_r2 : List Cond := [Cond.initialized "java/lang/Math", Cond.code Lib.Math.abs.name Lib.Math.abs.code 1 (some .int), Cond.methodLink RX3 30 yX3_depthOf, Cond.instanceMethod yX3_depthOf, Cond.selects RX3 yX3_depthOf yX3_depthOf, Cond.code yX3_depthOf cX3_depthOf 2 (some .int), Cond.fieldLink RX3 11 "Vortexpin$Film" "depths" "[I"]
def wsX7_energy : List Cond := .code yX7_energy cX7_energy 3 (some .int) :: ((wsX7_energy_r1 ++ wsX7_energy_r2) ++ wsX70 ++ wsX30 ++ (vx_atS RX7 220 "java/lang/IndexOutOfBoundsException" ["java/lang/RuntimeException", "java/lang/Exception"]).filter goodWord)
def wsX7_ring_r1 : List Cond := [Cond.fieldLink RX7 23 "Vortexpin" "rings" "Ljava/util/ArrayList;", Cond.classLink RX7 117 RX5, Cond.instantiable RX5 5, Cond.initialized RX5, Cond.methodLink RX7 46 yX7_refuseOutside, Cond.static yX7_refuseOutside, Cond.initialized RX7, Cond.code yX7_refuseOutside cX7_refuseOutside 3 none, Cond.classLink RX7 209 "java/lang/IllegalArgumentException", Cond.initialized "java/lang/IllegalArgumentException", Cond.methodLink RX7 50 yJx4a65c_size_8abf5, Cond.instanceMethod yJx4a65c_size_8abf5, Cond.selects RJx4a65c yJx4a65c_size_8abf5 yJx4a65c_size_8abf5, Cond.initialized RJx4a65c, Cond.code yJx4a65c_size_8abf5 cJx4a65c_size_8abf5 1 (some .int), Cond.fieldLink RJx4a65c 48 "java/util/ArrayList" "size" "I", Cond.methodLink RX7 54 yX7_refuseFull, Cond.static yX7_refuseFull, Cond.code yX7_refuseFull cX7_refuseFull 2 none, Cond.classLink RX7 221 "java/lang/IllegalStateException", Cond.initialized "java/lang/IllegalStateException", Cond.methodLink RX7 119 yX5_init, Cond.instanceMethod yX5_init, Cond.code yX5_init cX5_init 3 none]
def wsX7_ring_r2 : List Cond := [Cond.methodLink RX5 1 objectInit, Cond.instanceMethod objectInit, Cond.code objectInit ⟨#[0xb1]⟩ 1 none, Cond.fieldLink RX5 7 "Vortexpin$Ring" "inductance" "I", Cond.fieldLink RX5 13 "Vortexpin$Ring" "critical" "I", Cond.methodLink RX7 62 yJx4a65c_add_9ea2d, Cond.instanceMethod yJx4a65c_add_9ea2d, Cond.selects RJx4a65c yJx4a65c_add_9ea2d yJx4a65c_add_9ea2d, Cond.code yJx4a65c_add_9ea2d cJx4a65c_add_9ea2d 2 (some .boolean), Cond.fieldLink RJx4a65c 63 "java/util/ArrayList" "modCount" "I", Cond.sameField "java/util/ArrayList" "java/util/AbstractList" "modCount" "I", Cond.fieldLink RJx4a65c 9 "java/util/ArrayList" "elementData" "[Ljava/lang/Object;", Cond.methodLink RJx4a65c 131 yJx4a65c_add_72be8, Cond.instanceMethod yJx4a65c_add_72be8, Cond.selects RJx4a65c yJx4a65c_add_72be8 yJx4a65c_add_72be8, Cond.code yJx4a65c_add_72be8 cJx4a65c_add_72be8 4 none, Cond.methodLink RJx4a65c 129 yJx4a65c_grow_d5877, Cond.instanceMethod yJx4a65c_grow_d5877, Cond.selects RJx4a65c yJx4a65c_grow_d5877 yJx4a65c_grow_d5877, Cond.code yJx4a65c_grow_d5877 cJx4a65c_grow_d5877 1 (some (.array (.object "java/lang/Object"))), Cond.methodLink RJx4a65c 69 yJx4a65c_grow_92f84, Cond.instanceMethod yJx4a65c_grow_92f84, Cond.selects RJx4a65c yJx4a65c_grow_92f84 yJx4a65c_grow_92f84, Cond.code yJx4a65c_grow_92f84 cJx4a65c_grow_92f84 4 (some (.array (.object "java/lang/Object")))]
def wsX7_ring_r3 : List Cond := [Cond.fieldLink RJx4a65c 39 "java/util/ArrayList" "DEFAULTCAPACITY_EMPTY_ELEMENTDATA" "[Ljava/lang/Object;", Cond.methodLink RJx4a65c 79 Lib.Math.max.name, Cond.static Lib.Math.max.name, Cond.initialized "java/lang/Math", Cond.code Lib.Math.max.name Lib.Math.max.code 2 (some .int), Cond.classLink RJx4a65c 7 "java/lang/Object", Cond.methodLink RJx4a65c 73 yJ8_newLength_cabcc, Cond.static yJ8_newLength_cabcc, Cond.initialized RJ8, Cond.code yJ8_newLength_cabcc cJ8_newLength_cabcc 4 (some .int), Cond.methodLink RJ8 194 Lib.Math.max.name, Cond.constant RJ8 200 (2147483639), Cond.methodLink RJ8 201 yJ8_hugeLength_7cf53, Cond.static yJ8_hugeLength_7cf53, Cond.code yJ8_hugeLength_7cf53 cJ8_hugeLength_7cf53 3 (some .int), Cond.methodLink RJx4a65c 66 yJ7_copyOf_1904c, Cond.static yJ7_copyOf_1904c, Cond.initialized RJ7, Cond.code yJ7_copyOf_1904c cJ7_copyOf_1904c 2 (some (.array (.object "java/lang/Object"))), Cond.methodLink RJ7 86 ⟨"java/lang/Object", "getClass", "()Ljava/lang/Class;"⟩, Cond.selects "[Ljava/lang/Object;" ⟨"java/lang/Object", "getClass", "()Ljava/lang/Class;"⟩ ⟨"java/lang/Object", "getClass", "()Ljava/lang/Class;"⟩, Cond.instanceMethod ⟨"java/lang/Object", "getClass", "()Ljava/lang/Class;"⟩, Cond.native ⟨"java/lang/Object", "getClass", "()Ljava/lang/Class;"⟩, Cond.methodLink RJ7 300 yJ7_copyOf_6403c]
def wsX7_ring_r4 : List Cond := [Cond.static yJ7_copyOf_6403c, Cond.code yJ7_copyOf_6403c cJ7_copyOf_6403c 4 (some (.array (.object "java/lang/Object"))), Cond.classLink RJ7 110 "[Ljava/lang/Object;", Cond.classLink RJ7 2 "java/lang/Object", Cond.methodLink RJ7 304 Lib.Math.min.name, Cond.static Lib.Math.min.name, Cond.code Lib.Math.min.name Lib.Math.min.code 2 (some .int), Cond.methodLink RJ7 150 arraycopyName, Cond.native arraycopyName, Cond.static arraycopyName, Cond.initialized "java/lang/System"]
def wsX7_ring : List Cond := .code yX7_ring cX7_ring 3 (some .int) :: ((wsX7_ring_r1 ++ (wsX7_ring_r2 ++ (wsX7_ring_r3 ++ wsX7_ring_r4))) ++ wsX70 ++ wsX50 ++ wsJx4a65c0 ++ (vx_atS RX7 213 "java/lang/IllegalArgumentException" ["java/lang/RuntimeException", "java/lang/Exception"]).filter goodWord ++ (vx_atS RX7 225 "java/lang/IllegalStateException" ["java/lang/RuntimeException", "java/lang/Exception"]).filter goodWord)
def wsX7_flux_r1 : List Cond := [Cond.fieldLink RX7 23 "Vortexpin" "rings" "Ljava/util/ArrayList;", Cond.constant RX7 121 (-1000000), Cond.constant RX7 122 (1000000), Cond.classLink RX7 117 "Vortexpin$Ring", Cond.fieldLink RX7 123 "Vortexpin$Ring" "flux" "I", Cond.methodLink RX7 50 yJx4a65c_size_8abf5, Cond.instanceMethod yJx4a65c_size_8abf5, Cond.selects RJx4a65c yJx4a65c_size_8abf5 yJx4a65c_size_8abf5, Cond.initialized RJx4a65c, Cond.code yJx4a65c_size_8abf5 cJx4a65c_size_8abf5 1 (some .int), Cond.fieldLink RJx4a65c 48 "java/util/ArrayList" "size" "I", Cond.methodLink RX7 66 yX7_refuseUnknown, Cond.static yX7_refuseUnknown, Cond.initialized RX7, Cond.code yX7_refuseUnknown cX7_refuseUnknown 2 none, Cond.classLink RX7 216 "java/lang/IndexOutOfBoundsException", Cond.initialized "java/lang/IndexOutOfBoundsException", Cond.methodLink RX7 46 yX7_refuseOutside, Cond.static yX7_refuseOutside, Cond.code yX7_refuseOutside cX7_refuseOutside 3 none, Cond.classLink RX7 209 "java/lang/IllegalArgumentException", Cond.initialized "java/lang/IllegalArgumentException", Cond.methodLink RX7 69 yJx4a65c_get_915e3, Cond.instanceMethod yJx4a65c_get_915e3]
def wsX7_flux_r2 : List Cond := [Cond.selects RJx4a65c yJx4a65c_get_915e3 yJx4a65c_get_915e3, Cond.code yJx4a65c_get_915e3 cJx4a65c_get_915e3 2 (some (.object "java/lang/Object")), Cond.methodLink RJx4a65c 118 yJ15_checkIndex_7cf53, Cond.static yJ15_checkIndex_7cf53, Cond.initialized RJ15, Cond.code yJ15_checkIndex_7cf53 cJ15_checkIndex_7cf53 2 (some .int), Cond.methodLink RJ15 105 yJ3_checkIndex_8e157, Cond.static yJ3_checkIndex_8e157, Cond.initialized RJ3, Cond.code yJ3_checkIndex_8e157 cJ3_checkIndex_8e157 3 (some .int), Cond.methodLink RJx4a65c 123 yJx4a65c_elementData_915e3, Cond.instanceMethod yJx4a65c_elementData_915e3, Cond.selects RJx4a65c yJx4a65c_elementData_915e3 yJx4a65c_elementData_915e3, Cond.code yJx4a65c_elementData_915e3 cJx4a65c_elementData_915e3 2 (some (.object "java/lang/Object")), Cond.fieldLink RJx4a65c 9 "java/util/ArrayList" "elementData" "[Ljava/lang/Object;", Cond.methodLink RX7 126 yX5_settle, Cond.instanceMethod yX5_settle, Cond.selects RX5 yX5_settle yX5_settle, Cond.initialized RX5, Cond.code yX5_settle cX5_settle 5 (some .int), Cond.fieldLink RX5 19 "Vortexpin$Ring" "number" "I", Cond.constant RX5 22 (1000000), Cond.methodLink RX5 27 Lib.Math.abs.name, Cond.static Lib.Math.abs.name]
def wsX7_flux_r3 : List Cond := [Cond.initialized "java/lang/Math", Cond.code Lib.Math.abs.name Lib.Math.abs.code 1 (some .int), Cond.fieldLink RX5 13 "Vortexpin$Ring" "critical" "I", Cond.fieldLink RX5 32 "Vortexpin$Ring" "slips" "I", Cond.methodLink RX5 23 yX5_currentWith, Cond.instanceMethod yX5_currentWith, Cond.selects RX5 yX5_currentWith yX5_currentWith, Cond.code yX5_currentWith cX5_currentWith 2 (some .int), Cond.fieldLink RX5 7 "Vortexpin$Ring" "inductance" "I", Cond.fieldLink RX5 16 "Vortexpin$Ring" "flux" "I"]
def wsX7_flux : List Cond := .code yX7_flux cX7_flux 4 (some .int) :: ((wsX7_flux_r1 ++ (wsX7_flux_r2 ++ wsX7_flux_r3)) ++ wsX70 ++ wsX50 ++ wsJx4a65c0 ++ (vx_atS RX7 220 "java/lang/IndexOutOfBoundsException" ["java/lang/RuntimeException", "java/lang/Exception"]).filter goodWord ++ (vx_atS RX7 213 "java/lang/IllegalArgumentException" ["java/lang/RuntimeException", "java/lang/Exception"]).filter goodWord)
def wsX7_warm_r1 : List Cond := [Cond.fieldLink RX7 23 "Vortexpin" "rings" "Ljava/util/ArrayList;", Cond.classLink RX7 117 "Vortexpin$Ring", Cond.fieldLink RX7 132 "Vortexpin$Ring" "number" "I", Cond.methodLink RX7 50 yJx4a65c_size_8abf5, Cond.instanceMethod yJx4a65c_size_8abf5, Cond.selects RJx4a65c yJx4a65c_size_8abf5 yJx4a65c_size_8abf5, Cond.initialized RJx4a65c, Cond.code yJx4a65c_size_8abf5 cJx4a65c_size_8abf5 1 (some .int), Cond.fieldLink RJx4a65c 48 "java/util/ArrayList" "size" "I", Cond.methodLink RX7 66 yX7_refuseUnknown, Cond.static yX7_refuseUnknown, Cond.initialized RX7, Cond.code yX7_refuseUnknown cX7_refuseUnknown 2 none, Cond.classLink RX7 216 "java/lang/IndexOutOfBoundsException", Cond.initialized "java/lang/IndexOutOfBoundsException", Cond.methodLink RX7 69 yJx4a65c_get_915e3, Cond.instanceMethod yJx4a65c_get_915e3, Cond.selects RJx4a65c yJx4a65c_get_915e3 yJx4a65c_get_915e3, Cond.code yJx4a65c_get_915e3 cJx4a65c_get_915e3 2 (some (.object "java/lang/Object")), Cond.methodLink RJx4a65c 118 yJ15_checkIndex_7cf53, Cond.static yJ15_checkIndex_7cf53, Cond.initialized RJ15, Cond.code yJ15_checkIndex_7cf53 cJ15_checkIndex_7cf53 2 (some .int), Cond.methodLink RJ15 105 yJ3_checkIndex_8e157]
def wsX7_warm_r2 : List Cond := [Cond.static yJ3_checkIndex_8e157, Cond.initialized RJ3, Cond.code yJ3_checkIndex_8e157 cJ3_checkIndex_8e157 3 (some .int), Cond.methodLink RJx4a65c 123 yJx4a65c_elementData_915e3, Cond.instanceMethod yJx4a65c_elementData_915e3, Cond.selects RJx4a65c yJx4a65c_elementData_915e3 yJx4a65c_elementData_915e3, Cond.code yJx4a65c_elementData_915e3 cJx4a65c_elementData_915e3 2 (some (.object "java/lang/Object")), Cond.fieldLink RJx4a65c 9 "java/util/ArrayList" "elementData" "[Ljava/lang/Object;", Cond.methodLink RX7 129 yX5_nearestNumber, Cond.instanceMethod yX5_nearestNumber, Cond.selects RX5 yX5_nearestNumber yX5_nearestNumber, Cond.initialized RX5, Cond.code yX5_nearestNumber cX5_nearestNumber 1 (some .int), Cond.fieldLink RX5 16 "Vortexpin$Ring" "flux" "I", Cond.methodLink RX5 35 yJ9_floorDiv_7cf53, Cond.static yJ9_floorDiv_7cf53, Cond.initialized RJ9, Cond.code yJ9_floorDiv_7cf53 cJ9_floorDiv_7cf53 3 (some .int)]
def wsX7_warm : List Cond := .code yX7_warm cX7_warm 3 (some .int) :: ((wsX7_warm_r1 ++ wsX7_warm_r2) ++ wsX70 ++ wsX50 ++ wsJx4a65c0 ++ (vx_atS RX7 220 "java/lang/IndexOutOfBoundsException" ["java/lang/RuntimeException", "java/lang/Exception"]).filter goodWord)
def wsX7_ofRing_r1 : List Cond := [Cond.fieldLink RX7 23 "Vortexpin" "rings" "Ljava/util/ArrayList;", Cond.classLink RX7 117 "Vortexpin$Ring", Cond.fieldLink RX7 132 "Vortexpin$Ring" "number" "I", Cond.fieldLink RX7 138 "Vortexpin$Ring" "slips" "I", Cond.methodLink RX7 50 yJx4a65c_size_8abf5, Cond.instanceMethod yJx4a65c_size_8abf5, Cond.selects RJx4a65c yJx4a65c_size_8abf5 yJx4a65c_size_8abf5, Cond.initialized RJx4a65c, Cond.code yJx4a65c_size_8abf5 cJx4a65c_size_8abf5 1 (some .int), Cond.fieldLink RJx4a65c 48 "java/util/ArrayList" "size" "I", Cond.methodLink RX7 66 yX7_refuseUnknown, Cond.static yX7_refuseUnknown, Cond.initialized RX7, Cond.code yX7_refuseUnknown cX7_refuseUnknown 2 none, Cond.classLink RX7 216 "java/lang/IndexOutOfBoundsException", Cond.initialized "java/lang/IndexOutOfBoundsException", Cond.methodLink RX7 46 yX7_refuseOutside, Cond.static yX7_refuseOutside, Cond.code yX7_refuseOutside cX7_refuseOutside 3 none, Cond.classLink RX7 209 "java/lang/IllegalArgumentException", Cond.initialized "java/lang/IllegalArgumentException", Cond.methodLink RX7 69 yJx4a65c_get_915e3, Cond.instanceMethod yJx4a65c_get_915e3, Cond.selects RJx4a65c yJx4a65c_get_915e3 yJx4a65c_get_915e3]
def wsX7_ofRing_r2 : List Cond := [Cond.code yJx4a65c_get_915e3 cJx4a65c_get_915e3 2 (some (.object "java/lang/Object")), Cond.methodLink RJx4a65c 118 yJ15_checkIndex_7cf53, Cond.static yJ15_checkIndex_7cf53, Cond.initialized RJ15, Cond.code yJ15_checkIndex_7cf53 cJ15_checkIndex_7cf53 2 (some .int), Cond.methodLink RJ15 105 yJ3_checkIndex_8e157, Cond.static yJ3_checkIndex_8e157, Cond.initialized RJ3, Cond.code yJ3_checkIndex_8e157 cJ3_checkIndex_8e157 3 (some .int), Cond.methodLink RJx4a65c 123 yJx4a65c_elementData_915e3, Cond.instanceMethod yJx4a65c_elementData_915e3, Cond.selects RJx4a65c yJx4a65c_elementData_915e3 yJx4a65c_elementData_915e3, Cond.code yJx4a65c_elementData_915e3 cJx4a65c_elementData_915e3 2 (some (.object "java/lang/Object")), Cond.fieldLink RJx4a65c 9 "java/util/ArrayList" "elementData" "[Ljava/lang/Object;", Cond.methodLink RX7 135 yX5_currentWith, Cond.instanceMethod yX5_currentWith, Cond.selects RX5 yX5_currentWith yX5_currentWith, Cond.initialized RX5, Cond.code yX5_currentWith cX5_currentWith 2 (some .int), Cond.fieldLink RX5 7 "Vortexpin$Ring" "inductance" "I", Cond.fieldLink RX5 16 "Vortexpin$Ring" "flux" "I"]
def wsX7_ofRing : List Cond := .code yX7_ofRing cX7_ofRing 4 (some .int) :: ((wsX7_ofRing_r1 ++ wsX7_ofRing_r2) ++ wsX70 ++ wsX50 ++ wsJx4a65c0 ++ (vx_atS RX7 220 "java/lang/IndexOutOfBoundsException" ["java/lang/RuntimeException", "java/lang/Exception"]).filter goodWord ++ (vx_atS RX7 213 "java/lang/IllegalArgumentException" ["java/lang/RuntimeException", "java/lang/Exception"]).filter goodWord)
def wsX7_current : List Cond := .code yX7_current cX7_current 3 (some .int) :: ([.fieldLink RX7 29 "Vortexpin" "coil" "LVortexpin$Coil;", .fieldLink RX7 141 "Vortexpin$Coil" "current" "I", .fieldLink RX7 144 "Vortexpin$Coil" "dumped" "Z", .fieldLink RX7 148 "Vortexpin$Coil" "doubtfulInRow" "I", .methodLink RX7 46 yX7_refuseOutside, .static yX7_refuseOutside, .initialized RX7, .code yX7_refuseOutside cX7_refuseOutside 3 none, .classLink RX7 209 "java/lang/IllegalArgumentException", .initialized "java/lang/IllegalArgumentException"] ++ wsX70 ++ wsX10 ++ (vx_atS RX7 213 "java/lang/IllegalArgumentException" ["java/lang/RuntimeException", "java/lang/Exception"]).filter goodWord)
def wsX7_heat : List Cond := .code yX7_heat cX7_heat 3 (some .int) :: ([.fieldLink RX7 29 "Vortexpin" "coil" "LVortexpin$Coil;", .fieldLink RX7 151 "Vortexpin$Coil" "warmths" "[I", .methodLink RX7 154 Lib.Math.min.name, .static Lib.Math.min.name, .initialized "java/lang/Math", .code Lib.Math.min.name Lib.Math.min.code 2 (some .int), .methodLink RX7 66 yX7_refuseUnknown, .static yX7_refuseUnknown, .initialized RX7, .code yX7_refuseUnknown cX7_refuseUnknown 2 none, .classLink RX7 216 "java/lang/IndexOutOfBoundsException", .initialized "java/lang/IndexOutOfBoundsException", .methodLink RX7 46 yX7_refuseOutside, .static yX7_refuseOutside, .code yX7_refuseOutside cX7_refuseOutside 3 none, .classLink RX7 209 "java/lang/IllegalArgumentException", .initialized "java/lang/IllegalArgumentException"] ++ wsX70 ++ wsX10 ++ (vx_atS RX7 220 "java/lang/IndexOutOfBoundsException" ["java/lang/RuntimeException", "java/lang/Exception"]).filter goodWord ++ (vx_atS RX7 213 "java/lang/IllegalArgumentException" ["java/lang/RuntimeException", "java/lang/Exception"]).filter goodWord)
def wsX7_pass_r1 : List Cond := [Cond.fieldLink RX7 29 "Vortexpin" "coil" "LVortexpin$Coil;", Cond.fieldLink RX7 141 "Vortexpin$Coil" "current" "I", Cond.methodLink RX7 46 yX7_refuseOutside, Cond.static yX7_refuseOutside, Cond.initialized RX7, Cond.code yX7_refuseOutside cX7_refuseOutside 3 none, Cond.classLink RX7 209 "java/lang/IllegalArgumentException", Cond.initialized "java/lang/IllegalArgumentException", Cond.methodLink RX7 159 yX1_runPulse, Cond.instanceMethod yX1_runPulse, Cond.selects RX1 yX1_runPulse yX1_runPulse, Cond.initialized RX1, Cond.code yX1_runPulse cX1_runPulse 1 none, Cond.fieldLink RX1 16 "Vortexpin$Coil" "dumped" "Z", Cond.methodLink RX1 20 yX1_loseCurrent, Cond.instanceMethod yX1_loseCurrent, Cond.selects RX1 yX1_loseCurrent yX1_loseCurrent, Cond.code yX1_loseCurrent cX1_loseCurrent 8 none, Cond.fieldLink RX1 33 "Vortexpin$Coil" "current" "I", Cond.fieldLink RX1 41 "Vortexpin$Coil" "toWire" "J", Cond.fieldLink RX1 45 "Vortexpin$Coil" "toDump" "J", Cond.methodLink RX1 29 yX1_stored, Cond.instanceMethod yX1_stored, Cond.selects RX1 yX1_stored yX1_stored]
def wsX7_pass_r2 : List Cond := [Cond.code yX1_stored cX1_stored 1 (some .long), Cond.constantLong RX1 71 (50), Cond.methodLink RX1 37 yX1_normalParts, Cond.instanceMethod yX1_normalParts, Cond.selects RX1 yX1_normalParts yX1_normalParts, Cond.code yX1_normalParts cX1_normalParts 5 (some .int), Cond.methodLink RX1 68 Lib.Math.max.name, Cond.static Lib.Math.max.name, Cond.initialized "java/lang/Math", Cond.code Lib.Math.max.name Lib.Math.max.code 2 (some .int), Cond.fieldLink RX1 9 "Vortexpin$Coil" "warmths" "[I", Cond.methodLink RX1 48 yX1_isNormal, Cond.instanceMethod yX1_isNormal, Cond.selects RX1 yX1_isNormal yX1_isNormal, Cond.code yX1_isNormal cX1_isNormal 2 (some .boolean), Cond.methodLink RX1 23 yX1_spreadWarmth, Cond.instanceMethod yX1_spreadWarmth, Cond.selects RX1 yX1_spreadWarmth yX1_spreadWarmth, Cond.code yX1_spreadWarmth cX1_spreadWarmth 5 none, Cond.fieldLink RX1 13 "Vortexpin$Coil" "spare" "[I", Cond.methodLink RX1 52 Lib.Math.min.name, Cond.static Lib.Math.min.name, Cond.code Lib.Math.min.name Lib.Math.min.code 2 (some .int), Cond.methodLink RX1 26 yX1_watch]
def wsX7_pass_r3 : List Cond := [Cond.instanceMethod yX1_watch, Cond.selects RX1 yX1_watch yX1_watch, Cond.code yX1_watch cX1_watch 1 none, Cond.methodLink RX1 61 Lib.Math.abs.name, Cond.static Lib.Math.abs.name, Cond.code Lib.Math.abs.name Lib.Math.abs.code 1 (some .int), Cond.fieldLink RX1 65 "Vortexpin$Coil" "doubtfulInRow" "I", Cond.methodLink RX1 57 yX1_doubt, Cond.instanceMethod yX1_doubt, Cond.selects RX1 yX1_doubt yX1_doubt, Cond.code yX1_doubt cX1_doubt 1 (some .int)]
def wsX7_pass : List Cond := .code yX7_pass cX7_pass 3 (some .int) :: ((wsX7_pass_r1 ++ (wsX7_pass_r2 ++ wsX7_pass_r3)) ++ wsX70 ++ wsX10 ++ (vx_atS RX7 213 "java/lang/IllegalArgumentException" ["java/lang/RuntimeException", "java/lang/Exception"]).filter goodWord)
def wsX7_warmth : List Cond := .code yX7_warmth cX7_warmth 2 (some .int) :: ([.fieldLink RX7 29 "Vortexpin" "coil" "LVortexpin$Coil;", .fieldLink RX7 151 "Vortexpin$Coil" "warmths" "[I", .methodLink RX7 66 yX7_refuseUnknown, .static yX7_refuseUnknown, .initialized RX7, .code yX7_refuseUnknown cX7_refuseUnknown 2 none, .classLink RX7 216 "java/lang/IndexOutOfBoundsException", .initialized "java/lang/IndexOutOfBoundsException"] ++ wsX70 ++ wsX10 ++ (vx_atS RX7 220 "java/lang/IndexOutOfBoundsException" ["java/lang/RuntimeException", "java/lang/Exception"]).filter goodWord)
def wsX7_ofCoil_r1 : List Cond := [Cond.fieldLink RX7 29 "Vortexpin" "coil" "LVortexpin$Coil;", Cond.fieldLink RX7 144 "Vortexpin$Coil" "dumped" "Z", Cond.fieldLink RX7 168 "Vortexpin$Coil" "toWire" "J", Cond.fieldLink RX7 172 "Vortexpin$Coil" "toDump" "J", Cond.methodLink RX7 46 yX7_refuseOutside, Cond.static yX7_refuseOutside, Cond.initialized RX7, Cond.code yX7_refuseOutside cX7_refuseOutside 3 none, Cond.classLink RX7 209 "java/lang/IllegalArgumentException", Cond.initialized "java/lang/IllegalArgumentException", Cond.methodLink RX7 162 yX1_normalParts, Cond.instanceMethod yX1_normalParts, Cond.selects RX1 yX1_normalParts yX1_normalParts, Cond.initialized RX1, Cond.code yX1_normalParts cX1_normalParts 5 (some .int), Cond.methodLink RX1 68 Lib.Math.max.name, Cond.static Lib.Math.max.name, Cond.initialized "java/lang/Math", Cond.code Lib.Math.max.name Lib.Math.max.code 2 (some .int), Cond.fieldLink RX1 9 "Vortexpin$Coil" "warmths" "[I", Cond.methodLink RX1 48 yX1_isNormal, Cond.instanceMethod yX1_isNormal, Cond.selects RX1 yX1_isNormal yX1_isNormal, Cond.code yX1_isNormal cX1_isNormal 2 (some .boolean)]
def wsX7_ofCoil_r2 : List Cond := [Cond.fieldLink RX1 33 "Vortexpin$Coil" "current" "I", Cond.methodLink RX7 165 yX1_doubt, Cond.instanceMethod yX1_doubt, Cond.selects RX1 yX1_doubt yX1_doubt, Cond.code yX1_doubt cX1_doubt 1 (some .int), Cond.methodLink RX1 37 yX1_normalParts, Cond.methodLink RX7 175 yX1_stored, Cond.instanceMethod yX1_stored, Cond.selects RX1 yX1_stored yX1_stored, Cond.code yX1_stored cX1_stored 1 (some .long), Cond.constantLong RX1 71 (50)]
def wsX7_ofCoil : List Cond := .code yX7_ofCoil cX7_ofCoil 2 (some .long) :: ((wsX7_ofCoil_r1 ++ wsX7_ofCoil_r2) ++ wsX70 ++ wsX10 ++ (vx_atS RX7 213 "java/lang/IllegalArgumentException" ["java/lang/RuntimeException", "java/lang/Exception"]).filter goodWord)
def wsX7_share : List Cond := .code yX7_share cX7_share 3 (some .double) :: ([.fieldLink RX7 29 "Vortexpin" "coil" "LVortexpin$Coil;", .fieldLink RX7 168 "Vortexpin$Coil" "toWire" "J", .fieldLink RX7 172 "Vortexpin$Coil" "toDump" "J"] ++ wsX70 ++ wsX10)
def wsX7_margins : List Cond := .code yX7_margins cX7_margins 3 none :: ([.fieldLink RX7 36 "Vortexpin" "counter" "LVortexpin$Counter;", .fieldLink RX7 179 "Vortexpin$Counter" "lower" "I", .fieldLink RX7 182 "Vortexpin$Counter" "upper" "I", .methodLink RX7 46 yX7_refuseOutside, .static yX7_refuseOutside, .initialized RX7, .code yX7_refuseOutside cX7_refuseOutside 3 none, .classLink RX7 209 "java/lang/IllegalArgumentException", .initialized "java/lang/IllegalArgumentException"] ++ wsX70 ++ wsX20 ++ (vx_atS RX7 213 "java/lang/IllegalArgumentException" ["java/lang/RuntimeException", "java/lang/Exception"]).filter goodWord)
def wsX7_pulse : List Cond := .code yX7_pulse cX7_pulse 3 (some .int) :: ([.fieldLink RX7 36 "Vortexpin" "counter" "LVortexpin$Counter;", .methodLink RX7 46 yX7_refuseOutside, .static yX7_refuseOutside, .initialized RX7, .code yX7_refuseOutside cX7_refuseOutside 3 none, .classLink RX7 209 "java/lang/IllegalArgumentException", .initialized "java/lang/IllegalArgumentException", .methodLink RX7 185 yX2_take, .instanceMethod yX2_take, .selects RX2 yX2_take yX2_take, .initialized RX2, .code yX2_take cX2_take 3 (some .int), .fieldLink RX2 7 "Vortexpin$Counter" "lower" "I", .fieldLink RX2 16 "Vortexpin$Counter" "count" "I", .fieldLink RX2 13 "Vortexpin$Counter" "upper" "I", .constant RX2 19 (65536)] ++ wsX70 ++ wsX20 ++ (vx_atS RX7 213 "java/lang/IllegalArgumentException" ["java/lang/RuntimeException", "java/lang/Exception"]).filter goodWord)
def wsX7_bit : List Cond := .code yX7_bit cX7_bit 2 (some .int) :: ([.fieldLink RX7 36 "Vortexpin" "counter" "LVortexpin$Counter;", .fieldLink RX7 188 "Vortexpin$Counter" "count" "I", .methodLink RX7 66 yX7_refuseUnknown, .static yX7_refuseUnknown, .initialized RX7, .code yX7_refuseUnknown cX7_refuseUnknown 2 none, .classLink RX7 216 "java/lang/IndexOutOfBoundsException", .initialized "java/lang/IndexOutOfBoundsException"] ++ wsX70 ++ wsX20 ++ (vx_atS RX7 220 "java/lang/IndexOutOfBoundsException" ["java/lang/RuntimeException", "java/lang/Exception"]).filter goodWord)
def wsX7_point_r1 : List Cond := [Cond.constant RX7 121 (-1000000), Cond.constant RX7 122 (1000000), Cond.fieldLink RX7 40 "Vortexpin" "points" "Ljava/util/ArrayList;", Cond.classLink RX7 191 RX4, Cond.instantiable RX4 3, Cond.initialized RX4, Cond.methodLink RX7 46 yX7_refuseOutside, Cond.static yX7_refuseOutside, Cond.initialized RX7, Cond.code yX7_refuseOutside cX7_refuseOutside 3 none, Cond.classLink RX7 209 "java/lang/IllegalArgumentException", Cond.initialized "java/lang/IllegalArgumentException", Cond.methodLink RX7 50 yJx4a65c_size_8abf5, Cond.instanceMethod yJx4a65c_size_8abf5, Cond.selects RJx4a65c yJx4a65c_size_8abf5 yJx4a65c_size_8abf5, Cond.initialized RJx4a65c, Cond.code yJx4a65c_size_8abf5 cJx4a65c_size_8abf5 1 (some .int), Cond.fieldLink RJx4a65c 48 "java/util/ArrayList" "size" "I", Cond.methodLink RX7 54 yX7_refuseFull, Cond.static yX7_refuseFull, Cond.code yX7_refuseFull cX7_refuseFull 2 none, Cond.classLink RX7 221 "java/lang/IllegalStateException", Cond.initialized "java/lang/IllegalStateException", Cond.methodLink RX7 193 yX4_init]
def wsX7_point_r2 : List Cond := [Cond.instanceMethod yX4_init, Cond.code yX4_init cX4_init 4 none, Cond.methodLink RX4 1 objectInit, Cond.instanceMethod objectInit, Cond.code objectInit ⟨#[0xb1]⟩ 1 none, Cond.fieldLink RX4 7 "Vortexpin$Point" "temperature" "I", Cond.fieldLink RX4 13 "Vortexpin$Point" "current" "I", Cond.fieldLink RX4 16 "Vortexpin$Point" "voltage" "I", Cond.methodLink RX7 62 yJx4a65c_add_9ea2d, Cond.instanceMethod yJx4a65c_add_9ea2d, Cond.selects RJx4a65c yJx4a65c_add_9ea2d yJx4a65c_add_9ea2d, Cond.code yJx4a65c_add_9ea2d cJx4a65c_add_9ea2d 2 (some .boolean), Cond.fieldLink RJx4a65c 63 "java/util/ArrayList" "modCount" "I", Cond.sameField "java/util/ArrayList" "java/util/AbstractList" "modCount" "I", Cond.fieldLink RJx4a65c 9 "java/util/ArrayList" "elementData" "[Ljava/lang/Object;", Cond.methodLink RJx4a65c 131 yJx4a65c_add_72be8, Cond.instanceMethod yJx4a65c_add_72be8, Cond.selects RJx4a65c yJx4a65c_add_72be8 yJx4a65c_add_72be8, Cond.code yJx4a65c_add_72be8 cJx4a65c_add_72be8 4 none, Cond.methodLink RJx4a65c 129 yJx4a65c_grow_d5877, Cond.instanceMethod yJx4a65c_grow_d5877, Cond.selects RJx4a65c yJx4a65c_grow_d5877 yJx4a65c_grow_d5877, Cond.code yJx4a65c_grow_d5877 cJx4a65c_grow_d5877 1 (some (.array (.object "java/lang/Object"))), Cond.methodLink RJx4a65c 69 yJx4a65c_grow_92f84]
def wsX7_point_r3 : List Cond := [Cond.instanceMethod yJx4a65c_grow_92f84, Cond.selects RJx4a65c yJx4a65c_grow_92f84 yJx4a65c_grow_92f84, Cond.code yJx4a65c_grow_92f84 cJx4a65c_grow_92f84 4 (some (.array (.object "java/lang/Object"))), Cond.fieldLink RJx4a65c 39 "java/util/ArrayList" "DEFAULTCAPACITY_EMPTY_ELEMENTDATA" "[Ljava/lang/Object;", Cond.methodLink RJx4a65c 79 Lib.Math.max.name, Cond.static Lib.Math.max.name, Cond.initialized "java/lang/Math", Cond.code Lib.Math.max.name Lib.Math.max.code 2 (some .int), Cond.classLink RJx4a65c 7 "java/lang/Object", Cond.methodLink RJx4a65c 73 yJ8_newLength_cabcc, Cond.static yJ8_newLength_cabcc, Cond.initialized RJ8, Cond.code yJ8_newLength_cabcc cJ8_newLength_cabcc 4 (some .int), Cond.methodLink RJ8 194 Lib.Math.max.name, Cond.constant RJ8 200 (2147483639), Cond.methodLink RJ8 201 yJ8_hugeLength_7cf53, Cond.static yJ8_hugeLength_7cf53, Cond.code yJ8_hugeLength_7cf53 cJ8_hugeLength_7cf53 3 (some .int), Cond.methodLink RJx4a65c 66 yJ7_copyOf_1904c, Cond.static yJ7_copyOf_1904c, Cond.initialized RJ7, Cond.code yJ7_copyOf_1904c cJ7_copyOf_1904c 2 (some (.array (.object "java/lang/Object"))), Cond.methodLink RJ7 86 ⟨"java/lang/Object", "getClass", "()Ljava/lang/Class;"⟩, Cond.selects "[Ljava/lang/Object;" ⟨"java/lang/Object", "getClass", "()Ljava/lang/Class;"⟩ ⟨"java/lang/Object", "getClass", "()Ljava/lang/Class;"⟩]
def wsX7_point_r4 : List Cond := [Cond.instanceMethod ⟨"java/lang/Object", "getClass", "()Ljava/lang/Class;"⟩, Cond.native ⟨"java/lang/Object", "getClass", "()Ljava/lang/Class;"⟩, Cond.methodLink RJ7 300 yJ7_copyOf_6403c, Cond.static yJ7_copyOf_6403c, Cond.code yJ7_copyOf_6403c cJ7_copyOf_6403c 4 (some (.array (.object "java/lang/Object"))), Cond.classLink RJ7 110 "[Ljava/lang/Object;", Cond.classLink RJ7 2 "java/lang/Object", Cond.methodLink RJ7 304 Lib.Math.min.name, Cond.static Lib.Math.min.name, Cond.code Lib.Math.min.name Lib.Math.min.code 2 (some .int), Cond.methodLink RJ7 150 arraycopyName, Cond.native arraycopyName, Cond.static arraycopyName, Cond.initialized "java/lang/System"]
def wsX7_point : List Cond := .code yX7_point cX7_point 4 (some .int) :: ((wsX7_point_r1 ++ (wsX7_point_r2 ++ (wsX7_point_r3 ++ wsX7_point_r4))) ++ wsX70 ++ wsX40 ++ wsJx4a65c0 ++ (vx_atS RX7 213 "java/lang/IllegalArgumentException" ["java/lang/RuntimeException", "java/lang/Exception"]).filter goodWord ++ (vx_atS RX7 225 "java/lang/IllegalStateException" ["java/lang/RuntimeException", "java/lang/Exception"]).filter goodWord)
def wsX7_claim_r1 : List Cond := [Cond.fieldLink RX7 40 "Vortexpin" "points" "Ljava/util/ArrayList;", Cond.fieldLink RX7 43 "Vortexpin" "claims" "Ljava/util/ArrayList;", Cond.classLink RX7 194 RX0, Cond.instantiable RX0 5, Cond.initialized RX0, Cond.methodLink RX7 50 yJx4a65c_size_8abf5, Cond.instanceMethod yJx4a65c_size_8abf5, Cond.selects RJx4a65c yJx4a65c_size_8abf5 yJx4a65c_size_8abf5, Cond.initialized RJx4a65c, Cond.code yJx4a65c_size_8abf5 cJx4a65c_size_8abf5 1 (some .int), Cond.fieldLink RJx4a65c 48 "java/util/ArrayList" "size" "I", Cond.methodLink RX7 66 yX7_refuseUnknown, Cond.static yX7_refuseUnknown, Cond.initialized RX7, Cond.code yX7_refuseUnknown cX7_refuseUnknown 2 none, Cond.classLink RX7 216 "java/lang/IndexOutOfBoundsException", Cond.initialized "java/lang/IndexOutOfBoundsException", Cond.methodLink RX7 46 yX7_refuseOutside, Cond.static yX7_refuseOutside, Cond.code yX7_refuseOutside cX7_refuseOutside 3 none, Cond.classLink RX7 209 "java/lang/IllegalArgumentException", Cond.initialized "java/lang/IllegalArgumentException", Cond.methodLink RX7 54 yX7_refuseFull, Cond.static yX7_refuseFull]
def wsX7_claim_r2 : List Cond := [Cond.code yX7_refuseFull cX7_refuseFull 2 none, Cond.classLink RX7 221 "java/lang/IllegalStateException", Cond.initialized "java/lang/IllegalStateException", Cond.methodLink RX7 196 yX0_init, Cond.instanceMethod yX0_init, Cond.code yX0_init cX0_init 5 none, Cond.methodLink RX0 3 objectInit, Cond.instanceMethod objectInit, Cond.code objectInit ⟨#[0xb1]⟩ 1 none, Cond.fieldLink RX0 9 "Vortexpin$Claim" "temperature" "I", Cond.fieldLink RX0 15 "Vortexpin$Claim" "from" "I", Cond.fieldLink RX0 18 "Vortexpin$Claim" "to" "I", Cond.fieldLink RX0 21 "Vortexpin$Claim" "pointsThen" "I", Cond.arrayClass .int, Cond.fieldLink RX0 24 "Vortexpin$Claim" "words" "[I", Cond.methodLink RX7 62 yJx4a65c_add_9ea2d, Cond.instanceMethod yJx4a65c_add_9ea2d, Cond.selects RJx4a65c yJx4a65c_add_9ea2d yJx4a65c_add_9ea2d, Cond.code yJx4a65c_add_9ea2d cJx4a65c_add_9ea2d 2 (some .boolean), Cond.fieldLink RJx4a65c 63 "java/util/ArrayList" "modCount" "I", Cond.sameField "java/util/ArrayList" "java/util/AbstractList" "modCount" "I", Cond.fieldLink RJx4a65c 9 "java/util/ArrayList" "elementData" "[Ljava/lang/Object;", Cond.methodLink RJx4a65c 131 yJx4a65c_add_72be8, Cond.instanceMethod yJx4a65c_add_72be8]
def wsX7_claim_r3 : List Cond := [Cond.selects RJx4a65c yJx4a65c_add_72be8 yJx4a65c_add_72be8, Cond.code yJx4a65c_add_72be8 cJx4a65c_add_72be8 4 none, Cond.methodLink RJx4a65c 129 yJx4a65c_grow_d5877, Cond.instanceMethod yJx4a65c_grow_d5877, Cond.selects RJx4a65c yJx4a65c_grow_d5877 yJx4a65c_grow_d5877, Cond.code yJx4a65c_grow_d5877 cJx4a65c_grow_d5877 1 (some (.array (.object "java/lang/Object"))), Cond.methodLink RJx4a65c 69 yJx4a65c_grow_92f84, Cond.instanceMethod yJx4a65c_grow_92f84, Cond.selects RJx4a65c yJx4a65c_grow_92f84 yJx4a65c_grow_92f84, Cond.code yJx4a65c_grow_92f84 cJx4a65c_grow_92f84 4 (some (.array (.object "java/lang/Object"))), Cond.fieldLink RJx4a65c 39 "java/util/ArrayList" "DEFAULTCAPACITY_EMPTY_ELEMENTDATA" "[Ljava/lang/Object;", Cond.methodLink RJx4a65c 79 Lib.Math.max.name, Cond.static Lib.Math.max.name, Cond.initialized "java/lang/Math", Cond.code Lib.Math.max.name Lib.Math.max.code 2 (some .int), Cond.classLink RJx4a65c 7 "java/lang/Object", Cond.methodLink RJx4a65c 73 yJ8_newLength_cabcc, Cond.static yJ8_newLength_cabcc, Cond.initialized RJ8, Cond.code yJ8_newLength_cabcc cJ8_newLength_cabcc 4 (some .int), Cond.methodLink RJ8 194 Lib.Math.max.name, Cond.constant RJ8 200 (2147483639), Cond.methodLink RJ8 201 yJ8_hugeLength_7cf53, Cond.static yJ8_hugeLength_7cf53]
def wsX7_claim_r4 : List Cond := [Cond.code yJ8_hugeLength_7cf53 cJ8_hugeLength_7cf53 3 (some .int), Cond.methodLink RJx4a65c 66 yJ7_copyOf_1904c, Cond.static yJ7_copyOf_1904c, Cond.initialized RJ7, Cond.code yJ7_copyOf_1904c cJ7_copyOf_1904c 2 (some (.array (.object "java/lang/Object"))), Cond.methodLink RJ7 86 ⟨"java/lang/Object", "getClass", "()Ljava/lang/Class;"⟩, Cond.selects "[Ljava/lang/Object;" ⟨"java/lang/Object", "getClass", "()Ljava/lang/Class;"⟩ ⟨"java/lang/Object", "getClass", "()Ljava/lang/Class;"⟩, Cond.instanceMethod ⟨"java/lang/Object", "getClass", "()Ljava/lang/Class;"⟩, Cond.native ⟨"java/lang/Object", "getClass", "()Ljava/lang/Class;"⟩, Cond.methodLink RJ7 300 yJ7_copyOf_6403c, Cond.static yJ7_copyOf_6403c, Cond.code yJ7_copyOf_6403c cJ7_copyOf_6403c 4 (some (.array (.object "java/lang/Object"))), Cond.classLink RJ7 110 "[Ljava/lang/Object;", Cond.classLink RJ7 2 "java/lang/Object", Cond.methodLink RJ7 304 Lib.Math.min.name, Cond.static Lib.Math.min.name, Cond.code Lib.Math.min.name Lib.Math.min.code 2 (some .int), Cond.methodLink RJ7 150 arraycopyName, Cond.native arraycopyName, Cond.static arraycopyName, Cond.initialized "java/lang/System"]
def wsX7_claim : List Cond := .code yX7_claim cX7_claim 4 (some .int) :: ((wsX7_claim_r1 ++ (wsX7_claim_r2 ++ (wsX7_claim_r3 ++ wsX7_claim_r4))) ++ wsX70 ++ wsX00 ++ wsJx4a65c0 ++ (vx_atS RX7 220 "java/lang/IndexOutOfBoundsException" ["java/lang/RuntimeException", "java/lang/Exception"]).filter goodWord ++ (vx_atS RX7 213 "java/lang/IllegalArgumentException" ["java/lang/RuntimeException", "java/lang/Exception"]).filter goodWord ++ (vx_atS RX7 225 "java/lang/IllegalStateException" ["java/lang/RuntimeException", "java/lang/Exception"]).filter goodWord)
def wsX7_repeats_r1 : List Cond := [Cond.fieldLink RX7 43 "Vortexpin" "claims" "Ljava/util/ArrayList;", Cond.classLink RX7 194 "Vortexpin$Claim", Cond.fieldLink RX7 199 "Vortexpin$Claim" "words" "[I", Cond.methodLink RX7 50 yJx4a65c_size_8abf5, Cond.instanceMethod yJx4a65c_size_8abf5, Cond.selects RJx4a65c yJx4a65c_size_8abf5 yJx4a65c_size_8abf5, Cond.initialized RJx4a65c, Cond.code yJx4a65c_size_8abf5 cJx4a65c_size_8abf5 1 (some .int), Cond.fieldLink RJx4a65c 48 "java/util/ArrayList" "size" "I", Cond.methodLink RX7 66 yX7_refuseUnknown, Cond.static yX7_refuseUnknown, Cond.initialized RX7, Cond.code yX7_refuseUnknown cX7_refuseUnknown 2 none, Cond.classLink RX7 216 "java/lang/IndexOutOfBoundsException", Cond.initialized "java/lang/IndexOutOfBoundsException", Cond.methodLink RX7 69 yJx4a65c_get_915e3, Cond.instanceMethod yJx4a65c_get_915e3, Cond.selects RJx4a65c yJx4a65c_get_915e3 yJx4a65c_get_915e3, Cond.code yJx4a65c_get_915e3 cJx4a65c_get_915e3 2 (some (.object "java/lang/Object")), Cond.methodLink RJx4a65c 118 yJ15_checkIndex_7cf53, Cond.static yJ15_checkIndex_7cf53, Cond.initialized RJ15, Cond.code yJ15_checkIndex_7cf53 cJ15_checkIndex_7cf53 2 (some .int), Cond.methodLink RJ15 105 yJ3_checkIndex_8e157]
def wsX7_repeats_r2 : List Cond := [Cond.static yJ3_checkIndex_8e157, Cond.initialized RJ3, Cond.code yJ3_checkIndex_8e157 cJ3_checkIndex_8e157 3 (some .int), Cond.methodLink RJx4a65c 123 yJx4a65c_elementData_915e3, Cond.instanceMethod yJx4a65c_elementData_915e3, Cond.selects RJx4a65c yJx4a65c_elementData_915e3 yJx4a65c_elementData_915e3, Cond.code yJx4a65c_elementData_915e3 cJx4a65c_elementData_915e3 2 (some (.object "java/lang/Object")), Cond.fieldLink RJx4a65c 9 "java/util/ArrayList" "elementData" "[Ljava/lang/Object;", Cond.methodLink RX7 202 yX0_housesThat, Cond.instanceMethod yX0_housesThat, Cond.selects RX0 yX0_housesThat yX0_housesThat, Cond.initialized RX0, Cond.code yX0_housesThat cX0_housesThat 4 (some .int), Cond.fieldLink RX0 24 "Vortexpin$Claim" "words" "[I"]
def wsX7_repeats : List Cond := .code yX7_repeats cX7_repeats 5 (some .int) :: ((wsX7_repeats_r1 ++ wsX7_repeats_r2) ++ wsX70 ++ wsX00 ++ wsJx4a65c0 ++ (vx_atS RX7 220 "java/lang/IndexOutOfBoundsException" ["java/lang/RuntimeException", "java/lang/Exception"]).filter goodWord)
def wsX7_judge_r1 : List Cond := [Cond.fieldLink RX7 43 "Vortexpin" "claims" "Ljava/util/ArrayList;", Cond.constant RX7 122 (1000000), Cond.classLink RX7 194 "Vortexpin$Claim", Cond.fieldLink RX7 40 "Vortexpin" "points" "Ljava/util/ArrayList;", Cond.methodLink RX7 50 yJx4a65c_size_8abf5, Cond.instanceMethod yJx4a65c_size_8abf5, Cond.selects RJx4a65c yJx4a65c_size_8abf5 yJx4a65c_size_8abf5, Cond.initialized RJx4a65c, Cond.code yJx4a65c_size_8abf5 cJx4a65c_size_8abf5 1 (some .int), Cond.fieldLink RJx4a65c 48 "java/util/ArrayList" "size" "I", Cond.methodLink RX7 66 yX7_refuseUnknown, Cond.static yX7_refuseUnknown, Cond.initialized RX7, Cond.code yX7_refuseUnknown cX7_refuseUnknown 2 none, Cond.classLink RX7 216 "java/lang/IndexOutOfBoundsException", Cond.initialized "java/lang/IndexOutOfBoundsException", Cond.methodLink RX7 46 yX7_refuseOutside, Cond.static yX7_refuseOutside, Cond.code yX7_refuseOutside cX7_refuseOutside 3 none, Cond.classLink RX7 209 "java/lang/IllegalArgumentException", Cond.initialized "java/lang/IllegalArgumentException", Cond.methodLink RX7 69 yJx4a65c_get_915e3, Cond.instanceMethod yJx4a65c_get_915e3, Cond.selects RJx4a65c yJx4a65c_get_915e3 yJx4a65c_get_915e3]
def wsX7_judge_r2 : List Cond := [Cond.code yJx4a65c_get_915e3 cJx4a65c_get_915e3 2 (some (.object "java/lang/Object")), Cond.methodLink RJx4a65c 118 yJ15_checkIndex_7cf53, Cond.static yJ15_checkIndex_7cf53, Cond.initialized RJ15, Cond.code yJ15_checkIndex_7cf53 cJ15_checkIndex_7cf53 2 (some .int), Cond.methodLink RJ15 105 yJ3_checkIndex_8e157, Cond.static yJ3_checkIndex_8e157, Cond.initialized RJ3, Cond.code yJ3_checkIndex_8e157 cJ3_checkIndex_8e157 3 (some .int), Cond.methodLink RJx4a65c 123 yJx4a65c_elementData_915e3, Cond.instanceMethod yJx4a65c_elementData_915e3, Cond.selects RJx4a65c yJx4a65c_elementData_915e3 yJx4a65c_elementData_915e3, Cond.code yJx4a65c_elementData_915e3 cJx4a65c_elementData_915e3 2 (some (.object "java/lang/Object")), Cond.fieldLink RJx4a65c 9 "java/util/ArrayList" "elementData" "[Ljava/lang/Object;", Cond.methodLink RX7 205 yX0_verdict, Cond.instanceMethod yX0_verdict, Cond.selects RX0 yX0_verdict yX0_verdict, Cond.initialized RX0, Cond.code yX0_verdict cX0_verdict 4 (some .int), Cond.fieldLink RX0 18 "Vortexpin$Claim" "to" "I", Cond.fieldLink RX0 15 "Vortexpin$Claim" "from" "I", Cond.fieldLink RX0 21 "Vortexpin$Claim" "pointsThen" "I", Cond.methodLink RX0 28 yX0_isOpen, Cond.instanceMethod yX0_isOpen]
def wsX7_judge_r3 : List Cond := [Cond.selects RX0 yX0_isOpen yX0_isOpen, Cond.code yX0_isOpen cX0_isOpen 8 (some .boolean), Cond.classLink RX0 46 "Vortexpin$Point", Cond.fieldLink RX0 48 "Vortexpin$Point" "temperature" "I", Cond.fieldLink RX0 9 "Vortexpin$Claim" "temperature" "I", Cond.fieldLink RX0 53 "Vortexpin$Point" "voltage" "I", Cond.methodLink RX0 56 Lib.Math.abs.name, Cond.static Lib.Math.abs.name, Cond.initialized "java/lang/Math", Cond.code Lib.Math.abs.name Lib.Math.abs.code 1 (some .int), Cond.methodLink RX0 36 yJx4a65c_size_8abf5, Cond.methodLink RX0 42 yJx4a65c_get_915e3, Cond.methodLink RX0 49 yX4_mirrors, Cond.instanceMethod yX4_mirrors, Cond.selects RX4 yX4_mirrors yX4_mirrors, Cond.initialized RX4, Cond.code yX4_mirrors cX4_mirrors 2 (some .boolean), Cond.fieldLink RX4 13 "Vortexpin$Point" "current" "I", Cond.fieldLink RX4 7 "Vortexpin$Point" "temperature" "I", Cond.methodLink RX0 32 yX0_housesThat, Cond.instanceMethod yX0_housesThat, Cond.selects RX0 yX0_housesThat yX0_housesThat, Cond.code yX0_housesThat cX0_housesThat 4 (some .int), Cond.fieldLink RX0 24 "Vortexpin$Claim" "words" "[I"]
def wsX7_judge : List Cond := .code yX7_judge cX7_judge 3 (some .int) :: ((wsX7_judge_r1 ++ (wsX7_judge_r2 ++ wsX7_judge_r3)) ++ wsX70 ++ wsJx4a65c0 ++ wsX00 ++ wsX40 ++ (vx_atS RX7 220 "java/lang/IndexOutOfBoundsException" ["java/lang/RuntimeException", "java/lang/Exception"]).filter goodWord ++ (vx_atS RX7 213 "java/lang/IllegalArgumentException" ["java/lang/RuntimeException", "java/lang/Exception"]).filter goodWord)
def wsX8_init_r1 : List Cond := [Cond.methodLink RX8 1 objectInit, Cond.instanceMethod objectInit, Cond.code objectInit ⟨#[0xb1]⟩ 1 none, Cond.arrayClass .int, Cond.fieldLink RX8 7 "VortexpinModel" "critical" "[I", Cond.fieldLink RX8 13 "VortexpinModel" "lower" "[I", Cond.fieldLink RX8 16 "VortexpinModel" "upper" "[I", Cond.fieldLink RX8 19 "VortexpinModel" "warmthOf" "[I", Cond.fieldLink RX8 22 "VortexpinModel" "field" "[I", Cond.fieldLink RX8 25 "VortexpinModel" "depth" "[I", Cond.fieldLink RX8 28 "VortexpinModel" "whirlIn" "[I", Cond.fieldLink RX8 31 "VortexpinModel" "cellOf" "[I", Cond.fieldLink RX8 34 "VortexpinModel" "inductance" "[I", Cond.fieldLink RX8 37 "VortexpinModel" "ringCritical" "[I", Cond.fieldLink RX8 40 "VortexpinModel" "fluxOf" "[I", Cond.fieldLink RX8 43 "VortexpinModel" "number" "[I", Cond.fieldLink RX8 46 "VortexpinModel" "slips" "[I", Cond.fieldLink RX8 49 "VortexpinModel" "part" "[I", Cond.fieldLink RX8 52 "VortexpinModel" "partThen" "[I", Cond.fieldLink RX8 55 "VortexpinModel" "lowerMargin" "I", Cond.fieldLink RX8 59 "VortexpinModel" "upperMargin" "I", Cond.fieldLink RX8 62 "VortexpinModel" "pointWarmth" "[I", Cond.fieldLink RX8 65 "VortexpinModel" "pointCurrent" "[I", Cond.fieldLink RX8 68 "VortexpinModel" "voltage" "[I"]
def wsX8_init_r2 : List Cond := [Cond.fieldLink RX8 71 "VortexpinModel" "claimWarmth" "[I", Cond.fieldLink RX8 74 "VortexpinModel" "claimFrom" "[I", Cond.fieldLink RX8 77 "VortexpinModel" "claimTo" "[I", Cond.fieldLink RX8 80 "VortexpinModel" "claimAll" "[I", Cond.fieldLink RX8 83 "VortexpinModel" "house" "[I"]
def wsX8_init : List Cond := .code yX8_init cX8_init 2 none :: ((wsX8_init_r1 ++ wsX8_init_r2) ++ wsX80)
def wsX8_thrown : List Cond := .code yX8_thrown cX8_thrown 1 (some .int) :: ([.fieldLink RX8 86 "VortexpinModel" "thrown" "I"] ++ wsX80)
def wsX8_stop : List Cond := .code yX8_stop cX8_stop 2 (some .int) :: ([.fieldLink RX8 86 "VortexpinModel" "thrown" "I"] ++ wsX80)
def wsX8_in : List Cond := .code yX8_in cX8_in 3 (some .boolean) :: ([])
def wsX8_size : List Cond := .code yX8_size cX8_size 1 (some .int) :: ([])
def wsX8_sample : List Cond := .code yX8_sample cX8_sample 4 (some .int) :: ([.fieldLink RX8 86 "VortexpinModel" "thrown" "I", .fieldLink RX8 97 "VortexpinModel" "samples" "I", .fieldLink RX8 7 "VortexpinModel" "critical" "[I", .fieldLink RX8 13 "VortexpinModel" "lower" "[I", .fieldLink RX8 16 "VortexpinModel" "upper" "[I", .methodLink RX8 89 yX8_in, .static yX8_in, .initialized RX8, .code yX8_in cX8_in 3 (some .boolean), .methodLink RX8 93 yX8_stop, .instanceMethod yX8_stop, .selects RX8 yX8_stop yX8_stop, .code yX8_stop cX8_stop 2 (some .int)] ++ wsX80)
def wsX8_bound : List Cond := .code yX8_bound cX8_bound 4 (some .int) :: ([.fieldLink RX8 7 "VortexpinModel" "critical" "[I", .fieldLink RX8 19 "VortexpinModel" "warmthOf" "[I"] ++ wsX80)
def wsX8_set : List Cond := .code yX8_set cX8_set 5 (some .int) :: ([.fieldLink RX8 86 "VortexpinModel" "thrown" "I", .fieldLink RX8 97 "VortexpinModel" "samples" "I", .fieldLink RX8 19 "VortexpinModel" "warmthOf" "[I", .fieldLink RX8 22 "VortexpinModel" "field" "[I", .fieldLink RX8 7 "VortexpinModel" "critical" "[I", .fieldLink RX8 13 "VortexpinModel" "lower" "[I", .fieldLink RX8 16 "VortexpinModel" "upper" "[I", .methodLink RX8 89 yX8_in, .static yX8_in, .initialized RX8, .code yX8_in cX8_in 3 (some .boolean), .methodLink RX8 93 yX8_stop, .instanceMethod yX8_stop, .selects RX8 yX8_stop yX8_stop, .code yX8_stop cX8_stop 2 (some .int), .methodLink RX8 100 yX8_size, .static yX8_size, .code yX8_size cX8_size 1 (some .int), .methodLink RX8 103 yX8_bound, .instanceMethod yX8_bound, .selects RX8 yX8_bound yX8_bound, .code yX8_bound cX8_bound 4 (some .int)] ++ wsX80)
def wsX8_deep : List Cond := .code yX8_deep cX8_deep 6 (some .double) :: ([.fieldLink RX8 86 "VortexpinModel" "thrown" "I", .fieldLink RX8 97 "VortexpinModel" "samples" "I", .fieldLink RX8 19 "VortexpinModel" "warmthOf" "[I", .fieldLink RX8 7 "VortexpinModel" "critical" "[I", .constantDouble RX8 107 (4636737291354636288), .methodLink RX8 89 yX8_in, .static yX8_in, .initialized RX8, .code yX8_in cX8_in 3 (some .boolean), .methodLink RX8 93 yX8_stop, .instanceMethod yX8_stop, .selects RX8 yX8_stop yX8_stop, .code yX8_stop cX8_stop 2 (some .int)] ++ wsX80)
def wsX8_pin : List Cond := .code yX8_pin cX8_pin 4 (some .int) :: ([.fieldLink RX8 86 "VortexpinModel" "thrown" "I", .fieldLink RX8 25 "VortexpinModel" "depth" "[I", .methodLink RX8 89 yX8_in, .static yX8_in, .initialized RX8, .code yX8_in cX8_in 3 (some .boolean), .methodLink RX8 93 yX8_stop, .instanceMethod yX8_stop, .selects RX8 yX8_stop yX8_stop, .code yX8_stop cX8_stop 2 (some .int)] ++ wsX80)
def wsX8_drive : List Cond := .code yX8_drive cX8_drive 3 none :: ([.fieldLink RX8 86 "VortexpinModel" "thrown" "I", .fieldLink RX8 109 "VortexpinModel" "drive" "I", .fieldLink RX8 112 "VortexpinModel" "heat" "I", .methodLink RX8 89 yX8_in, .static yX8_in, .initialized RX8, .code yX8_in cX8_in 3 (some .boolean), .methodLink RX8 93 yX8_stop, .instanceMethod yX8_stop, .selects RX8 yX8_stop yX8_stop, .code yX8_stop cX8_stop 2 (some .int)] ++ wsX80)
def wsX8_energyAt : List Cond := .code yX8_energyAt cX8_energyAt 6 (some .int) :: ([.fieldLink RX8 25 "VortexpinModel" "depth" "[I", .fieldLink RX8 109 "VortexpinModel" "drive" "I", .fieldLink RX8 115 "VortexpinModel" "whirls" "I", .fieldLink RX8 31 "VortexpinModel" "cellOf" "[I", .methodLink RX8 100 yX8_size, .static yX8_size, .initialized RX8, .code yX8_size cX8_size 1 (some .int)] ++ wsX80)
def wsX8_enter : List Cond := .code yX8_enter cX8_enter 6 (some .int) :: ([.fieldLink RX8 86 "VortexpinModel" "thrown" "I", .fieldLink RX8 115 "VortexpinModel" "whirls" "I", .fieldLink RX8 28 "VortexpinModel" "whirlIn" "[I", .fieldLink RX8 31 "VortexpinModel" "cellOf" "[I", .methodLink RX8 89 yX8_in, .static yX8_in, .initialized RX8, .code yX8_in cX8_in 3 (some .boolean), .methodLink RX8 93 yX8_stop, .instanceMethod yX8_stop, .selects RX8 yX8_stop yX8_stop, .code yX8_stop cX8_stop 2 (some .int), .methodLink RX8 118 yX8_energyAt, .instanceMethod yX8_energyAt, .selects RX8 yX8_energyAt yX8_energyAt, .code yX8_energyAt cX8_energyAt 6 (some .int), .fieldLink RX8 25 "VortexpinModel" "depth" "[I", .fieldLink RX8 109 "VortexpinModel" "drive" "I", .methodLink RX8 100 yX8_size, .static yX8_size, .code yX8_size cX8_size 1 (some .int)] ++ wsX80)
def wsX8_go : List Cond := .code yX8_go cX8_go 3 none :: ([.fieldLink RX8 28 "VortexpinModel" "whirlIn" "[I", .fieldLink RX8 31 "VortexpinModel" "cellOf" "[I"] ++ wsX80)
def wsX8_beside : List Cond := .code yX8_beside cX8_beside 2 (some .int) :: ([])
def wsX8_leaves : List Cond := .code yX8_leaves cX8_leaves 4 (some .boolean) :: ([.fieldLink RX8 31 "VortexpinModel" "cellOf" "[I", .fieldLink RX8 109 "VortexpinModel" "drive" "I", .fieldLink RX8 25 "VortexpinModel" "depth" "[I", .fieldLink RX8 112 "VortexpinModel" "heat" "I", .methodLink RX8 100 yX8_size, .static yX8_size, .initialized RX8, .code yX8_size cX8_size 1 (some .int)] ++ wsX80)
def wsX8_goal : List Cond := .code yX8_goal cX8_goal 8 (some .int) :: ([.fieldLink RX8 31 "VortexpinModel" "cellOf" "[I", .fieldLink RX8 28 "VortexpinModel" "whirlIn" "[I", .fieldLink RX8 109 "VortexpinModel" "drive" "I", .fieldLink RX8 112 "VortexpinModel" "heat" "I", .methodLink RX8 118 yX8_energyAt, .instanceMethod yX8_energyAt, .selects RX8 yX8_energyAt yX8_energyAt, .initialized RX8, .code yX8_energyAt cX8_energyAt 6 (some .int), .fieldLink RX8 25 "VortexpinModel" "depth" "[I", .fieldLink RX8 115 "VortexpinModel" "whirls" "I", .methodLink RX8 100 yX8_size, .static yX8_size, .code yX8_size cX8_size 1 (some .int), .methodLink RX8 121 yX8_beside, .static yX8_beside, .code yX8_beside cX8_beside 2 (some .int)] ++ wsX80)
def wsX8_stepOnce_r1 : List Cond := [Cond.fieldLink RX8 115 "VortexpinModel" "whirls" "I", Cond.fieldLink RX8 31 "VortexpinModel" "cellOf" "[I", Cond.methodLink RX8 124 yX8_leaves, Cond.instanceMethod yX8_leaves, Cond.selects RX8 yX8_leaves yX8_leaves, Cond.initialized RX8, Cond.code yX8_leaves cX8_leaves 4 (some .boolean), Cond.fieldLink RX8 109 "VortexpinModel" "drive" "I", Cond.fieldLink RX8 25 "VortexpinModel" "depth" "[I", Cond.fieldLink RX8 112 "VortexpinModel" "heat" "I", Cond.methodLink RX8 100 yX8_size, Cond.static yX8_size, Cond.code yX8_size cX8_size 1 (some .int), Cond.methodLink RX8 128 yX8_go, Cond.instanceMethod yX8_go, Cond.selects RX8 yX8_go yX8_go, Cond.code yX8_go cX8_go 3 none, Cond.fieldLink RX8 28 "VortexpinModel" "whirlIn" "[I", Cond.methodLink RX8 132 yX8_goal, Cond.instanceMethod yX8_goal, Cond.selects RX8 yX8_goal yX8_goal, Cond.code yX8_goal cX8_goal 8 (some .int), Cond.methodLink RX8 118 yX8_energyAt, Cond.instanceMethod yX8_energyAt]
def wsX8_stepOnce_r2 : List Cond := [Cond.selects RX8 yX8_energyAt yX8_energyAt, Cond.code yX8_energyAt cX8_energyAt 6 (some .int), Cond.methodLink RX8 121 yX8_beside, Cond.static yX8_beside, Cond.code yX8_beside cX8_beside 2 (some .int)]
def wsX8_stepOnce : List Cond := .code yX8_stepOnce cX8_stepOnce 4 (some .int) :: ((wsX8_stepOnce_r1 ++ wsX8_stepOnce_r2) ++ wsX80)
def wsX8_step_r1 : List Cond := [Cond.fieldLink RX8 86 "VortexpinModel" "thrown" "I", Cond.methodLink RX8 135 yX8_stepOnce, Cond.instanceMethod yX8_stepOnce, Cond.selects RX8 yX8_stepOnce yX8_stepOnce, Cond.initialized RX8, Cond.code yX8_stepOnce cX8_stepOnce 4 (some .int), Cond.fieldLink RX8 115 "VortexpinModel" "whirls" "I", Cond.fieldLink RX8 31 "VortexpinModel" "cellOf" "[I", Cond.methodLink RX8 124 yX8_leaves, Cond.instanceMethod yX8_leaves, Cond.selects RX8 yX8_leaves yX8_leaves, Cond.code yX8_leaves cX8_leaves 4 (some .boolean), Cond.fieldLink RX8 109 "VortexpinModel" "drive" "I", Cond.fieldLink RX8 25 "VortexpinModel" "depth" "[I", Cond.fieldLink RX8 112 "VortexpinModel" "heat" "I", Cond.methodLink RX8 100 yX8_size, Cond.static yX8_size, Cond.code yX8_size cX8_size 1 (some .int), Cond.methodLink RX8 128 yX8_go, Cond.instanceMethod yX8_go, Cond.selects RX8 yX8_go yX8_go, Cond.code yX8_go cX8_go 3 none, Cond.fieldLink RX8 28 "VortexpinModel" "whirlIn" "[I", Cond.methodLink RX8 132 yX8_goal]
def wsX8_step_r2 : List Cond := [Cond.instanceMethod yX8_goal, Cond.selects RX8 yX8_goal yX8_goal, Cond.code yX8_goal cX8_goal 8 (some .int), Cond.methodLink RX8 118 yX8_energyAt, Cond.instanceMethod yX8_energyAt, Cond.selects RX8 yX8_energyAt yX8_energyAt, Cond.code yX8_energyAt cX8_energyAt 6 (some .int), Cond.methodLink RX8 121 yX8_beside, Cond.static yX8_beside, Cond.code yX8_beside cX8_beside 2 (some .int)]
def wsX8_step : List Cond := .code yX8_step cX8_step 1 (some .int) :: ((wsX8_step_r1 ++ wsX8_step_r2) ++ wsX80)
def wsX8_avalanche_r1 : List Cond := [Cond.fieldLink RX8 86 "VortexpinModel" "thrown" "I", Cond.methodLink RX8 135 yX8_stepOnce, Cond.instanceMethod yX8_stepOnce, Cond.selects RX8 yX8_stepOnce yX8_stepOnce, Cond.initialized RX8, Cond.code yX8_stepOnce cX8_stepOnce 4 (some .int), Cond.fieldLink RX8 115 "VortexpinModel" "whirls" "I", Cond.fieldLink RX8 31 "VortexpinModel" "cellOf" "[I", Cond.methodLink RX8 124 yX8_leaves, Cond.instanceMethod yX8_leaves, Cond.selects RX8 yX8_leaves yX8_leaves, Cond.code yX8_leaves cX8_leaves 4 (some .boolean), Cond.fieldLink RX8 109 "VortexpinModel" "drive" "I", Cond.fieldLink RX8 25 "VortexpinModel" "depth" "[I", Cond.fieldLink RX8 112 "VortexpinModel" "heat" "I", Cond.methodLink RX8 100 yX8_size, Cond.static yX8_size, Cond.code yX8_size cX8_size 1 (some .int), Cond.methodLink RX8 128 yX8_go, Cond.instanceMethod yX8_go, Cond.selects RX8 yX8_go yX8_go, Cond.code yX8_go cX8_go 3 none, Cond.fieldLink RX8 28 "VortexpinModel" "whirlIn" "[I", Cond.methodLink RX8 132 yX8_goal]
def wsX8_avalanche_r2 : List Cond := [Cond.instanceMethod yX8_goal, Cond.selects RX8 yX8_goal yX8_goal, Cond.code yX8_goal cX8_goal 8 (some .int), Cond.methodLink RX8 118 yX8_energyAt, Cond.instanceMethod yX8_energyAt, Cond.selects RX8 yX8_energyAt yX8_energyAt, Cond.code yX8_energyAt cX8_energyAt 6 (some .int), Cond.methodLink RX8 121 yX8_beside, Cond.static yX8_beside, Cond.code yX8_beside cX8_beside 2 (some .int)]
def wsX8_avalanche : List Cond := .code yX8_avalanche cX8_avalanche 4 (some .int) :: ((wsX8_avalanche_r1 ++ wsX8_avalanche_r2) ++ wsX80)
def wsX8_whirlAt : List Cond := .code yX8_whirlAt cX8_whirlAt 2 (some .int) :: ([.fieldLink RX8 86 "VortexpinModel" "thrown" "I", .fieldLink RX8 115 "VortexpinModel" "whirls" "I", .fieldLink RX8 31 "VortexpinModel" "cellOf" "[I", .methodLink RX8 89 yX8_in, .static yX8_in, .initialized RX8, .code yX8_in cX8_in 3 (some .boolean), .methodLink RX8 93 yX8_stop, .instanceMethod yX8_stop, .selects RX8 yX8_stop yX8_stop, .code yX8_stop cX8_stop 2 (some .int)] ++ wsX80)
def wsX8_energy : List Cond := .code yX8_energy cX8_energy 2 (some .int) :: ([.fieldLink RX8 86 "VortexpinModel" "thrown" "I", .fieldLink RX8 115 "VortexpinModel" "whirls" "I", .fieldLink RX8 31 "VortexpinModel" "cellOf" "[I", .methodLink RX8 89 yX8_in, .static yX8_in, .initialized RX8, .code yX8_in cX8_in 3 (some .boolean), .methodLink RX8 93 yX8_stop, .instanceMethod yX8_stop, .selects RX8 yX8_stop yX8_stop, .code yX8_stop cX8_stop 2 (some .int), .methodLink RX8 118 yX8_energyAt, .instanceMethod yX8_energyAt, .selects RX8 yX8_energyAt yX8_energyAt, .code yX8_energyAt cX8_energyAt 6 (some .int), .fieldLink RX8 25 "VortexpinModel" "depth" "[I", .fieldLink RX8 109 "VortexpinModel" "drive" "I", .methodLink RX8 100 yX8_size, .static yX8_size, .code yX8_size cX8_size 1 (some .int)] ++ wsX80)
def wsX8_ring : List Cond := .code yX8_ring cX8_ring 3 (some .int) :: ([.fieldLink RX8 86 "VortexpinModel" "thrown" "I", .fieldLink RX8 139 "VortexpinModel" "rings" "I", .fieldLink RX8 34 "VortexpinModel" "inductance" "[I", .fieldLink RX8 37 "VortexpinModel" "ringCritical" "[I", .methodLink RX8 89 yX8_in, .static yX8_in, .initialized RX8, .code yX8_in cX8_in 3 (some .boolean), .methodLink RX8 93 yX8_stop, .instanceMethod yX8_stop, .selects RX8 yX8_stop yX8_stop, .code yX8_stop cX8_stop 2 (some .int)] ++ wsX80)
def wsX8_currentBy : List Cond := .code yX8_currentBy cX8_currentBy 3 (some .int) :: ([.fieldLink RX8 40 "VortexpinModel" "fluxOf" "[I", .fieldLink RX8 34 "VortexpinModel" "inductance" "[I"] ++ wsX80)
def wsX8_flux : List Cond := .code yX8_flux cX8_flux 7 (some .int) :: ([.fieldLink RX8 86 "VortexpinModel" "thrown" "I", .fieldLink RX8 139 "VortexpinModel" "rings" "I", .constant RX8 142 (-1000000), .constant RX8 143 (1000000), .fieldLink RX8 40 "VortexpinModel" "fluxOf" "[I", .fieldLink RX8 43 "VortexpinModel" "number" "[I", .fieldLink RX8 37 "VortexpinModel" "ringCritical" "[I", .fieldLink RX8 46 "VortexpinModel" "slips" "[I", .methodLink RX8 89 yX8_in, .static yX8_in, .initialized RX8, .code yX8_in cX8_in 3 (some .boolean), .methodLink RX8 93 yX8_stop, .instanceMethod yX8_stop, .selects RX8 yX8_stop yX8_stop, .code yX8_stop cX8_stop 2 (some .int), .methodLink RX8 144 yX8_currentBy, .instanceMethod yX8_currentBy, .selects RX8 yX8_currentBy yX8_currentBy, .code yX8_currentBy cX8_currentBy 3 (some .int), .fieldLink RX8 34 "VortexpinModel" "inductance" "[I", .methodLink RX8 100 yX8_size, .static yX8_size, .code yX8_size cX8_size 1 (some .int)] ++ wsX80)
def wsX8_warm : List Cond := .code yX8_warm cX8_warm 4 (some .int) :: ([.fieldLink RX8 86 "VortexpinModel" "thrown" "I", .fieldLink RX8 139 "VortexpinModel" "rings" "I", .fieldLink RX8 40 "VortexpinModel" "fluxOf" "[I", .fieldLink RX8 43 "VortexpinModel" "number" "[I", .methodLink RX8 89 yX8_in, .static yX8_in, .initialized RX8, .code yX8_in cX8_in 3 (some .boolean), .methodLink RX8 93 yX8_stop, .instanceMethod yX8_stop, .selects RX8 yX8_stop yX8_stop, .code yX8_stop cX8_stop 2 (some .int)] ++ wsX80)
def wsX8_ofRing : List Cond := .code yX8_ofRing cX8_ofRing 3 (some .int) :: ([.fieldLink RX8 86 "VortexpinModel" "thrown" "I", .fieldLink RX8 139 "VortexpinModel" "rings" "I", .fieldLink RX8 43 "VortexpinModel" "number" "[I", .fieldLink RX8 46 "VortexpinModel" "slips" "[I", .methodLink RX8 89 yX8_in, .static yX8_in, .initialized RX8, .code yX8_in cX8_in 3 (some .boolean), .methodLink RX8 93 yX8_stop, .instanceMethod yX8_stop, .selects RX8 yX8_stop yX8_stop, .code yX8_stop cX8_stop 2 (some .int), .methodLink RX8 144 yX8_currentBy, .instanceMethod yX8_currentBy, .selects RX8 yX8_currentBy yX8_currentBy, .code yX8_currentBy cX8_currentBy 3 (some .int), .fieldLink RX8 40 "VortexpinModel" "fluxOf" "[I", .fieldLink RX8 34 "VortexpinModel" "inductance" "[I"] ++ wsX80)
def wsX8_current : List Cond := .code yX8_current cX8_current 3 (some .int) :: ([.fieldLink RX8 86 "VortexpinModel" "thrown" "I", .fieldLink RX8 147 "VortexpinModel" "current" "I", .fieldLink RX8 150 "VortexpinModel" "isDumped" "Z", .fieldLink RX8 154 "VortexpinModel" "inRow" "I", .methodLink RX8 89 yX8_in, .static yX8_in, .initialized RX8, .code yX8_in cX8_in 3 (some .boolean), .methodLink RX8 93 yX8_stop, .instanceMethod yX8_stop, .selects RX8 yX8_stop yX8_stop, .code yX8_stop cX8_stop 2 (some .int)] ++ wsX80)
def wsX8_heat : List Cond := .code yX8_heat cX8_heat 3 (some .int) :: ([.fieldLink RX8 86 "VortexpinModel" "thrown" "I", .fieldLink RX8 49 "VortexpinModel" "part" "[I", .methodLink RX8 89 yX8_in, .static yX8_in, .initialized RX8, .code yX8_in cX8_in 3 (some .boolean), .methodLink RX8 93 yX8_stop, .instanceMethod yX8_stop, .selects RX8 yX8_stop yX8_stop, .code yX8_stop cX8_stop 2 (some .int)] ++ wsX80)
def wsX8_isNormal : List Cond := .code yX8_isNormal cX8_isNormal 2 (some .boolean) :: ([.fieldLink RX8 49 "VortexpinModel" "part" "[I", .fieldLink RX8 147 "VortexpinModel" "current" "I"] ++ wsX80)
def wsX8_normals : List Cond := .code yX8_normals cX8_normals 5 (some .int) :: ([.methodLink RX8 157 yX8_isNormal, .instanceMethod yX8_isNormal, .selects RX8 yX8_isNormal yX8_isNormal, .initialized RX8, .code yX8_isNormal cX8_isNormal 2 (some .boolean), .fieldLink RX8 49 "VortexpinModel" "part" "[I", .fieldLink RX8 147 "VortexpinModel" "current" "I"] ++ wsX80)
def wsX8_doubt : List Cond := .code yX8_doubt cX8_doubt 1 (some .int) :: ([.methodLink RX8 160 yX8_normals, .instanceMethod yX8_normals, .selects RX8 yX8_normals yX8_normals, .initialized RX8, .code yX8_normals cX8_normals 5 (some .int), .methodLink RX8 157 yX8_isNormal, .instanceMethod yX8_isNormal, .selects RX8 yX8_isNormal yX8_isNormal, .code yX8_isNormal cX8_isNormal 2 (some .boolean), .fieldLink RX8 49 "VortexpinModel" "part" "[I", .fieldLink RX8 147 "VortexpinModel" "current" "I"] ++ wsX80)
def wsX8_energyOfCoil : List Cond := .code yX8_energyOfCoil cX8_energyOfCoil 1 (some .long) :: ([.constantLong RX8 163 (50), .fieldLink RX8 147 "VortexpinModel" "current" "I"] ++ wsX80)
def wsX8_dumpOn : List Cond := .code yX8_dumpOn cX8_dumpOn 8 none :: ([.fieldLink RX8 147 "VortexpinModel" "current" "I", .fieldLink RX8 169 "VortexpinModel" "wire" "J", .fieldLink RX8 173 "VortexpinModel" "dump" "J", .methodLink RX8 165 yX8_energyOfCoil, .instanceMethod yX8_energyOfCoil, .selects RX8 yX8_energyOfCoil yX8_energyOfCoil, .initialized RX8, .code yX8_energyOfCoil cX8_energyOfCoil 1 (some .long), .constantLong RX8 163 (50), .methodLink RX8 160 yX8_normals, .instanceMethod yX8_normals, .selects RX8 yX8_normals yX8_normals, .code yX8_normals cX8_normals 5 (some .int), .methodLink RX8 157 yX8_isNormal, .instanceMethod yX8_isNormal, .selects RX8 yX8_isNormal yX8_isNormal, .code yX8_isNormal cX8_isNormal 2 (some .boolean), .fieldLink RX8 49 "VortexpinModel" "part" "[I"] ++ wsX80)
def wsX8_pulseOfTime_r1 : List Cond := [Cond.fieldLink RX8 150 "VortexpinModel" "isDumped" "Z", Cond.fieldLink RX8 49 "VortexpinModel" "part" "[I", Cond.fieldLink RX8 147 "VortexpinModel" "current" "I", Cond.fieldLink RX8 52 "VortexpinModel" "partThen" "[I", Cond.fieldLink RX8 154 "VortexpinModel" "inRow" "I", Cond.methodLink RX8 176 yX8_dumpOn, Cond.instanceMethod yX8_dumpOn, Cond.selects RX8 yX8_dumpOn yX8_dumpOn, Cond.initialized RX8, Cond.code yX8_dumpOn cX8_dumpOn 8 none, Cond.fieldLink RX8 169 "VortexpinModel" "wire" "J", Cond.fieldLink RX8 173 "VortexpinModel" "dump" "J", Cond.methodLink RX8 165 yX8_energyOfCoil, Cond.instanceMethod yX8_energyOfCoil, Cond.selects RX8 yX8_energyOfCoil yX8_energyOfCoil, Cond.code yX8_energyOfCoil cX8_energyOfCoil 1 (some .long), Cond.constantLong RX8 163 (50), Cond.methodLink RX8 160 yX8_normals, Cond.instanceMethod yX8_normals, Cond.selects RX8 yX8_normals yX8_normals, Cond.code yX8_normals cX8_normals 5 (some .int), Cond.methodLink RX8 157 yX8_isNormal, Cond.instanceMethod yX8_isNormal, Cond.selects RX8 yX8_isNormal yX8_isNormal]
def wsX8_pulseOfTime_r2 : List Cond := [Cond.code yX8_isNormal cX8_isNormal 2 (some .boolean), Cond.methodLink RX8 179 yX8_doubt, Cond.instanceMethod yX8_doubt, Cond.selects RX8 yX8_doubt yX8_doubt, Cond.code yX8_doubt cX8_doubt 1 (some .int), Cond.methodLink RX8 100 yX8_size, Cond.static yX8_size, Cond.code yX8_size cX8_size 1 (some .int)]
def wsX8_pulseOfTime : List Cond := .code yX8_pulseOfTime cX8_pulseOfTime 3 none :: ((wsX8_pulseOfTime_r1 ++ wsX8_pulseOfTime_r2) ++ wsX80)
def wsX8_pass_r1 : List Cond := [Cond.fieldLink RX8 86 "VortexpinModel" "thrown" "I", Cond.fieldLink RX8 147 "VortexpinModel" "current" "I", Cond.methodLink RX8 89 yX8_in, Cond.static yX8_in, Cond.initialized RX8, Cond.code yX8_in cX8_in 3 (some .boolean), Cond.methodLink RX8 93 yX8_stop, Cond.instanceMethod yX8_stop, Cond.selects RX8 yX8_stop yX8_stop, Cond.code yX8_stop cX8_stop 2 (some .int), Cond.methodLink RX8 182 yX8_pulseOfTime, Cond.instanceMethod yX8_pulseOfTime, Cond.selects RX8 yX8_pulseOfTime yX8_pulseOfTime, Cond.code yX8_pulseOfTime cX8_pulseOfTime 3 none, Cond.fieldLink RX8 150 "VortexpinModel" "isDumped" "Z", Cond.fieldLink RX8 49 "VortexpinModel" "part" "[I", Cond.fieldLink RX8 52 "VortexpinModel" "partThen" "[I", Cond.fieldLink RX8 154 "VortexpinModel" "inRow" "I", Cond.methodLink RX8 176 yX8_dumpOn, Cond.instanceMethod yX8_dumpOn, Cond.selects RX8 yX8_dumpOn yX8_dumpOn, Cond.code yX8_dumpOn cX8_dumpOn 8 none, Cond.fieldLink RX8 169 "VortexpinModel" "wire" "J", Cond.fieldLink RX8 173 "VortexpinModel" "dump" "J"]
def wsX8_pass_r2 : List Cond := [Cond.methodLink RX8 165 yX8_energyOfCoil, Cond.instanceMethod yX8_energyOfCoil, Cond.selects RX8 yX8_energyOfCoil yX8_energyOfCoil, Cond.code yX8_energyOfCoil cX8_energyOfCoil 1 (some .long), Cond.constantLong RX8 163 (50), Cond.methodLink RX8 160 yX8_normals, Cond.instanceMethod yX8_normals, Cond.selects RX8 yX8_normals yX8_normals, Cond.code yX8_normals cX8_normals 5 (some .int), Cond.methodLink RX8 157 yX8_isNormal, Cond.instanceMethod yX8_isNormal, Cond.selects RX8 yX8_isNormal yX8_isNormal, Cond.code yX8_isNormal cX8_isNormal 2 (some .boolean), Cond.methodLink RX8 179 yX8_doubt, Cond.instanceMethod yX8_doubt, Cond.selects RX8 yX8_doubt yX8_doubt, Cond.code yX8_doubt cX8_doubt 1 (some .int), Cond.methodLink RX8 100 yX8_size, Cond.static yX8_size, Cond.code yX8_size cX8_size 1 (some .int)]
def wsX8_pass : List Cond := .code yX8_pass cX8_pass 3 (some .int) :: ((wsX8_pass_r1 ++ wsX8_pass_r2) ++ wsX80)
def wsX8_warmth : List Cond := .code yX8_warmth cX8_warmth 2 (some .int) :: ([.fieldLink RX8 86 "VortexpinModel" "thrown" "I", .fieldLink RX8 49 "VortexpinModel" "part" "[I", .methodLink RX8 89 yX8_in, .static yX8_in, .initialized RX8, .code yX8_in cX8_in 3 (some .boolean), .methodLink RX8 93 yX8_stop, .instanceMethod yX8_stop, .selects RX8 yX8_stop yX8_stop, .code yX8_stop cX8_stop 2 (some .int)] ++ wsX80)
def wsX8_ofCoil_r1 : List Cond := [Cond.fieldLink RX8 86 "VortexpinModel" "thrown" "I", Cond.fieldLink RX8 150 "VortexpinModel" "isDumped" "Z", Cond.fieldLink RX8 169 "VortexpinModel" "wire" "J", Cond.fieldLink RX8 173 "VortexpinModel" "dump" "J", Cond.methodLink RX8 89 yX8_in, Cond.static yX8_in, Cond.initialized RX8, Cond.code yX8_in cX8_in 3 (some .boolean), Cond.methodLink RX8 93 yX8_stop, Cond.instanceMethod yX8_stop, Cond.selects RX8 yX8_stop yX8_stop, Cond.code yX8_stop cX8_stop 2 (some .int), Cond.methodLink RX8 160 yX8_normals, Cond.instanceMethod yX8_normals, Cond.selects RX8 yX8_normals yX8_normals, Cond.code yX8_normals cX8_normals 5 (some .int), Cond.methodLink RX8 157 yX8_isNormal, Cond.instanceMethod yX8_isNormal, Cond.selects RX8 yX8_isNormal yX8_isNormal, Cond.code yX8_isNormal cX8_isNormal 2 (some .boolean), Cond.fieldLink RX8 49 "VortexpinModel" "part" "[I", Cond.fieldLink RX8 147 "VortexpinModel" "current" "I", Cond.methodLink RX8 179 yX8_doubt, Cond.instanceMethod yX8_doubt]
def wsX8_ofCoil_r2 : List Cond := [Cond.selects RX8 yX8_doubt yX8_doubt, Cond.code yX8_doubt cX8_doubt 1 (some .int), Cond.methodLink RX8 165 yX8_energyOfCoil, Cond.instanceMethod yX8_energyOfCoil, Cond.selects RX8 yX8_energyOfCoil yX8_energyOfCoil, Cond.code yX8_energyOfCoil cX8_energyOfCoil 1 (some .long), Cond.constantLong RX8 163 (50)]
def wsX8_ofCoil : List Cond := .code yX8_ofCoil cX8_ofCoil 2 (some .long) :: ((wsX8_ofCoil_r1 ++ wsX8_ofCoil_r2) ++ wsX80)
def wsX8_share : List Cond := .code yX8_share cX8_share 1 (some .double) :: ([.fieldLink RX8 86 "VortexpinModel" "thrown" "I", .fieldLink RX8 169 "VortexpinModel" "wire" "J", .fieldLink RX8 173 "VortexpinModel" "dump" "J"] ++ wsX80)
def wsX8_margins : List Cond := .code yX8_margins cX8_margins 3 none :: ([.fieldLink RX8 86 "VortexpinModel" "thrown" "I", .fieldLink RX8 55 "VortexpinModel" "lowerMargin" "I", .fieldLink RX8 59 "VortexpinModel" "upperMargin" "I", .methodLink RX8 89 yX8_in, .static yX8_in, .initialized RX8, .code yX8_in cX8_in 3 (some .boolean), .methodLink RX8 93 yX8_stop, .instanceMethod yX8_stop, .selects RX8 yX8_stop yX8_stop, .code yX8_stop cX8_stop 2 (some .int)] ++ wsX80)
def wsX8_pulse : List Cond := .code yX8_pulse cX8_pulse 4 (some .int) :: ([.fieldLink RX8 86 "VortexpinModel" "thrown" "I", .fieldLink RX8 55 "VortexpinModel" "lowerMargin" "I", .fieldLink RX8 59 "VortexpinModel" "upperMargin" "I", .fieldLink RX8 185 "VortexpinModel" "count" "I", .constant RX8 188 (65536), .methodLink RX8 89 yX8_in, .static yX8_in, .initialized RX8, .code yX8_in cX8_in 3 (some .boolean), .methodLink RX8 93 yX8_stop, .instanceMethod yX8_stop, .selects RX8 yX8_stop yX8_stop, .code yX8_stop cX8_stop 2 (some .int)] ++ wsX80)
def wsX8_bit : List Cond := .code yX8_bit cX8_bit 2 (some .int) :: ([.fieldLink RX8 86 "VortexpinModel" "thrown" "I", .fieldLink RX8 185 "VortexpinModel" "count" "I", .methodLink RX8 89 yX8_in, .static yX8_in, .initialized RX8, .code yX8_in cX8_in 3 (some .boolean), .methodLink RX8 93 yX8_stop, .instanceMethod yX8_stop, .selects RX8 yX8_stop yX8_stop, .code yX8_stop cX8_stop 2 (some .int)] ++ wsX80)
def wsX8_point : List Cond := .code yX8_point cX8_point 4 (some .int) :: ([.fieldLink RX8 86 "VortexpinModel" "thrown" "I", .constant RX8 142 (-1000000), .constant RX8 143 (1000000), .fieldLink RX8 189 "VortexpinModel" "points" "I", .fieldLink RX8 62 "VortexpinModel" "pointWarmth" "[I", .fieldLink RX8 65 "VortexpinModel" "pointCurrent" "[I", .fieldLink RX8 68 "VortexpinModel" "voltage" "[I", .methodLink RX8 89 yX8_in, .static yX8_in, .initialized RX8, .code yX8_in cX8_in 3 (some .boolean), .methodLink RX8 93 yX8_stop, .instanceMethod yX8_stop, .selects RX8 yX8_stop yX8_stop, .code yX8_stop cX8_stop 2 (some .int)] ++ wsX80)
def wsX8_claim : List Cond := .code yX8_claim cX8_claim 4 (some .int) :: ([.fieldLink RX8 86 "VortexpinModel" "thrown" "I", .fieldLink RX8 189 "VortexpinModel" "points" "I", .fieldLink RX8 192 "VortexpinModel" "claims" "I", .fieldLink RX8 71 "VortexpinModel" "claimWarmth" "[I", .fieldLink RX8 74 "VortexpinModel" "claimFrom" "[I", .fieldLink RX8 77 "VortexpinModel" "claimTo" "[I", .fieldLink RX8 80 "VortexpinModel" "claimAll" "[I", .methodLink RX8 89 yX8_in, .static yX8_in, .initialized RX8, .code yX8_in cX8_in 3 (some .boolean), .methodLink RX8 93 yX8_stop, .instanceMethod yX8_stop, .selects RX8 yX8_stop yX8_stop, .code yX8_stop cX8_stop 2 (some .int)] ++ wsX80)
def wsX8_houses : List Cond := .code yX8_houses cX8_houses 5 (some .int) :: ([.fieldLink RX8 83 "VortexpinModel" "house" "[I"] ++ wsX80)
def wsX8_repeats : List Cond := .code yX8_repeats cX8_repeats 4 (some .int) :: ([.fieldLink RX8 86 "VortexpinModel" "thrown" "I", .fieldLink RX8 192 "VortexpinModel" "claims" "I", .fieldLink RX8 83 "VortexpinModel" "house" "[I", .methodLink RX8 89 yX8_in, .static yX8_in, .initialized RX8, .code yX8_in cX8_in 3 (some .boolean), .methodLink RX8 93 yX8_stop, .instanceMethod yX8_stop, .selects RX8 yX8_stop yX8_stop, .code yX8_stop cX8_stop 2 (some .int), .methodLink RX8 195 yX8_houses, .instanceMethod yX8_houses, .selects RX8 yX8_houses yX8_houses, .code yX8_houses cX8_houses 5 (some .int)] ++ wsX80)
def wsX8_arePair : List Cond := .code yX8_arePair cX8_arePair 5 (some .boolean) :: ([.fieldLink RX8 62 "VortexpinModel" "pointWarmth" "[I", .fieldLink RX8 65 "VortexpinModel" "pointCurrent" "[I", .fieldLink RX8 71 "VortexpinModel" "claimWarmth" "[I"] ++ wsX80)
def wsX8_isOpen : List Cond := .code yX8_isOpen cX8_isOpen 6 (some .boolean) :: ([.fieldLink RX8 74 "VortexpinModel" "claimFrom" "[I", .fieldLink RX8 77 "VortexpinModel" "claimTo" "[I", .fieldLink RX8 68 "VortexpinModel" "voltage" "[I", .methodLink RX8 198 yX8_arePair, .instanceMethod yX8_arePair, .selects RX8 yX8_arePair yX8_arePair, .initialized RX8, .code yX8_arePair cX8_arePair 5 (some .boolean), .fieldLink RX8 62 "VortexpinModel" "pointWarmth" "[I", .fieldLink RX8 65 "VortexpinModel" "pointCurrent" "[I", .fieldLink RX8 71 "VortexpinModel" "claimWarmth" "[I", .methodLink RX8 100 yX8_size, .static yX8_size, .code yX8_size cX8_size 1 (some .int)] ++ wsX80)
def wsX8_judge_r1 : List Cond := [Cond.fieldLink RX8 86 "VortexpinModel" "thrown" "I", Cond.fieldLink RX8 192 "VortexpinModel" "claims" "I", Cond.constant RX8 143 (1000000), Cond.fieldLink RX8 77 "VortexpinModel" "claimTo" "[I", Cond.fieldLink RX8 74 "VortexpinModel" "claimFrom" "[I", Cond.fieldLink RX8 80 "VortexpinModel" "claimAll" "[I", Cond.methodLink RX8 89 yX8_in, Cond.static yX8_in, Cond.initialized RX8, Cond.code yX8_in cX8_in 3 (some .boolean), Cond.methodLink RX8 93 yX8_stop, Cond.instanceMethod yX8_stop, Cond.selects RX8 yX8_stop yX8_stop, Cond.code yX8_stop cX8_stop 2 (some .int), Cond.methodLink RX8 201 yX8_isOpen, Cond.instanceMethod yX8_isOpen, Cond.selects RX8 yX8_isOpen yX8_isOpen, Cond.code yX8_isOpen cX8_isOpen 6 (some .boolean), Cond.fieldLink RX8 68 "VortexpinModel" "voltage" "[I", Cond.methodLink RX8 198 yX8_arePair, Cond.instanceMethod yX8_arePair, Cond.selects RX8 yX8_arePair yX8_arePair, Cond.code yX8_arePair cX8_arePair 5 (some .boolean), Cond.fieldLink RX8 62 "VortexpinModel" "pointWarmth" "[I"]
def wsX8_judge_r2 : List Cond := [Cond.fieldLink RX8 65 "VortexpinModel" "pointCurrent" "[I", Cond.fieldLink RX8 71 "VortexpinModel" "claimWarmth" "[I", Cond.methodLink RX8 100 yX8_size, Cond.static yX8_size, Cond.code yX8_size cX8_size 1 (some .int), Cond.methodLink RX8 195 yX8_houses, Cond.instanceMethod yX8_houses, Cond.selects RX8 yX8_houses yX8_houses, Cond.code yX8_houses cX8_houses 5 (some .int), Cond.fieldLink RX8 83 "VortexpinModel" "house" "[I"]
def wsX8_judge : List Cond := .code yX8_judge cX8_judge 3 (some .int) :: ((wsX8_judge_r1 ++ wsX8_judge_r2) ++ wsX80)
def wsJ9_abs_0f7a4 : List Cond := .code yJ9_abs_0f7a4 cJ9_abs_0f7a4 1 (some .int) :: ([])
def wsJ9_max_7cf53 : List Cond := .code yJ9_max_7cf53 cJ9_max_7cf53 2 (some .int) :: ([])
def wsJ9_min_7cf53 : List Cond := .code yJ9_min_7cf53 cJ9_min_7cf53 2 (some .int) :: ([])
def wsL_sample_r1 : List Cond := [Cond.classLink RL 13 "java/lang/IllegalArgumentException", Cond.classLink RL 15 "java/lang/IllegalStateException", Cond.methodLink RL 7 yX7_sample, Cond.instanceMethod yX7_sample, Cond.selects RX7 yX7_sample yX7_sample, Cond.initialized RX7, Cond.code yX7_sample cX7_sample 4 (some .int), Cond.fieldLink RX7 10 "Vortexpin" "samples" "Ljava/util/ArrayList;", Cond.classLink RX7 58 RX6, Cond.instantiable RX6 5, Cond.initialized RX6, Cond.methodLink RX7 46 yX7_refuseOutside, Cond.static yX7_refuseOutside, Cond.code yX7_refuseOutside cX7_refuseOutside 3 none, Cond.classLink RX7 209 "java/lang/IllegalArgumentException", Cond.initialized "java/lang/IllegalArgumentException", Cond.methodLink RX7 50 yJx4a65c_size_8abf5, Cond.instanceMethod yJx4a65c_size_8abf5, Cond.selects RJx4a65c yJx4a65c_size_8abf5 yJx4a65c_size_8abf5, Cond.initialized RJx4a65c, Cond.code yJx4a65c_size_8abf5 cJx4a65c_size_8abf5 1 (some .int), Cond.fieldLink RJx4a65c 48 "java/util/ArrayList" "size" "I", Cond.methodLink RX7 54 yX7_refuseFull, Cond.static yX7_refuseFull]
def wsL_sample_r2 : List Cond := [Cond.code yX7_refuseFull cX7_refuseFull 2 none, Cond.classLink RX7 221 "java/lang/IllegalStateException", Cond.initialized "java/lang/IllegalStateException", Cond.methodLink RX7 60 yX6_init, Cond.instanceMethod yX6_init, Cond.code yX6_init cX6_init 4 none, Cond.methodLink RX6 3 objectInit, Cond.instanceMethod objectInit, Cond.code objectInit ⟨#[0xb1]⟩ 1 none, Cond.fieldLink RX6 9 "Vortexpin$Sample" "critical" "I", Cond.fieldLink RX6 15 "Vortexpin$Sample" "lower" "I", Cond.fieldLink RX6 18 "Vortexpin$Sample" "upper" "I", Cond.methodLink RX7 62 yJx4a65c_add_9ea2d, Cond.instanceMethod yJx4a65c_add_9ea2d, Cond.selects RJx4a65c yJx4a65c_add_9ea2d yJx4a65c_add_9ea2d, Cond.code yJx4a65c_add_9ea2d cJx4a65c_add_9ea2d 2 (some .boolean), Cond.fieldLink RJx4a65c 63 "java/util/ArrayList" "modCount" "I", Cond.sameField "java/util/ArrayList" "java/util/AbstractList" "modCount" "I", Cond.fieldLink RJx4a65c 9 "java/util/ArrayList" "elementData" "[Ljava/lang/Object;", Cond.methodLink RJx4a65c 131 yJx4a65c_add_72be8, Cond.instanceMethod yJx4a65c_add_72be8, Cond.selects RJx4a65c yJx4a65c_add_72be8 yJx4a65c_add_72be8, Cond.code yJx4a65c_add_72be8 cJx4a65c_add_72be8 4 none, Cond.methodLink RJx4a65c 129 yJx4a65c_grow_d5877]
def wsL_sample_r3 : List Cond := [Cond.instanceMethod yJx4a65c_grow_d5877, Cond.selects RJx4a65c yJx4a65c_grow_d5877 yJx4a65c_grow_d5877, Cond.code yJx4a65c_grow_d5877 cJx4a65c_grow_d5877 1 (some (.array (.object "java/lang/Object"))), Cond.methodLink RJx4a65c 69 yJx4a65c_grow_92f84, Cond.instanceMethod yJx4a65c_grow_92f84, Cond.selects RJx4a65c yJx4a65c_grow_92f84 yJx4a65c_grow_92f84, Cond.code yJx4a65c_grow_92f84 cJx4a65c_grow_92f84 4 (some (.array (.object "java/lang/Object"))), Cond.fieldLink RJx4a65c 39 "java/util/ArrayList" "DEFAULTCAPACITY_EMPTY_ELEMENTDATA" "[Ljava/lang/Object;", Cond.methodLink RJx4a65c 79 Lib.Math.max.name, Cond.static Lib.Math.max.name, Cond.initialized "java/lang/Math", Cond.code Lib.Math.max.name Lib.Math.max.code 2 (some .int), Cond.classLink RJx4a65c 7 "java/lang/Object", Cond.methodLink RJx4a65c 73 yJ8_newLength_cabcc, Cond.static yJ8_newLength_cabcc, Cond.initialized RJ8, Cond.code yJ8_newLength_cabcc cJ8_newLength_cabcc 4 (some .int), Cond.methodLink RJ8 194 Lib.Math.max.name, Cond.constant RJ8 200 (2147483639), Cond.methodLink RJ8 201 yJ8_hugeLength_7cf53, Cond.static yJ8_hugeLength_7cf53, Cond.code yJ8_hugeLength_7cf53 cJ8_hugeLength_7cf53 3 (some .int), Cond.methodLink RJx4a65c 66 yJ7_copyOf_1904c, Cond.static yJ7_copyOf_1904c]
def wsL_sample_r4 : List Cond := [Cond.initialized RJ7, Cond.code yJ7_copyOf_1904c cJ7_copyOf_1904c 2 (some (.array (.object "java/lang/Object"))), Cond.methodLink RJ7 86 ⟨"java/lang/Object", "getClass", "()Ljava/lang/Class;"⟩, Cond.selects "[Ljava/lang/Object;" ⟨"java/lang/Object", "getClass", "()Ljava/lang/Class;"⟩ ⟨"java/lang/Object", "getClass", "()Ljava/lang/Class;"⟩, Cond.instanceMethod ⟨"java/lang/Object", "getClass", "()Ljava/lang/Class;"⟩, Cond.native ⟨"java/lang/Object", "getClass", "()Ljava/lang/Class;"⟩, Cond.methodLink RJ7 300 yJ7_copyOf_6403c, Cond.static yJ7_copyOf_6403c, Cond.code yJ7_copyOf_6403c cJ7_copyOf_6403c 4 (some (.array (.object "java/lang/Object"))), Cond.classLink RJ7 110 "[Ljava/lang/Object;", Cond.classLink RJ7 2 "java/lang/Object", Cond.methodLink RJ7 304 Lib.Math.min.name, Cond.static Lib.Math.min.name, Cond.code Lib.Math.min.name Lib.Math.min.code 2 (some .int), Cond.methodLink RJ7 150 arraycopyName, Cond.native arraycopyName, Cond.static arraycopyName, Cond.initialized "java/lang/System"]
def wsL_sample : List Cond := .codeWith yL_sample cL_sample 6 (some .int) [(0, 12, 15, 13), (0, 12, 19, 15)] :: ((wsL_sample_r1 ++ (wsL_sample_r2 ++ (wsL_sample_r3 ++ wsL_sample_r4))) ++ wsX70 ++ wsX60 ++ wsJx4a65c0 ++ (vx_atS RX7 213 "java/lang/IllegalArgumentException" ["java/lang/RuntimeException", "java/lang/Exception"]).filter goodWord ++ (vx_atS RX7 225 "java/lang/IllegalStateException" ["java/lang/RuntimeException", "java/lang/Exception"]).filter goodWord)
def wsL_set_r1 : List Cond := [Cond.classLink RL 20 "java/lang/IndexOutOfBoundsException", Cond.classLink RL 13 "java/lang/IllegalArgumentException", Cond.methodLink RL 17 yX7_set, Cond.instanceMethod yX7_set, Cond.selects RX7 yX7_set yX7_set, Cond.initialized RX7, Cond.code yX7_set cX7_set 5 (some .int), Cond.fieldLink RX7 10 "Vortexpin" "samples" "Ljava/util/ArrayList;", Cond.classLink RX7 58 "Vortexpin$Sample", Cond.fieldLink RX7 73 "Vortexpin$Sample" "temperature" "I", Cond.fieldLink RX7 77 "Vortexpin$Sample" "field" "I", Cond.methodLink RX7 50 yJx4a65c_size_8abf5, Cond.instanceMethod yJx4a65c_size_8abf5, Cond.selects RJx4a65c yJx4a65c_size_8abf5 yJx4a65c_size_8abf5, Cond.initialized RJx4a65c, Cond.code yJx4a65c_size_8abf5 cJx4a65c_size_8abf5 1 (some .int), Cond.fieldLink RJx4a65c 48 "java/util/ArrayList" "size" "I", Cond.methodLink RX7 66 yX7_refuseUnknown, Cond.static yX7_refuseUnknown, Cond.code yX7_refuseUnknown cX7_refuseUnknown 2 none, Cond.classLink RX7 216 "java/lang/IndexOutOfBoundsException", Cond.initialized "java/lang/IndexOutOfBoundsException", Cond.methodLink RX7 46 yX7_refuseOutside, Cond.static yX7_refuseOutside]
def wsL_set_r2 : List Cond := [Cond.code yX7_refuseOutside cX7_refuseOutside 3 none, Cond.classLink RX7 209 "java/lang/IllegalArgumentException", Cond.initialized "java/lang/IllegalArgumentException", Cond.methodLink RX7 69 yJx4a65c_get_915e3, Cond.instanceMethod yJx4a65c_get_915e3, Cond.selects RJx4a65c yJx4a65c_get_915e3 yJx4a65c_get_915e3, Cond.code yJx4a65c_get_915e3 cJx4a65c_get_915e3 2 (some (.object "java/lang/Object")), Cond.methodLink RJx4a65c 118 yJ15_checkIndex_7cf53, Cond.static yJ15_checkIndex_7cf53, Cond.initialized RJ15, Cond.code yJ15_checkIndex_7cf53 cJ15_checkIndex_7cf53 2 (some .int), Cond.methodLink RJ15 105 yJ3_checkIndex_8e157, Cond.static yJ3_checkIndex_8e157, Cond.initialized RJ3, Cond.code yJ3_checkIndex_8e157 cJ3_checkIndex_8e157 3 (some .int), Cond.methodLink RJx4a65c 123 yJx4a65c_elementData_915e3, Cond.instanceMethod yJx4a65c_elementData_915e3, Cond.selects RJx4a65c yJx4a65c_elementData_915e3 yJx4a65c_elementData_915e3, Cond.code yJx4a65c_elementData_915e3 cJx4a65c_elementData_915e3 2 (some (.object "java/lang/Object")), Cond.fieldLink RJx4a65c 9 "java/util/ArrayList" "elementData" "[Ljava/lang/Object;", Cond.methodLink RX7 80 yX6_phase, Cond.instanceMethod yX6_phase, Cond.selects RX6 yX6_phase yX6_phase, Cond.initialized RX6]
def wsL_set_r3 : List Cond := [Cond.code yX6_phase cX6_phase 3 (some .int), Cond.fieldLink RX6 15 "Vortexpin$Sample" "lower" "I", Cond.fieldLink RX6 18 "Vortexpin$Sample" "upper" "I", Cond.fieldLink RX6 21 "Vortexpin$Sample" "field" "I", Cond.methodLink RX6 24 Lib.Math.abs.name, Cond.static Lib.Math.abs.name, Cond.initialized "java/lang/Math", Cond.code Lib.Math.abs.name Lib.Math.abs.code 1 (some .int), Cond.fieldLink RX6 30 "Vortexpin$Sample" "temperature" "I", Cond.fieldLink RX6 9 "Vortexpin$Sample" "critical" "I", Cond.methodLink RX6 33 yX6_boundOf, Cond.instanceMethod yX6_boundOf, Cond.selects RX6 yX6_boundOf yX6_boundOf, Cond.code yX6_boundOf cX6_boundOf 3 (some .int)]
def wsL_set : List Cond := .codeWith yL_set cL_set 6 (some .int) [(0, 12, 15, 20), (0, 12, 19, 13)] :: ((wsL_set_r1 ++ (wsL_set_r2 ++ wsL_set_r3)) ++ wsX70 ++ wsX60 ++ wsJx4a65c0 ++ (vx_atS RX7 220 "java/lang/IndexOutOfBoundsException" ["java/lang/RuntimeException", "java/lang/Exception"]).filter goodWord ++ (vx_atS RX7 213 "java/lang/IllegalArgumentException" ["java/lang/RuntimeException", "java/lang/Exception"]).filter goodWord)
def wsL_deep_r1 : List Cond := [Cond.classLink RL 20 "java/lang/IndexOutOfBoundsException", Cond.methodLink RL 22 yX7_deep, Cond.instanceMethod yX7_deep, Cond.selects RX7 yX7_deep yX7_deep, Cond.initialized RX7, Cond.code yX7_deep cX7_deep 2 (some .double), Cond.fieldLink RX7 10 "Vortexpin" "samples" "Ljava/util/ArrayList;", Cond.classLink RX7 58 "Vortexpin$Sample", Cond.methodLink RX7 50 yJx4a65c_size_8abf5, Cond.instanceMethod yJx4a65c_size_8abf5, Cond.selects RJx4a65c yJx4a65c_size_8abf5 yJx4a65c_size_8abf5, Cond.initialized RJx4a65c, Cond.code yJx4a65c_size_8abf5 cJx4a65c_size_8abf5 1 (some .int), Cond.fieldLink RJx4a65c 48 "java/util/ArrayList" "size" "I", Cond.methodLink RX7 66 yX7_refuseUnknown, Cond.static yX7_refuseUnknown, Cond.code yX7_refuseUnknown cX7_refuseUnknown 2 none, Cond.classLink RX7 216 "java/lang/IndexOutOfBoundsException", Cond.initialized "java/lang/IndexOutOfBoundsException", Cond.methodLink RX7 69 yJx4a65c_get_915e3, Cond.instanceMethod yJx4a65c_get_915e3, Cond.selects RJx4a65c yJx4a65c_get_915e3 yJx4a65c_get_915e3, Cond.code yJx4a65c_get_915e3 cJx4a65c_get_915e3 2 (some (.object "java/lang/Object")), Cond.methodLink RJx4a65c 118 yJ15_checkIndex_7cf53]
def wsL_deep_r2 : List Cond := [Cond.static yJ15_checkIndex_7cf53, Cond.initialized RJ15, Cond.code yJ15_checkIndex_7cf53 cJ15_checkIndex_7cf53 2 (some .int), Cond.methodLink RJ15 105 yJ3_checkIndex_8e157, Cond.static yJ3_checkIndex_8e157, Cond.initialized RJ3, Cond.code yJ3_checkIndex_8e157 cJ3_checkIndex_8e157 3 (some .int), Cond.methodLink RJx4a65c 123 yJx4a65c_elementData_915e3, Cond.instanceMethod yJx4a65c_elementData_915e3, Cond.selects RJx4a65c yJx4a65c_elementData_915e3 yJx4a65c_elementData_915e3, Cond.code yJx4a65c_elementData_915e3 cJx4a65c_elementData_915e3 2 (some (.object "java/lang/Object")), Cond.fieldLink RJx4a65c 9 "java/util/ArrayList" "elementData" "[Ljava/lang/Object;", Cond.methodLink RX7 83 yX6_penetration, Cond.instanceMethod yX6_penetration, Cond.selects RX6 yX6_penetration yX6_penetration, Cond.initialized RX6, Cond.code yX6_penetration cX6_penetration 5 (some .double), Cond.fieldLink RX6 30 "Vortexpin$Sample" "temperature" "I", Cond.fieldLink RX6 9 "Vortexpin$Sample" "critical" "I", Cond.constantDouble RX6 36 (4636737291354636288)]
def wsL_deep : List Cond := .codeWith yL_deep cL_deep 4 (some .int) [(0, 8, 11, 20)] :: ((wsL_deep_r1 ++ wsL_deep_r2) ++ wsX70 ++ wsJx4a65c0 ++ wsX60 ++ (vx_atS RX7 220 "java/lang/IndexOutOfBoundsException" ["java/lang/RuntimeException", "java/lang/Exception"]).filter goodWord)
def wsL_pin : List Cond := .codeWith yL_pin cL_pin 5 (some .int) [(0, 10, 13, 20), (0, 10, 17, 13)] :: ([.classLink RL 20 "java/lang/IndexOutOfBoundsException", .classLink RL 13 "java/lang/IllegalArgumentException", .methodLink RL 26 yX7_pin, .instanceMethod yX7_pin, .selects RX7 yX7_pin yX7_pin, .initialized RX7, .code yX7_pin cX7_pin 4 (some .int), .fieldLink RX7 19 "Vortexpin" "film" "LVortexpin$Film;", .fieldLink RX7 87 "Vortexpin$Film" "depths" "[I", .methodLink RX7 66 yX7_refuseUnknown, .static yX7_refuseUnknown, .code yX7_refuseUnknown cX7_refuseUnknown 2 none, .classLink RX7 216 "java/lang/IndexOutOfBoundsException", .initialized "java/lang/IndexOutOfBoundsException", .methodLink RX7 46 yX7_refuseOutside, .static yX7_refuseOutside, .code yX7_refuseOutside cX7_refuseOutside 3 none, .classLink RX7 209 "java/lang/IllegalArgumentException", .initialized "java/lang/IllegalArgumentException"] ++ wsX70 ++ wsX30 ++ (vx_atS RX7 220 "java/lang/IndexOutOfBoundsException" ["java/lang/RuntimeException", "java/lang/Exception"]).filter goodWord ++ (vx_atS RX7 213 "java/lang/IllegalArgumentException" ["java/lang/RuntimeException", "java/lang/Exception"]).filter goodWord)
def wsL_drive : List Cond := .codeWith yL_drive cL_drive 4 (some .int) [(0, 6, 9, 13)] :: ([.classLink RL 13 "java/lang/IllegalArgumentException", .methodLink RL 30 yX7_drive, .instanceMethod yX7_drive, .selects RX7 yX7_drive yX7_drive, .initialized RX7, .code yX7_drive cX7_drive 3 none, .fieldLink RX7 19 "Vortexpin" "film" "LVortexpin$Film;", .fieldLink RX7 91 "Vortexpin$Film" "drive" "I", .fieldLink RX7 94 "Vortexpin$Film" "heat" "I", .methodLink RX7 46 yX7_refuseOutside, .static yX7_refuseOutside, .code yX7_refuseOutside cX7_refuseOutside 3 none, .classLink RX7 209 "java/lang/IllegalArgumentException", .initialized "java/lang/IllegalArgumentException"] ++ wsX70 ++ wsX30 ++ (vx_atS RX7 213 "java/lang/IllegalArgumentException" ["java/lang/RuntimeException", "java/lang/Exception"]).filter goodWord)
def wsL_enter_r1 : List Cond := [Cond.classLink RL 13 "java/lang/IllegalArgumentException", Cond.classLink RL 15 "java/lang/IllegalStateException", Cond.methodLink RL 34 yX7_enter, Cond.instanceMethod yX7_enter, Cond.selects RX7 yX7_enter yX7_enter, Cond.initialized RX7, Cond.code yX7_enter cX7_enter 4 (some .int), Cond.fieldLink RX7 19 "Vortexpin" "film" "LVortexpin$Film;", Cond.fieldLink RX7 97 "Vortexpin$Film" "entered" "I", Cond.fieldLink RX7 108 "Vortexpin$Film" "cells" "[I", Cond.methodLink RX7 46 yX7_refuseOutside, Cond.static yX7_refuseOutside, Cond.code yX7_refuseOutside cX7_refuseOutside 3 none, Cond.classLink RX7 209 "java/lang/IllegalArgumentException", Cond.initialized "java/lang/IllegalArgumentException", Cond.methodLink RX7 54 yX7_refuseFull, Cond.static yX7_refuseFull, Cond.code yX7_refuseFull cX7_refuseFull 2 none, Cond.classLink RX7 221 "java/lang/IllegalStateException", Cond.initialized "java/lang/IllegalStateException", Cond.methodLink RX7 100 yX3_calmestEntry, Cond.instanceMethod yX3_calmestEntry, Cond.selects RX3 yX3_calmestEntry yX3_calmestEntry, Cond.initialized RX3]
def wsL_enter_r2 : List Cond := [Cond.code yX3_calmestEntry cX3_calmestEntry 7 (some .int), Cond.methodLink RX3 55 yX3_isFree, Cond.instanceMethod yX3_isFree, Cond.selects RX3 yX3_isFree yX3_isFree, Cond.code yX3_isFree cX3_isFree 3 (some .boolean), Cond.fieldLink RX3 15 "Vortexpin$Film" "cells" "[I", Cond.methodLink RX3 42 yX3_energyAt, Cond.instanceMethod yX3_energyAt, Cond.selects RX3 yX3_energyAt yX3_energyAt, Cond.code yX3_energyAt cX3_energyAt 5 (some .int), Cond.fieldLink RX3 26 "Vortexpin$Film" "drive" "I", Cond.methodLink RX3 58 yX3_repulsion, Cond.static yX3_repulsion, Cond.code yX3_repulsion cX3_repulsion 4 (some .int), Cond.methodLink RX3 34 Lib.Math.abs.name, Cond.static Lib.Math.abs.name, Cond.initialized "java/lang/Math", Cond.code Lib.Math.abs.name Lib.Math.abs.code 1 (some .int), Cond.methodLink RX3 30 yX3_depthOf, Cond.instanceMethod yX3_depthOf, Cond.selects RX3 yX3_depthOf yX3_depthOf, Cond.code yX3_depthOf cX3_depthOf 2 (some .int), Cond.fieldLink RX3 11 "Vortexpin$Film" "depths" "[I", Cond.methodLink RX7 104 yX3_energyAt]
def wsL_enter : List Cond := .codeWith yL_enter cL_enter 4 (some .int) [(0, 9, 12, 13), (0, 9, 15, 15)] :: ((wsL_enter_r1 ++ wsL_enter_r2) ++ wsX70 ++ wsX30 ++ (vx_atS RX7 213 "java/lang/IllegalArgumentException" ["java/lang/RuntimeException", "java/lang/Exception"]).filter goodWord ++ (vx_atS RX7 225 "java/lang/IllegalStateException" ["java/lang/RuntimeException", "java/lang/Exception"]).filter goodWord)
def wsL_whirlAt : List Cond := .codeWith yL_whirlAt cL_whirlAt 4 (some .int) [(0, 9, 12, 20)] :: ([.classLink RL 20 "java/lang/IndexOutOfBoundsException", .methodLink RL 38 yX7_whirlAt, .instanceMethod yX7_whirlAt, .selects RX7 yX7_whirlAt yX7_whirlAt, .initialized RX7, .code yX7_whirlAt cX7_whirlAt 2 (some .int), .fieldLink RX7 19 "Vortexpin" "film" "LVortexpin$Film;", .fieldLink RX7 97 "Vortexpin$Film" "entered" "I", .methodLink RX7 66 yX7_refuseUnknown, .static yX7_refuseUnknown, .code yX7_refuseUnknown cX7_refuseUnknown 2 none, .classLink RX7 216 "java/lang/IndexOutOfBoundsException", .initialized "java/lang/IndexOutOfBoundsException", .methodLink RX7 114 yX3_cellOf, .instanceMethod yX3_cellOf, .selects RX3 yX3_cellOf yX3_cellOf, .initialized RX3, .code yX3_cellOf cX3_cellOf 2 (some .int), .fieldLink RX3 15 "Vortexpin$Film" "cells" "[I"] ++ wsX70 ++ wsX30 ++ (vx_atS RX7 220 "java/lang/IndexOutOfBoundsException" ["java/lang/RuntimeException", "java/lang/Exception"]).filter goodWord)
def wsL_energy_r1 : List Cond := [Cond.classLink RL 20 "java/lang/IndexOutOfBoundsException", Cond.methodLink RL 41 yX7_energy, Cond.instanceMethod yX7_energy, Cond.selects RX7 yX7_energy yX7_energy, Cond.initialized RX7, Cond.code yX7_energy cX7_energy 3 (some .int), Cond.fieldLink RX7 19 "Vortexpin" "film" "LVortexpin$Film;", Cond.fieldLink RX7 97 "Vortexpin$Film" "entered" "I", Cond.methodLink RX7 66 yX7_refuseUnknown, Cond.static yX7_refuseUnknown, Cond.code yX7_refuseUnknown cX7_refuseUnknown 2 none, Cond.classLink RX7 216 "java/lang/IndexOutOfBoundsException", Cond.initialized "java/lang/IndexOutOfBoundsException", Cond.methodLink RX7 114 yX3_cellOf, Cond.instanceMethod yX3_cellOf, Cond.selects RX3 yX3_cellOf yX3_cellOf, Cond.initialized RX3, Cond.code yX3_cellOf cX3_cellOf 2 (some .int), Cond.fieldLink RX3 15 "Vortexpin$Film" "cells" "[I", Cond.methodLink RX7 104 yX3_energyAt, Cond.instanceMethod yX3_energyAt, Cond.selects RX3 yX3_energyAt yX3_energyAt, Cond.code yX3_energyAt cX3_energyAt 5 (some .int), Cond.fieldLink RX3 26 "Vortexpin$Film" "drive" "I"]
def wsL_energy_r2 : List Cond := [Cond.methodLink RX3 58 yX3_repulsion, Cond.static yX3_repulsion, Cond.code yX3_repulsion cX3_repulsion 4 (some .int), Cond.methodLink RX3 34 Lib.Math.abs.name, Cond.static Lib.Math.abs.name, Cond.initialized "java/lang/Math", Cond.code Lib.Math.abs.name Lib.Math.abs.code 1 (some .int), Cond.methodLink RX3 30 yX3_depthOf, Cond.instanceMethod yX3_depthOf, Cond.selects RX3 yX3_depthOf yX3_depthOf, Cond.code yX3_depthOf cX3_depthOf 2 (some .int), Cond.fieldLink RX3 11 "Vortexpin$Film" "depths" "[I"]
def wsL_energy : List Cond := .codeWith yL_energy cL_energy 4 (some .int) [(0, 9, 12, 20)] :: ((wsL_energy_r1 ++ wsL_energy_r2) ++ wsX70 ++ wsX30 ++ (vx_atS RX7 220 "java/lang/IndexOutOfBoundsException" ["java/lang/RuntimeException", "java/lang/Exception"]).filter goodWord)
def wsL_ring_r1 : List Cond := [Cond.classLink RL 13 "java/lang/IllegalArgumentException", Cond.classLink RL 15 "java/lang/IllegalStateException", Cond.methodLink RL 44 yX7_ring, Cond.instanceMethod yX7_ring, Cond.selects RX7 yX7_ring yX7_ring, Cond.initialized RX7, Cond.code yX7_ring cX7_ring 3 (some .int), Cond.fieldLink RX7 23 "Vortexpin" "rings" "Ljava/util/ArrayList;", Cond.classLink RX7 117 RX5, Cond.instantiable RX5 5, Cond.initialized RX5, Cond.methodLink RX7 46 yX7_refuseOutside, Cond.static yX7_refuseOutside, Cond.code yX7_refuseOutside cX7_refuseOutside 3 none, Cond.classLink RX7 209 "java/lang/IllegalArgumentException", Cond.initialized "java/lang/IllegalArgumentException", Cond.methodLink RX7 50 yJx4a65c_size_8abf5, Cond.instanceMethod yJx4a65c_size_8abf5, Cond.selects RJx4a65c yJx4a65c_size_8abf5 yJx4a65c_size_8abf5, Cond.initialized RJx4a65c, Cond.code yJx4a65c_size_8abf5 cJx4a65c_size_8abf5 1 (some .int), Cond.fieldLink RJx4a65c 48 "java/util/ArrayList" "size" "I", Cond.methodLink RX7 54 yX7_refuseFull, Cond.static yX7_refuseFull]
def wsL_ring_r2 : List Cond := [Cond.code yX7_refuseFull cX7_refuseFull 2 none, Cond.classLink RX7 221 "java/lang/IllegalStateException", Cond.initialized "java/lang/IllegalStateException", Cond.methodLink RX7 119 yX5_init, Cond.instanceMethod yX5_init, Cond.code yX5_init cX5_init 3 none, Cond.methodLink RX5 1 objectInit, Cond.instanceMethod objectInit, Cond.code objectInit ⟨#[0xb1]⟩ 1 none, Cond.fieldLink RX5 7 "Vortexpin$Ring" "inductance" "I", Cond.fieldLink RX5 13 "Vortexpin$Ring" "critical" "I", Cond.methodLink RX7 62 yJx4a65c_add_9ea2d, Cond.instanceMethod yJx4a65c_add_9ea2d, Cond.selects RJx4a65c yJx4a65c_add_9ea2d yJx4a65c_add_9ea2d, Cond.code yJx4a65c_add_9ea2d cJx4a65c_add_9ea2d 2 (some .boolean), Cond.fieldLink RJx4a65c 63 "java/util/ArrayList" "modCount" "I", Cond.sameField "java/util/ArrayList" "java/util/AbstractList" "modCount" "I", Cond.fieldLink RJx4a65c 9 "java/util/ArrayList" "elementData" "[Ljava/lang/Object;", Cond.methodLink RJx4a65c 131 yJx4a65c_add_72be8, Cond.instanceMethod yJx4a65c_add_72be8, Cond.selects RJx4a65c yJx4a65c_add_72be8 yJx4a65c_add_72be8, Cond.code yJx4a65c_add_72be8 cJx4a65c_add_72be8 4 none, Cond.methodLink RJx4a65c 129 yJx4a65c_grow_d5877, Cond.instanceMethod yJx4a65c_grow_d5877]
def wsL_ring_r3 : List Cond := [Cond.selects RJx4a65c yJx4a65c_grow_d5877 yJx4a65c_grow_d5877, Cond.code yJx4a65c_grow_d5877 cJx4a65c_grow_d5877 1 (some (.array (.object "java/lang/Object"))), Cond.methodLink RJx4a65c 69 yJx4a65c_grow_92f84, Cond.instanceMethod yJx4a65c_grow_92f84, Cond.selects RJx4a65c yJx4a65c_grow_92f84 yJx4a65c_grow_92f84, Cond.code yJx4a65c_grow_92f84 cJx4a65c_grow_92f84 4 (some (.array (.object "java/lang/Object"))), Cond.fieldLink RJx4a65c 39 "java/util/ArrayList" "DEFAULTCAPACITY_EMPTY_ELEMENTDATA" "[Ljava/lang/Object;", Cond.methodLink RJx4a65c 79 Lib.Math.max.name, Cond.static Lib.Math.max.name, Cond.initialized "java/lang/Math", Cond.code Lib.Math.max.name Lib.Math.max.code 2 (some .int), Cond.classLink RJx4a65c 7 "java/lang/Object", Cond.methodLink RJx4a65c 73 yJ8_newLength_cabcc, Cond.static yJ8_newLength_cabcc, Cond.initialized RJ8, Cond.code yJ8_newLength_cabcc cJ8_newLength_cabcc 4 (some .int), Cond.methodLink RJ8 194 Lib.Math.max.name, Cond.constant RJ8 200 (2147483639), Cond.methodLink RJ8 201 yJ8_hugeLength_7cf53, Cond.static yJ8_hugeLength_7cf53, Cond.code yJ8_hugeLength_7cf53 cJ8_hugeLength_7cf53 3 (some .int), Cond.methodLink RJx4a65c 66 yJ7_copyOf_1904c, Cond.static yJ7_copyOf_1904c, Cond.initialized RJ7]
def wsL_ring_r4 : List Cond := [Cond.code yJ7_copyOf_1904c cJ7_copyOf_1904c 2 (some (.array (.object "java/lang/Object"))), Cond.methodLink RJ7 86 ⟨"java/lang/Object", "getClass", "()Ljava/lang/Class;"⟩, Cond.selects "[Ljava/lang/Object;" ⟨"java/lang/Object", "getClass", "()Ljava/lang/Class;"⟩ ⟨"java/lang/Object", "getClass", "()Ljava/lang/Class;"⟩, Cond.instanceMethod ⟨"java/lang/Object", "getClass", "()Ljava/lang/Class;"⟩, Cond.native ⟨"java/lang/Object", "getClass", "()Ljava/lang/Class;"⟩, Cond.methodLink RJ7 300 yJ7_copyOf_6403c, Cond.static yJ7_copyOf_6403c, Cond.code yJ7_copyOf_6403c cJ7_copyOf_6403c 4 (some (.array (.object "java/lang/Object"))), Cond.classLink RJ7 110 "[Ljava/lang/Object;", Cond.classLink RJ7 2 "java/lang/Object", Cond.methodLink RJ7 304 Lib.Math.min.name, Cond.static Lib.Math.min.name, Cond.code Lib.Math.min.name Lib.Math.min.code 2 (some .int), Cond.methodLink RJ7 150 arraycopyName, Cond.native arraycopyName, Cond.static arraycopyName, Cond.initialized "java/lang/System"]
def wsL_ring : List Cond := .codeWith yL_ring cL_ring 5 (some .int) [(0, 10, 13, 13), (0, 10, 17, 15)] :: ((wsL_ring_r1 ++ (wsL_ring_r2 ++ (wsL_ring_r3 ++ wsL_ring_r4))) ++ wsX70 ++ wsX50 ++ wsJx4a65c0 ++ (vx_atS RX7 213 "java/lang/IllegalArgumentException" ["java/lang/RuntimeException", "java/lang/Exception"]).filter goodWord ++ (vx_atS RX7 225 "java/lang/IllegalStateException" ["java/lang/RuntimeException", "java/lang/Exception"]).filter goodWord)
def wsL_flux_r1 : List Cond := [Cond.classLink RL 20 "java/lang/IndexOutOfBoundsException", Cond.classLink RL 13 "java/lang/IllegalArgumentException", Cond.methodLink RL 47 yX7_flux, Cond.instanceMethod yX7_flux, Cond.selects RX7 yX7_flux yX7_flux, Cond.initialized RX7, Cond.code yX7_flux cX7_flux 4 (some .int), Cond.fieldLink RX7 23 "Vortexpin" "rings" "Ljava/util/ArrayList;", Cond.constant RX7 121 (-1000000), Cond.constant RX7 122 (1000000), Cond.classLink RX7 117 "Vortexpin$Ring", Cond.fieldLink RX7 123 "Vortexpin$Ring" "flux" "I", Cond.methodLink RX7 50 yJx4a65c_size_8abf5, Cond.instanceMethod yJx4a65c_size_8abf5, Cond.selects RJx4a65c yJx4a65c_size_8abf5 yJx4a65c_size_8abf5, Cond.initialized RJx4a65c, Cond.code yJx4a65c_size_8abf5 cJx4a65c_size_8abf5 1 (some .int), Cond.fieldLink RJx4a65c 48 "java/util/ArrayList" "size" "I", Cond.methodLink RX7 66 yX7_refuseUnknown, Cond.static yX7_refuseUnknown, Cond.code yX7_refuseUnknown cX7_refuseUnknown 2 none, Cond.classLink RX7 216 "java/lang/IndexOutOfBoundsException", Cond.initialized "java/lang/IndexOutOfBoundsException", Cond.methodLink RX7 46 yX7_refuseOutside]
def wsL_flux_r2 : List Cond := [Cond.static yX7_refuseOutside, Cond.code yX7_refuseOutside cX7_refuseOutside 3 none, Cond.classLink RX7 209 "java/lang/IllegalArgumentException", Cond.initialized "java/lang/IllegalArgumentException", Cond.methodLink RX7 69 yJx4a65c_get_915e3, Cond.instanceMethod yJx4a65c_get_915e3, Cond.selects RJx4a65c yJx4a65c_get_915e3 yJx4a65c_get_915e3, Cond.code yJx4a65c_get_915e3 cJx4a65c_get_915e3 2 (some (.object "java/lang/Object")), Cond.methodLink RJx4a65c 118 yJ15_checkIndex_7cf53, Cond.static yJ15_checkIndex_7cf53, Cond.initialized RJ15, Cond.code yJ15_checkIndex_7cf53 cJ15_checkIndex_7cf53 2 (some .int), Cond.methodLink RJ15 105 yJ3_checkIndex_8e157, Cond.static yJ3_checkIndex_8e157, Cond.initialized RJ3, Cond.code yJ3_checkIndex_8e157 cJ3_checkIndex_8e157 3 (some .int), Cond.methodLink RJx4a65c 123 yJx4a65c_elementData_915e3, Cond.instanceMethod yJx4a65c_elementData_915e3, Cond.selects RJx4a65c yJx4a65c_elementData_915e3 yJx4a65c_elementData_915e3, Cond.code yJx4a65c_elementData_915e3 cJx4a65c_elementData_915e3 2 (some (.object "java/lang/Object")), Cond.fieldLink RJx4a65c 9 "java/util/ArrayList" "elementData" "[Ljava/lang/Object;", Cond.methodLink RX7 126 yX5_settle, Cond.instanceMethod yX5_settle, Cond.selects RX5 yX5_settle yX5_settle]
def wsL_flux_r3 : List Cond := [Cond.initialized RX5, Cond.code yX5_settle cX5_settle 5 (some .int), Cond.fieldLink RX5 19 "Vortexpin$Ring" "number" "I", Cond.constant RX5 22 (1000000), Cond.methodLink RX5 27 Lib.Math.abs.name, Cond.static Lib.Math.abs.name, Cond.initialized "java/lang/Math", Cond.code Lib.Math.abs.name Lib.Math.abs.code 1 (some .int), Cond.fieldLink RX5 13 "Vortexpin$Ring" "critical" "I", Cond.fieldLink RX5 32 "Vortexpin$Ring" "slips" "I", Cond.methodLink RX5 23 yX5_currentWith, Cond.instanceMethod yX5_currentWith, Cond.selects RX5 yX5_currentWith yX5_currentWith, Cond.code yX5_currentWith cX5_currentWith 2 (some .int), Cond.fieldLink RX5 7 "Vortexpin$Ring" "inductance" "I", Cond.fieldLink RX5 16 "Vortexpin$Ring" "flux" "I"]
def wsL_flux : List Cond := .codeWith yL_flux cL_flux 5 (some .int) [(0, 10, 13, 20), (0, 10, 17, 13)] :: ((wsL_flux_r1 ++ (wsL_flux_r2 ++ wsL_flux_r3)) ++ wsX70 ++ wsX50 ++ wsJx4a65c0 ++ (vx_atS RX7 220 "java/lang/IndexOutOfBoundsException" ["java/lang/RuntimeException", "java/lang/Exception"]).filter goodWord ++ (vx_atS RX7 213 "java/lang/IllegalArgumentException" ["java/lang/RuntimeException", "java/lang/Exception"]).filter goodWord)
def wsL_warm_r1 : List Cond := [Cond.classLink RL 20 "java/lang/IndexOutOfBoundsException", Cond.methodLink RL 50 yX7_warm, Cond.instanceMethod yX7_warm, Cond.selects RX7 yX7_warm yX7_warm, Cond.initialized RX7, Cond.code yX7_warm cX7_warm 3 (some .int), Cond.fieldLink RX7 23 "Vortexpin" "rings" "Ljava/util/ArrayList;", Cond.classLink RX7 117 "Vortexpin$Ring", Cond.fieldLink RX7 132 "Vortexpin$Ring" "number" "I", Cond.methodLink RX7 50 yJx4a65c_size_8abf5, Cond.instanceMethod yJx4a65c_size_8abf5, Cond.selects RJx4a65c yJx4a65c_size_8abf5 yJx4a65c_size_8abf5, Cond.initialized RJx4a65c, Cond.code yJx4a65c_size_8abf5 cJx4a65c_size_8abf5 1 (some .int), Cond.fieldLink RJx4a65c 48 "java/util/ArrayList" "size" "I", Cond.methodLink RX7 66 yX7_refuseUnknown, Cond.static yX7_refuseUnknown, Cond.code yX7_refuseUnknown cX7_refuseUnknown 2 none, Cond.classLink RX7 216 "java/lang/IndexOutOfBoundsException", Cond.initialized "java/lang/IndexOutOfBoundsException", Cond.methodLink RX7 69 yJx4a65c_get_915e3, Cond.instanceMethod yJx4a65c_get_915e3, Cond.selects RJx4a65c yJx4a65c_get_915e3 yJx4a65c_get_915e3, Cond.code yJx4a65c_get_915e3 cJx4a65c_get_915e3 2 (some (.object "java/lang/Object"))]
def wsL_warm_r2 : List Cond := [Cond.methodLink RJx4a65c 118 yJ15_checkIndex_7cf53, Cond.static yJ15_checkIndex_7cf53, Cond.initialized RJ15, Cond.code yJ15_checkIndex_7cf53 cJ15_checkIndex_7cf53 2 (some .int), Cond.methodLink RJ15 105 yJ3_checkIndex_8e157, Cond.static yJ3_checkIndex_8e157, Cond.initialized RJ3, Cond.code yJ3_checkIndex_8e157 cJ3_checkIndex_8e157 3 (some .int), Cond.methodLink RJx4a65c 123 yJx4a65c_elementData_915e3, Cond.instanceMethod yJx4a65c_elementData_915e3, Cond.selects RJx4a65c yJx4a65c_elementData_915e3 yJx4a65c_elementData_915e3, Cond.code yJx4a65c_elementData_915e3 cJx4a65c_elementData_915e3 2 (some (.object "java/lang/Object")), Cond.fieldLink RJx4a65c 9 "java/util/ArrayList" "elementData" "[Ljava/lang/Object;", Cond.methodLink RX7 129 yX5_nearestNumber, Cond.instanceMethod yX5_nearestNumber, Cond.selects RX5 yX5_nearestNumber yX5_nearestNumber, Cond.initialized RX5, Cond.code yX5_nearestNumber cX5_nearestNumber 1 (some .int), Cond.fieldLink RX5 16 "Vortexpin$Ring" "flux" "I", Cond.methodLink RX5 35 yJ9_floorDiv_7cf53, Cond.static yJ9_floorDiv_7cf53, Cond.initialized RJ9, Cond.code yJ9_floorDiv_7cf53 cJ9_floorDiv_7cf53 3 (some .int)]
def wsL_warm : List Cond := .codeWith yL_warm cL_warm 4 (some .int) [(0, 9, 12, 20)] :: ((wsL_warm_r1 ++ wsL_warm_r2) ++ wsX70 ++ wsX50 ++ wsJx4a65c0 ++ (vx_atS RX7 220 "java/lang/IndexOutOfBoundsException" ["java/lang/RuntimeException", "java/lang/Exception"]).filter goodWord)
def wsL_ofRing_r1 : List Cond := [Cond.classLink RL 20 "java/lang/IndexOutOfBoundsException", Cond.classLink RL 13 "java/lang/IllegalArgumentException", Cond.methodLink RL 53 yX7_ofRing, Cond.instanceMethod yX7_ofRing, Cond.selects RX7 yX7_ofRing yX7_ofRing, Cond.initialized RX7, Cond.code yX7_ofRing cX7_ofRing 4 (some .int), Cond.fieldLink RX7 23 "Vortexpin" "rings" "Ljava/util/ArrayList;", Cond.classLink RX7 117 "Vortexpin$Ring", Cond.fieldLink RX7 132 "Vortexpin$Ring" "number" "I", Cond.fieldLink RX7 138 "Vortexpin$Ring" "slips" "I", Cond.methodLink RX7 50 yJx4a65c_size_8abf5, Cond.instanceMethod yJx4a65c_size_8abf5, Cond.selects RJx4a65c yJx4a65c_size_8abf5 yJx4a65c_size_8abf5, Cond.initialized RJx4a65c, Cond.code yJx4a65c_size_8abf5 cJx4a65c_size_8abf5 1 (some .int), Cond.fieldLink RJx4a65c 48 "java/util/ArrayList" "size" "I", Cond.methodLink RX7 66 yX7_refuseUnknown, Cond.static yX7_refuseUnknown, Cond.code yX7_refuseUnknown cX7_refuseUnknown 2 none, Cond.classLink RX7 216 "java/lang/IndexOutOfBoundsException", Cond.initialized "java/lang/IndexOutOfBoundsException", Cond.methodLink RX7 46 yX7_refuseOutside, Cond.static yX7_refuseOutside]
def wsL_ofRing_r2 : List Cond := [Cond.code yX7_refuseOutside cX7_refuseOutside 3 none, Cond.classLink RX7 209 "java/lang/IllegalArgumentException", Cond.initialized "java/lang/IllegalArgumentException", Cond.methodLink RX7 69 yJx4a65c_get_915e3, Cond.instanceMethod yJx4a65c_get_915e3, Cond.selects RJx4a65c yJx4a65c_get_915e3 yJx4a65c_get_915e3, Cond.code yJx4a65c_get_915e3 cJx4a65c_get_915e3 2 (some (.object "java/lang/Object")), Cond.methodLink RJx4a65c 118 yJ15_checkIndex_7cf53, Cond.static yJ15_checkIndex_7cf53, Cond.initialized RJ15, Cond.code yJ15_checkIndex_7cf53 cJ15_checkIndex_7cf53 2 (some .int), Cond.methodLink RJ15 105 yJ3_checkIndex_8e157, Cond.static yJ3_checkIndex_8e157, Cond.initialized RJ3, Cond.code yJ3_checkIndex_8e157 cJ3_checkIndex_8e157 3 (some .int), Cond.methodLink RJx4a65c 123 yJx4a65c_elementData_915e3, Cond.instanceMethod yJx4a65c_elementData_915e3, Cond.selects RJx4a65c yJx4a65c_elementData_915e3 yJx4a65c_elementData_915e3, Cond.code yJx4a65c_elementData_915e3 cJx4a65c_elementData_915e3 2 (some (.object "java/lang/Object")), Cond.fieldLink RJx4a65c 9 "java/util/ArrayList" "elementData" "[Ljava/lang/Object;", Cond.methodLink RX7 135 yX5_currentWith, Cond.instanceMethod yX5_currentWith, Cond.selects RX5 yX5_currentWith yX5_currentWith, Cond.initialized RX5]
def wsL_ofRing_r3 : List Cond := [Cond.code yX5_currentWith cX5_currentWith 2 (some .int), Cond.fieldLink RX5 7 "Vortexpin$Ring" "inductance" "I", Cond.fieldLink RX5 16 "Vortexpin$Ring" "flux" "I"]
def wsL_ofRing : List Cond := .codeWith yL_ofRing cL_ofRing 5 (some .int) [(0, 10, 13, 20), (0, 10, 17, 13)] :: ((wsL_ofRing_r1 ++ (wsL_ofRing_r2 ++ wsL_ofRing_r3)) ++ wsX70 ++ wsX50 ++ wsJx4a65c0 ++ (vx_atS RX7 220 "java/lang/IndexOutOfBoundsException" ["java/lang/RuntimeException", "java/lang/Exception"]).filter goodWord ++ (vx_atS RX7 213 "java/lang/IllegalArgumentException" ["java/lang/RuntimeException", "java/lang/Exception"]).filter goodWord)
def wsL_current : List Cond := .codeWith yL_current cL_current 4 (some .int) [(0, 9, 12, 13)] :: ([.classLink RL 13 "java/lang/IllegalArgumentException", .methodLink RL 56 yX7_current, .instanceMethod yX7_current, .selects RX7 yX7_current yX7_current, .initialized RX7, .code yX7_current cX7_current 3 (some .int), .fieldLink RX7 29 "Vortexpin" "coil" "LVortexpin$Coil;", .fieldLink RX7 141 "Vortexpin$Coil" "current" "I", .fieldLink RX7 144 "Vortexpin$Coil" "dumped" "Z", .fieldLink RX7 148 "Vortexpin$Coil" "doubtfulInRow" "I", .methodLink RX7 46 yX7_refuseOutside, .static yX7_refuseOutside, .code yX7_refuseOutside cX7_refuseOutside 3 none, .classLink RX7 209 "java/lang/IllegalArgumentException", .initialized "java/lang/IllegalArgumentException"] ++ wsX70 ++ wsX10 ++ (vx_atS RX7 213 "java/lang/IllegalArgumentException" ["java/lang/RuntimeException", "java/lang/Exception"]).filter goodWord)
def wsL_heat : List Cond := .codeWith yL_heat cL_heat 5 (some .int) [(0, 10, 13, 20), (0, 10, 17, 13)] :: ([.classLink RL 20 "java/lang/IndexOutOfBoundsException", .classLink RL 13 "java/lang/IllegalArgumentException", .methodLink RL 59 yX7_heat, .instanceMethod yX7_heat, .selects RX7 yX7_heat yX7_heat, .initialized RX7, .code yX7_heat cX7_heat 3 (some .int), .fieldLink RX7 29 "Vortexpin" "coil" "LVortexpin$Coil;", .fieldLink RX7 151 "Vortexpin$Coil" "warmths" "[I", .methodLink RX7 154 Lib.Math.min.name, .static Lib.Math.min.name, .initialized "java/lang/Math", .code Lib.Math.min.name Lib.Math.min.code 2 (some .int), .methodLink RX7 66 yX7_refuseUnknown, .static yX7_refuseUnknown, .code yX7_refuseUnknown cX7_refuseUnknown 2 none, .classLink RX7 216 "java/lang/IndexOutOfBoundsException", .initialized "java/lang/IndexOutOfBoundsException", .methodLink RX7 46 yX7_refuseOutside, .static yX7_refuseOutside, .code yX7_refuseOutside cX7_refuseOutside 3 none, .classLink RX7 209 "java/lang/IllegalArgumentException", .initialized "java/lang/IllegalArgumentException"] ++ wsX70 ++ wsX10 ++ (vx_atS RX7 220 "java/lang/IndexOutOfBoundsException" ["java/lang/RuntimeException", "java/lang/Exception"]).filter goodWord ++ (vx_atS RX7 213 "java/lang/IllegalArgumentException" ["java/lang/RuntimeException", "java/lang/Exception"]).filter goodWord)
def wsL_pass_r1 : List Cond := [Cond.classLink RL 13 "java/lang/IllegalArgumentException", Cond.methodLink RL 62 yX7_pass, Cond.instanceMethod yX7_pass, Cond.selects RX7 yX7_pass yX7_pass, Cond.initialized RX7, Cond.code yX7_pass cX7_pass 3 (some .int), Cond.fieldLink RX7 29 "Vortexpin" "coil" "LVortexpin$Coil;", Cond.fieldLink RX7 141 "Vortexpin$Coil" "current" "I", Cond.methodLink RX7 46 yX7_refuseOutside, Cond.static yX7_refuseOutside, Cond.code yX7_refuseOutside cX7_refuseOutside 3 none, Cond.classLink RX7 209 "java/lang/IllegalArgumentException", Cond.initialized "java/lang/IllegalArgumentException", Cond.methodLink RX7 159 yX1_runPulse, Cond.instanceMethod yX1_runPulse, Cond.selects RX1 yX1_runPulse yX1_runPulse, Cond.initialized RX1, Cond.code yX1_runPulse cX1_runPulse 1 none, Cond.fieldLink RX1 16 "Vortexpin$Coil" "dumped" "Z", Cond.methodLink RX1 20 yX1_loseCurrent, Cond.instanceMethod yX1_loseCurrent, Cond.selects RX1 yX1_loseCurrent yX1_loseCurrent, Cond.code yX1_loseCurrent cX1_loseCurrent 8 none, Cond.fieldLink RX1 33 "Vortexpin$Coil" "current" "I"]
def wsL_pass_r2 : List Cond := [Cond.fieldLink RX1 41 "Vortexpin$Coil" "toWire" "J", Cond.fieldLink RX1 45 "Vortexpin$Coil" "toDump" "J", Cond.methodLink RX1 29 yX1_stored, Cond.instanceMethod yX1_stored, Cond.selects RX1 yX1_stored yX1_stored, Cond.code yX1_stored cX1_stored 1 (some .long), Cond.constantLong RX1 71 (50), Cond.methodLink RX1 37 yX1_normalParts, Cond.instanceMethod yX1_normalParts, Cond.selects RX1 yX1_normalParts yX1_normalParts, Cond.code yX1_normalParts cX1_normalParts 5 (some .int), Cond.methodLink RX1 68 Lib.Math.max.name, Cond.static Lib.Math.max.name, Cond.initialized "java/lang/Math", Cond.code Lib.Math.max.name Lib.Math.max.code 2 (some .int), Cond.fieldLink RX1 9 "Vortexpin$Coil" "warmths" "[I", Cond.methodLink RX1 48 yX1_isNormal, Cond.instanceMethod yX1_isNormal, Cond.selects RX1 yX1_isNormal yX1_isNormal, Cond.code yX1_isNormal cX1_isNormal 2 (some .boolean), Cond.methodLink RX1 23 yX1_spreadWarmth, Cond.instanceMethod yX1_spreadWarmth, Cond.selects RX1 yX1_spreadWarmth yX1_spreadWarmth, Cond.code yX1_spreadWarmth cX1_spreadWarmth 5 none]
def wsL_pass_r3 : List Cond := [Cond.fieldLink RX1 13 "Vortexpin$Coil" "spare" "[I", Cond.methodLink RX1 52 Lib.Math.min.name, Cond.static Lib.Math.min.name, Cond.code Lib.Math.min.name Lib.Math.min.code 2 (some .int), Cond.methodLink RX1 26 yX1_watch, Cond.instanceMethod yX1_watch, Cond.selects RX1 yX1_watch yX1_watch, Cond.code yX1_watch cX1_watch 1 none, Cond.methodLink RX1 61 Lib.Math.abs.name, Cond.static Lib.Math.abs.name, Cond.code Lib.Math.abs.name Lib.Math.abs.code 1 (some .int), Cond.fieldLink RX1 65 "Vortexpin$Coil" "doubtfulInRow" "I", Cond.methodLink RX1 57 yX1_doubt, Cond.instanceMethod yX1_doubt, Cond.selects RX1 yX1_doubt yX1_doubt, Cond.code yX1_doubt cX1_doubt 1 (some .int)]
def wsL_pass : List Cond := .codeWith yL_pass cL_pass 4 (some .int) [(0, 9, 12, 13)] :: ((wsL_pass_r1 ++ (wsL_pass_r2 ++ wsL_pass_r3)) ++ wsX70 ++ wsX10 ++ (vx_atS RX7 213 "java/lang/IllegalArgumentException" ["java/lang/RuntimeException", "java/lang/Exception"]).filter goodWord)
def wsL_warmth : List Cond := .codeWith yL_warmth cL_warmth 4 (some .int) [(0, 9, 12, 20)] :: ([.classLink RL 20 "java/lang/IndexOutOfBoundsException", .methodLink RL 65 yX7_warmth, .instanceMethod yX7_warmth, .selects RX7 yX7_warmth yX7_warmth, .initialized RX7, .code yX7_warmth cX7_warmth 2 (some .int), .fieldLink RX7 29 "Vortexpin" "coil" "LVortexpin$Coil;", .fieldLink RX7 151 "Vortexpin$Coil" "warmths" "[I", .methodLink RX7 66 yX7_refuseUnknown, .static yX7_refuseUnknown, .code yX7_refuseUnknown cX7_refuseUnknown 2 none, .classLink RX7 216 "java/lang/IndexOutOfBoundsException", .initialized "java/lang/IndexOutOfBoundsException"] ++ wsX70 ++ wsX10 ++ (vx_atS RX7 220 "java/lang/IndexOutOfBoundsException" ["java/lang/RuntimeException", "java/lang/Exception"]).filter goodWord)
def wsL_ofCoil_r1 : List Cond := [Cond.classLink RL 13 "java/lang/IllegalArgumentException", Cond.methodLink RL 68 yX7_ofCoil, Cond.instanceMethod yX7_ofCoil, Cond.selects RX7 yX7_ofCoil yX7_ofCoil, Cond.initialized RX7, Cond.code yX7_ofCoil cX7_ofCoil 2 (some .long), Cond.fieldLink RX7 29 "Vortexpin" "coil" "LVortexpin$Coil;", Cond.fieldLink RX7 144 "Vortexpin$Coil" "dumped" "Z", Cond.fieldLink RX7 168 "Vortexpin$Coil" "toWire" "J", Cond.fieldLink RX7 172 "Vortexpin$Coil" "toDump" "J", Cond.methodLink RX7 46 yX7_refuseOutside, Cond.static yX7_refuseOutside, Cond.code yX7_refuseOutside cX7_refuseOutside 3 none, Cond.classLink RX7 209 "java/lang/IllegalArgumentException", Cond.initialized "java/lang/IllegalArgumentException", Cond.methodLink RX7 162 yX1_normalParts, Cond.instanceMethod yX1_normalParts, Cond.selects RX1 yX1_normalParts yX1_normalParts, Cond.initialized RX1, Cond.code yX1_normalParts cX1_normalParts 5 (some .int), Cond.methodLink RX1 68 Lib.Math.max.name, Cond.static Lib.Math.max.name, Cond.initialized "java/lang/Math", Cond.code Lib.Math.max.name Lib.Math.max.code 2 (some .int)]
def wsL_ofCoil_r2 : List Cond := [Cond.fieldLink RX1 9 "Vortexpin$Coil" "warmths" "[I", Cond.methodLink RX1 48 yX1_isNormal, Cond.instanceMethod yX1_isNormal, Cond.selects RX1 yX1_isNormal yX1_isNormal, Cond.code yX1_isNormal cX1_isNormal 2 (some .boolean), Cond.fieldLink RX1 33 "Vortexpin$Coil" "current" "I", Cond.methodLink RX7 165 yX1_doubt, Cond.instanceMethod yX1_doubt, Cond.selects RX1 yX1_doubt yX1_doubt, Cond.code yX1_doubt cX1_doubt 1 (some .int), Cond.methodLink RX1 37 yX1_normalParts, Cond.methodLink RX7 175 yX1_stored, Cond.instanceMethod yX1_stored, Cond.selects RX1 yX1_stored yX1_stored, Cond.code yX1_stored cX1_stored 1 (some .long), Cond.constantLong RX1 71 (50)]
def wsL_ofCoil : List Cond := .codeWith yL_ofCoil cL_ofCoil 4 (some .int) [(0, 8, 11, 13)] :: ((wsL_ofCoil_r1 ++ wsL_ofCoil_r2) ++ wsX70 ++ wsX10 ++ (vx_atS RX7 213 "java/lang/IllegalArgumentException" ["java/lang/RuntimeException", "java/lang/Exception"]).filter goodWord)
def wsL_margins : List Cond := .codeWith yL_margins cL_margins 4 (some .int) [(0, 6, 9, 13)] :: ([.classLink RL 13 "java/lang/IllegalArgumentException", .methodLink RL 72 yX7_margins, .instanceMethod yX7_margins, .selects RX7 yX7_margins yX7_margins, .initialized RX7, .code yX7_margins cX7_margins 3 none, .fieldLink RX7 36 "Vortexpin" "counter" "LVortexpin$Counter;", .fieldLink RX7 179 "Vortexpin$Counter" "lower" "I", .fieldLink RX7 182 "Vortexpin$Counter" "upper" "I", .methodLink RX7 46 yX7_refuseOutside, .static yX7_refuseOutside, .code yX7_refuseOutside cX7_refuseOutside 3 none, .classLink RX7 209 "java/lang/IllegalArgumentException", .initialized "java/lang/IllegalArgumentException"] ++ wsX70 ++ wsX20 ++ (vx_atS RX7 213 "java/lang/IllegalArgumentException" ["java/lang/RuntimeException", "java/lang/Exception"]).filter goodWord)
def wsL_pulse : List Cond := .codeWith yL_pulse cL_pulse 5 (some .int) [(0, 10, 13, 13)] :: ([.classLink RL 13 "java/lang/IllegalArgumentException", .methodLink RL 75 yX7_pulse, .instanceMethod yX7_pulse, .selects RX7 yX7_pulse yX7_pulse, .initialized RX7, .code yX7_pulse cX7_pulse 3 (some .int), .fieldLink RX7 36 "Vortexpin" "counter" "LVortexpin$Counter;", .methodLink RX7 46 yX7_refuseOutside, .static yX7_refuseOutside, .code yX7_refuseOutside cX7_refuseOutside 3 none, .classLink RX7 209 "java/lang/IllegalArgumentException", .initialized "java/lang/IllegalArgumentException", .methodLink RX7 185 yX2_take, .instanceMethod yX2_take, .selects RX2 yX2_take yX2_take, .initialized RX2, .code yX2_take cX2_take 3 (some .int), .fieldLink RX2 7 "Vortexpin$Counter" "lower" "I", .fieldLink RX2 16 "Vortexpin$Counter" "count" "I", .fieldLink RX2 13 "Vortexpin$Counter" "upper" "I", .constant RX2 19 (65536)] ++ wsX70 ++ wsX20 ++ (vx_atS RX7 213 "java/lang/IllegalArgumentException" ["java/lang/RuntimeException", "java/lang/Exception"]).filter goodWord)
def wsL_bit : List Cond := .codeWith yL_bit cL_bit 4 (some .int) [(0, 9, 12, 20)] :: ([.classLink RL 20 "java/lang/IndexOutOfBoundsException", .methodLink RL 78 yX7_bit, .instanceMethod yX7_bit, .selects RX7 yX7_bit yX7_bit, .initialized RX7, .code yX7_bit cX7_bit 2 (some .int), .fieldLink RX7 36 "Vortexpin" "counter" "LVortexpin$Counter;", .fieldLink RX7 188 "Vortexpin$Counter" "count" "I", .methodLink RX7 66 yX7_refuseUnknown, .static yX7_refuseUnknown, .code yX7_refuseUnknown cX7_refuseUnknown 2 none, .classLink RX7 216 "java/lang/IndexOutOfBoundsException", .initialized "java/lang/IndexOutOfBoundsException"] ++ wsX70 ++ wsX20 ++ (vx_atS RX7 220 "java/lang/IndexOutOfBoundsException" ["java/lang/RuntimeException", "java/lang/Exception"]).filter goodWord)
def wsL_point_r1 : List Cond := [Cond.classLink RL 13 "java/lang/IllegalArgumentException", Cond.classLink RL 15 "java/lang/IllegalStateException", Cond.methodLink RL 81 yX7_point, Cond.instanceMethod yX7_point, Cond.selects RX7 yX7_point yX7_point, Cond.initialized RX7, Cond.code yX7_point cX7_point 4 (some .int), Cond.constant RX7 121 (-1000000), Cond.constant RX7 122 (1000000), Cond.fieldLink RX7 40 "Vortexpin" "points" "Ljava/util/ArrayList;", Cond.classLink RX7 191 RX4, Cond.instantiable RX4 3, Cond.initialized RX4, Cond.methodLink RX7 46 yX7_refuseOutside, Cond.static yX7_refuseOutside, Cond.code yX7_refuseOutside cX7_refuseOutside 3 none, Cond.classLink RX7 209 "java/lang/IllegalArgumentException", Cond.initialized "java/lang/IllegalArgumentException", Cond.methodLink RX7 50 yJx4a65c_size_8abf5, Cond.instanceMethod yJx4a65c_size_8abf5, Cond.selects RJx4a65c yJx4a65c_size_8abf5 yJx4a65c_size_8abf5, Cond.initialized RJx4a65c, Cond.code yJx4a65c_size_8abf5 cJx4a65c_size_8abf5 1 (some .int), Cond.fieldLink RJx4a65c 48 "java/util/ArrayList" "size" "I"]
def wsL_point_r2 : List Cond := [Cond.methodLink RX7 54 yX7_refuseFull, Cond.static yX7_refuseFull, Cond.code yX7_refuseFull cX7_refuseFull 2 none, Cond.classLink RX7 221 "java/lang/IllegalStateException", Cond.initialized "java/lang/IllegalStateException", Cond.methodLink RX7 193 yX4_init, Cond.instanceMethod yX4_init, Cond.code yX4_init cX4_init 4 none, Cond.methodLink RX4 1 objectInit, Cond.instanceMethod objectInit, Cond.code objectInit ⟨#[0xb1]⟩ 1 none, Cond.fieldLink RX4 7 "Vortexpin$Point" "temperature" "I", Cond.fieldLink RX4 13 "Vortexpin$Point" "current" "I", Cond.fieldLink RX4 16 "Vortexpin$Point" "voltage" "I", Cond.methodLink RX7 62 yJx4a65c_add_9ea2d, Cond.instanceMethod yJx4a65c_add_9ea2d, Cond.selects RJx4a65c yJx4a65c_add_9ea2d yJx4a65c_add_9ea2d, Cond.code yJx4a65c_add_9ea2d cJx4a65c_add_9ea2d 2 (some .boolean), Cond.fieldLink RJx4a65c 63 "java/util/ArrayList" "modCount" "I", Cond.sameField "java/util/ArrayList" "java/util/AbstractList" "modCount" "I", Cond.fieldLink RJx4a65c 9 "java/util/ArrayList" "elementData" "[Ljava/lang/Object;", Cond.methodLink RJx4a65c 131 yJx4a65c_add_72be8, Cond.instanceMethod yJx4a65c_add_72be8, Cond.selects RJx4a65c yJx4a65c_add_72be8 yJx4a65c_add_72be8]
def wsL_point_r3 : List Cond := [Cond.code yJx4a65c_add_72be8 cJx4a65c_add_72be8 4 none, Cond.methodLink RJx4a65c 129 yJx4a65c_grow_d5877, Cond.instanceMethod yJx4a65c_grow_d5877, Cond.selects RJx4a65c yJx4a65c_grow_d5877 yJx4a65c_grow_d5877, Cond.code yJx4a65c_grow_d5877 cJx4a65c_grow_d5877 1 (some (.array (.object "java/lang/Object"))), Cond.methodLink RJx4a65c 69 yJx4a65c_grow_92f84, Cond.instanceMethod yJx4a65c_grow_92f84, Cond.selects RJx4a65c yJx4a65c_grow_92f84 yJx4a65c_grow_92f84, Cond.code yJx4a65c_grow_92f84 cJx4a65c_grow_92f84 4 (some (.array (.object "java/lang/Object"))), Cond.fieldLink RJx4a65c 39 "java/util/ArrayList" "DEFAULTCAPACITY_EMPTY_ELEMENTDATA" "[Ljava/lang/Object;", Cond.methodLink RJx4a65c 79 Lib.Math.max.name, Cond.static Lib.Math.max.name, Cond.initialized "java/lang/Math", Cond.code Lib.Math.max.name Lib.Math.max.code 2 (some .int), Cond.classLink RJx4a65c 7 "java/lang/Object", Cond.methodLink RJx4a65c 73 yJ8_newLength_cabcc, Cond.static yJ8_newLength_cabcc, Cond.initialized RJ8, Cond.code yJ8_newLength_cabcc cJ8_newLength_cabcc 4 (some .int), Cond.methodLink RJ8 194 Lib.Math.max.name, Cond.constant RJ8 200 (2147483639), Cond.methodLink RJ8 201 yJ8_hugeLength_7cf53, Cond.static yJ8_hugeLength_7cf53, Cond.code yJ8_hugeLength_7cf53 cJ8_hugeLength_7cf53 3 (some .int)]
def wsL_point_r4 : List Cond := [Cond.methodLink RJx4a65c 66 yJ7_copyOf_1904c, Cond.static yJ7_copyOf_1904c, Cond.initialized RJ7, Cond.code yJ7_copyOf_1904c cJ7_copyOf_1904c 2 (some (.array (.object "java/lang/Object"))), Cond.methodLink RJ7 86 ⟨"java/lang/Object", "getClass", "()Ljava/lang/Class;"⟩, Cond.selects "[Ljava/lang/Object;" ⟨"java/lang/Object", "getClass", "()Ljava/lang/Class;"⟩ ⟨"java/lang/Object", "getClass", "()Ljava/lang/Class;"⟩, Cond.instanceMethod ⟨"java/lang/Object", "getClass", "()Ljava/lang/Class;"⟩, Cond.native ⟨"java/lang/Object", "getClass", "()Ljava/lang/Class;"⟩, Cond.methodLink RJ7 300 yJ7_copyOf_6403c, Cond.static yJ7_copyOf_6403c, Cond.code yJ7_copyOf_6403c cJ7_copyOf_6403c 4 (some (.array (.object "java/lang/Object"))), Cond.classLink RJ7 110 "[Ljava/lang/Object;", Cond.classLink RJ7 2 "java/lang/Object", Cond.methodLink RJ7 304 Lib.Math.min.name, Cond.static Lib.Math.min.name, Cond.code Lib.Math.min.name Lib.Math.min.code 2 (some .int), Cond.methodLink RJ7 150 arraycopyName, Cond.native arraycopyName, Cond.static arraycopyName, Cond.initialized "java/lang/System"]
def wsL_point : List Cond := .codeWith yL_point cL_point 6 (some .int) [(0, 12, 15, 13), (0, 12, 19, 15)] :: ((wsL_point_r1 ++ (wsL_point_r2 ++ (wsL_point_r3 ++ wsL_point_r4))) ++ wsX70 ++ wsX40 ++ wsJx4a65c0 ++ (vx_atS RX7 213 "java/lang/IllegalArgumentException" ["java/lang/RuntimeException", "java/lang/Exception"]).filter goodWord ++ (vx_atS RX7 225 "java/lang/IllegalStateException" ["java/lang/RuntimeException", "java/lang/Exception"]).filter goodWord)
def wsL_claim_r1 : List Cond := [Cond.classLink RL 20 "java/lang/IndexOutOfBoundsException", Cond.classLink RL 13 "java/lang/IllegalArgumentException", Cond.classLink RL 15 "java/lang/IllegalStateException", Cond.methodLink RL 84 yX7_claim, Cond.instanceMethod yX7_claim, Cond.selects RX7 yX7_claim yX7_claim, Cond.initialized RX7, Cond.code yX7_claim cX7_claim 4 (some .int), Cond.fieldLink RX7 40 "Vortexpin" "points" "Ljava/util/ArrayList;", Cond.fieldLink RX7 43 "Vortexpin" "claims" "Ljava/util/ArrayList;", Cond.classLink RX7 194 RX0, Cond.instantiable RX0 5, Cond.initialized RX0, Cond.methodLink RX7 50 yJx4a65c_size_8abf5, Cond.instanceMethod yJx4a65c_size_8abf5, Cond.selects RJx4a65c yJx4a65c_size_8abf5 yJx4a65c_size_8abf5, Cond.initialized RJx4a65c, Cond.code yJx4a65c_size_8abf5 cJx4a65c_size_8abf5 1 (some .int), Cond.fieldLink RJx4a65c 48 "java/util/ArrayList" "size" "I", Cond.methodLink RX7 66 yX7_refuseUnknown, Cond.static yX7_refuseUnknown, Cond.code yX7_refuseUnknown cX7_refuseUnknown 2 none, Cond.classLink RX7 216 "java/lang/IndexOutOfBoundsException", Cond.initialized "java/lang/IndexOutOfBoundsException"]
def wsL_claim_r2 : List Cond := [Cond.methodLink RX7 46 yX7_refuseOutside, Cond.static yX7_refuseOutside, Cond.code yX7_refuseOutside cX7_refuseOutside 3 none, Cond.classLink RX7 209 "java/lang/IllegalArgumentException", Cond.initialized "java/lang/IllegalArgumentException", Cond.methodLink RX7 54 yX7_refuseFull, Cond.static yX7_refuseFull, Cond.code yX7_refuseFull cX7_refuseFull 2 none, Cond.classLink RX7 221 "java/lang/IllegalStateException", Cond.initialized "java/lang/IllegalStateException", Cond.methodLink RX7 196 yX0_init, Cond.instanceMethod yX0_init, Cond.code yX0_init cX0_init 5 none, Cond.methodLink RX0 3 objectInit, Cond.instanceMethod objectInit, Cond.code objectInit ⟨#[0xb1]⟩ 1 none, Cond.fieldLink RX0 9 "Vortexpin$Claim" "temperature" "I", Cond.fieldLink RX0 15 "Vortexpin$Claim" "from" "I", Cond.fieldLink RX0 18 "Vortexpin$Claim" "to" "I", Cond.fieldLink RX0 21 "Vortexpin$Claim" "pointsThen" "I", Cond.arrayClass .int, Cond.fieldLink RX0 24 "Vortexpin$Claim" "words" "[I", Cond.methodLink RX7 62 yJx4a65c_add_9ea2d, Cond.instanceMethod yJx4a65c_add_9ea2d]
def wsL_claim_r3 : List Cond := [Cond.selects RJx4a65c yJx4a65c_add_9ea2d yJx4a65c_add_9ea2d, Cond.code yJx4a65c_add_9ea2d cJx4a65c_add_9ea2d 2 (some .boolean), Cond.fieldLink RJx4a65c 63 "java/util/ArrayList" "modCount" "I", Cond.sameField "java/util/ArrayList" "java/util/AbstractList" "modCount" "I", Cond.fieldLink RJx4a65c 9 "java/util/ArrayList" "elementData" "[Ljava/lang/Object;", Cond.methodLink RJx4a65c 131 yJx4a65c_add_72be8, Cond.instanceMethod yJx4a65c_add_72be8, Cond.selects RJx4a65c yJx4a65c_add_72be8 yJx4a65c_add_72be8, Cond.code yJx4a65c_add_72be8 cJx4a65c_add_72be8 4 none, Cond.methodLink RJx4a65c 129 yJx4a65c_grow_d5877, Cond.instanceMethod yJx4a65c_grow_d5877, Cond.selects RJx4a65c yJx4a65c_grow_d5877 yJx4a65c_grow_d5877, Cond.code yJx4a65c_grow_d5877 cJx4a65c_grow_d5877 1 (some (.array (.object "java/lang/Object"))), Cond.methodLink RJx4a65c 69 yJx4a65c_grow_92f84, Cond.instanceMethod yJx4a65c_grow_92f84, Cond.selects RJx4a65c yJx4a65c_grow_92f84 yJx4a65c_grow_92f84, Cond.code yJx4a65c_grow_92f84 cJx4a65c_grow_92f84 4 (some (.array (.object "java/lang/Object"))), Cond.fieldLink RJx4a65c 39 "java/util/ArrayList" "DEFAULTCAPACITY_EMPTY_ELEMENTDATA" "[Ljava/lang/Object;", Cond.methodLink RJx4a65c 79 Lib.Math.max.name, Cond.static Lib.Math.max.name, Cond.initialized "java/lang/Math", Cond.code Lib.Math.max.name Lib.Math.max.code 2 (some .int), Cond.classLink RJx4a65c 7 "java/lang/Object", Cond.methodLink RJx4a65c 73 yJ8_newLength_cabcc]
def wsL_claim_r4 : List Cond := [Cond.static yJ8_newLength_cabcc, Cond.initialized RJ8, Cond.code yJ8_newLength_cabcc cJ8_newLength_cabcc 4 (some .int), Cond.methodLink RJ8 194 Lib.Math.max.name, Cond.constant RJ8 200 (2147483639), Cond.methodLink RJ8 201 yJ8_hugeLength_7cf53, Cond.static yJ8_hugeLength_7cf53, Cond.code yJ8_hugeLength_7cf53 cJ8_hugeLength_7cf53 3 (some .int), Cond.methodLink RJx4a65c 66 yJ7_copyOf_1904c, Cond.static yJ7_copyOf_1904c, Cond.initialized RJ7, Cond.code yJ7_copyOf_1904c cJ7_copyOf_1904c 2 (some (.array (.object "java/lang/Object"))), Cond.methodLink RJ7 86 ⟨"java/lang/Object", "getClass", "()Ljava/lang/Class;"⟩, Cond.selects "[Ljava/lang/Object;" ⟨"java/lang/Object", "getClass", "()Ljava/lang/Class;"⟩ ⟨"java/lang/Object", "getClass", "()Ljava/lang/Class;"⟩, Cond.instanceMethod ⟨"java/lang/Object", "getClass", "()Ljava/lang/Class;"⟩, Cond.native ⟨"java/lang/Object", "getClass", "()Ljava/lang/Class;"⟩, Cond.methodLink RJ7 300 yJ7_copyOf_6403c, Cond.static yJ7_copyOf_6403c, Cond.code yJ7_copyOf_6403c cJ7_copyOf_6403c 4 (some (.array (.object "java/lang/Object"))), Cond.classLink RJ7 110 "[Ljava/lang/Object;", Cond.classLink RJ7 2 "java/lang/Object", Cond.methodLink RJ7 304 Lib.Math.min.name, Cond.static Lib.Math.min.name, Cond.code Lib.Math.min.name Lib.Math.min.code 2 (some .int)]
def wsL_claim_r5 : List Cond := [Cond.methodLink RJ7 150 arraycopyName, Cond.native arraycopyName, Cond.static arraycopyName, Cond.initialized "java/lang/System"]
def wsL_claim : List Cond := .codeWith yL_claim cL_claim 6 (some .int) [(0, 12, 15, 20), (0, 12, 19, 13), (0, 12, 23, 15)] :: ((wsL_claim_r1 ++ (wsL_claim_r2 ++ (wsL_claim_r3 ++ (wsL_claim_r4 ++ wsL_claim_r5)))) ++ wsX70 ++ wsX00 ++ wsJx4a65c0 ++ (vx_atS RX7 220 "java/lang/IndexOutOfBoundsException" ["java/lang/RuntimeException", "java/lang/Exception"]).filter goodWord ++ (vx_atS RX7 213 "java/lang/IllegalArgumentException" ["java/lang/RuntimeException", "java/lang/Exception"]).filter goodWord ++ (vx_atS RX7 225 "java/lang/IllegalStateException" ["java/lang/RuntimeException", "java/lang/Exception"]).filter goodWord)
def wsL_repeats_r1 : List Cond := [Cond.classLink RL 20 "java/lang/IndexOutOfBoundsException", Cond.methodLink RL 87 yX7_repeats, Cond.instanceMethod yX7_repeats, Cond.selects RX7 yX7_repeats yX7_repeats, Cond.initialized RX7, Cond.code yX7_repeats cX7_repeats 5 (some .int), Cond.fieldLink RX7 43 "Vortexpin" "claims" "Ljava/util/ArrayList;", Cond.classLink RX7 194 "Vortexpin$Claim", Cond.fieldLink RX7 199 "Vortexpin$Claim" "words" "[I", Cond.methodLink RX7 50 yJx4a65c_size_8abf5, Cond.instanceMethod yJx4a65c_size_8abf5, Cond.selects RJx4a65c yJx4a65c_size_8abf5 yJx4a65c_size_8abf5, Cond.initialized RJx4a65c, Cond.code yJx4a65c_size_8abf5 cJx4a65c_size_8abf5 1 (some .int), Cond.fieldLink RJx4a65c 48 "java/util/ArrayList" "size" "I", Cond.methodLink RX7 66 yX7_refuseUnknown, Cond.static yX7_refuseUnknown, Cond.code yX7_refuseUnknown cX7_refuseUnknown 2 none, Cond.classLink RX7 216 "java/lang/IndexOutOfBoundsException", Cond.initialized "java/lang/IndexOutOfBoundsException", Cond.methodLink RX7 69 yJx4a65c_get_915e3, Cond.instanceMethod yJx4a65c_get_915e3, Cond.selects RJx4a65c yJx4a65c_get_915e3 yJx4a65c_get_915e3, Cond.code yJx4a65c_get_915e3 cJx4a65c_get_915e3 2 (some (.object "java/lang/Object"))]
def wsL_repeats_r2 : List Cond := [Cond.methodLink RJx4a65c 118 yJ15_checkIndex_7cf53, Cond.static yJ15_checkIndex_7cf53, Cond.initialized RJ15, Cond.code yJ15_checkIndex_7cf53 cJ15_checkIndex_7cf53 2 (some .int), Cond.methodLink RJ15 105 yJ3_checkIndex_8e157, Cond.static yJ3_checkIndex_8e157, Cond.initialized RJ3, Cond.code yJ3_checkIndex_8e157 cJ3_checkIndex_8e157 3 (some .int), Cond.methodLink RJx4a65c 123 yJx4a65c_elementData_915e3, Cond.instanceMethod yJx4a65c_elementData_915e3, Cond.selects RJx4a65c yJx4a65c_elementData_915e3 yJx4a65c_elementData_915e3, Cond.code yJx4a65c_elementData_915e3 cJx4a65c_elementData_915e3 2 (some (.object "java/lang/Object")), Cond.fieldLink RJx4a65c 9 "java/util/ArrayList" "elementData" "[Ljava/lang/Object;", Cond.methodLink RX7 202 yX0_housesThat, Cond.instanceMethod yX0_housesThat, Cond.selects RX0 yX0_housesThat yX0_housesThat, Cond.initialized RX0, Cond.code yX0_housesThat cX0_housesThat 4 (some .int), Cond.fieldLink RX0 24 "Vortexpin$Claim" "words" "[I"]
def wsL_repeats : List Cond := .codeWith yL_repeats cL_repeats 6 (some .int) [(0, 12, 15, 20)] :: ((wsL_repeats_r1 ++ wsL_repeats_r2) ++ wsX70 ++ wsX00 ++ wsJx4a65c0 ++ (vx_atS RX7 220 "java/lang/IndexOutOfBoundsException" ["java/lang/RuntimeException", "java/lang/Exception"]).filter goodWord)
def wsL_judge_r1 : List Cond := [Cond.classLink RL 20 "java/lang/IndexOutOfBoundsException", Cond.classLink RL 13 "java/lang/IllegalArgumentException", Cond.methodLink RL 91 yX7_judge, Cond.instanceMethod yX7_judge, Cond.selects RX7 yX7_judge yX7_judge, Cond.initialized RX7, Cond.code yX7_judge cX7_judge 3 (some .int), Cond.fieldLink RX7 43 "Vortexpin" "claims" "Ljava/util/ArrayList;", Cond.constant RX7 122 (1000000), Cond.classLink RX7 194 "Vortexpin$Claim", Cond.fieldLink RX7 40 "Vortexpin" "points" "Ljava/util/ArrayList;", Cond.methodLink RX7 50 yJx4a65c_size_8abf5, Cond.instanceMethod yJx4a65c_size_8abf5, Cond.selects RJx4a65c yJx4a65c_size_8abf5 yJx4a65c_size_8abf5, Cond.initialized RJx4a65c, Cond.code yJx4a65c_size_8abf5 cJx4a65c_size_8abf5 1 (some .int), Cond.fieldLink RJx4a65c 48 "java/util/ArrayList" "size" "I", Cond.methodLink RX7 66 yX7_refuseUnknown, Cond.static yX7_refuseUnknown, Cond.code yX7_refuseUnknown cX7_refuseUnknown 2 none, Cond.classLink RX7 216 "java/lang/IndexOutOfBoundsException", Cond.initialized "java/lang/IndexOutOfBoundsException", Cond.methodLink RX7 46 yX7_refuseOutside, Cond.static yX7_refuseOutside]
def wsL_judge_r2 : List Cond := [Cond.code yX7_refuseOutside cX7_refuseOutside 3 none, Cond.classLink RX7 209 "java/lang/IllegalArgumentException", Cond.initialized "java/lang/IllegalArgumentException", Cond.methodLink RX7 69 yJx4a65c_get_915e3, Cond.instanceMethod yJx4a65c_get_915e3, Cond.selects RJx4a65c yJx4a65c_get_915e3 yJx4a65c_get_915e3, Cond.code yJx4a65c_get_915e3 cJx4a65c_get_915e3 2 (some (.object "java/lang/Object")), Cond.methodLink RJx4a65c 118 yJ15_checkIndex_7cf53, Cond.static yJ15_checkIndex_7cf53, Cond.initialized RJ15, Cond.code yJ15_checkIndex_7cf53 cJ15_checkIndex_7cf53 2 (some .int), Cond.methodLink RJ15 105 yJ3_checkIndex_8e157, Cond.static yJ3_checkIndex_8e157, Cond.initialized RJ3, Cond.code yJ3_checkIndex_8e157 cJ3_checkIndex_8e157 3 (some .int), Cond.methodLink RJx4a65c 123 yJx4a65c_elementData_915e3, Cond.instanceMethod yJx4a65c_elementData_915e3, Cond.selects RJx4a65c yJx4a65c_elementData_915e3 yJx4a65c_elementData_915e3, Cond.code yJx4a65c_elementData_915e3 cJx4a65c_elementData_915e3 2 (some (.object "java/lang/Object")), Cond.fieldLink RJx4a65c 9 "java/util/ArrayList" "elementData" "[Ljava/lang/Object;", Cond.methodLink RX7 205 yX0_verdict, Cond.instanceMethod yX0_verdict, Cond.selects RX0 yX0_verdict yX0_verdict, Cond.initialized RX0]
def wsL_judge_r3 : List Cond := [Cond.code yX0_verdict cX0_verdict 4 (some .int), Cond.fieldLink RX0 18 "Vortexpin$Claim" "to" "I", Cond.fieldLink RX0 15 "Vortexpin$Claim" "from" "I", Cond.fieldLink RX0 21 "Vortexpin$Claim" "pointsThen" "I", Cond.methodLink RX0 28 yX0_isOpen, Cond.instanceMethod yX0_isOpen, Cond.selects RX0 yX0_isOpen yX0_isOpen, Cond.code yX0_isOpen cX0_isOpen 8 (some .boolean), Cond.classLink RX0 46 "Vortexpin$Point", Cond.fieldLink RX0 48 "Vortexpin$Point" "temperature" "I", Cond.fieldLink RX0 9 "Vortexpin$Claim" "temperature" "I", Cond.fieldLink RX0 53 "Vortexpin$Point" "voltage" "I", Cond.methodLink RX0 56 Lib.Math.abs.name, Cond.static Lib.Math.abs.name, Cond.initialized "java/lang/Math", Cond.code Lib.Math.abs.name Lib.Math.abs.code 1 (some .int), Cond.methodLink RX0 36 yJx4a65c_size_8abf5, Cond.methodLink RX0 42 yJx4a65c_get_915e3, Cond.methodLink RX0 49 yX4_mirrors, Cond.instanceMethod yX4_mirrors, Cond.selects RX4 yX4_mirrors yX4_mirrors, Cond.initialized RX4, Cond.code yX4_mirrors cX4_mirrors 2 (some .boolean), Cond.fieldLink RX4 13 "Vortexpin$Point" "current" "I"]
def wsL_judge_r4 : List Cond := [Cond.fieldLink RX4 7 "Vortexpin$Point" "temperature" "I", Cond.methodLink RX0 32 yX0_housesThat, Cond.instanceMethod yX0_housesThat, Cond.selects RX0 yX0_housesThat yX0_housesThat, Cond.code yX0_housesThat cX0_housesThat 4 (some .int), Cond.fieldLink RX0 24 "Vortexpin$Claim" "words" "[I"]
def wsL_judge : List Cond := .codeWith yL_judge cL_judge 5 (some .int) [(0, 10, 13, 20), (0, 10, 17, 13)] :: ((wsL_judge_r1 ++ (wsL_judge_r2 ++ (wsL_judge_r3 ++ wsL_judge_r4))) ++ wsX70 ++ wsJx4a65c0 ++ wsX00 ++ wsX40 ++ (vx_atS RX7 220 "java/lang/IndexOutOfBoundsException" ["java/lang/RuntimeException", "java/lang/Exception"]).filter goodWord ++ (vx_atS RX7 213 "java/lang/IllegalArgumentException" ["java/lang/RuntimeException", "java/lang/Exception"]).filter goodWord)
def wsL_law0_r1 : List Cond := [Cond.classLink RL 8 RX7, Cond.instantiable RX7 7, Cond.initialized RX7, Cond.classLink RL 95 RX8, Cond.instantiable RX8 39, Cond.initialized RX8, Cond.arrayClass .long, Cond.arrayClass .double, Cond.methodLink RL 94 yX7_init, Cond.instanceMethod yX7_init, Cond.code yX7_init cX7_init 1 none, Cond.methodLink RX7 1 objectInit, Cond.instanceMethod objectInit, Cond.code objectInit ⟨#[0xb1]⟩ 1 none, Cond.classLink RX7 7 RJx4a65c, Cond.instantiable RJx4a65c 3, Cond.initialized RJx4a65c, Cond.fieldLink RX7 10 "Vortexpin" "samples" "Ljava/util/ArrayList;", Cond.classLink RX7 16 RX3, Cond.instantiable RX3 5, Cond.initialized RX3, Cond.fieldLink RX7 19 "Vortexpin" "film" "LVortexpin$Film;", Cond.fieldLink RX7 23 "Vortexpin" "rings" "Ljava/util/ArrayList;", Cond.classLink RX7 26 RX1]
def wsL_law0_r2 : List Cond := [Cond.instantiable RX1 7, Cond.initialized RX1, Cond.fieldLink RX7 29 "Vortexpin" "coil" "LVortexpin$Coil;", Cond.classLink RX7 33 RX2, Cond.instantiable RX2 3, Cond.initialized RX2, Cond.fieldLink RX7 36 "Vortexpin" "counter" "LVortexpin$Counter;", Cond.fieldLink RX7 40 "Vortexpin" "points" "Ljava/util/ArrayList;", Cond.fieldLink RX7 43 "Vortexpin" "claims" "Ljava/util/ArrayList;", Cond.methodLink RX7 9 yJx4a65c_init_da8c8, Cond.instanceMethod yJx4a65c_init_da8c8, Cond.code yJx4a65c_init_da8c8 cJx4a65c_init_da8c8 1 none, Cond.fieldLink RJx4a65c 39 "java/util/ArrayList" "DEFAULTCAPACITY_EMPTY_ELEMENTDATA" "[Ljava/lang/Object;", Cond.fieldLink RJx4a65c 9 "java/util/ArrayList" "elementData" "[Ljava/lang/Object;", Cond.methodLink RJx4a65c 1 yJxc12de_init_da8c8, Cond.instanceMethod yJxc12de_init_da8c8, Cond.initialized RJxc12de, Cond.code yJxc12de_init_da8c8 cJxc12de_init_da8c8 1 none, Cond.fieldLink RJxc12de 7 "java/util/AbstractList" "modCount" "I", Cond.methodLink RJxc12de 1 yJxa1e45_init_da8c8, Cond.instanceMethod yJxa1e45_init_da8c8, Cond.initialized RJxa1e45, Cond.code yJxa1e45_init_da8c8 cJxa1e45_init_da8c8 1 none, Cond.methodLink RJxa1e45 1 objectInit]
def wsL_law0_r3 : List Cond := [Cond.methodLink RX7 18 yX3_init, Cond.instanceMethod yX3_init, Cond.code yX3_init cX3_init 2 none, Cond.methodLink RX3 5 objectInit, Cond.arrayClass .int, Cond.fieldLink RX3 11 "Vortexpin$Film" "depths" "[I", Cond.fieldLink RX3 15 "Vortexpin$Film" "cells" "[I", Cond.methodLink RX7 28 yX1_init, Cond.instanceMethod yX1_init, Cond.code yX1_init cX1_init 2 none, Cond.methodLink RX1 1 objectInit, Cond.fieldLink RX1 9 "Vortexpin$Coil" "warmths" "[I", Cond.fieldLink RX1 13 "Vortexpin$Coil" "spare" "[I", Cond.methodLink RX7 35 yX2_init, Cond.instanceMethod yX2_init, Cond.code yX2_init cX2_init 1 none, Cond.methodLink RX2 1 objectInit, Cond.fieldLink RX2 7 "Vortexpin$Counter" "lower" "I", Cond.fieldLink RX2 13 "Vortexpin$Counter" "upper" "I", Cond.methodLink RL 97 yX8_init, Cond.instanceMethod yX8_init, Cond.code yX8_init cX8_init 2 none, Cond.methodLink RX8 1 objectInit, Cond.fieldLink RX8 7 "VortexpinModel" "critical" "[I"]
def wsL_law0_r4 : List Cond := [Cond.fieldLink RX8 13 "VortexpinModel" "lower" "[I", Cond.fieldLink RX8 16 "VortexpinModel" "upper" "[I", Cond.fieldLink RX8 19 "VortexpinModel" "warmthOf" "[I", Cond.fieldLink RX8 22 "VortexpinModel" "field" "[I", Cond.fieldLink RX8 25 "VortexpinModel" "depth" "[I", Cond.fieldLink RX8 28 "VortexpinModel" "whirlIn" "[I", Cond.fieldLink RX8 31 "VortexpinModel" "cellOf" "[I", Cond.fieldLink RX8 34 "VortexpinModel" "inductance" "[I", Cond.fieldLink RX8 37 "VortexpinModel" "ringCritical" "[I", Cond.fieldLink RX8 40 "VortexpinModel" "fluxOf" "[I", Cond.fieldLink RX8 43 "VortexpinModel" "number" "[I", Cond.fieldLink RX8 46 "VortexpinModel" "slips" "[I", Cond.fieldLink RX8 49 "VortexpinModel" "part" "[I", Cond.fieldLink RX8 52 "VortexpinModel" "partThen" "[I", Cond.fieldLink RX8 55 "VortexpinModel" "lowerMargin" "I", Cond.fieldLink RX8 59 "VortexpinModel" "upperMargin" "I", Cond.fieldLink RX8 62 "VortexpinModel" "pointWarmth" "[I", Cond.fieldLink RX8 65 "VortexpinModel" "pointCurrent" "[I", Cond.fieldLink RX8 68 "VortexpinModel" "voltage" "[I", Cond.fieldLink RX8 71 "VortexpinModel" "claimWarmth" "[I", Cond.fieldLink RX8 74 "VortexpinModel" "claimFrom" "[I", Cond.fieldLink RX8 77 "VortexpinModel" "claimTo" "[I", Cond.fieldLink RX8 80 "VortexpinModel" "claimAll" "[I", Cond.fieldLink RX8 83 "VortexpinModel" "house" "[I"]
def wsL_law0_r5 : List Cond := [Cond.methodLink RL 98 yL_sample, Cond.static yL_sample, Cond.initialized RL, Cond.codeWith yL_sample cL_sample 6 (some .int) [(0, 12, 15, 13), (0, 12, 19, 15)], Cond.classLink RL 13 "java/lang/IllegalArgumentException", Cond.classLink RL 15 "java/lang/IllegalStateException", Cond.methodLink RL 7 yX7_sample, Cond.instanceMethod yX7_sample, Cond.selects RX7 yX7_sample yX7_sample, Cond.code yX7_sample cX7_sample 4 (some .int), Cond.classLink RX7 58 RX6, Cond.instantiable RX6 5, Cond.initialized RX6, Cond.methodLink RX7 46 yX7_refuseOutside, Cond.static yX7_refuseOutside, Cond.code yX7_refuseOutside cX7_refuseOutside 3 none, Cond.classLink RX7 209 "java/lang/IllegalArgumentException", Cond.initialized "java/lang/IllegalArgumentException", Cond.methodLink RX7 50 yJx4a65c_size_8abf5, Cond.instanceMethod yJx4a65c_size_8abf5, Cond.selects RJx4a65c yJx4a65c_size_8abf5 yJx4a65c_size_8abf5, Cond.code yJx4a65c_size_8abf5 cJx4a65c_size_8abf5 1 (some .int), Cond.fieldLink RJx4a65c 48 "java/util/ArrayList" "size" "I", Cond.methodLink RX7 54 yX7_refuseFull]
def wsL_law0_r6 : List Cond := [Cond.static yX7_refuseFull, Cond.code yX7_refuseFull cX7_refuseFull 2 none, Cond.classLink RX7 221 "java/lang/IllegalStateException", Cond.initialized "java/lang/IllegalStateException", Cond.methodLink RX7 60 yX6_init, Cond.instanceMethod yX6_init, Cond.code yX6_init cX6_init 4 none, Cond.methodLink RX6 3 objectInit, Cond.fieldLink RX6 9 "Vortexpin$Sample" "critical" "I", Cond.fieldLink RX6 15 "Vortexpin$Sample" "lower" "I", Cond.fieldLink RX6 18 "Vortexpin$Sample" "upper" "I", Cond.methodLink RX7 62 yJx4a65c_add_9ea2d, Cond.instanceMethod yJx4a65c_add_9ea2d, Cond.selects RJx4a65c yJx4a65c_add_9ea2d yJx4a65c_add_9ea2d, Cond.code yJx4a65c_add_9ea2d cJx4a65c_add_9ea2d 2 (some .boolean), Cond.fieldLink RJx4a65c 63 "java/util/ArrayList" "modCount" "I", Cond.sameField "java/util/ArrayList" "java/util/AbstractList" "modCount" "I", Cond.methodLink RJx4a65c 131 yJx4a65c_add_72be8, Cond.instanceMethod yJx4a65c_add_72be8, Cond.selects RJx4a65c yJx4a65c_add_72be8 yJx4a65c_add_72be8, Cond.code yJx4a65c_add_72be8 cJx4a65c_add_72be8 4 none, Cond.methodLink RJx4a65c 129 yJx4a65c_grow_d5877, Cond.instanceMethod yJx4a65c_grow_d5877, Cond.selects RJx4a65c yJx4a65c_grow_d5877 yJx4a65c_grow_d5877]
def wsL_law0_r7 : List Cond := [Cond.code yJx4a65c_grow_d5877 cJx4a65c_grow_d5877 1 (some (.array (.object "java/lang/Object"))), Cond.methodLink RJx4a65c 69 yJx4a65c_grow_92f84, Cond.instanceMethod yJx4a65c_grow_92f84, Cond.selects RJx4a65c yJx4a65c_grow_92f84 yJx4a65c_grow_92f84, Cond.code yJx4a65c_grow_92f84 cJx4a65c_grow_92f84 4 (some (.array (.object "java/lang/Object"))), Cond.methodLink RJx4a65c 79 Lib.Math.max.name, Cond.static Lib.Math.max.name, Cond.initialized "java/lang/Math", Cond.code Lib.Math.max.name Lib.Math.max.code 2 (some .int), Cond.classLink RJx4a65c 7 "java/lang/Object", Cond.methodLink RJx4a65c 73 yJ8_newLength_cabcc, Cond.static yJ8_newLength_cabcc, Cond.initialized RJ8, Cond.code yJ8_newLength_cabcc cJ8_newLength_cabcc 4 (some .int), Cond.methodLink RJ8 194 Lib.Math.max.name, Cond.constant RJ8 200 (2147483639), Cond.methodLink RJ8 201 yJ8_hugeLength_7cf53, Cond.static yJ8_hugeLength_7cf53, Cond.code yJ8_hugeLength_7cf53 cJ8_hugeLength_7cf53 3 (some .int), Cond.methodLink RJx4a65c 66 yJ7_copyOf_1904c, Cond.static yJ7_copyOf_1904c, Cond.initialized RJ7, Cond.code yJ7_copyOf_1904c cJ7_copyOf_1904c 2 (some (.array (.object "java/lang/Object"))), Cond.methodLink RJ7 86 ⟨"java/lang/Object", "getClass", "()Ljava/lang/Class;"⟩]
def wsL_law0_r8 : List Cond := [Cond.selects "[Ljava/lang/Object;" ⟨"java/lang/Object", "getClass", "()Ljava/lang/Class;"⟩ ⟨"java/lang/Object", "getClass", "()Ljava/lang/Class;"⟩, Cond.instanceMethod ⟨"java/lang/Object", "getClass", "()Ljava/lang/Class;"⟩, Cond.native ⟨"java/lang/Object", "getClass", "()Ljava/lang/Class;"⟩, Cond.methodLink RJ7 300 yJ7_copyOf_6403c, Cond.static yJ7_copyOf_6403c, Cond.code yJ7_copyOf_6403c cJ7_copyOf_6403c 4 (some (.array (.object "java/lang/Object"))), Cond.classLink RJ7 110 "[Ljava/lang/Object;", Cond.classLink RJ7 2 "java/lang/Object", Cond.methodLink RJ7 304 Lib.Math.min.name, Cond.static Lib.Math.min.name, Cond.code Lib.Math.min.name Lib.Math.min.code 2 (some .int), Cond.methodLink RJ7 150 arraycopyName, Cond.native arraycopyName, Cond.static arraycopyName, Cond.initialized "java/lang/System", Cond.methodLink RL 103 yX8_sample, Cond.instanceMethod yX8_sample, Cond.selects RX8 yX8_sample yX8_sample, Cond.code yX8_sample cX8_sample 4 (some .int), Cond.fieldLink RX8 86 "VortexpinModel" "thrown" "I", Cond.fieldLink RX8 97 "VortexpinModel" "samples" "I", Cond.methodLink RX8 89 yX8_in, Cond.static yX8_in, Cond.code yX8_in cX8_in 3 (some .boolean)]
def wsL_law0_r9 : List Cond := [Cond.methodLink RX8 93 yX8_stop, Cond.instanceMethod yX8_stop, Cond.selects RX8 yX8_stop yX8_stop, Cond.code yX8_stop cX8_stop 2 (some .int), Cond.methodLink RL 104 yX8_thrown, Cond.instanceMethod yX8_thrown, Cond.selects RX8 yX8_thrown yX8_thrown, Cond.code yX8_thrown cX8_thrown 1 (some .int), Cond.methodLink RL 108 yL_set, Cond.static yL_set, Cond.codeWith yL_set cL_set 6 (some .int) [(0, 12, 15, 20), (0, 12, 19, 13)], Cond.classLink RL 20 "java/lang/IndexOutOfBoundsException", Cond.methodLink RL 17 yX7_set, Cond.instanceMethod yX7_set, Cond.selects RX7 yX7_set yX7_set, Cond.code yX7_set cX7_set 5 (some .int), Cond.classLink RX7 58 "Vortexpin$Sample", Cond.fieldLink RX7 73 "Vortexpin$Sample" "temperature" "I", Cond.fieldLink RX7 77 "Vortexpin$Sample" "field" "I", Cond.methodLink RX7 66 yX7_refuseUnknown, Cond.static yX7_refuseUnknown, Cond.code yX7_refuseUnknown cX7_refuseUnknown 2 none, Cond.classLink RX7 216 "java/lang/IndexOutOfBoundsException", Cond.initialized "java/lang/IndexOutOfBoundsException"]
def wsL_law0_r10 : List Cond := [Cond.methodLink RX7 69 yJx4a65c_get_915e3, Cond.instanceMethod yJx4a65c_get_915e3, Cond.selects RJx4a65c yJx4a65c_get_915e3 yJx4a65c_get_915e3, Cond.code yJx4a65c_get_915e3 cJx4a65c_get_915e3 2 (some (.object "java/lang/Object")), Cond.methodLink RJx4a65c 118 yJ15_checkIndex_7cf53, Cond.static yJ15_checkIndex_7cf53, Cond.initialized RJ15, Cond.code yJ15_checkIndex_7cf53 cJ15_checkIndex_7cf53 2 (some .int), Cond.methodLink RJ15 105 yJ3_checkIndex_8e157, Cond.static yJ3_checkIndex_8e157, Cond.initialized RJ3, Cond.code yJ3_checkIndex_8e157 cJ3_checkIndex_8e157 3 (some .int), Cond.methodLink RJx4a65c 123 yJx4a65c_elementData_915e3, Cond.instanceMethod yJx4a65c_elementData_915e3, Cond.selects RJx4a65c yJx4a65c_elementData_915e3 yJx4a65c_elementData_915e3, Cond.code yJx4a65c_elementData_915e3 cJx4a65c_elementData_915e3 2 (some (.object "java/lang/Object")), Cond.methodLink RX7 80 yX6_phase, Cond.instanceMethod yX6_phase, Cond.selects RX6 yX6_phase yX6_phase, Cond.code yX6_phase cX6_phase 3 (some .int), Cond.fieldLink RX6 21 "Vortexpin$Sample" "field" "I", Cond.methodLink RX6 24 Lib.Math.abs.name, Cond.static Lib.Math.abs.name, Cond.code Lib.Math.abs.name Lib.Math.abs.code 1 (some .int)]
def wsL_law0_r11 : List Cond := [Cond.fieldLink RX6 30 "Vortexpin$Sample" "temperature" "I", Cond.methodLink RX6 33 yX6_boundOf, Cond.instanceMethod yX6_boundOf, Cond.selects RX6 yX6_boundOf yX6_boundOf, Cond.code yX6_boundOf cX6_boundOf 3 (some .int), Cond.methodLink RL 110 yX8_set, Cond.instanceMethod yX8_set, Cond.selects RX8 yX8_set yX8_set, Cond.code yX8_set cX8_set 5 (some .int), Cond.methodLink RX8 100 yX8_size, Cond.static yX8_size, Cond.code yX8_size cX8_size 1 (some .int), Cond.methodLink RX8 103 yX8_bound, Cond.instanceMethod yX8_bound, Cond.selects RX8 yX8_bound yX8_bound, Cond.code yX8_bound cX8_bound 4 (some .int), Cond.methodLink RL 111 yL_deep, Cond.static yL_deep, Cond.codeWith yL_deep cL_deep 4 (some .int) [(0, 8, 11, 20)], Cond.methodLink RL 22 yX7_deep, Cond.instanceMethod yX7_deep, Cond.selects RX7 yX7_deep yX7_deep, Cond.code yX7_deep cX7_deep 2 (some .double), Cond.methodLink RX7 83 yX6_penetration]
def wsL_law0_r12 : List Cond := [Cond.instanceMethod yX6_penetration, Cond.selects RX6 yX6_penetration yX6_penetration, Cond.code yX6_penetration cX6_penetration 5 (some .double), Cond.constantDouble RX6 36 (4636737291354636288), Cond.methodLink RL 114 yX8_deep, Cond.instanceMethod yX8_deep, Cond.selects RX8 yX8_deep yX8_deep, Cond.code yX8_deep cX8_deep 6 (some .double), Cond.constantDouble RX8 107 (4636737291354636288), Cond.methodLink RL 115 yL_pin, Cond.static yL_pin, Cond.codeWith yL_pin cL_pin 5 (some .int) [(0, 10, 13, 20), (0, 10, 17, 13)], Cond.methodLink RL 26 yX7_pin, Cond.instanceMethod yX7_pin, Cond.selects RX7 yX7_pin yX7_pin, Cond.code yX7_pin cX7_pin 4 (some .int), Cond.fieldLink RX7 87 "Vortexpin$Film" "depths" "[I", Cond.methodLink RL 118 yX8_pin, Cond.instanceMethod yX8_pin, Cond.selects RX8 yX8_pin yX8_pin, Cond.code yX8_pin cX8_pin 4 (some .int), Cond.methodLink RL 119 yL_drive, Cond.static yL_drive, Cond.codeWith yL_drive cL_drive 4 (some .int) [(0, 6, 9, 13)]]
def wsL_law0_r13 : List Cond := [Cond.methodLink RL 30 yX7_drive, Cond.instanceMethod yX7_drive, Cond.selects RX7 yX7_drive yX7_drive, Cond.code yX7_drive cX7_drive 3 none, Cond.fieldLink RX7 91 "Vortexpin$Film" "drive" "I", Cond.fieldLink RX7 94 "Vortexpin$Film" "heat" "I", Cond.methodLink RL 122 yX8_drive, Cond.instanceMethod yX8_drive, Cond.selects RX8 yX8_drive yX8_drive, Cond.code yX8_drive cX8_drive 3 none, Cond.fieldLink RX8 109 "VortexpinModel" "drive" "I", Cond.fieldLink RX8 112 "VortexpinModel" "heat" "I", Cond.methodLink RL 123 yL_enter, Cond.static yL_enter, Cond.codeWith yL_enter cL_enter 4 (some .int) [(0, 9, 12, 13), (0, 9, 15, 15)], Cond.methodLink RL 34 yX7_enter, Cond.instanceMethod yX7_enter, Cond.selects RX7 yX7_enter yX7_enter, Cond.code yX7_enter cX7_enter 4 (some .int), Cond.fieldLink RX7 97 "Vortexpin$Film" "entered" "I", Cond.fieldLink RX7 108 "Vortexpin$Film" "cells" "[I", Cond.methodLink RX7 100 yX3_calmestEntry, Cond.instanceMethod yX3_calmestEntry, Cond.selects RX3 yX3_calmestEntry yX3_calmestEntry]
def wsL_law0_r14 : List Cond := [Cond.code yX3_calmestEntry cX3_calmestEntry 7 (some .int), Cond.methodLink RX3 55 yX3_isFree, Cond.instanceMethod yX3_isFree, Cond.selects RX3 yX3_isFree yX3_isFree, Cond.code yX3_isFree cX3_isFree 3 (some .boolean), Cond.methodLink RX3 42 yX3_energyAt, Cond.instanceMethod yX3_energyAt, Cond.selects RX3 yX3_energyAt yX3_energyAt, Cond.code yX3_energyAt cX3_energyAt 5 (some .int), Cond.fieldLink RX3 26 "Vortexpin$Film" "drive" "I", Cond.methodLink RX3 58 yX3_repulsion, Cond.static yX3_repulsion, Cond.code yX3_repulsion cX3_repulsion 4 (some .int), Cond.methodLink RX3 34 Lib.Math.abs.name, Cond.methodLink RX3 30 yX3_depthOf, Cond.instanceMethod yX3_depthOf, Cond.selects RX3 yX3_depthOf yX3_depthOf, Cond.code yX3_depthOf cX3_depthOf 2 (some .int), Cond.methodLink RX7 104 yX3_energyAt, Cond.methodLink RL 126 yX8_enter, Cond.instanceMethod yX8_enter, Cond.selects RX8 yX8_enter yX8_enter, Cond.code yX8_enter cX8_enter 6 (some .int), Cond.fieldLink RX8 115 "VortexpinModel" "whirls" "I"]
def wsL_law0_r15 : List Cond := [Cond.methodLink RX8 118 yX8_energyAt, Cond.instanceMethod yX8_energyAt, Cond.selects RX8 yX8_energyAt yX8_energyAt, Cond.code yX8_energyAt cX8_energyAt 6 (some .int), Cond.methodLink RL 127 yX7_step, Cond.instanceMethod yX7_step, Cond.selects RX7 yX7_step yX7_step, Cond.code yX7_step cX7_step 1 (some .int), Cond.methodLink RX7 111 yX3_runStep, Cond.instanceMethod yX3_runStep, Cond.selects RX3 yX3_runStep yX3_runStep, Cond.code yX3_runStep cX3_runStep 5 (some .int), Cond.methodLink RX3 18 yX3_leavesFrom, Cond.instanceMethod yX3_leavesFrom, Cond.selects RX3 yX3_leavesFrom yX3_leavesFrom, Cond.code yX3_leavesFrom cX3_leavesFrom 3 (some .boolean), Cond.fieldLink RX3 39 "Vortexpin$Film" "heat" "I", Cond.methodLink RX3 22 yX3_goalFrom, Cond.instanceMethod yX3_goalFrom, Cond.selects RX3 yX3_goalFrom yX3_goalFrom, Cond.code yX3_goalFrom cX3_goalFrom 5 (some .int), Cond.methodLink RX3 45 yX3_calmestBeside, Cond.instanceMethod yX3_calmestBeside, Cond.selects RX3 yX3_calmestBeside yX3_calmestBeside]
def wsL_law0_r16 : List Cond := [Cond.code yX3_calmestBeside cX3_calmestBeside 9 (some .int), Cond.methodLink RX3 52 yX3_beside, Cond.static yX3_beside, Cond.code yX3_beside cX3_beside 4 (some .int), Cond.methodLink RX3 49 yX3_creepGoal, Cond.instanceMethod yX3_creepGoal, Cond.selects RX3 yX3_creepGoal yX3_creepGoal, Cond.code yX3_creepGoal cX3_creepGoal 5 (some .int), Cond.methodLink RL 130 yX8_step, Cond.instanceMethod yX8_step, Cond.selects RX8 yX8_step yX8_step, Cond.code yX8_step cX8_step 1 (some .int), Cond.methodLink RX8 135 yX8_stepOnce, Cond.instanceMethod yX8_stepOnce, Cond.selects RX8 yX8_stepOnce yX8_stepOnce, Cond.code yX8_stepOnce cX8_stepOnce 4 (some .int), Cond.methodLink RX8 124 yX8_leaves, Cond.instanceMethod yX8_leaves, Cond.selects RX8 yX8_leaves yX8_leaves, Cond.code yX8_leaves cX8_leaves 4 (some .boolean), Cond.methodLink RX8 128 yX8_go, Cond.instanceMethod yX8_go, Cond.selects RX8 yX8_go yX8_go, Cond.code yX8_go cX8_go 3 none]
def wsL_law0_r17 : List Cond := [Cond.methodLink RX8 132 yX8_goal, Cond.instanceMethod yX8_goal, Cond.selects RX8 yX8_goal yX8_goal, Cond.code yX8_goal cX8_goal 8 (some .int), Cond.methodLink RX8 121 yX8_beside, Cond.static yX8_beside, Cond.code yX8_beside cX8_beside 2 (some .int), Cond.methodLink RL 131 yX7_avalanche, Cond.instanceMethod yX7_avalanche, Cond.selects RX7 yX7_avalanche yX7_avalanche, Cond.code yX7_avalanche cX7_avalanche 4 (some .int), Cond.methodLink RL 134 yX8_avalanche, Cond.instanceMethod yX8_avalanche, Cond.selects RX8 yX8_avalanche yX8_avalanche, Cond.code yX8_avalanche cX8_avalanche 4 (some .int), Cond.methodLink RL 135 yL_whirlAt, Cond.static yL_whirlAt, Cond.codeWith yL_whirlAt cL_whirlAt 4 (some .int) [(0, 9, 12, 20)], Cond.methodLink RL 38 yX7_whirlAt, Cond.instanceMethod yX7_whirlAt, Cond.selects RX7 yX7_whirlAt yX7_whirlAt, Cond.code yX7_whirlAt cX7_whirlAt 2 (some .int), Cond.methodLink RX7 114 yX3_cellOf, Cond.instanceMethod yX3_cellOf]
def wsL_law0_r18 : List Cond := [Cond.selects RX3 yX3_cellOf yX3_cellOf, Cond.code yX3_cellOf cX3_cellOf 2 (some .int), Cond.methodLink RL 137 yX8_whirlAt, Cond.instanceMethod yX8_whirlAt, Cond.selects RX8 yX8_whirlAt yX8_whirlAt, Cond.code yX8_whirlAt cX8_whirlAt 2 (some .int), Cond.methodLink RL 138 yL_energy, Cond.static yL_energy, Cond.codeWith yL_energy cL_energy 4 (some .int) [(0, 9, 12, 20)], Cond.methodLink RL 41 yX7_energy, Cond.instanceMethod yX7_energy, Cond.selects RX7 yX7_energy yX7_energy, Cond.code yX7_energy cX7_energy 3 (some .int), Cond.methodLink RL 140 yX8_energy, Cond.instanceMethod yX8_energy, Cond.selects RX8 yX8_energy yX8_energy, Cond.code yX8_energy cX8_energy 2 (some .int), Cond.methodLink RL 141 yL_ring, Cond.static yL_ring, Cond.codeWith yL_ring cL_ring 5 (some .int) [(0, 10, 13, 13), (0, 10, 17, 15)], Cond.methodLink RL 44 yX7_ring, Cond.instanceMethod yX7_ring, Cond.selects RX7 yX7_ring yX7_ring, Cond.code yX7_ring cX7_ring 3 (some .int)]
def wsL_law0_r19 : List Cond := [Cond.classLink RX7 117 RX5, Cond.instantiable RX5 5, Cond.initialized RX5, Cond.methodLink RX7 119 yX5_init, Cond.instanceMethod yX5_init, Cond.code yX5_init cX5_init 3 none, Cond.methodLink RX5 1 objectInit, Cond.fieldLink RX5 7 "Vortexpin$Ring" "inductance" "I", Cond.fieldLink RX5 13 "Vortexpin$Ring" "critical" "I", Cond.methodLink RL 143 yX8_ring, Cond.instanceMethod yX8_ring, Cond.selects RX8 yX8_ring yX8_ring, Cond.code yX8_ring cX8_ring 3 (some .int), Cond.fieldLink RX8 139 "VortexpinModel" "rings" "I", Cond.methodLink RL 144 yL_flux, Cond.static yL_flux, Cond.codeWith yL_flux cL_flux 5 (some .int) [(0, 10, 13, 20), (0, 10, 17, 13)], Cond.methodLink RL 47 yX7_flux, Cond.instanceMethod yX7_flux, Cond.selects RX7 yX7_flux yX7_flux, Cond.code yX7_flux cX7_flux 4 (some .int), Cond.constant RX7 121 (-1000000), Cond.constant RX7 122 (1000000), Cond.classLink RX7 117 "Vortexpin$Ring"]
def wsL_law0_r20 : List Cond := [Cond.fieldLink RX7 123 "Vortexpin$Ring" "flux" "I", Cond.methodLink RX7 126 yX5_settle, Cond.instanceMethod yX5_settle, Cond.selects RX5 yX5_settle yX5_settle, Cond.code yX5_settle cX5_settle 5 (some .int), Cond.fieldLink RX5 19 "Vortexpin$Ring" "number" "I", Cond.constant RX5 22 (1000000), Cond.methodLink RX5 27 Lib.Math.abs.name, Cond.fieldLink RX5 32 "Vortexpin$Ring" "slips" "I", Cond.methodLink RX5 23 yX5_currentWith, Cond.instanceMethod yX5_currentWith, Cond.selects RX5 yX5_currentWith yX5_currentWith, Cond.code yX5_currentWith cX5_currentWith 2 (some .int), Cond.fieldLink RX5 16 "Vortexpin$Ring" "flux" "I", Cond.methodLink RL 146 yX8_flux, Cond.instanceMethod yX8_flux, Cond.selects RX8 yX8_flux yX8_flux, Cond.code yX8_flux cX8_flux 7 (some .int), Cond.constant RX8 142 (-1000000), Cond.constant RX8 143 (1000000), Cond.methodLink RX8 144 yX8_currentBy, Cond.instanceMethod yX8_currentBy, Cond.selects RX8 yX8_currentBy yX8_currentBy, Cond.code yX8_currentBy cX8_currentBy 3 (some .int)]
def wsL_law0_r21 : List Cond := [Cond.methodLink RL 147 yL_warm, Cond.static yL_warm, Cond.codeWith yL_warm cL_warm 4 (some .int) [(0, 9, 12, 20)], Cond.methodLink RL 50 yX7_warm, Cond.instanceMethod yX7_warm, Cond.selects RX7 yX7_warm yX7_warm, Cond.code yX7_warm cX7_warm 3 (some .int), Cond.fieldLink RX7 132 "Vortexpin$Ring" "number" "I", Cond.methodLink RX7 129 yX5_nearestNumber, Cond.instanceMethod yX5_nearestNumber, Cond.selects RX5 yX5_nearestNumber yX5_nearestNumber, Cond.code yX5_nearestNumber cX5_nearestNumber 1 (some .int), Cond.methodLink RX5 35 yJ9_floorDiv_7cf53, Cond.static yJ9_floorDiv_7cf53, Cond.initialized RJ9, Cond.code yJ9_floorDiv_7cf53 cJ9_floorDiv_7cf53 3 (some .int), Cond.methodLink RL 149 yX8_warm, Cond.instanceMethod yX8_warm, Cond.selects RX8 yX8_warm yX8_warm, Cond.code yX8_warm cX8_warm 4 (some .int), Cond.methodLink RL 150 yL_ofRing, Cond.static yL_ofRing, Cond.codeWith yL_ofRing cL_ofRing 5 (some .int) [(0, 10, 13, 20), (0, 10, 17, 13)], Cond.methodLink RL 53 yX7_ofRing]
def wsL_law0_r22 : List Cond := [Cond.instanceMethod yX7_ofRing, Cond.selects RX7 yX7_ofRing yX7_ofRing, Cond.code yX7_ofRing cX7_ofRing 4 (some .int), Cond.fieldLink RX7 138 "Vortexpin$Ring" "slips" "I", Cond.methodLink RX7 135 yX5_currentWith, Cond.methodLink RL 152 yX8_ofRing, Cond.instanceMethod yX8_ofRing, Cond.selects RX8 yX8_ofRing yX8_ofRing, Cond.code yX8_ofRing cX8_ofRing 3 (some .int), Cond.methodLink RL 153 yL_current, Cond.static yL_current, Cond.codeWith yL_current cL_current 4 (some .int) [(0, 9, 12, 13)], Cond.methodLink RL 56 yX7_current, Cond.instanceMethod yX7_current, Cond.selects RX7 yX7_current yX7_current, Cond.code yX7_current cX7_current 3 (some .int), Cond.fieldLink RX7 141 "Vortexpin$Coil" "current" "I", Cond.fieldLink RX7 144 "Vortexpin$Coil" "dumped" "Z", Cond.fieldLink RX7 148 "Vortexpin$Coil" "doubtfulInRow" "I", Cond.methodLink RL 155 yX8_current, Cond.instanceMethod yX8_current, Cond.selects RX8 yX8_current yX8_current, Cond.code yX8_current cX8_current 3 (some .int), Cond.fieldLink RX8 147 "VortexpinModel" "current" "I"]
def wsL_law0_r23 : List Cond := [Cond.fieldLink RX8 150 "VortexpinModel" "isDumped" "Z", Cond.fieldLink RX8 154 "VortexpinModel" "inRow" "I", Cond.methodLink RL 156 yL_heat, Cond.static yL_heat, Cond.codeWith yL_heat cL_heat 5 (some .int) [(0, 10, 13, 20), (0, 10, 17, 13)], Cond.methodLink RL 59 yX7_heat, Cond.instanceMethod yX7_heat, Cond.selects RX7 yX7_heat yX7_heat, Cond.code yX7_heat cX7_heat 3 (some .int), Cond.fieldLink RX7 151 "Vortexpin$Coil" "warmths" "[I", Cond.methodLink RX7 154 Lib.Math.min.name, Cond.methodLink RL 158 yX8_heat, Cond.instanceMethod yX8_heat, Cond.selects RX8 yX8_heat yX8_heat, Cond.code yX8_heat cX8_heat 3 (some .int), Cond.methodLink RL 159 yL_pass, Cond.static yL_pass, Cond.codeWith yL_pass cL_pass 4 (some .int) [(0, 9, 12, 13)], Cond.methodLink RL 62 yX7_pass, Cond.instanceMethod yX7_pass, Cond.selects RX7 yX7_pass yX7_pass, Cond.code yX7_pass cX7_pass 3 (some .int), Cond.methodLink RX7 159 yX1_runPulse, Cond.instanceMethod yX1_runPulse]
def wsL_law0_r24 : List Cond := [Cond.selects RX1 yX1_runPulse yX1_runPulse, Cond.code yX1_runPulse cX1_runPulse 1 none, Cond.fieldLink RX1 16 "Vortexpin$Coil" "dumped" "Z", Cond.methodLink RX1 20 yX1_loseCurrent, Cond.instanceMethod yX1_loseCurrent, Cond.selects RX1 yX1_loseCurrent yX1_loseCurrent, Cond.code yX1_loseCurrent cX1_loseCurrent 8 none, Cond.fieldLink RX1 33 "Vortexpin$Coil" "current" "I", Cond.fieldLink RX1 41 "Vortexpin$Coil" "toWire" "J", Cond.fieldLink RX1 45 "Vortexpin$Coil" "toDump" "J", Cond.methodLink RX1 29 yX1_stored, Cond.instanceMethod yX1_stored, Cond.selects RX1 yX1_stored yX1_stored, Cond.code yX1_stored cX1_stored 1 (some .long), Cond.constantLong RX1 71 (50), Cond.methodLink RX1 37 yX1_normalParts, Cond.instanceMethod yX1_normalParts, Cond.selects RX1 yX1_normalParts yX1_normalParts, Cond.code yX1_normalParts cX1_normalParts 5 (some .int), Cond.methodLink RX1 68 Lib.Math.max.name, Cond.methodLink RX1 48 yX1_isNormal, Cond.instanceMethod yX1_isNormal, Cond.selects RX1 yX1_isNormal yX1_isNormal, Cond.code yX1_isNormal cX1_isNormal 2 (some .boolean)]
def wsL_law0_r25 : List Cond := [Cond.methodLink RX1 23 yX1_spreadWarmth, Cond.instanceMethod yX1_spreadWarmth, Cond.selects RX1 yX1_spreadWarmth yX1_spreadWarmth, Cond.code yX1_spreadWarmth cX1_spreadWarmth 5 none, Cond.methodLink RX1 52 Lib.Math.min.name, Cond.methodLink RX1 26 yX1_watch, Cond.instanceMethod yX1_watch, Cond.selects RX1 yX1_watch yX1_watch, Cond.code yX1_watch cX1_watch 1 none, Cond.methodLink RX1 61 Lib.Math.abs.name, Cond.fieldLink RX1 65 "Vortexpin$Coil" "doubtfulInRow" "I", Cond.methodLink RX1 57 yX1_doubt, Cond.instanceMethod yX1_doubt, Cond.selects RX1 yX1_doubt yX1_doubt, Cond.code yX1_doubt cX1_doubt 1 (some .int), Cond.methodLink RL 161 yX8_pass, Cond.instanceMethod yX8_pass, Cond.selects RX8 yX8_pass yX8_pass, Cond.code yX8_pass cX8_pass 3 (some .int), Cond.methodLink RX8 182 yX8_pulseOfTime, Cond.instanceMethod yX8_pulseOfTime, Cond.selects RX8 yX8_pulseOfTime yX8_pulseOfTime, Cond.code yX8_pulseOfTime cX8_pulseOfTime 3 none, Cond.methodLink RX8 176 yX8_dumpOn]
def wsL_law0_r26 : List Cond := [Cond.instanceMethod yX8_dumpOn, Cond.selects RX8 yX8_dumpOn yX8_dumpOn, Cond.code yX8_dumpOn cX8_dumpOn 8 none, Cond.fieldLink RX8 169 "VortexpinModel" "wire" "J", Cond.fieldLink RX8 173 "VortexpinModel" "dump" "J", Cond.methodLink RX8 165 yX8_energyOfCoil, Cond.instanceMethod yX8_energyOfCoil, Cond.selects RX8 yX8_energyOfCoil yX8_energyOfCoil, Cond.code yX8_energyOfCoil cX8_energyOfCoil 1 (some .long), Cond.constantLong RX8 163 (50), Cond.methodLink RX8 160 yX8_normals, Cond.instanceMethod yX8_normals, Cond.selects RX8 yX8_normals yX8_normals, Cond.code yX8_normals cX8_normals 5 (some .int), Cond.methodLink RX8 157 yX8_isNormal, Cond.instanceMethod yX8_isNormal, Cond.selects RX8 yX8_isNormal yX8_isNormal, Cond.code yX8_isNormal cX8_isNormal 2 (some .boolean), Cond.methodLink RX8 179 yX8_doubt, Cond.instanceMethod yX8_doubt, Cond.selects RX8 yX8_doubt yX8_doubt, Cond.code yX8_doubt cX8_doubt 1 (some .int), Cond.methodLink RL 162 yL_warmth, Cond.static yL_warmth]
def wsL_law0_r27 : List Cond := [Cond.codeWith yL_warmth cL_warmth 4 (some .int) [(0, 9, 12, 20)], Cond.methodLink RL 65 yX7_warmth, Cond.instanceMethod yX7_warmth, Cond.selects RX7 yX7_warmth yX7_warmth, Cond.code yX7_warmth cX7_warmth 2 (some .int), Cond.methodLink RL 164 yX8_warmth, Cond.instanceMethod yX8_warmth, Cond.selects RX8 yX8_warmth yX8_warmth, Cond.code yX8_warmth cX8_warmth 2 (some .int), Cond.methodLink RL 165 yL_ofCoil, Cond.static yL_ofCoil, Cond.codeWith yL_ofCoil cL_ofCoil 4 (some .int) [(0, 8, 11, 13)], Cond.methodLink RL 68 yX7_ofCoil, Cond.instanceMethod yX7_ofCoil, Cond.selects RX7 yX7_ofCoil yX7_ofCoil, Cond.code yX7_ofCoil cX7_ofCoil 2 (some .long), Cond.fieldLink RX7 168 "Vortexpin$Coil" "toWire" "J", Cond.fieldLink RX7 172 "Vortexpin$Coil" "toDump" "J", Cond.methodLink RX7 162 yX1_normalParts, Cond.methodLink RX7 165 yX1_doubt, Cond.methodLink RX7 175 yX1_stored, Cond.methodLink RL 167 yX8_ofCoil, Cond.instanceMethod yX8_ofCoil, Cond.selects RX8 yX8_ofCoil yX8_ofCoil]
def wsL_law0_r28 : List Cond := [Cond.code yX8_ofCoil cX8_ofCoil 2 (some .long), Cond.methodLink RL 168 yX7_share, Cond.instanceMethod yX7_share, Cond.selects RX7 yX7_share yX7_share, Cond.code yX7_share cX7_share 3 (some .double), Cond.methodLink RL 172 yX8_share, Cond.instanceMethod yX8_share, Cond.selects RX8 yX8_share yX8_share, Cond.code yX8_share cX8_share 1 (some .double), Cond.methodLink RL 173 yL_margins, Cond.static yL_margins, Cond.codeWith yL_margins cL_margins 4 (some .int) [(0, 6, 9, 13)], Cond.methodLink RL 72 yX7_margins, Cond.instanceMethod yX7_margins, Cond.selects RX7 yX7_margins yX7_margins, Cond.code yX7_margins cX7_margins 3 none, Cond.fieldLink RX7 179 "Vortexpin$Counter" "lower" "I", Cond.fieldLink RX7 182 "Vortexpin$Counter" "upper" "I", Cond.methodLink RL 175 yX8_margins, Cond.instanceMethod yX8_margins, Cond.selects RX8 yX8_margins yX8_margins, Cond.code yX8_margins cX8_margins 3 none, Cond.methodLink RL 176 yL_pulse, Cond.static yL_pulse]
def wsL_law0_r29 : List Cond := [Cond.codeWith yL_pulse cL_pulse 5 (some .int) [(0, 10, 13, 13)], Cond.methodLink RL 75 yX7_pulse, Cond.instanceMethod yX7_pulse, Cond.selects RX7 yX7_pulse yX7_pulse, Cond.code yX7_pulse cX7_pulse 3 (some .int), Cond.methodLink RX7 185 yX2_take, Cond.instanceMethod yX2_take, Cond.selects RX2 yX2_take yX2_take, Cond.code yX2_take cX2_take 3 (some .int), Cond.fieldLink RX2 16 "Vortexpin$Counter" "count" "I", Cond.constant RX2 19 (65536), Cond.methodLink RL 178 yX8_pulse, Cond.instanceMethod yX8_pulse, Cond.selects RX8 yX8_pulse yX8_pulse, Cond.code yX8_pulse cX8_pulse 4 (some .int), Cond.fieldLink RX8 185 "VortexpinModel" "count" "I", Cond.constant RX8 188 (65536), Cond.methodLink RL 179 yL_bit, Cond.static yL_bit, Cond.codeWith yL_bit cL_bit 4 (some .int) [(0, 9, 12, 20)], Cond.methodLink RL 78 yX7_bit, Cond.instanceMethod yX7_bit, Cond.selects RX7 yX7_bit yX7_bit, Cond.code yX7_bit cX7_bit 2 (some .int)]
def wsL_law0_r30 : List Cond := [Cond.fieldLink RX7 188 "Vortexpin$Counter" "count" "I", Cond.methodLink RL 181 yX8_bit, Cond.instanceMethod yX8_bit, Cond.selects RX8 yX8_bit yX8_bit, Cond.code yX8_bit cX8_bit 2 (some .int), Cond.methodLink RL 182 yL_point, Cond.static yL_point, Cond.codeWith yL_point cL_point 6 (some .int) [(0, 12, 15, 13), (0, 12, 19, 15)], Cond.methodLink RL 81 yX7_point, Cond.instanceMethod yX7_point, Cond.selects RX7 yX7_point yX7_point, Cond.code yX7_point cX7_point 4 (some .int), Cond.classLink RX7 191 RX4, Cond.instantiable RX4 3, Cond.initialized RX4, Cond.methodLink RX7 193 yX4_init, Cond.instanceMethod yX4_init, Cond.code yX4_init cX4_init 4 none, Cond.methodLink RX4 1 objectInit, Cond.fieldLink RX4 7 "Vortexpin$Point" "temperature" "I", Cond.fieldLink RX4 13 "Vortexpin$Point" "current" "I", Cond.fieldLink RX4 16 "Vortexpin$Point" "voltage" "I", Cond.methodLink RL 184 yX8_point, Cond.instanceMethod yX8_point]
def wsL_law0_r31 : List Cond := [Cond.selects RX8 yX8_point yX8_point, Cond.code yX8_point cX8_point 4 (some .int), Cond.fieldLink RX8 189 "VortexpinModel" "points" "I", Cond.methodLink RL 185 yL_claim, Cond.static yL_claim, Cond.codeWith yL_claim cL_claim 6 (some .int) [(0, 12, 15, 20), (0, 12, 19, 13), (0, 12, 23, 15)], Cond.methodLink RL 84 yX7_claim, Cond.instanceMethod yX7_claim, Cond.selects RX7 yX7_claim yX7_claim, Cond.code yX7_claim cX7_claim 4 (some .int), Cond.classLink RX7 194 RX0, Cond.instantiable RX0 5, Cond.initialized RX0, Cond.methodLink RX7 196 yX0_init, Cond.instanceMethod yX0_init, Cond.code yX0_init cX0_init 5 none, Cond.methodLink RX0 3 objectInit, Cond.fieldLink RX0 9 "Vortexpin$Claim" "temperature" "I", Cond.fieldLink RX0 15 "Vortexpin$Claim" "from" "I", Cond.fieldLink RX0 18 "Vortexpin$Claim" "to" "I", Cond.fieldLink RX0 21 "Vortexpin$Claim" "pointsThen" "I", Cond.fieldLink RX0 24 "Vortexpin$Claim" "words" "[I", Cond.methodLink RL 187 yX8_claim, Cond.instanceMethod yX8_claim]
def wsL_law0_r32 : List Cond := [Cond.selects RX8 yX8_claim yX8_claim, Cond.code yX8_claim cX8_claim 4 (some .int), Cond.fieldLink RX8 192 "VortexpinModel" "claims" "I", Cond.methodLink RL 188 yL_repeats, Cond.static yL_repeats, Cond.codeWith yL_repeats cL_repeats 6 (some .int) [(0, 12, 15, 20)], Cond.methodLink RL 87 yX7_repeats, Cond.instanceMethod yX7_repeats, Cond.selects RX7 yX7_repeats yX7_repeats, Cond.code yX7_repeats cX7_repeats 5 (some .int), Cond.classLink RX7 194 "Vortexpin$Claim", Cond.fieldLink RX7 199 "Vortexpin$Claim" "words" "[I", Cond.methodLink RX7 202 yX0_housesThat, Cond.instanceMethod yX0_housesThat, Cond.selects RX0 yX0_housesThat yX0_housesThat, Cond.code yX0_housesThat cX0_housesThat 4 (some .int), Cond.methodLink RL 191 yX8_repeats, Cond.instanceMethod yX8_repeats, Cond.selects RX8 yX8_repeats yX8_repeats, Cond.code yX8_repeats cX8_repeats 4 (some .int), Cond.methodLink RX8 195 yX8_houses, Cond.instanceMethod yX8_houses, Cond.selects RX8 yX8_houses yX8_houses, Cond.code yX8_houses cX8_houses 5 (some .int)]
def wsL_law0_r33 : List Cond := [Cond.methodLink RL 192 yL_judge, Cond.static yL_judge, Cond.codeWith yL_judge cL_judge 5 (some .int) [(0, 10, 13, 20), (0, 10, 17, 13)], Cond.methodLink RL 91 yX7_judge, Cond.instanceMethod yX7_judge, Cond.selects RX7 yX7_judge yX7_judge, Cond.code yX7_judge cX7_judge 3 (some .int), Cond.methodLink RX7 205 yX0_verdict, Cond.instanceMethod yX0_verdict, Cond.selects RX0 yX0_verdict yX0_verdict, Cond.code yX0_verdict cX0_verdict 4 (some .int), Cond.methodLink RX0 28 yX0_isOpen, Cond.instanceMethod yX0_isOpen, Cond.selects RX0 yX0_isOpen yX0_isOpen, Cond.code yX0_isOpen cX0_isOpen 8 (some .boolean), Cond.classLink RX0 46 "Vortexpin$Point", Cond.fieldLink RX0 48 "Vortexpin$Point" "temperature" "I", Cond.fieldLink RX0 53 "Vortexpin$Point" "voltage" "I", Cond.methodLink RX0 56 Lib.Math.abs.name, Cond.methodLink RX0 36 yJx4a65c_size_8abf5, Cond.methodLink RX0 42 yJx4a65c_get_915e3, Cond.methodLink RX0 49 yX4_mirrors, Cond.instanceMethod yX4_mirrors, Cond.selects RX4 yX4_mirrors yX4_mirrors]
def wsL_law0_r34 : List Cond := [Cond.code yX4_mirrors cX4_mirrors 2 (some .boolean), Cond.methodLink RX0 32 yX0_housesThat, Cond.methodLink RL 194 yX8_judge, Cond.instanceMethod yX8_judge, Cond.selects RX8 yX8_judge yX8_judge, Cond.code yX8_judge cX8_judge 3 (some .int), Cond.methodLink RX8 201 yX8_isOpen, Cond.instanceMethod yX8_isOpen, Cond.selects RX8 yX8_isOpen yX8_isOpen, Cond.code yX8_isOpen cX8_isOpen 6 (some .boolean), Cond.methodLink RX8 198 yX8_arePair, Cond.instanceMethod yX8_arePair, Cond.selects RX8 yX8_arePair yX8_arePair, Cond.code yX8_arePair cX8_arePair 5 (some .boolean)]
def wsL_law0 : List Cond := (wsL_law0_r1 ++ (wsL_law0_r2 ++ (wsL_law0_r3 ++ (wsL_law0_r4 ++ (wsL_law0_r5 ++ (wsL_law0_r6 ++ (wsL_law0_r7 ++ (wsL_law0_r8 ++ (wsL_law0_r9 ++ (wsL_law0_r10 ++ (wsL_law0_r11 ++ (wsL_law0_r12 ++ (wsL_law0_r13 ++ (wsL_law0_r14 ++ (wsL_law0_r15 ++ (wsL_law0_r16 ++ (wsL_law0_r17 ++ (wsL_law0_r18 ++ (wsL_law0_r19 ++ (wsL_law0_r20 ++ (wsL_law0_r21 ++ (wsL_law0_r22 ++ (wsL_law0_r23 ++ (wsL_law0_r24 ++ (wsL_law0_r25 ++ (wsL_law0_r26 ++ (wsL_law0_r27 ++ (wsL_law0_r28 ++ (wsL_law0_r29 ++ (wsL_law0_r30 ++ (wsL_law0_r31 ++ (wsL_law0_r32 ++ (wsL_law0_r33 ++ wsL_law0_r34))))))))))))))))))))))))))))))))) ++ wsX70 ++ wsX80 ++ wsJx4a65c0 ++ wsX30 ++ wsX10 ++ wsX20 ++ wsX60 ++ wsX50 ++ wsX40 ++ wsX00 ++ ([] : List Cond)
def wsL_law : List Cond := wsL_law0 ++ (vx_atS RX7 213 "java/lang/IllegalArgumentException" ["java/lang/RuntimeException", "java/lang/Exception"]).filter goodWord ++ (vx_atS RX7 225 "java/lang/IllegalStateException" ["java/lang/RuntimeException", "java/lang/Exception"]).filter goodWord ++ (vx_atS RX7 220 "java/lang/IndexOutOfBoundsException" ["java/lang/RuntimeException", "java/lang/Exception"]).filter goodWord
theorem lw_sub {big ws : List Cond} (ps : List Nat) (hp : ps.map (fun i => big[i]?) = ws.map some) : ∀ w ∈ ws, w ∈ big := by
  intro w hw
  have h : some w ∈ ps.map (fun i => big[i]?) := by rw [hp]; exact List.mem_map.mpr ⟨w, hw, rfl⟩
  obtain ⟨i, -, hi⟩ := List.mem_map.mp h
  exact List.mem_of_getElem? hi
set_option maxRecDepth 20000 in
theorem wsL_law0_r1_i : ∀ w ∈ wsL_law0_r1, w ∈ lw_tbl := by decide +kernel
set_option maxRecDepth 20000 in
theorem wsL_law0_r2_i : ∀ w ∈ wsL_law0_r2, w ∈ lw_tbl := lw_sub [120, 39, 175, 153, 154, 40, 176, 177, 178, 68, 69, 70, 78, 80, 71, 72, 36, 73, 82, 74, 75, 35, 76, 77] (by decide +kernel)
set_option maxRecDepth 20000 in
theorem wsL_law0_r3_i : ∀ w ∈ wsL_law0_r3, w ∈ lw_tbl := lw_sub [94, 95, 96, 97, 118, 98, 100, 121, 122, 123, 124, 125, 127, 155, 156, 157, 158, 159, 161, 806, 807, 808, 809, 812] (by decide +kernel)
set_option maxRecDepth 20000 in
theorem wsL_law0_r4_i : ∀ w ∈ wsL_law0_r4, w ∈ lw_tbl := lw_sub [813, 814, 815, 816, 817, 818, 820, 824, 825, 826, 827, 828, 829, 830, 836, 837, 840, 841, 842, 844, 845, 846, 847, 848] (by decide +kernel)
set_option maxRecDepth 20000 in
theorem wsL_law0_r5_i : ∀ w ∈ wsL_law0_r5, w ∈ lw_tbl := lw_sub [247, 248, 33, 249, 250, 251, 252, 253, 254, 255, 350, 351, 47, 256, 257, 258, 259, 45, 327, 328, 329, 330, 81, 331] (by decide +kernel)
set_option maxRecDepth 20000 in
theorem wsL_law0_r6_i : ∀ w ∈ wsL_law0_r6, w ∈ lw_tbl := lw_sub [332, 333, 334, 46, 352, 353, 354, 355, 356, 357, 358, 374, 375, 376, 377, 83, 84, 378, 380, 7, 381, 382, 384, 8] (by decide +kernel)
set_option maxRecDepth 20000 in
theorem wsL_law0_r7_i : ∀ w ∈ wsL_law0_r7, w ∈ lw_tbl := lw_sub [385, 386, 388, 9, 389, 432, 394, 49, 395, 433, 390, 391, 48, 392, 393, 396, 397, 398, 399, 400, 401, 50, 402, 403] (by decide +kernel)
set_option maxRecDepth 20000 in
theorem wsL_law0_r8_i : ∀ w ∈ wsL_law0_r8, w ∈ lw_tbl := lw_sub [1141, 404, 419, 420, 421, 422, 423, 425, 426, 427, 428, 429, 431, 430, 51, 932, 933, 934, 935, 810, 811, 936, 937, 938] (by decide +kernel)
set_option maxRecDepth 20000 in
theorem wsL_law0_r9_i : ∀ w ∈ wsL_law0_r9, w ∈ lw_tbl := lw_sub [939, 941, 16, 942, 928, 929, 930, 931, 434, 435, 436, 437, 438, 439, 440, 441, 350, 360, 362, 442, 443, 444, 445, 52] (by decide +kernel)
set_option maxRecDepth 20000 in
theorem wsL_law0_r10_i : ∀ w ∈ wsL_law0_r10, w ∈ lw_tbl := lw_sub [461, 462, 463, 464, 465, 466, 53, 467, 468, 469, 54, 470, 471, 472, 473, 474, 475, 476, 477, 478, 361, 479, 211, 212] (by decide +kernel)
set_option maxRecDepth 20000 in
theorem wsL_law0_r11_i : ∀ w ∈ wsL_law0_r11, w ∈ lw_tbl := lw_sub [359, 480, 482, 10, 483, 943, 944, 945, 946, 947, 948, 949, 950, 952, 17, 953, 484, 485, 486, 487, 488, 489, 490, 491] (by decide +kernel)
set_option maxRecDepth 20000 in
theorem wsL_law0_r12_i : ∀ w ∈ wsL_law0_r12, w ∈ lw_tbl := lw_sub [492, 493, 494, 495, 954, 955, 956, 957, 958, 496, 497, 498, 499, 500, 501, 502, 99, 959, 960, 961, 962, 503, 504, 505] (by decide +kernel)
set_option maxRecDepth 20000 in
theorem wsL_law0_r13_i : ∀ w ∈ wsL_law0_r13, w ∈ lw_tbl := lw_sub [506, 507, 508, 509, 104, 106, 963, 964, 965, 966, 821, 822, 510, 511, 512, 513, 514, 515, 516, 102, 101, 517, 518, 519] (by decide +kernel)
set_option maxRecDepth 20000 in
theorem wsL_law0_r14_i : ∀ w ∈ wsL_law0_r14, w ∈ lw_tbl := lw_sub [520, 231, 233, 4, 234, 217, 218, 219, 220, 103, 221, 222, 223, 210, 206, 208, 1, 209, 521, 967, 968, 969, 970, 819] (by decide +kernel)
set_option maxRecDepth 20000 in
theorem wsL_law0_r15_i : ∀ w ∈ wsL_law0_r15, w ∈ lw_tbl := lw_sub [971, 973, 18, 974, 194, 195, 196, 197, 198, 199, 200, 201, 202, 204, 0, 205, 105, 213, 215, 2, 216, 224, 226, 3] (by decide +kernel)
set_option maxRecDepth 20000 in
theorem wsL_law0_r16_i : ∀ w ∈ wsL_law0_r16, w ∈ lw_tbl := lw_sub [227, 228, 229, 230, 235, 237, 5, 238, 975, 976, 977, 978, 979, 981, 19, 982, 983, 985, 20, 986, 987, 989, 21, 990] (by decide +kernel)
set_option maxRecDepth 20000 in
theorem wsL_law0_r17_i : ∀ w ∈ wsL_law0_r17, w ∈ lw_tbl := lw_sub [991, 993, 22, 994, 995, 996, 997, 239, 240, 241, 242, 998, 999, 1000, 1001, 522, 523, 524, 525, 526, 527, 528, 529, 530] (by decide +kernel)
set_option maxRecDepth 20000 in
theorem wsL_law0_r18_i : ∀ w ∈ wsL_law0_r18, w ∈ lw_tbl := lw_sub [531, 532, 1002, 1003, 1004, 1005, 533, 534, 535, 536, 537, 538, 539, 1006, 1007, 1008, 1009, 540, 541, 542, 543, 544, 545, 546] (by decide +kernel)
set_option maxRecDepth 20000 in
theorem wsL_law0_r19_i : ∀ w ∈ wsL_law0_r19, w ∈ lw_tbl := lw_sub [547, 548, 55, 549, 550, 551, 552, 553, 554, 1010, 1011, 1012, 1013, 823, 572, 573, 574, 575, 576, 577, 578, 579, 580, 547] (by decide +kernel)
set_option maxRecDepth 20000 in
theorem wsL_law0_r20_i : ∀ w ∈ wsL_law0_r20, w ∈ lw_tbl := lw_sub [556, 581, 582, 583, 584, 557, 585, 590, 559, 586, 587, 588, 589, 555, 1014, 1015, 1016, 1017, 1018, 1019, 1020, 1022, 23, 1023] (by decide +kernel)
set_option maxRecDepth 20000 in
theorem wsL_law0_r21_i : ∀ w ∈ wsL_law0_r21, w ∈ lw_tbl := lw_sub [591, 592, 593, 594, 595, 596, 597, 558, 598, 599, 600, 601, 602, 603, 49, 604, 1024, 1025, 1026, 1027, 605, 606, 607, 608] (by decide +kernel)
set_option maxRecDepth 20000 in
theorem wsL_law0_r22_i : ∀ w ∈ wsL_law0_r22, w ∈ lw_tbl := lw_sub [609, 610, 611, 560, 612, 1028, 1029, 1030, 1031, 613, 614, 615, 616, 617, 618, 619, 129, 131, 133, 1032, 1033, 1034, 1035, 831] (by decide +kernel)
set_option maxRecDepth 20000 in
theorem wsL_law0_r23_i : ∀ w ∈ wsL_law0_r23, w ∈ lw_tbl := lw_sub [832, 833, 620, 621, 622, 623, 624, 625, 626, 126, 627, 1036, 1037, 1038, 1039, 628, 629, 630, 631, 632, 633, 634, 635, 636] (by decide +kernel)
set_option maxRecDepth 20000 in
theorem wsL_law0_r24_i : ∀ w ∈ wsL_law0_r24, w ∈ lw_tbl := lw_sub [637, 638, 130, 639, 641, 11, 642, 128, 134, 136, 643, 644, 645, 646, 647, 648, 649, 650, 651, 652, 653, 655, 12, 656] (by decide +kernel)
set_option maxRecDepth 20000 in
theorem wsL_law0_r25_i : ∀ w ∈ wsL_law0_r25, w ∈ lw_tbl := lw_sub [657, 659, 13, 660, 661, 662, 664, 14, 665, 670, 132, 666, 667, 668, 669, 1040, 1041, 1042, 1043, 1044, 1046, 24, 1047, 1048] (by decide +kernel)
set_option maxRecDepth 20000 in
theorem wsL_law0_r26_i : ∀ w ∈ wsL_law0_r26, w ∈ lw_tbl := lw_sub [1050, 25, 1051, 834, 835, 1052, 1054, 26, 1055, 1056, 1057, 1059, 27, 1060, 1061, 1063, 28, 1064, 1065, 1067, 29, 1068, 671, 672] (by decide +kernel)
set_option maxRecDepth 20000 in
theorem wsL_law0_r27_i : ∀ w ∈ wsL_law0_r27, w ∈ lw_tbl := lw_sub [673, 674, 675, 676, 677, 1069, 1070, 1071, 1072, 678, 679, 680, 681, 682, 683, 684, 135, 137, 685, 686, 687, 1073, 1074, 1075] (by decide +kernel)
set_option maxRecDepth 20000 in
theorem wsL_law0_r28_i : ∀ w ∈ wsL_law0_r28, w ∈ lw_tbl := lw_sub [1076, 243, 244, 245, 246, 1077, 1078, 1079, 1080, 688, 689, 690, 691, 692, 693, 694, 160, 162, 1081, 1082, 1083, 1084, 695, 696] (by decide +kernel)
set_option maxRecDepth 20000 in
theorem wsL_law0_r29_i : ∀ w ∈ wsL_law0_r29, w ∈ lw_tbl := lw_sub [697, 698, 699, 700, 701, 702, 703, 704, 705, 163, 706, 1085, 1086, 1087, 1088, 838, 1089, 707, 708, 709, 710, 711, 712, 713] (by decide +kernel)
set_option maxRecDepth 20000 in
theorem wsL_law0_r30_i : ∀ w ∈ wsL_law0_r30, w ∈ lw_tbl := lw_sub [164, 1090, 1091, 1092, 1093, 714, 715, 716, 717, 718, 719, 720, 721, 722, 56, 723, 724, 725, 726, 727, 729, 730, 1094, 1095] (by decide +kernel)
set_option maxRecDepth 20000 in
theorem wsL_law0_r31_i : ∀ w ∈ wsL_law0_r31, w ∈ lw_tbl := lw_sub [1096, 1097, 839, 739, 740, 741, 742, 743, 744, 745, 746, 747, 57, 748, 749, 750, 751, 752, 753, 754, 755, 756, 1098, 1099] (by decide +kernel)
set_option maxRecDepth 20000 in
theorem wsL_law0_r32_i : ∀ w ∈ wsL_law0_r32, w ∈ lw_tbl := lw_sub [1100, 1101, 843, 769, 770, 771, 772, 773, 774, 775, 746, 757, 776, 777, 778, 779, 1102, 1103, 1104, 1105, 1106, 1108, 30, 1109] (by decide +kernel)
set_option maxRecDepth 20000 in
theorem wsL_law0_r33_i : ∀ w ∈ wsL_law0_r33, w ∈ lw_tbl := lw_sub [780, 781, 782, 783, 784, 785, 786, 787, 788, 789, 790, 791, 793, 15, 794, 797, 728, 731, 802, 795, 796, 798, 799, 800] (by decide +kernel)
set_option maxRecDepth 20000 in
theorem wsL_law0_r34_i : ∀ w ∈ wsL_law0_r34, w ∈ lw_tbl := lw_sub [801, 803, 1110, 1111, 1112, 1113, 1114, 1116, 31, 1117, 1118, 1120, 32, 1121] (by decide +kernel)
set_option maxRecDepth 20000 in
theorem wsX70_i : ∀ w ∈ wsX70, w ∈ lw_tbl := by decide +kernel
set_option maxRecDepth 20000 in
theorem wsX80_i : ∀ w ∈ wsX80, w ∈ lw_tbl := by decide +kernel
set_option maxRecDepth 20000 in
theorem wsJx4a65c0_i : ∀ w ∈ wsJx4a65c0, w ∈ lw_tbl := by decide +kernel
set_option maxRecDepth 20000 in
theorem wsX30_i : ∀ w ∈ wsX30, w ∈ lw_tbl := by decide +kernel
set_option maxRecDepth 20000 in
theorem wsX10_i : ∀ w ∈ wsX10, w ∈ lw_tbl := by decide +kernel
set_option maxRecDepth 20000 in
theorem wsX20_i : ∀ w ∈ wsX20, w ∈ lw_tbl := by decide +kernel
set_option maxRecDepth 20000 in
theorem wsX60_i : ∀ w ∈ wsX60, w ∈ lw_tbl := by decide +kernel
set_option maxRecDepth 20000 in
theorem wsX50_i : ∀ w ∈ wsX50, w ∈ lw_tbl := by decide +kernel
set_option maxRecDepth 20000 in
theorem wsX40_i : ∀ w ∈ wsX40, w ∈ lw_tbl := by decide +kernel
set_option maxRecDepth 20000 in
theorem wsX00_i : ∀ w ∈ wsX00, w ∈ lw_tbl := by decide +kernel
theorem wsL_law_in0 : ∀ w ∈ wsL_law0, w ∈ lw_tbl := List.forall_mem_append.mpr ⟨List.forall_mem_append.mpr ⟨List.forall_mem_append.mpr ⟨List.forall_mem_append.mpr ⟨List.forall_mem_append.mpr ⟨List.forall_mem_append.mpr ⟨List.forall_mem_append.mpr ⟨List.forall_mem_append.mpr ⟨List.forall_mem_append.mpr ⟨List.forall_mem_append.mpr ⟨List.forall_mem_append.mpr ⟨List.forall_mem_append.mpr ⟨wsL_law0_r1_i, List.forall_mem_append.mpr ⟨wsL_law0_r2_i, List.forall_mem_append.mpr ⟨wsL_law0_r3_i, List.forall_mem_append.mpr ⟨wsL_law0_r4_i, List.forall_mem_append.mpr ⟨wsL_law0_r5_i, List.forall_mem_append.mpr ⟨wsL_law0_r6_i, List.forall_mem_append.mpr ⟨wsL_law0_r7_i, List.forall_mem_append.mpr ⟨wsL_law0_r8_i, List.forall_mem_append.mpr ⟨wsL_law0_r9_i, List.forall_mem_append.mpr ⟨wsL_law0_r10_i, List.forall_mem_append.mpr ⟨wsL_law0_r11_i, List.forall_mem_append.mpr ⟨wsL_law0_r12_i, List.forall_mem_append.mpr ⟨wsL_law0_r13_i, List.forall_mem_append.mpr ⟨wsL_law0_r14_i, List.forall_mem_append.mpr ⟨wsL_law0_r15_i, List.forall_mem_append.mpr ⟨wsL_law0_r16_i, List.forall_mem_append.mpr ⟨wsL_law0_r17_i, List.forall_mem_append.mpr ⟨wsL_law0_r18_i, List.forall_mem_append.mpr ⟨wsL_law0_r19_i, List.forall_mem_append.mpr ⟨wsL_law0_r20_i, List.forall_mem_append.mpr ⟨wsL_law0_r21_i, List.forall_mem_append.mpr ⟨wsL_law0_r22_i, List.forall_mem_append.mpr ⟨wsL_law0_r23_i, List.forall_mem_append.mpr ⟨wsL_law0_r24_i, List.forall_mem_append.mpr ⟨wsL_law0_r25_i, List.forall_mem_append.mpr ⟨wsL_law0_r26_i, List.forall_mem_append.mpr ⟨wsL_law0_r27_i, List.forall_mem_append.mpr ⟨wsL_law0_r28_i, List.forall_mem_append.mpr ⟨wsL_law0_r29_i, List.forall_mem_append.mpr ⟨wsL_law0_r30_i, List.forall_mem_append.mpr ⟨wsL_law0_r31_i, List.forall_mem_append.mpr ⟨wsL_law0_r32_i, List.forall_mem_append.mpr ⟨wsL_law0_r33_i, wsL_law0_r34_i⟩⟩⟩⟩⟩⟩⟩⟩⟩⟩⟩⟩⟩⟩⟩⟩⟩⟩⟩⟩⟩⟩⟩⟩⟩⟩⟩⟩⟩⟩⟩⟩⟩, wsX70_i⟩, wsX80_i⟩, wsJx4a65c0_i⟩, wsX30_i⟩, wsX10_i⟩, wsX20_i⟩, wsX60_i⟩, wsX50_i⟩, wsX40_i⟩, wsX00_i⟩, fun _ h => absurd h List.not_mem_nil⟩
theorem wsL_law_x0 : ∀ w ∈ (vx_atS RX7 213 "java/lang/IllegalArgumentException" ["java/lang/RuntimeException", "java/lang/Exception"]).filter goodWord, w ∈ lw_tbl := by decide +kernel
theorem wsL_law_x1 : ∀ w ∈ (vx_atS RX7 225 "java/lang/IllegalStateException" ["java/lang/RuntimeException", "java/lang/Exception"]).filter goodWord, w ∈ lw_tbl := by decide +kernel
theorem wsL_law_x2 : ∀ w ∈ (vx_atS RX7 220 "java/lang/IndexOutOfBoundsException" ["java/lang/RuntimeException", "java/lang/Exception"]).filter goodWord, w ∈ lw_tbl := by decide +kernel
theorem wsL_law_in : ∀ w ∈ wsL_law, w ∈ lw_tbl := fun w h => (List.mem_append.mp h).elim (fun h => (List.mem_append.mp h).elim (fun h => (List.mem_append.mp h).elim (fun h => wsL_law_in0 w h) (fun h => wsL_law_x0 w h)) (fun h => wsL_law_x1 w h)) (fun h => wsL_law_x2 w h)
theorem inlX0 : ∀ w ∈ wsX00, w ∈ wsL_law := fun _ h => List.mem_append_left _ (List.mem_append_left _ (List.mem_append_left _ (List.mem_append_left _ (List.mem_append_right _ h))))
theorem inX0 : ∀ w ∈ wsX00, w ∈ lw_tbl := fun w h => wsL_law_in w (inlX0 w h)
theorem inlX1 : ∀ w ∈ wsX10, w ∈ wsL_law := fun _ h => List.mem_append_left _ (List.mem_append_left _ (List.mem_append_left _ (List.mem_append_left _ (List.mem_append_left _ (List.mem_append_left _ (List.mem_append_left _ (List.mem_append_left _ (List.mem_append_left _ (List.mem_append_right _ h)))))))))
theorem inX1 : ∀ w ∈ wsX10, w ∈ lw_tbl := fun w h => wsL_law_in w (inlX1 w h)
theorem inlX2 : ∀ w ∈ wsX20, w ∈ wsL_law := fun _ h => List.mem_append_left _ (List.mem_append_left _ (List.mem_append_left _ (List.mem_append_left _ (List.mem_append_left _ (List.mem_append_left _ (List.mem_append_left _ (List.mem_append_left _ (List.mem_append_right _ h))))))))
theorem inX2 : ∀ w ∈ wsX20, w ∈ lw_tbl := fun w h => wsL_law_in w (inlX2 w h)
theorem inlX3 : ∀ w ∈ wsX30, w ∈ wsL_law := fun _ h => List.mem_append_left _ (List.mem_append_left _ (List.mem_append_left _ (List.mem_append_left _ (List.mem_append_left _ (List.mem_append_left _ (List.mem_append_left _ (List.mem_append_left _ (List.mem_append_left _ (List.mem_append_left _ (List.mem_append_right _ h))))))))))
theorem inX3 : ∀ w ∈ wsX30, w ∈ lw_tbl := fun w h => wsL_law_in w (inlX3 w h)
theorem inlX4 : ∀ w ∈ wsX40, w ∈ wsL_law := fun _ h => List.mem_append_left _ (List.mem_append_left _ (List.mem_append_left _ (List.mem_append_left _ (List.mem_append_left _ (List.mem_append_right _ h)))))
theorem inX4 : ∀ w ∈ wsX40, w ∈ lw_tbl := fun w h => wsL_law_in w (inlX4 w h)
theorem inlX5 : ∀ w ∈ wsX50, w ∈ wsL_law := fun _ h => List.mem_append_left _ (List.mem_append_left _ (List.mem_append_left _ (List.mem_append_left _ (List.mem_append_left _ (List.mem_append_left _ (List.mem_append_right _ h))))))
theorem inX5 : ∀ w ∈ wsX50, w ∈ lw_tbl := fun w h => wsL_law_in w (inlX5 w h)
theorem inlX6 : ∀ w ∈ wsX60, w ∈ wsL_law := fun _ h => List.mem_append_left _ (List.mem_append_left _ (List.mem_append_left _ (List.mem_append_left _ (List.mem_append_left _ (List.mem_append_left _ (List.mem_append_left _ (List.mem_append_right _ h)))))))
theorem inX6 : ∀ w ∈ wsX60, w ∈ lw_tbl := fun w h => wsL_law_in w (inlX6 w h)
theorem inlX7 : ∀ w ∈ wsX70, w ∈ wsL_law := fun _ h => List.mem_append_left _ (List.mem_append_left _ (List.mem_append_left _ (List.mem_append_left _ (List.mem_append_left _ (List.mem_append_left _ (List.mem_append_left _ (List.mem_append_left _ (List.mem_append_left _ (List.mem_append_left _ (List.mem_append_left _ (List.mem_append_left _ (List.mem_append_left _ (List.mem_append_right _ h)))))))))))))
theorem inX7 : ∀ w ∈ wsX70, w ∈ lw_tbl := fun w h => wsL_law_in w (inlX7 w h)
theorem inlX8 : ∀ w ∈ wsX80, w ∈ wsL_law := fun _ h => List.mem_append_left _ (List.mem_append_left _ (List.mem_append_left _ (List.mem_append_left _ (List.mem_append_left _ (List.mem_append_left _ (List.mem_append_left _ (List.mem_append_left _ (List.mem_append_left _ (List.mem_append_left _ (List.mem_append_left _ (List.mem_append_left _ (List.mem_append_right _ h))))))))))))
theorem inX8 : ∀ w ∈ wsX80, w ∈ lw_tbl := fun w h => wsL_law_in w (inlX8 w h)
theorem inJx145de : ∀ w ∈ wsJx145de0, w ∈ lw_tbl := by decide +kernel
theorem inJx8e188 : ∀ w ∈ wsJx8e1880, w ∈ lw_tbl := by decide +kernel
theorem inJxab1ab : ∀ w ∈ wsJxab1ab0, w ∈ lw_tbl := by decide +kernel
theorem inJ9 : ∀ w ∈ wsJ90, w ∈ lw_tbl := by decide +kernel
theorem inJ0 : ∀ w ∈ wsJ00, w ∈ lw_tbl := by decide +kernel
theorem inJ10 : ∀ w ∈ wsJ100, w ∈ lw_tbl := by decide +kernel
theorem inJxa1e45 : ∀ w ∈ wsJxa1e450, w ∈ lw_tbl := by decide +kernel
theorem inJxc12de : ∀ w ∈ wsJxc12de0, w ∈ lw_tbl := by decide +kernel
theorem inlJx4a65c : ∀ w ∈ wsJx4a65c0, w ∈ wsL_law := fun _ h => List.mem_append_left _ (List.mem_append_left _ (List.mem_append_left _ (List.mem_append_left _ (List.mem_append_left _ (List.mem_append_left _ (List.mem_append_left _ (List.mem_append_left _ (List.mem_append_left _ (List.mem_append_left _ (List.mem_append_left _ (List.mem_append_right _ h)))))))))))
theorem inJx4a65c : ∀ w ∈ wsJx4a65c0, w ∈ lw_tbl := fun w h => wsL_law_in w (inlJx4a65c w h)
theorem inJ7 : ∀ w ∈ wsJ70, w ∈ lw_tbl := by decide +kernel
theorem inJx5ef63 : ∀ w ∈ wsJx5ef630, w ∈ lw_tbl := by decide +kernel
theorem inJxbd725 : ∀ w ∈ wsJxbd7250, w ∈ lw_tbl := by decide +kernel
theorem inJ15 : ∀ w ∈ wsJ150, w ∈ lw_tbl := by decide +kernel
theorem inJxf0a74 : ∀ w ∈ wsJxf0a740, w ∈ lw_tbl := by decide +kernel
theorem inJxa66e6 : ∀ w ∈ wsJxa66e60, w ∈ lw_tbl := by decide +kernel
theorem inJ8 : ∀ w ∈ wsJ80, w ∈ lw_tbl := by decide +kernel
theorem inJ3 : ∀ w ∈ wsJ30, w ∈ lw_tbl := by decide +kernel
abbrev vwCl : List vw_C := [(RJx4a65c, TJx4a65c, 3), (RX0, TX0, 5), (RX1, TX1, 7), (RX2, TX2, 3), (RX3, TX3, 5), (RX4, TX4, 3), (RX5, TX5, 5), (RX6, TX6, 5), (RX7, TX7, 7), (RX8, TX8, 39)]
end
