/-- what the methods find around them, at the law's entry -/
theorem env_start {p : Program} {s : State} {m : MethodId} {meth : Method} {c : Code} {b L : Nat} {xs : Nat → Int32} (C0 : lw_At p s m meth c b L xs) : ∃ tE mi, env (fun q : Nat => s.heap.size ≤ q) tE mi s s.heap := by
  obtain ⟨-, -, -, -, -, hts, -, -, -, hgv⟩ := C0
  have hs := flat_of_before _ hgv
  have hA : ∀ a : Nat, a < s.heap.size → ¬ (fun q : Nat => s.heap.size ≤ q) a := fun a h q => absurd h (Nat.not_lt.mpr q)
  have hstr : ∀ (k : Nat) (tx : String), (Cond.stringRef RX7 k tx).before #[Value.ref b] s = true → (Cond.exactly (.string RX7 k) "java/lang/String").before #[Value.ref b] s = true → ∃ a, vk_R RX7 k tx a s := fun k tx h1 h2 => by
    obtain ⟨a, -, -, -, h3, -⟩ := Cond.exactly_spec h2
    exact ⟨a, vk_R.of h1 h3⟩
  have hlen := va_eqt (hs (Cond.eq (.length (.static "java/util/ArrayList" "DEFAULTCAPACITY_EMPTY_ELEMENTDATA" "[Ljava/lang/Object;")) (.int 0)) (by decide +kernel))
  obtain ⟨tE, htE, hT⟩ := va_Tof (tm := .static "java/util/ArrayList" "DEFAULTCAPACITY_EMPTY_ELEMENTDATA" "[Ljava/lang/Object;") (ty := .object "java/lang/Object") (N := 0) (f := fun _ => .null) (A := fun q : Nat => s.heap.size ≤ q) (by decide) (hs _ (by decide +kernel)) hlen (fun j hj => absurd hj (Nat.not_lt_zero j)) hA
  obtain ⟨mi, hMi⟩ := va_Mi.of (hs (.isRef (.mirror "[Ljava/lang/Object;")) (by decide +kernel))
  have key : ∀ q ∈ envN, Cond.not (.castable q.1 q.2) ∈ flatC (Jvm.Cond.and given_1 narrow_1) := by decide +kernel
  refine ⟨tE, mi, vx_Zqof (hts (.laysStatic "java/lang/Throwable" "UNASSIGNED_STACK" "[Ljava/lang/StackTraceElement;") (by decide +kernel)) (hts (.initialized "java/lang/Throwable") (by decide +kernel)) (hs (.isRef (.static "java/lang/Throwable" "UNASSIGNED_STACK" "[Ljava/lang/StackTraceElement;")) (by decide +kernel)) hA, vx_Zqof (hts (.laysStatic "java/lang/Throwable" "SUPPRESSED_SENTINEL" "Ljava/util/List;") (by decide +kernel)) (hts (.initialized "java/lang/Throwable") (by decide +kernel)) (hs (.isRef (.static "java/lang/Throwable" "SUPPRESSED_SENTINEL" "Ljava/util/List;")) (by decide +kernel)) hA,
    hstr 211 _ (hts _ (by decide +kernel)) (hs _ (by decide +kernel)), hstr 218 _ (hts _ (by decide +kernel)) (hs _ (by decide +kernel)), hstr 223 _ (hts _ (by decide +kernel)) (hs _ (by decide +kernel)),
    va_Zof (hts (.laysStatic "java/util/ArrayList" "DEFAULTCAPACITY_EMPTY_ELEMENTDATA" "[Ljava/lang/Object;") (by decide +kernel)) (hts (.initialized "java/util/ArrayList") (by decide +kernel)) htE hA, hT, va_AO.of (hts (.arrayOver (.object "java/lang/Object")) (by decide +kernel)), hMi, fun w hw => va_Nw.of (envW_on w hw) (hts w (envW_tbl w hw)), fun q hq => va_Nc.of (hs _ (key q hq))⟩
