/-! The start: classes, arrays, constants, statics, as the Statement gives them. -/
theorem s_of {w : Cond} (hk : s_k w = true) {A : Array Value} {U : State} (h : w.before A U = true) : va_Nw w U := by
  cases w with
  | fieldLinkNest a b c d e f => exact va_tabs rfl rfl h
  | methodLinkNest a b c d => exact va_tabs rfl rfl h
  | castable a b => exact va_tabs rfl rfl h
  | declares a => exact va_tabs rfl rfl h
  | arrayOver t =>
    cases t with
    | object C => exact va_AO.of h
    | _ => simp [s_k] at hk
  | _ => simp [s_k] at hk
theorem e_prim {args : Array Value} {s : State} {ty : FieldType} (hty : ty = .int ∨ ty = .boolean ∨ ty = .long) (h : (Cond.arrayClass ty).before args s = true) : ∃ cA : ClassId, ArrOfT s cA ty ∧ va_RA s cA ty := by
  obtain ⟨c, k, comp, h1, h2, h3⟩ := Cond.arrayClass_spec (show (Cond.arrayClass ty).holds args s none s [] = true from h)
  refine ⟨c, fun n z => ⟨fun k h => (by cases h), k, h2, comp, h3⟩, ?_⟩
  rcases hty with rfl | rfl | rfl <;> exact h1
theorem e_ref {args : Array Value} {s : State} {C : String} (h : (Cond.arrayOver (.object C)).before args s = true) : ∃ cA : ClassId, ArrOfT s cA (.object C) ∧ va_RA s cA (.object C) := by
  obtain ⟨comp, c, k, h1, -, h3, h4, h5⟩ := Cond.arrayOver_spec (show (Cond.arrayOver (.object C)).holds args s none s [] = true from h)
  exact ⟨c, fun n z => ⟨fun k h => (by cases h), k, h3, comp, h4⟩, k, comp, h3, h4, h1, h5⟩
theorem e_K {args : Array Value} {s : State} (hts : ∀ w ∈ lw_tbl, w.before args s = true) : ∃ (D : va_G) (cI cO cN cZ cJ : ClassId), va_K D kc [(cI, .int), (cO, .object "java/lang/Object"), (cN, .object "MergingFragments$Node"), (cZ, .boolean), (cJ, .long)] s := by
  have hgw : ∀ w ∈ gw, w.before args s = true := fun w hw => hts w (List.mem_filter.mp hw).1
  obtain ⟨c0, i0, k0⟩ := u_known hgw in_G (n := 7) (hts _ (by decide +kernel))
  obtain ⟨c1, i1, k1⟩ := u_known hgw in_N (n := 12) (hts _ (by decide +kernel))
  obtain ⟨c2, i2, k2⟩ := u_known hgw in_M (n := 5) (hts _ (by decide +kernel))
  obtain ⟨c3, i3, k3⟩ := u_known hgw in_R (n := 23) (hts _ (by decide +kernel))
  obtain ⟨c4, i4, k4⟩ := u_known hgw in_A (n := 3) (hts _ (by decide +kernel))
  obtain ⟨cI, aI⟩ := e_prim (ty := .int) (Or.inl rfl) (hts _ (by decide +kernel))
  obtain ⟨cZ, aZ⟩ := e_prim (ty := .boolean) (Or.inr (Or.inl rfl)) (hts _ (by decide +kernel))
  obtain ⟨cJ, aJ⟩ := e_prim (ty := .long) (Or.inr (Or.inr rfl)) (hts _ (by decide +kernel))
  obtain ⟨cO, aO⟩ := e_ref (C := "java/lang/Object") (hts _ (by decide +kernel))
  obtain ⟨cN, aN⟩ := e_ref (C := "MergingFragments$Node") (hts _ (by decide +kernel))
  refine ⟨(fun n => match n with | 0 => c0 | 1 => c1 | 2 => c2 | 3 => c3 | _ => c4, fun n => match n with | 0 => i0 | 1 => i1 | 2 => i2 | 3 => i3 | _ => i4), cI, cO, cN, cZ, cJ, fun n q hq => ?_, fun k q hq => ?_⟩
  · match n, hq with
    | 0, hq => cases hq; exact k0
    | 1, hq => cases hq; exact k1
    | 2, hq => cases hq; exact k2
    | 3, hq => cases hq; exact k3
    | 4, hq => cases hq; exact k4
    | n + 5, hq => cases hq
  · match k, hq with
    | 0, hq => cases hq; exact aI
    | 1, hq => cases hq; exact aO
    | 2, hq => cases hq; exact aN
    | 3, hq => cases hq; exact aZ
    | 4, hq => cases hq; exact aJ
    | n + 5, hq => cases hq
theorem e_S {args : Array Value} {s : State} {c : ClassId} {k : Nat} {tx : String} (hown : s.vm.findClass "MergingFragments" = some c) (h : (Cond.stringRef "MergingFragments" k tx).before args s = true) : ∃ a : Nat, vk_R "MergingFragments" k tx a s := by
  obtain ⟨-, -, -, sa, -, -, -, -, -, hev⟩ := Cond.stringRef_spec hown h
  exact ⟨sa, vk_R.of h hev⟩
set_option maxRecDepth 100000 in
set_option maxHeartbeats 4000000 in
theorem e_X {b : Nat} {s : State} (hts : ∀ w ∈ lw_tbl, w.before #[Value.ref b] s = true) (hgv : (Cond.and given_1 narrow_1).before #[Value.ref b] s = true) : ∃ (de : Nat) (sa : Nat → Nat), s_X de sa (fun q => s.heap.size ≤ q) s s.heap := by
  have hA : ∀ a : Nat, a < s.heap.size → ¬ (fun q => s.heap.size ≤ q) a := fun a ha hz => absurd (show s.heap.size ≤ a from hz) (by omega)
  have hs := flat_of_before _ hgv
  obtain ⟨cG, kG9, hfG, -⟩ := Cond.instantiable_spec (hts (.instantiable "MergingFragments" 7) (by decide +kernel))
  obtain ⟨a40, r40⟩ := e_S (k := 40) (tx := "a network has 1 to 7 nodes") hfG (hts _ (by decide +kernel))
  obtain ⟨a154, r154⟩ := e_S (k := 154) (tx := "there is no such node") hfG (hts _ (by decide +kernel))
  obtain ⟨a51, r51⟩ := e_S (k := 51) (tx := "an edge is between two different nodes") hfG (hts _ (by decide +kernel))
  obtain ⟨a57, r57⟩ := e_S (k := 57) (tx := "a weight is 1 to 99, and no other edge has it") hfG (hts _ (by decide +kernel))
  obtain ⟨a65, r65⟩ := e_S (k := 65) (tx := "no edge can be added any more") hfG (hts _ (by decide +kernel))
  obtain ⟨a82, r82⟩ := e_S (k := 82) (tx := "a run handles 0 to 999 messages at most") hfG (hts _ (by decide +kernel))
  obtain ⟨a122, r122⟩ := e_S (k := 122) (tx := "what is 0 to 9") hfG (hts _ (by decide +kernel))
  obtain ⟨a126, r126⟩ := e_S (k := 126) (tx := "there is no such edge") hfG (hts _ (by decide +kernel))
  obtain ⟨a129, r129⟩ := e_S (k := 129) (tx := "there is no such message") hfG (hts _ (by decide +kernel))
  obtain ⟨a152, r152⟩ := e_S (k := 152) (tx := "what is 0 to 4") hfG (hts _ (by decide +kernel))
  obtain ⟨mi, hmi⟩ := va_Mi.of (C := "[Ljava/lang/Object;") (hs _ (by decide +kernel))
  obtain ⟨de, hde, hT⟩ := va_Tof (tm := .static "java/util/ArrayList" "DEFAULTCAPACITY_EMPTY_ELEMENTDATA" "[Ljava/lang/Object;") (ty := .object "java/lang/Object") (N := 0) (f := fun _ => .null) (A := fun q => s.heap.size ≤ q) (by decide) (hs _ (by decide +kernel)) (va_eqt (hs (.eq (.length (.static "java/util/ArrayList" "DEFAULTCAPACITY_EMPTY_ELEMENTDATA" "[Ljava/lang/Object;")) (.int 0)) (by decide +kernel))) (fun j hj => absurd hj (Nat.not_lt_zero _)) hA
  have hZ := va_Zof (A := fun q => s.heap.size ≤ q) (hts (.laysStatic "java/util/ArrayList" "DEFAULTCAPACITY_EMPTY_ELEMENTDATA" "[Ljava/lang/Object;") (by decide +kernel)) (hts (.initialized "java/util/ArrayList") (by decide +kernel)) hde hA
  have hL1 := s_L.of (A := fun q => s.heap.size ≤ q) (hts (.laysStatic "java/lang/Throwable" "UNASSIGNED_STACK" "[Ljava/lang/StackTraceElement;") (by decide +kernel)) (hts (.initialized "java/lang/Throwable") (by decide +kernel)) (hs (.isRef (.static "java/lang/Throwable" "UNASSIGNED_STACK" "[Ljava/lang/StackTraceElement;")) (by decide +kernel)) hA
  have hL2 := s_L.of (A := fun q => s.heap.size ≤ q) (hts (.laysStatic "java/lang/Throwable" "SUPPRESSED_SENTINEL" "Ljava/util/List;") (by decide +kernel)) (hts (.initialized "java/lang/Throwable") (by decide +kernel)) (hs (.isRef (.static "java/lang/Throwable" "SUPPRESSED_SENTINEL" "Ljava/util/List;")) (by decide +kernel)) hA
  refine ⟨de, fun n => if n = 40 then a40 else if n = 154 then a154 else if n = 51 then a51 else if n = 57 then a57 else if n = 65 then a65 else if n = 82 then a82 else if n = 122 then a122 else if n = 126 then a126 else if n = 129 then a129 else if n = 152 then a152 else mi, fun w hw => s_of (List.mem_filter.mp hw).2 (hts w (List.mem_filter.mp hw).1), fun q hq => ?_, fun q hq => ?_, hZ, hT, hL1, hL2, hmi⟩
  · simp only [s_nc, List.mem_cons, List.not_mem_nil, or_false] at hq
    rcases hq with rfl | rfl | rfl | rfl | rfl | rfl <;> exact va_Nc.of (hs _ (by decide +kernel))
  · simp only [s_str, List.mem_cons, List.not_mem_nil, or_false] at hq
    rcases hq with rfl | rfl | rfl | rfl | rfl | rfl | rfl | rfl | rfl | rfl
    · exact r40
    · exact r154
    · exact r51
    · exact r57
    · exact r65
    · exact r82
    · exact r122
    · exact r126
    · exact r129
    · exact r152
theorem e_off {l : Launch} (h : l.flags = flags0) : th_Off l := by
  intro e ha
  rw [ha.platform]
  show l.stackTraces = false
  unfold Launch.stackTraces
  rw [h]
  decide
