/-! What lies outside the pool and stays: words of the nest and of casts, the String constants, ArrayList's empty row, Throwable's two statics. -/
def s_k : Cond → Bool
  | .fieldLinkNest _ _ _ _ _ _ => true
  | .methodLinkNest _ _ _ _ => true
  | .castable _ _ => true
  | .declares _ => true
  | .arrayOver (.object _) => true
  | _ => false
def gn : List Cond := lw_tbl.filter s_k
theorem gn_in {w : Cond} (i : Nat) (h : lw_tbl[i]? = some w) (hg : s_k w = true) : w ∈ gn := List.mem_filter.mpr ⟨List.mem_of_getElem? h, hg⟩
theorem s_warm {w : Cond} (hk : s_k w = true) {s U : State} (hW : s.WarmedH U.vm) (h : va_Nw w s) : va_Nw w U := by
  cases w with
  | fieldLinkNest a b c d e f => exact va_Nw.warmF hW h
  | methodLinkNest a b c d => exact va_Nw.warmM hW h
  | castable a b => exact va_Nw.warmC hW h
  | declares a => exact va_Nw.warmD hW h
  | arrayOver t =>
    cases t with
    | object C => exact va_AO.moved hW.alike h
    | _ => simp [s_k] at hk
  | _ => simp [s_k] at hk
theorem s_same {w : Cond} (hk : s_k w = true) {s U : State} (hv : U.vm = s.vm) (h : va_Nw w s) : va_Nw w U := by
  cases w with
  | fieldLinkNest a b c d e f => exact va_tabs rfl hv.symm h
  | methodLinkNest a b c d => exact va_tabs rfl hv.symm h
  | castable a b => exact va_tabs rfl hv.symm h
  | declares a => exact va_tabs rfl hv.symm h
  | arrayOver t =>
    cases t with
    | object C => exact va_AO.moved (by rw [hv]; exact Vm.Alike.refl _) h
    | _ => simp [s_k] at hk
  | _ => simp [s_k] at hk
theorem s_use {w : Cond} (hk : s_k w = true) {A : Array Value} {U : State} (h : va_Nw w U) : w.before A U = true := by
  cases w with
  | fieldLinkNest a b c d e f => exact va_tabs rfl rfl h
  | methodLinkNest a b c d => exact va_tabs rfl rfl h
  | castable a b => exact va_tabs rfl rfl h
  | declares a => exact va_tabs rfl rfl h
  | arrayOver t =>
    cases t with
    | object C => exact va_AO.use h
    | _ => simp [s_k] at hk
  | _ => simp [s_k] at hk
/-- where a static field lies, and that it holds a reference or null -/
def s_L (C n d : String) (A : Nat → Prop) (U : State) (H : Heap) : Prop := va_Zq C n d A U H ∧ ∃ (c : ClassId) (k : Class) (i : Nat) (f : Field) (a : Nat) (cell : Cell), U.vm.findClass C = some c ∧ U.fieldFound? C n d = some (c, k, i, f) ∧ f.isStatic = true ∧ k.statics = some a ∧ H[a]? = some cell ∧ cell.vm.isStatics = true ∧ cell.cls = c ∧ f.slot < cell.slots.size ∧ k.staticTypes[f.slot]? = some f.type ∧ ¬ A a
theorem s_L.moved {C n d : String} {A : Nat → Prop} {u U : State} {H : Heap} (hvm : u.vm.Alike U.vm) (h : s_L C n d A u H) : s_L C n d A U H := by
  obtain ⟨hz, c, k, i, f, a, cell, h1, h2, h3, h4, h5, h6, h7, h8, h9, h10⟩ := h
  obtain ⟨k', hi', he⟩ := State.fieldFound?_setVm hvm h2
  exact ⟨va_Zq.moved hvm hz, c, k', i, f, a, cell, by rw [hvm.findClass]; exact h1, hi', h3, by rw [he]; exact h4, h5, h6, h7, h8, by rw [he]; exact h9, h10⟩
theorem s_L.kept {C n d : String} {A : Nat → Prop} {U : State} {H H1 : Heap} (h : s_L C n d A U H) (hq : ∀ a : Nat, a < H.size → ¬ A a → H1[a]? = H[a]?) : s_L C n d A U H1 := by
  obtain ⟨hz, c, k, i, f, a, cell, h1, h2, h3, h4, h5, h6, h7, h8, h9, h10⟩ := h
  exact ⟨hz.kept hq, c, k, i, f, a, cell, h1, h2, h3, h4, by rw [hq a (Array.getElem?_eq_some_iff.mp h5).1 h10]; exact h5, h6, h7, h8, h9, h10⟩
theorem s_L.narrow {C n d : String} {A B : Nat → Prop} {U : State} {H : Heap} (h : s_L C n d A U H) (hAB : ∀ q, B q → A q) : s_L C n d B U H := by
  obtain ⟨hz, c, k, i, f, a, cell, h1, h2, h3, h4, h5, h6, h7, h8, h9, h10⟩ := h
  exact ⟨hz.narrow hAB, c, k, i, f, a, cell, h1, h2, h3, h4, h5, h6, h7, h8, h9, fun z => h10 (hAB _ z)⟩
theorem s_L.lays {C n d : String} {A : Nat → Prop} {s : State} {args : Array Value} (h : s_L C n d A s s.heap) : (Cond.laysStatic C n d).before args s = true := by
  obtain ⟨-, c, k, i, f, a, cell, h1, h2, h3, h4, h5, h6, h7, h8, h9, -⟩ := h
  show (Cond.laysStatic C n d).holds args s none s [] = true
  exact Cond.laysStatic_of h1 h2 h3 h4 h5 h6 h7 h8 h9
theorem s_L.ref {C n d : String} {A : Nat → Prop} {s : State} {args : Array Value} (h : s_L C n d A s s.heap) : (Cond.isRef (.static C n d)).before args s = true := by
  have key : ∀ v : Value, v.isRef = true → va_Z C n d v A s s.heap → (Cond.isRef (.static C n d)).before args s = true := by
    intro v hv hz
    obtain ⟨cf, kf, fi, f, a, cell, h1, h2, h3, h4, h5, h6, h7, -⟩ := hz
    have he : (Term.static C n d).eval args s none [] s = some v := by simp [Term.eval, State.fieldNamed?, h1, h2, h4, h5, h6, h7]
    simp only [Cond.before, Cond.holds, Cond.value, he]
    cases v <;> simp_all [Value.isRef]
  rcases h.1 with h | ⟨t, h⟩
  · exact key _ rfl h
  · exact key _ rfl h
theorem s_L.of {args : Array Value} {s : State} {C n d : String} {A : Nat → Prop} (hl : (Cond.laysStatic C n d).before args s = true) (hini : (Cond.initialized C).before args s = true) (h : (Cond.isRef (.static C n d)).before args s = true) (hA : ∀ a : Nat, a < s.heap.size → ¬ A a) : s_L C n d A s s.heap := by
  refine ⟨va_Zqof hl hini h hA, ?_⟩
  obtain ⟨c, k, i, f, a, cell, h1, h2, h3, h4, h5, h6, h7, h8, h9⟩ := Cond.laysStatic_spec hl
  exact ⟨c, k, i, f, a, cell, h1, h2, h3, h4, h5, h6, h7, h8, h9, hA a (Array.getElem?_eq_some_iff.mp h5).1⟩
def s_nc : List (String × String) := [("java/lang/IndexOutOfBoundsException", "java/lang/IllegalArgumentException"), ("java/lang/IllegalStateException", "java/lang/IllegalArgumentException"), ("java/lang/IllegalArgumentException", "java/lang/IndexOutOfBoundsException"), ("java/lang/IllegalStateException", "java/lang/IndexOutOfBoundsException"), ("java/lang/IllegalArgumentException", "java/lang/IllegalStateException"), ("java/lang/IndexOutOfBoundsException", "java/lang/IllegalStateException")]
def s_str : List (Nat × String) := [(40, "a network has 1 to 7 nodes"), (154, "there is no such node"), (51, "an edge is between two different nodes"), (57, "a weight is 1 to 99, and no other edge has it"), (65, "no edge can be added any more"), (82, "a run handles 0 to 999 messages at most"), (122, "what is 0 to 9"), (126, "there is no such edge"), (129, "there is no such message"), (152, "what is 0 to 4")]
def s_X (de : Nat) (sa : Nat → Nat) (A : Nat → Prop) (U : State) (H : Heap) : Prop :=
  (∀ w ∈ gn, va_Nw w U) ∧ (∀ q ∈ s_nc, va_Nc q.1 q.2 U) ∧ (∀ q ∈ s_str, vk_R "MergingFragments" q.1 q.2 (sa q.1) U) ∧
  va_Z "java/util/ArrayList" "DEFAULTCAPACITY_EMPTY_ELEMENTDATA" "[Ljava/lang/Object;" (.ref de) A U H ∧ va_T (.object "java/lang/Object") de 0 (fun _ => .null) A U H ∧
  s_L "java/lang/Throwable" "UNASSIGNED_STACK" "[Ljava/lang/StackTraceElement;" A U H ∧ s_L "java/lang/Throwable" "SUPPRESSED_SENTINEL" "Ljava/util/List;" A U H ∧ va_Mi "[Ljava/lang/Object;" (sa 100000) U
theorem s_ok (de : Nat) (sa : Nat → Nat) : hp_Ok (s_X de sa) := by
  refine ⟨fun A s U H hv h => ?_, fun A s U H hW h => ?_, fun A s H H1 hq h => ?_, fun A B s H hAB h => ?_⟩
  · obtain ⟨h1, h2, h3, h4, h5, h6, h7, h8⟩ := h
    have hal : s.vm.Alike U.vm := by rw [hv]; exact Vm.Alike.refl _
    exact ⟨fun w hw => s_same (List.mem_filter.mp hw).2 hv (h1 w hw), fun q hq => (h2 q hq).moved hal, fun q hq => (h3 q hq).same hv, va_Z.moved hal h4, va_T.moved hal h5, h6.moved hal, h7.moved hal, h8.moved hal⟩
  · obtain ⟨h1, h2, h3, h4, h5, h6, h7, h8⟩ := h
    exact ⟨fun w hw => s_warm (List.mem_filter.mp hw).2 hW (h1 w hw), fun q hq => (h2 q hq).moved hW.alike, fun q hq => (h3 q hq).warm hW, va_Z.moved hW.alike h4, va_T.moved hW.alike h5, h6.moved hW.alike, h7.moved hW.alike, h8.moved hW.alike⟩
  · obtain ⟨h1, h2, h3, h4, h5, h6, h7, h8⟩ := h
    exact ⟨h1, h2, h3, h4.kept hq, h5.kept hq, h6.kept hq, h7.kept hq, h8⟩
  · obtain ⟨h1, h2, h3, h4, h5, h6, h7, h8⟩ := h
    exact ⟨h1, h2, h3, h4.narrow hAB, h5.narrow hAB, h6.narrow hAB, h7.narrow hAB, h8⟩
/-- a word of the nest, of a cast .. out of the environment -/
theorem s_N {de : Nat} {sa : Nat → Nat} {A : Nat → Prop} {s : State} {H : Heap} {args : Array Value} {w : Cond} (h : s_X de sa A s H) (hw : w ∈ gn) : w.before args s = true := s_use (List.mem_filter.mp hw).2 (h.1 w hw)
theorem s_Nw {de : Nat} {sa : Nat → Nat} {A : Nat → Prop} {s : State} {H : Heap} {w : Cond} (h : s_X de sa A s H) (hw : w ∈ gn) : va_Nw w s := h.1 w hw
theorem hp_inc (j k : Nat) : nI j + Int32.ofInt (k : Int) = nI (j + k) := by
  have : Int32.ofInt (k : Int) = nI k := rfl
  rw [this, nI_add]
theorem n30 : (.arrayOver (.object "MergingFragments$Node") : Cond) ∈ gn := gn_in 74 (by decide +kernel) (by decide +kernel)
theorem n32 : (.methodLinkNest "MergingFragments" 35 ⟨"MergingFragments$Node", "<init>", "(I)V"⟩ "MergingFragments" : Cond) ∈ gn := gn_in 76 (by decide +kernel) (by decide +kernel)
theorem n79 : (.fieldLinkNest "MergingFragments" 156 "MergingFragments$Node" "number" "I" "MergingFragments" : Cond) ∈ gn := gn_in 123 (by decide +kernel) (by decide +kernel)
theorem n81 : (.fieldLinkNest "MergingFragments" 68 "MergingFragments$Node" "marks" "[I" "MergingFragments" : Cond) ∈ gn := gn_in 125 (by decide +kernel) (by decide +kernel)
theorem n83 : (.fieldLinkNest "MergingFragments" 109 "MergingFragments$Node" "queue" "Ljava/util/ArrayList;" "MergingFragments" : Cond) ∈ gn := gn_in 127 (by decide +kernel) (by decide +kernel)
theorem n85 : (.fieldLinkNest "MergingFragments" 71 "MergingFragments$Node" "state" "I" "MergingFragments" : Cond) ∈ gn := gn_in 129 (by decide +kernel) (by decide +kernel)
theorem n87 : (.fieldLinkNest "MergingFragments" 88 "MergingFragments$Node" "level" "I" "MergingFragments" : Cond) ∈ gn := gn_in 131 (by decide +kernel) (by decide +kernel)
theorem n89 : (.fieldLinkNest "MergingFragments" 91 "MergingFragments$Node" "fragment" "I" "MergingFragments" : Cond) ∈ gn := gn_in 133 (by decide +kernel) (by decide +kernel)
theorem n91 : (.fieldLinkNest "MergingFragments" 94 "MergingFragments$Node" "answers" "I" "MergingFragments" : Cond) ∈ gn := gn_in 135 (by decide +kernel) (by decide +kernel)
theorem n93 : (.fieldLinkNest "MergingFragments" 97 "MergingFragments$Node" "wayIn" "I" "MergingFragments" : Cond) ∈ gn := gn_in 137 (by decide +kernel) (by decide +kernel)
theorem n95 : (.fieldLinkNest "MergingFragments" 100 "MergingFragments$Node" "best" "I" "MergingFragments" : Cond) ∈ gn := gn_in 139 (by decide +kernel) (by decide +kernel)
theorem n97 : (.fieldLinkNest "MergingFragments" 106 "MergingFragments$Node" "bestWeight" "I" "MergingFragments" : Cond) ∈ gn := gn_in 141 (by decide +kernel) (by decide +kernel)
theorem n99 : (.fieldLinkNest "MergingFragments" 103 "MergingFragments$Node" "tested" "I" "MergingFragments" : Cond) ∈ gn := gn_in 143 (by decide +kernel) (by decide +kernel)
theorem n101 : (.fieldLinkNest "MergingFragments" 118 "MergingFragments$Node" "done" "Z" "MergingFragments" : Cond) ∈ gn := gn_in 145 (by decide +kernel) (by decide +kernel)
theorem n175 : (.castable "java/lang/IllegalArgumentException" "java/lang/IllegalArgumentException" : Cond) ∈ gn := gn_in 219 (by decide +kernel) (by decide +kernel)
theorem n176 : (.declares ⟨"java/lang/RuntimeException", "<init>", "()V"⟩ : Cond) ∈ gn := gn_in 220 (by decide +kernel) (by decide +kernel)
theorem n177 : (.declares ⟨"java/lang/RuntimeException", "<init>", "(Ljava/lang/String;)V"⟩ : Cond) ∈ gn := gn_in 221 (by decide +kernel) (by decide +kernel)
theorem n178 : (.declares ⟨"java/lang/Exception", "<init>", "()V"⟩ : Cond) ∈ gn := gn_in 222 (by decide +kernel) (by decide +kernel)
theorem n179 : (.declares ⟨"java/lang/Exception", "<init>", "(Ljava/lang/String;)V"⟩ : Cond) ∈ gn := gn_in 223 (by decide +kernel) (by decide +kernel)
theorem n180 : (.declares ⟨"java/lang/Throwable", "<init>", "()V"⟩ : Cond) ∈ gn := gn_in 224 (by decide +kernel) (by decide +kernel)
theorem n181 : (.declares ⟨"java/lang/Throwable", "<init>", "(Ljava/lang/String;)V"⟩ : Cond) ∈ gn := gn_in 225 (by decide +kernel) (by decide +kernel)
theorem n241 : (.methodLinkNest "MergingFragments" 45 ⟨"MergingFragments$Node", "reset", "()V"⟩ "MergingFragments" : Cond) ∈ gn := gn_in 285 (by decide +kernel) (by decide +kernel)
theorem n257 : (.castable "java/lang/IndexOutOfBoundsException" "java/lang/IndexOutOfBoundsException" : Cond) ∈ gn := gn_in 301 (by decide +kernel) (by decide +kernel)
theorem n283 : (.castable "java/lang/IllegalStateException" "java/lang/IllegalStateException" : Cond) ∈ gn := gn_in 327 (by decide +kernel) (by decide +kernel)
theorem n314 : (.methodLinkNest "MergingFragments" 166 ⟨"MergingFragments$Message", "<init>", "(IIIII)V"⟩ "MergingFragments" : Cond) ∈ gn := gn_in 358 (by decide +kernel) (by decide +kernel)
theorem n390 : (.arrayOver (.object "java/lang/Object") : Cond) ∈ gn := gn_in 434 (by decide +kernel) (by decide +kernel)
theorem n442 : (.methodLinkNest "MergingFragments" 203 ⟨"MergingFragments$Node", "putBack", "(LMergingFragments$Message;)V"⟩ "MergingFragments" : Cond) ∈ gn := gn_in 486 (by decide +kernel) (by decide +kernel)
theorem n459 : (.methodLinkNest "MergingFragments" 207 ⟨"MergingFragments$Node", "forgetBest", "()V"⟩ "MergingFragments" : Cond) ∈ gn := gn_in 503 (by decide +kernel) (by decide +kernel)
theorem n472 : (.methodLinkNest "MergingFragments" 213 ⟨"MergingFragments$Node", "rejectIfBasic", "(I)V"⟩ "MergingFragments" : Cond) ∈ gn := gn_in 516 (by decide +kernel) (by decide +kernel)
theorem n480 : (.methodLinkNest "MergingFragments" 216 ⟨"MergingFragments$Node", "improveBest", "(II)V"⟩ "MergingFragments" : Cond) ∈ gn := gn_in 524 (by decide +kernel) (by decide +kernel)
theorem n737 : (.castable "MergingFragments$Message" "MergingFragments$Message" : Cond) ∈ gn := gn_in 781 (by decide +kernel) (by decide +kernel)
theorem n740 : (.declares ⟨"java/lang/Object", "getClass", "()Ljava/lang/Class;"⟩ : Cond) ∈ gn := gn_in 784 (by decide +kernel) (by decide +kernel)
theorem n741 : (.castable "MergingFragments" "java/lang/Object" : Cond) ∈ gn := gn_in 785 (by decide +kernel) (by decide +kernel)
theorem n742 : (.castable "MergingFragments$Node" "java/lang/Object" : Cond) ∈ gn := gn_in 786 (by decide +kernel) (by decide +kernel)
theorem n743 : (.castable "MergingFragmentsModel" "java/lang/Object" : Cond) ∈ gn := gn_in 787 (by decide +kernel) (by decide +kernel)
theorem n744 : (.castable "MergingFragments$Message" "java/lang/Object" : Cond) ∈ gn := gn_in 788 (by decide +kernel) (by decide +kernel)
theorem n745 : (.castable "java/lang/String" "java/lang/Object" : Cond) ∈ gn := gn_in 789 (by decide +kernel) (by decide +kernel)
