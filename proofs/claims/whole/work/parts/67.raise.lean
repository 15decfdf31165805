/-! A method of the class that makes an exception and throws it. -/
def hp_QT (E : String) : Array Value → State → Outcome → State → Prop := fun _ st o t => ∃ (x : Addr) (cell : Cell), o = .threw x ∧ (∀ a : Nat, a < st.heap.size → t.heap[a]? = st.heap[a]?) ∧ t.heap[x]? = some cell ∧ cell.vm.isStatics = false ∧ st.vm.findClass E = some cell.cls ∧ st.heap.size ≤ t.heap.size
def hp_T (l : Launch) (y : MethodName) (ws : List Cond) (rm : Room) (D : va_G) (cl : List vw_C) (tys : List (ClassId × FieldType)) (X : (Nat → Prop) → State → Heap → Prop) (av : List Value) (L : List Nat) (f : Nat → va_E) (E : String) : Prop :=
  ∀ sz : Nat, th_Met l y ws rm (hp_Pre D cl tys X av L f sz) (hp_QT E) 1 6 (fun _ => False)
def th_steD : String := "[Ljava/lang/StackTraceElement;"
def th_word (w : Cond) : Bool := (decide (w ∈ lw_tbl) && (goodWord w || s_k w)) || decide (w = .isRef (.static "java/lang/Throwable" "UNASSIGNED_STACK" "[Ljava/lang/StackTraceElement;")) || decide (w = .isRef (.static "java/lang/Throwable" "SUPPRESSED_SENTINEL" "Ljava/util/List;"))
theorem th_atoms {args : Array Value} {s : State} {de : Nat} {sa : Nat → Nat} {A : Nat → Prop} (hg : ∀ w ∈ gw, w.before args s = true) (hX : s_X de sa A s s.heap) {atoms : List Cond} (h : atoms.all th_word = true) : ∀ a ∈ atoms, a.before args s = true := by
  intro a ha
  have h1 := List.all_eq_true.mp h a ha
  unfold th_word at h1
  simp only [Bool.or_eq_true, Bool.and_eq_true, decide_eq_true_eq] at h1
  rcases h1 with (⟨h1, h2 | h2⟩ | h1) | h1
  · exact hg a (List.mem_filter.mpr ⟨h1, h2⟩)
  · exact s_N hX (List.mem_filter.mpr ⟨h1, h2⟩)
  · rw [h1]; exact hX.2.2.2.2.2.1.ref
  · rw [h1]; exact hX.2.2.2.2.2.2.1.ref
theorem th_raise {p : Program} {l : Launch} {e : Env} {R : Room} {s : State} {m : MethodId} {args : Array Value} {below : List Frame} {meth : Method} {c : Code} {cc : ByteArray} {pc : Nat} {ls : Array Slot} {own C txt : String} {inew ildc ic st : Nat} {names : List String} {free : Addr → Prop} {de : Nat} {sa : Nat → Nat} {A : Nat → Prop}
    (hexec : p.tables.exec = Jvm.exec) (hb : c.code = cc) (hoff : th_Off l) (hown : s.vm.findClass own = some m.cls) (hlk : meth.locks = false) (hsz : ls.size = c.maxLocals) (hg : ∀ w ∈ gw, w.before args s = true) (hX : s_X de sa A s s.heap)
    (hcl : (Cond.classLink own inew C).before args s = true) (hini : (Cond.initialized C).before args s = true) (hstr : vk_R own ildc txt st s)
    (hat : (Bundle.ownAtoms own ic C names).all th_word = true) (hC : Bundle.fit C = true) (hn : ∀ n ∈ names, Bundle.fit n = true) (hout : ∀ x ∈ c.exceptionTable.toList, covers x (pc + 9) = false)
    (d0 : decode cc pc = .ok (.new inew, 3)) (d3 : decode cc (pc + 3) = .ok (.dup, 1)) (d4 : decode cc (pc + 4) = .ok (.ldc ildc, 2)) (d6 : decode cc (pc + 6) = .ok (.invokespecial ic, 3)) (d9 : decode cc (pc + 9) = .ok (.athrow, 1))
    (hRf : names.length + 3 < R.frames) (hRl : 13 * (names.length + 1) + 50 ≤ R.locals) (hRc : 1 ≤ R.cells) (hRs : 6 ≤ R.slots) :
    W p l e R s m args below meth c s.heap [] 0 0 (th_MQ below (hp_QT C) args s 1 6 free) (F0 m pc ls []) := by
  intro T hT X
  have htr : e.platform.stackTraces = false := hoff e X.admits
  have hats := th_atoms hg hX hat
  obtain ⟨vm₁, cX, kX, hfX, hkX, -, -, X₁, st1⟩ := X.newCold hexec (own := own) (C := C) (index := inew) (n := 6) hown hcl (hats _ (by simp [Bundle.ownAtoms])) hini (g := F0 m pc ls []) rfl (by rw [hb]; exact d0) (by omega) (by omega)
  have hcellA : ((T.setVm vm₁).pushCell { cls := cX, slots := kX.instanceTypes.map defaultValue, vm := .none }).heap[T.heap.size]? = some (freshCell cX kX) := State.heap_pushCell_size _ _
  generalize hU : (T.setVm vm₁).pushCell { cls := cX, slots := kX.instanceTypes.map defaultValue, vm := .none } = T1 at X₁ st1 hcellA
  obtain ⟨U, hsteps, hrun, hend, hW, hsame, ce, hce, K⟩ := X₁.ctorThrowS hexec htr (own := own) (cls := C) (names := names) (ic := ic) hown hC hn hats (fun y hy => by cases hy) hfX hkX hcellA (by rw [hT]; exact Nat.le_refl _) (msg := .ref st) rfl
    (g := F0 m (pc + 6) ls [.ref st, .ref T.heap.size, .ref T.heap.size]) rfl hsz rfl rfl (rest := []) rfl (by rw [hb]; exact d6) (by rw [hb]; exact d9) hout hRf (by simp [F0, JFrame.monitorRoom, Value.category]; omega) hlk
  have hev : (Term.string own ildc).eval args s none [] s = some (.ref st) := by have := hstr.2; simp only [Term.eval] at this ⊢; exact this
  have hcst : (Cond.stringRef own ildc txt).before args s = true := by have := hstr.1; simp only [Cond.before, Cond.holds, Cond.value, Term.eval] at this ⊢; exact this
  refine ⟨U, st1 _ ?_, .threw T.heap.size, hrun, hend, ⟨T.heap.size, ce, rfl, (fun a ha => by have h9 := th_same hsame a ha; exact h9), hce, by rw [K.vm]; rfl, K.cls, hsame.2.1⟩, [], ⟨⟨_, rfl⟩, hW, hsame⟩, fun q hq => by cases hq⟩
  show Steps p.tables e below (T1.setTop (F0 m (pc + 3) ls [.ref T.heap.size])) _
  jvm_step X₁.here [X₁.here.top, hexec, hb, d3, Value.category]
  exact X₁.ldcString hexec (own := own) (text := txt) (index := ildc) (a := st) hown hcst hev (g := F0 m (pc + 4) ls [.ref T.heap.size, .ref T.heap.size]) rfl (by rw [hb]; exact d4) _ hsteps
