/-! A method of the class that makes an exception and throws it. -/
def hp_QT (E : String) : Array Value → State → Outcome → State → Prop := fun _ st o t => ∃ (x : Addr) (cell : Cell), o = .threw x ∧ (∀ a : Nat, a < st.heap.size → t.heap[a]? = st.heap[a]?) ∧ t.heap[x]? = some cell ∧ cell.vm.isStatics = false ∧ st.vm.findClass E = some cell.cls ∧ st.heap.size ≤ t.heap.size
def hp_T (l : Launch) (y : MethodName) (ws : List Cond) (rm : Room) (D : va_G) (cl : List vw_C) (tys : List (ClassId × FieldType)) (X : (Nat → Prop) → State → Heap → Prop) (av : List Value) (L : List Nat) (f : Nat → va_E) (E : String) : Prop :=
  ∀ sz : Nat, th_Met l y ws rm (hp_Pre D cl tys X av L f sz) (hp_QT E) 1 6 (fun _ => False)
def th_word (w : Cond) : Bool := (decide (w ∈ lw_tbl) && (goodWord w || s_k w)) || decide (w = .isRef (.static "java/lang/Throwable" "UNASSIGNED_STACK" "[Ljava/lang/StackTraceElement;")) || decide (w = .isRef (.static "java/lang/Throwable" "SUPPRESSED_SENTINEL" "Ljava/util/List;")) || decide (w = .laysStatic "java/lang/Throwable" "UNASSIGNED_STACK" "[Ljava/lang/StackTraceElement;") || decide (w = .laysStatic "java/lang/Throwable" "SUPPRESSED_SENTINEL" "Ljava/util/List;")
theorem th_atoms {args : Array Value} {s : State} {de : Nat} {sa : Nat → Nat} {A : Nat → Prop} (hg : ∀ w ∈ gw, w.before args s = true) (hX : s_X de sa A s s.heap) {atoms : List Cond} (h : atoms.all th_word = true) : ∀ a ∈ atoms, a.before args s = true := by
  intro a ha
  have h1 := List.all_eq_true.mp h a ha
  unfold th_word at h1
  simp only [Bool.or_eq_true, Bool.and_eq_true, decide_eq_true_eq] at h1
  rcases h1 with (((⟨h1, h2 | h2⟩ | h1) | h1) | h1) | h1
  · exact hg a (List.mem_filter.mpr ⟨h1, h2⟩)
  · exact s_N hX (List.mem_filter.mpr ⟨h1, h2⟩)
  · rw [h1]; exact hX.2.2.2.2.2.1.ref
  · rw [h1]; exact hX.2.2.2.2.2.2.1.ref
  · rw [h1]; exact hX.2.2.2.2.2.1.lays
  · rw [h1]; exact hX.2.2.2.2.2.2.1.lays
theorem th_raise {p : Program} {l : Launch} {e : Env} {R : Room} {s : State} {m : MethodId} {args : Array Value} {below : List Frame} {meth : Method} {c : Code} {cc : ByteArray} {pc : Nat} {ls : Array Slot} {own C txt : String} {inew ildc ic st : Nat} {names : List String} {free : Addr → Prop} {de : Nat} {sa : Nat → Nat} {A : Nat → Prop}
    (hexec : p.tables.exec = Jvm.exec) (hb : c.code = cc) (hoff : th_Off l) (hown : s.vm.findClass own = some m.cls) (hlk : meth.locks = false) (hsz : ls.size = c.maxLocals) (hg : ∀ w ∈ gw, w.before args s = true) (hX : s_X de sa A s s.heap)
    (hcl : (Cond.classLink own inew C).before args s = true) (hini : (Cond.initialized C).before args s = true) (hstr : vk_R own ildc txt st s)
    (hat : (Bundle.ownAtoms own ic C names).all th_word = true) (hC : Bundle.fit C = true) (hn : ∀ n ∈ names, Bundle.fit n = true) (hout : ∀ x ∈ c.exceptionTable.toList, covers x (pc + 9) = false)
    (d0 : decode cc pc = .ok (.new inew, 3)) (d3 : decode cc (pc + 3) = .ok (.dup, 1)) (d4 : decode cc (pc + 4) = .ok (.ldc ildc, 2)) (d6 : decode cc (pc + 6) = .ok (.invokespecial ic, 3)) (d9 : decode cc (pc + 9) = .ok (.athrow, 1))
    (hRf : names.length + 3 < R.frames) (hRl : 13 * (names.length + 1) + 50 ≤ R.locals) (hRc : 1 ≤ R.cells) (hRs : 6 ≤ R.slots) :
    W p l e R s m args below meth c s.heap [] 0 0 (th_MQ below (hp_QT C) args s 1 6 free) (F0 m pc ls []) := by
  intro T hT X
  have htr : e.platform.stackTraces = false := hoff e X.admits
  have hats := th_atoms hg hX hat
  obtain ⟨vm₁, cX, kX, hfX, hkX, -, -, X₁, st1⟩ := X.newCold hexec (own := own) (C := C) (index := inew) (n := 6) hown hcl (hats _ (by simp [Bundle.ownAtoms])) hini (g := F0 m pc ls []) rfl (by rw [hb]; exact d0) (by omega) (by omega)
  have hcellA : ((T.setVm vm₁).pushCell { cls := cX, slots := kX.instanceTypes.map defaultValue, vm := .none }).heap[T.heap.size]? = some (freshCell cX kX) := State.heap_pushCell_size _ _
  generalize hU : (T.setVm vm₁).pushCell { cls := cX, slots := kX.instanceTypes.map defaultValue, vm := .none } = T1 at X₁ st1 hcellA
  obtain ⟨U, hsteps, hrun, hend, hW, hsame, ce, hce, K⟩ := X₁.ctorThrowS hexec htr (own := own) (cls := C) (names := names) (ic := ic) hown hC hn hats (fun y hy => by cases hy) hfX hkX hcellA (by rw [hT]; exact Nat.le_refl _) (msg := .ref st) rfl
    (g := F0 m (pc + 6) ls [.ref st, .ref T.heap.size, .ref T.heap.size]) rfl hsz rfl rfl (rest := []) rfl (by rw [hb]; exact d6) (by rw [hb]; exact d9) hout hRf (by simp [F0, JFrame.monitorRoom, Value.category]; omega) hlk
  have hev : (Term.string own ildc).eval args s none [] s = some (.ref st) := by have := hstr.2; simp only [Term.eval] at this ⊢; exact this
  have hcst : (Cond.stringRef own ildc txt).before args s = true := by have := hstr.1; simp only [Cond.before, Cond.holds, Cond.value, Term.eval] at this ⊢; exact this
  refine ⟨U, st1 _ ?_, .threw T.heap.size, hrun, hend, ⟨T.heap.size, ce, rfl, (fun a ha => by have h9 := th_same hsame a ha; exact h9), hce, by rw [K.vm]; rfl, K.cls, hsame.2.1⟩, [], ⟨⟨_, rfl⟩, hW, hsame⟩, fun q hq => by cases hq⟩
  show Steps p.tables e below (T1.setTop (F0 m (pc + 3) ls [.ref T.heap.size])) _
  jvm_step X₁.here [X₁.here.top, hexec, hb, d3, Value.category]
  exact X₁.ldcString hexec (own := own) (text := txt) (index := ildc) (a := st) hown hcst hev (g := F0 m (pc + 4) ls [.ref T.heap.size, .ref T.heap.size]) rfl (by rw [hb]; exact d4) _ hsteps
section HT
variable {l : Launch} {y : MethodName} {ws ws' : List Cond} {rm : Room} {D : va_G} {cl : List vw_C} {tys : List (ClassId × FieldType)} {X : (Nat → Prop) → State → Heap → Prop} {av : List Value} {L : List Nat} {f : Nat → va_E} {E : String} {cc : ByteArray}
theorem th_ofW {ret : Option FieldType} {maxL : Nat} (hy : plainName y.cls = true) (hw : ws = Cond.code y cc maxL ret :: ws') (hln : (lg_sl av).length ≤ maxL)
    (body : ∀ (p : Program) (e : Env) (s : State) (m : MethodId) (below : List Frame) (meth : Method) (c : Code) (ls : Array Slot) (A : Nat → Prop), p.tables.exec = Jvm.exec → c.code = cc → c.maxLocals = maxL → (∀ (pc : Nat), ∀ x ∈ c.exceptionTable.toList, covers x pc = false) → (∀ w ∈ ws, w.before av.toArray s = true) → s.vm.findClass y.cls = some m.cls → meth.locks = false → lv_has ls maxL (lv_args 0 av) → va_K D cl tys s → X A s s.heap → hp_W D cl A s.heap L f s.heap [] →
      W p l e rm s m av.toArray below meth c s.heap [] 0 0 (th_MQ below (hp_QT E) av.toArray s 1 6 (fun _ => False)) (F0 m 0 ls [])) :
    hp_T l y ws rm D cl tys X av L f E := by
  intro sz
  refine th_Met.ofW (cc := cc) (maxL := maxL) (ret := ret) hy hw ?_
  intro p e s m args below meth c s₁ B hml hv
  obtain ⟨rfl, hsz, hP, hK, hD0, hX⟩ := hv
  subst hsz
  have hl := lv_entry av (n := maxL) hln
  rw [lg_entry_eq]
  have hcode : (Cond.code y cc maxL ret).before av.toArray s = true := atoms_spec (ws := ws) B.pre _ (by rw [hw]; exact List.mem_cons_self)
  exact body p e s m below meth c _ (va_A (va_pl L f) s.heap.size) B.exec B.bytes hml (fun pc => covers_of_empty (B.noHandlers hcode) pc) (atoms_spec (ws := ws) B.pre) (findClass_of_methodNamed B.named) B.notSynchronized hl hK hX ⟨hP, hD0.self, va_S.rf, fun q h => Or.inr h⟩
variable {p : Program} {e : Env} {R : Room} {s : State} {m : MethodId} {args : Array Value} {below : List Frame} {meth : Method} {c : Code} {H : Heap} {locs : List Loc} {cells slots : Nat} {Q : State → Prop}
variable {pc : Nat} {ls : Array Slot} {rest st0 : List Value} {A : Nat → Prop} {bytes : ByteArray} {maxL nL n index : Nat} {ret : Option FieldType} {C own : String} {Ts : List Cond} {b : Nat} {As : List Value}
theorem hp_trunV (S : CallFix p m c cc nL s args Ts own) (hM : hp_T l y ws rm D cl tys X (.ref b :: As) L f E) (cw : CallW R s args own C index y bytes maxL ret ws rm 1 6 n) (hX : hp_Ok X) (hK : va_K D cl tys s) (hXs : X A s s.heap) (h : hp_W D cl A s.heap L f H locs)
    {ci : Nat} {r : vw_C} {fs : List Value} (hrc : hp_at L f b (.inr (ci, fs))) (hc : cl[ci]? = some r) (hC : r.1 = C) (hn : As.length = n) (hls : ls.size = nL) (hst : st0 = As.reverse ++ .ref b :: rest) (hW : (rest.map fun v => v.category).sum ≤ 8) (hdg : decode cc pc = .ok (.invokevirtual index, 3)) (hf : cells + 1 ≤ R.cells ∧ slots + 6 ≤ R.slots) :
    th_Run p l e R s m args below meth c H locs cells slots 1 6 (F0 m pc ls st0) rest (hp_QT E (Value.ref b :: As).toArray) (fun _ => False) := by
  obtain ⟨q0, hq⟩ := hrc.i
  subst hC
  exact th_runV S (hM H.size) cw ⟨(hp_preS hX hK hXs h).1, va_recv hK h.1 hc hq, (hp_preS hX hK hXs h).2⟩ rfl hn hls hst (lv_room hW) hdg hf
/-- it goes out of this method too -/
theorem hp_tpass {a' : Array Value} {free' : Addr → Prop} (hr : th_Run p l e R s m args below meth c s.heap [] 0 0 1 6 (F0 m pc ls st0) rest (hp_QT E a') (fun _ => False)) (hno : ∀ (pc : Nat), ∀ x ∈ c.exceptionTable.toList, covers x pc = false) (hlk : meth.locks = false) :
    W p l e R s m args below meth c s.heap [] 0 0 (th_MQ below (hp_QT E) args s 1 6 free') (F0 m pc ls st0) := by
  refine th_pass hr (hno pc) hlk (fun q hq => by cases hq) (fun q hq => hq.elim) (Nat.le_refl _) (Nat.le_refl _) (fun x st₀ t u h0 hal hq hu _ => ?_)
  obtain ⟨x', cell, h1, h2, h3, h4, h5, h6⟩ := hq
  cases h1
  exact ⟨x, cell, rfl, fun a ha => by rw [hu]; rw [← h0] at ha; rw [h2 a ha, h0], by rw [hu]; exact h3, h4, by rw [← hal.findClass]; exact h5, by rw [hu, ← h0]; exact h6⟩
end HT
theorem at_IO : (Bundle.ownAtoms "MergingFragments" 128 "java/lang/IndexOutOfBoundsException" ["java/lang/RuntimeException", "java/lang/Exception"]).all th_word = true := by decide +kernel
theorem at_IA : (Bundle.ownAtoms "MergingFragments" 42 "java/lang/IllegalArgumentException" ["java/lang/RuntimeException", "java/lang/Exception"]).all th_word = true := by decide +kernel
theorem at_IS : (Bundle.ownAtoms "MergingFragments" 67 "java/lang/IllegalStateException" ["java/lang/RuntimeException", "java/lang/Exception"]).all th_word = true := by decide +kernel
theorem at_ft : Bundle.fit "java/lang/IndexOutOfBoundsException" = true ∧ Bundle.fit "java/lang/IllegalArgumentException" = true ∧ Bundle.fit "java/lang/IllegalStateException" = true ∧ ∀ n ∈ ["java/lang/RuntimeException", "java/lang/Exception"], Bundle.fit n = true := by decide +kernel
