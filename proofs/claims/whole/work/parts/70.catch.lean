/-! Methods with an exception table: their contracts, calls of them; an exception that is caught leaves the pool as it was. -/
def gw_wsW (y : MethodName) (b : ByteArray) (n : Nat) (r : Option FieldType) (hh : List (Nat × Nat × Nat × Nat)) : List Cond := .codeWith y b n r hh :: gw
section CT
variable {p : Program} {l : Launch} {e : Env} {R : Room} {s : State} {m : MethodId} {args : Array Value} {below : List Frame} {meth : Method} {c : Code} {H : Heap} {locs : List Loc} {cells slots : Nat} {Q : State → Prop}
variable {cc : ByteArray} {pc : Nat} {ls : Array Slot} {rest st0 : List Value} {D : va_G} {cl : List vw_C} {A : Nat → Prop} {tys : List (ClassId × FieldType)} {H0 : Heap} {L : List Nat} {f : Nat → va_E}
variable {y : MethodName} {ws ws' : List Cond} {rm : Room} {X : (Nat → Prop) → State → Heap → Prop} {av : List Value} {mc ms : Nat} {hh : List (Nat × Nat × Nat × Nat)}
theorem hp_W.thrown (h : hp_W D cl A H0 L f H locs) {H1 : Heap} (hs : H.size ≤ H1.size) (hq : ∀ a : Nat, a < H.size → H1[a]? = H[a]?) {L9 : List Loc} (hL : ∀ q ∈ L9, False) : hp_W D cl A H0 L f H1 (locs ++ L9) := by
  obtain ⟨h1, h2, ⟨h3, h4, h5⟩, h6⟩ := h
  refine ⟨h1.kept (fun k q hk => hq _ (h1 k q hk).lt), h2, ⟨Nat.le_trans h3 hs, fun q z1 z2 => ?_, fun q hq => ?_⟩, h6⟩
  · rw [hq q (by omega)]; exact h4 q z1 z2
  · rcases List.mem_append.mp hq with z | z
    · exact h5 q z
    · exact (hL q z).elim
theorem hp_ofWW {ret : Option FieldType} {maxL : Nat} {Qc : (Nat → Prop) → Array Value → State → Outcome → State → Prop} {fr : (Nat → Prop) → Addr → Prop} (hy : plainName y.cls = true) (hw : ws = Cond.codeWith y cc maxL ret hh :: ws') (hln : (lg_sl av).length ≤ maxL)
    (body : ∀ (p : Program) (e : Env) (s : State) (m : MethodId) (below : List Frame) (meth : Method) (c : Code) (ls : Array Slot) (A : Nat → Prop), p.tables.exec = Jvm.exec → c.code = cc → c.maxLocals = maxL → meth.sig.returnType = ret → c.exceptionTable.toList.map (fun h => (h.startPc, h.endPc, h.handlerPc, h.catchType)) = hh → (∀ w ∈ ws, w.before av.toArray s = true) → s.vm.findClass y.cls = some m.cls → meth.locks = false → lv_has ls maxL (lv_args 0 av) → va_K D cl tys s → X A s s.heap → hp_W D cl A s.heap L f s.heap [] →
      W p l e rm s m av.toArray below meth c s.heap [] 0 0 (MQ below (Qc A) av.toArray s mc ms (fr A)) (F0 m 0 ls [])) :
    ∀ sz : Nat, Met l y ws rm (hp_Pre D cl tys X av L f sz) (Qc (va_A (va_pl L f) sz)) mc ms (fr (va_A (va_pl L f) sz)) := by
  intro sz
  refine va_MetW (cc := cc) (maxL := maxL) (ret := ret) (hh := hh) hy hw ?_
  intro p e s m args below meth c s₁ B hml hv
  obtain ⟨rfl, hsz, hP, hK, hD0, hX⟩ := hv
  subst hsz
  have hl := lv_entry av (n := maxL) hln
  rw [lg_entry_eq]
  obtain ⟨m9, meth9, c9, hn9, hm9, hc9, -, -, htab, -⟩ := Cond.codeWith_spec (show (Cond.codeWith y cc maxL ret hh).before av.toArray s = true from atoms_spec (ws := ws) B.pre _ (by rw [hw]; exact List.mem_cons_self))
  have e1 : m9 = m := Option.some.inj (hn9.symm.trans B.named)
  subst e1
  have e2 : meth9 = meth := Option.some.inj (hm9.symm.trans B.method)
  subst e2
  have hcc : meth9.code = some c := by
    have h9 := B.here.code
    rw [B.state, State.code?_eq] at h9
    have h8 : s.vm.method? m9 = some meth9 := B.method
    have h7 : (s.setFrames (.java (entryFrame m9 av.toArray maxL) :: below)).vm.method? m9 = some meth9 := h8
    rw [h7] at h9
    exact h9
  have e3 : c9 = c := Option.some.inj (hc9.symm.trans hcc)
  subst e3
  exact body p e s m9 below meth9 c9 _ (va_A (va_pl L f) s.heap.size) B.exec B.bytes hml B.returns htab (atoms_spec (ws := ws) B.pre) (findClass_of_methodNamed B.named) B.notSynchronized hl hK hX ⟨hP, hD0.self, va_S.rf, fun q h => Or.inr h⟩
variable {bytes : ByteArray} {maxL nL n index : Nat} {ret : Option FieldType} {own : String} {Ts : List Cond} {As : List Value} {Qc : Nat → Array Value → State → Outcome → State → Prop} {fr : Nat → Addr → Prop}
theorem hp_runSW (S : CallFix p m c cc nL s args gw own) (hM : ∀ sz : Nat, Met l y (gw_wsW y bytes maxL ret hh) rm (hp_Pre D cl tys X As L f sz) (Qc sz) mc ms (fr sz)) (hcode : Cond.codeWith y bytes maxL ret hh ∈ gw) (hlink : Cond.methodLink own index y ∈ gw) (hstat : Cond.static y ∈ gw) (hini : Cond.initialized y.cls ∈ gw) (hrc : rm.cells = mc) (hrs : rm.slots = ms)
    (hd : y.cls ≠ "java/lang/invoke/MethodHandle" ∧ y.cls ≠ "java/lang/invoke/VarHandle" ∧ (parseMethodDescriptor y.desc).map (fun d => d.parameters.length) = some n) (hR : rm.frames + 1 ≤ R.frames ∧ 8 + (maxL + 11) + rm.locals ≤ R.locals) (hg : ∀ w ∈ gw, w.before args s = true) (hX : hp_Ok X) (hK : va_K D cl tys s) (hXs : X A s s.heap) (h : hp_W D cl A s.heap L f H locs)
    (hn : As.length = n) (hls : ls.size = nL) (hst : st0 = As.reverse ++ rest) (hW : (rest.map fun v => v.category).sum ≤ 8) (hdg : decode cc pc = .ok (.invokestatic index, 3)) (hf : cells + mc ≤ R.cells ∧ slots + ms ≤ R.slots) :
    va_Run p l e R s m args below meth c H locs cells slots mc ms (F0 m pc ls st0) rest (Qc H.size As.toArray) (fr H.size) := by
  have hp := hp_preS hX hK hXs h (As := As)
  have hgood : ∀ w ∈ gw_wsW y bytes maxL ret hh, ∀ (a' : Array Value) (U : State), s.WarmedH U.vm → w.before a' U = true := by
    intro w hw a' U hWm
    rcases List.mem_cons.mp hw with z | z
    · rw [z]; exact word_at hWm (gw_g hcode) (hg _ hcode)
    · exact word_at hWm (gw_g z) (hg _ z)
  have hKb : Back l R p e below s args y 3 8 (PreOf R mc ms (hp_Pre D cl tys X As L f H.size)) (PostOf (Qc H.size) mc ms (fr H.size)) := va_backW (hM H.size) hp.1 hrc hrs hR.1 hR.2 hgood List.mem_cons_self (fun a' U hWm => word_at hWm (gw_g hini) (hg _ hini))
  obtain ⟨hx, hb, hml, ho, -⟩ := S
  intro T hT X9
  obtain ⟨mk, methM, cM, hnamed, hmethM, -, -, -, -, -, -, hsigM⟩ := Cond.codeWith_spec (show (Cond.codeWith y bytes maxL ret hh).before args s = true from hg _ hcode)
  have hstatic : methM.isStatic = true := Cond.static_spec hnamed hmethM (hg _ hstat)
  obtain ⟨kP, hkP, -⟩ := className_of_methodNamed hnamed
  have hinitP : kP.init = .initialized := Cond.initialized_spec (findClass_of_methodNamed hnamed) hkP (hg _ hini)
  have hlen : As.length = methM.sig.parameters.length := by
    have := hd.2.2
    rw [hsigM] at this
    exact hn.trans (Option.some.inj this).symm
  obtain ⟨vm₁, X₁, hstep₁⟩ := X9.invokestatic hx ho (hg _ hlink) hnamed hmethM hstatic hkP hinitP ⟨hd.1, hd.2.1⟩ (g := F0 m pc ls st0) rfl (argsL := As) (rest := rest) hlen hst (by rw [hb]; exact hdg)
  obtain ⟨v, ⟨U', l2, c2, s2⟩, X', hpost, hsteps⟩ := hKb m meth c ⟨T.setVm vm₁, locs, cells, slots⟩ { F0 m pc ls st0 with stack := rest } (.invokestatic index) mk As.toArray X₁ rfl (hls.trans hml.symm) (by rw [hb]; exact hdg) (lv_room hW) (X₁.named hnamed) ⟨hf.1, hf.2, hp.2 (T.setVm vm₁) hT X₁.warmed⟩
  obtain ⟨g', mk', t, L', e1, e2, hq, h1, hL, h2, h3⟩ := hpost
  dsimp only [Pt.U, Pt.locs, Pt.cells, Pt.slots] at X' e1 e2 h1 h2 h3 hsteps
  subst h1; subst h2; subst h3
  exact ⟨v, (T.setVm vm₁).calling g' mk' As.toArray, t, U', L', hT, X', hL, e1, e2, hq, fun target ht => hstep₁ _ fun acts => by rw [doInvoke_state]; exact hsteps.trans ht⟩
/-- a call that throws E, caught by x -/
theorem hp_tcatch {E name : String} {a' : Array Value} {x : ExceptionTableEntry} {pre suf : List ExceptionTableEntry} (hr : th_Run p l e R s m args below meth c H locs cells slots 1 6 (F0 m pc ls st0) rest (hp_QT E a') (fun _ => False)) (hown : s.vm.findClass own = some m.cls) (hsplit : c.exceptionTable.toList = pre ++ x :: suf) (hx : covers x pc = true) (h0 : x.catchType ≠ 0)
    (hlink : (Cond.classLink own x.catchType name).before args s = true) (hcast : (Cond.castable E name).before args s = true) (hpass : ∀ y ∈ pre, covers y pc = false ∨ (y.catchType ≠ 0 ∧ ∃ nm : String, (Cond.classLink own y.catchType nm).before args s = true ∧ va_Nc E nm s)) (h : hp_W D cl A H0 L f H locs)
    (kk : ∀ (q : Addr) (H1 : Heap) (L9 : List Loc), hp_W D cl A H0 L f H1 (locs ++ L9) → W p l e R s m args below meth c H1 (locs ++ L9) (cells + 1) (slots + 6) Q (F0 m x.handlerPc ls [.ref q])) :
    W p l e R s m args below meth c H locs cells slots Q (F0 m pc ls st0) := by
  refine th_catch hr hown hsplit hx h0 hlink hcast hpass (fun q st₀ t hal hq => ?_) (fun q st₀ t L9 hh0 hal hq hL => ?_)
  · obtain ⟨x', cell, h1, h2, h3, h4, h5, h6⟩ := hq
    cases h1
    exact ⟨cell, h3, h4, by rw [← hal.findClass]; exact h5⟩
  · obtain ⟨x', cell, h1, h2, h3, h4, h5, h6⟩ := hq
    rw [hh0] at h2 h6
    exact kk q t.heap L9 (h.thrown h6 h2 hL)
end CT
