/-! Contracts over the whole pool: how one is proved, how a method ends, how one is called. -/
def hp_QR (post : Int32 → Prop) : Array Value → State → Outcome → State → Prop := fun _ st o t => (∃ r : Int32, o = .returned (some (.int r)) ∧ post r) ∧ t.heap = st.heap
def hp_QU (Pt : Prop) : Array Value → State → Outcome → State → Prop := fun _ st o t => o = .returned none ∧ Pt ∧ t.heap = st.heap
def hp_QRr (post : Nat → Prop) : Array Value → State → Outcome → State → Prop := fun _ st o t => (∃ r : Nat, o = .returned (some (.ref r)) ∧ post r) ∧ t.heap = st.heap
def hp_Ri (l : Launch) (y : MethodName) (ws : List Cond) (rm : Room) (D : va_G) (cl : List vw_C) (tys : List (ClassId × FieldType)) (X : (Nat → Prop) → State → Heap → Prop) (av : List Value) (L : List Nat) (f : Nat → va_E) (post : Int32 → Prop) : Prop :=
  ∀ sz : Nat, Met l y ws rm (hp_Pre D cl tys X av L f sz) (hp_QR post) 0 0 (fun _ => False)
def hp_Ru (l : Launch) (y : MethodName) (ws : List Cond) (rm : Room) (D : va_G) (cl : List vw_C) (tys : List (ClassId × FieldType)) (X : (Nat → Prop) → State → Heap → Prop) (av : List Value) (L : List Nat) (f : Nat → va_E) (Pt : Prop) : Prop :=
  ∀ sz : Nat, Met l y ws rm (hp_Pre D cl tys X av L f sz) (hp_QU Pt) 0 0 (fun _ => False)
def hp_Rr (l : Launch) (y : MethodName) (ws : List Cond) (rm : Room) (D : va_G) (cl : List vw_C) (tys : List (ClassId × FieldType)) (X : (Nat → Prop) → State → Heap → Prop) (av : List Value) (L : List Nat) (f : Nat → va_E) (post : Nat → Prop) : Prop :=
  ∀ sz : Nat, Met l y ws rm (hp_Pre D cl tys X av L f sz) (hp_QRr post) 0 0 (fun _ => False)
section HPC
variable {p : Program} {l : Launch} {e : Env} {R : Room} {s : State} {m : MethodId} {args : Array Value} {below : List Frame} {meth : Method} {c : Code} {H : Heap} {locs : List Loc} {cells slots : Nat} {Q : State → Prop}
variable {cc : ByteArray} {pc : Nat} {ls : Array Slot} {rest st0 : List Value} {D : va_G} {cl : List vw_C} {A : Nat → Prop} {tys : List (ClassId × FieldType)} {L : List Nat} {f : Nat → va_E}
variable {X : (Nat → Prop) → State → Heap → Prop} {y : MethodName} {ws ws' : List Cond} {rm : Room} {av : List Value} {mc ms : Nat}
theorem hp_ofW {ret : Option FieldType} {maxL : Nat} {Qc : (Nat → Prop) → Array Value → State → Outcome → State → Prop} {fr : (Nat → Prop) → Addr → Prop} (hy : plainName y.cls = true) (hw : ws = Cond.code y cc maxL ret :: ws') (hln : (lg_sl av).length ≤ maxL)
    (body : ∀ (p : Program) (e : Env) (s : State) (m : MethodId) (below : List Frame) (meth : Method) (c : Code) (ls : Array Slot) (A : Nat → Prop), p.tables.exec = Jvm.exec → c.code = cc → c.maxLocals = maxL → meth.sig.returnType = ret → (∀ w ∈ ws, w.before av.toArray s = true) → s.vm.findClass y.cls = some m.cls → meth.locks = false → meth.name = y.name → lv_has ls maxL (lv_args 0 av) → va_K D cl tys s → X A s s.heap → hp_W D cl A s.heap L f s.heap [] →
      W p l e rm s m av.toArray below meth c s.heap [] 0 0 (MQ below (Qc A) av.toArray s mc ms (fr A)) (F0 m 0 ls [])) :
    ∀ sz : Nat, Met l y ws rm (hp_Pre D cl tys X av L f sz) (Qc (va_A (va_pl L f) sz)) mc ms (fr (va_A (va_pl L f) sz)) := by
  intro sz
  refine Met.ofW (cc := cc) (maxL := maxL) (ret := ret) hy hw ?_
  intro p e s m args below meth c s₁ B hml hv
  obtain ⟨rfl, hsz, hP, hK, hD0, hX⟩ := hv
  subst hsz
  have hl := lv_entry av (n := maxL) hln
  rw [lg_entry_eq]
  exact body p e s m below meth c _ (va_A (va_pl L f) s.heap.size) B.exec B.bytes hml B.returns (atoms_spec (ws := ws) B.pre) (findClass_of_methodNamed B.named) B.notSynchronized (name_of_methodNamed B.named B.method).1 hl hK hX ⟨hP, hD0.self, va_S.rf, fun q h => Or.inr h⟩
/-! ends -/
theorem hp_iret {post : Int32 → hp_U → Prop} (hexec : p.tables.exec = Jvm.exec) (hb : c.code = cc) (hr : meth.sig.returnType = some .int) (hlk : meth.locks = false) (h : hp_W D cl A s.heap L f H locs) {v : Int32} (hp : post v (L, f)) (hc : cells ≤ mc) (hs : slots ≤ ms) (hdg : decode cc pc = .ok (.ireturn, 1)) :
    W p l e R s m args below meth c H locs cells slots (MQ below (va_Qi post (hp_B D cl A) A) args s mc ms A) (F0 m pc ls [.int v]) :=
  W.widen hc hs (W.iret hexec hb hr (fun t ht hW => ⟨⟨v, (L, f), rfl, hp, by rw [ht]; exact h.1, h.2.1⟩, h.2.2.1.F ht⟩) h.2.2.1.2.2 hdg hlk)
theorem hp_zret {post : Int32 → hp_U → Prop} (hexec : p.tables.exec = Jvm.exec) (hb : c.code = cc) (hr : meth.sig.returnType = some .boolean) (hlk : meth.locks = false) (h : hp_W D cl A s.heap L f H locs) {v : Int32} (hn : narrow .boolean (.int v) = .int v) (hp : post v (L, f)) (hc : cells ≤ mc) (hs : slots ≤ ms) (hdg : decode cc pc = .ok (.ireturn, 1)) :
    W p l e R s m args below meth c H locs cells slots (MQ below (va_Qi post (hp_B D cl A) A) args s mc ms A) (F0 m pc ls [.int v]) :=
  W.widen hc hs (W.zret hexec hb hr hn (fun t ht hW => ⟨⟨v, (L, f), rfl, hp, by rw [ht]; exact h.1, h.2.1⟩, h.2.2.1.F ht⟩) h.2.2.1.2.2 hdg hlk)
theorem hp_vret {post : hp_U → Prop} (hexec : p.tables.exec = Jvm.exec) (hb : c.code = cc) (hr : meth.sig.returnType = none) (hlk : meth.locks = false) (h : hp_W D cl A s.heap L f H locs) (hp : post (L, f)) (hc : cells ≤ mc) (hs : slots ≤ ms) (hdg : decode cc pc = .ok (.return_, 1)) :
    W p l e R s m args below meth c H locs cells slots (MQ below (va_Qv post (hp_B D cl A) A) args s mc ms A) (F0 m pc ls []) :=
  W.widen hc hs (W.vret hexec hb hr (fun t ht hW => ⟨⟨(L, f), rfl, hp, by rw [ht]; exact h.1, h.2.1⟩, h.2.2.1.F ht⟩) h.2.2.1.2.2 hdg hlk)
theorem hp_aret {post : Nat → hp_U → Prop} {rt : FieldType} (hexec : p.tables.exec = Jvm.exec) (hb : c.code = cc) (hr : meth.sig.returnType = some rt) (hrt : (∃ n, rt = .object n) ∨ ∃ t, rt = .array t) (hlk : meth.locks = false) (h : hp_W D cl A s.heap L f H locs) {a : Nat} (hp : post a (L, f)) (hc : cells ≤ mc) (hs : slots ≤ ms) (hdg : decode cc pc = .ok (.areturn, 1)) :
    W p l e R s m args below meth c H locs cells slots (MQ below (va_Qr (fun _ => True) (hp_Br D cl A post) A) args s mc ms A) (F0 m pc ls [.ref a]) :=
  W.widen hc hs (W.aret hexec hb hr hrt (Or.inr ⟨a, rfl⟩) (fun t ht hW => ⟨⟨(L, f), a, rfl, trivial, hp, by rw [ht]; exact h.1, h.2.1⟩, h.2.2.1.F ht⟩) h.2.2.1.2.2 hdg hlk)
/-! calls: the run -/
theorem hp_preS (hX : hp_Ok X) (hK : va_K D cl tys s) (hXs : X A s s.heap) (h : hp_W D cl A s.heap L f H locs) {As : List Value} : PreS s H (hp_Pre D cl tys X As L f H.size) As := by
  refine ⟨hp_blind hX, fun U hU hWm => ⟨rfl, by rw [hU], by rw [hU]; exact h.1, va_K.moved hWm.alike hK, h.2.1.weaken (fun _ _ _ _ => trivial), ?_⟩⟩
  rw [hU]
  exact hX.2.2.2 A _ U H h.sub (hX.2.1 A s U H hWm (hX.2.2.1 A s s.heap H h.2.2.1.2.1 hXs))
variable {bytes : ByteArray} {maxL nL n index : Nat} {ret : Option FieldType} {C own host : String} {Ts : List Cond} {b : Nat} {As : List Value} {Qc : Nat → Array Value → State → Outcome → State → Prop} {fr : Nat → Addr → Prop}
theorem hp_runV (S : CallFix p m c cc nL s args Ts own) (hM : ∀ sz : Nat, Met l y ws rm (hp_Pre D cl tys X (.ref b :: As) L f sz) (Qc sz) mc ms (fr sz)) (cw : CallW R s args own C index y bytes maxL ret ws rm mc ms n) (hX : hp_Ok X) (hK : va_K D cl tys s) (hXs : X A s s.heap) (h : hp_W D cl A s.heap L f H locs)
    {ci : Nat} {r : vw_C} {fs : List Value} (hrc : hp_at L f b (.inr (ci, fs))) (hc : cl[ci]? = some r) (hC : r.1 = C) (hn : As.length = n) (hls : ls.size = nL) (hst : st0 = As.reverse ++ .ref b :: rest) (hW : (rest.map fun v => v.category).sum ≤ 8) (hdg : decode cc pc = .ok (.invokevirtual index, 3)) (hf : cells + mc ≤ R.cells ∧ slots + ms ≤ R.slots) :
    va_Run p l e R s m args below meth c H locs cells slots mc ms (F0 m pc ls st0) rest (Qc H.size (Value.ref b :: As).toArray) (fr H.size) := by
  obtain ⟨q0, hq⟩ := hrc.i
  subst hC
  exact va_runV S (hM H.size) cw ⟨(hp_preS hX hK hXs h).1, va_recv hK h.1 hc hq, (hp_preS hX hK hXs h).2⟩ rfl hn hls hst (lv_room hW) hdg hf
theorem hp_runS (S : CallFix p m c cc nL s args Ts own) (hM : ∀ sz : Nat, Met l y ws rm (hp_Pre D cl tys X As L f sz) (Qc sz) mc ms (fr sz)) (cw : CallB R s args own index y bytes maxL ret ws rm mc ms n ∧ (Cond.static y).before args s = true) (hX : hp_Ok X) (hK : va_K D cl tys s) (hXs : X A s s.heap) (h : hp_W D cl A s.heap L f H locs)
    (hn : As.length = n) (hls : ls.size = nL) (hst : st0 = As.reverse ++ rest) (hW : (rest.map fun v => v.category).sum ≤ 8) (hdg : decode cc pc = .ok (.invokestatic index, 3)) (hf : cells + mc ≤ R.cells ∧ slots + ms ≤ R.slots) :
    va_Run p l e R s m args below meth c H locs cells slots mc ms (F0 m pc ls st0) rest (Qc H.size As.toArray) (fr H.size) :=
  va_runS S (hM H.size) cw (hp_preS hX hK hXs h) rfl hn hls hst (lv_room hW) hdg hf
theorem hp_runI (S : CallFix p m c cc nL s args Ts own) (hM : ∀ sz : Nat, Met l y ws rm (hp_Pre D cl tys X (.ref b :: As) L f sz) (Qc sz) mc ms (fr sz)) (cw : CallB R s args own index y bytes maxL none ws rm mc ms n ∧ y.name = "<init>" ∧ (Cond.instanceMethod y).before args s = true) (hX : hp_Ok X) (hK : va_K D cl tys s) (hXs : X A s s.heap) (h : hp_W D cl A s.heap L f H locs)
    (hn : As.length = n) (hls : ls.size = nL) (hst : st0 = As.reverse ++ .ref b :: rest) (hW : (rest.map fun v => v.category).sum ≤ 8) (hdg : decode cc pc = .ok (.invokespecial index, 3)) (hf : cells + mc ≤ R.cells ∧ slots + ms ≤ R.slots) :
    va_Run p l e R s m args below meth c H locs cells slots mc ms (F0 m pc ls st0) rest (Qc H.size (Value.ref b :: As).toArray) (fr H.size) :=
  va_runI S (hM H.size) cw (hp_preS hX hK hXs h) rfl hn hls hst (lv_room hW) hdg hf
theorem hp_runVN (S : CallFix p m c cc nL s args Ts own) (hM : ∀ sz : Nat, Met l y ws rm (hp_Pre D cl tys X (.ref b :: As) L f sz) (Qc sz) mc ms (fr sz)) (cw : va_CN R s args own index y host bytes maxL ret ws rm mc ms n ∧ (Cond.instanceMethod y).before args s = true ∧ (Cond.selects C y y).before args s = true) (hX : hp_Ok X) (hK : va_K D cl tys s) (hXs : X A s s.heap) (h : hp_W D cl A s.heap L f H locs)
    {ci : Nat} {r : vw_C} {fs : List Value} (hrc : hp_at L f b (.inr (ci, fs))) (hc : cl[ci]? = some r) (hC : r.1 = C) (hn : As.length = n) (hls : ls.size = nL) (hst : st0 = As.reverse ++ .ref b :: rest) (hW : (rest.map fun v => v.category).sum ≤ 8) (hdg : decode cc pc = .ok (.invokevirtual index, 3)) (hf : cells + mc ≤ R.cells ∧ slots + ms ≤ R.slots) :
    va_Run p l e R s m args below meth c H locs cells slots mc ms (F0 m pc ls st0) rest (Qc H.size (Value.ref b :: As).toArray) (fr H.size) := by
  obtain ⟨q0, hq⟩ := hrc.i
  subst hC
  exact va_runVN S (hM H.size) cw ⟨(hp_preS hX hK hXs h).1, va_recv hK h.1 hc hq, (hp_preS hX hK hXs h).2⟩ rfl hn hls hst (lv_room hW) hdg hf
theorem hp_runIN (S : CallFix p m c cc nL s args Ts own) (hM : ∀ sz : Nat, Met l y ws rm (hp_Pre D cl tys X (.ref b :: As) L f sz) (Qc sz) mc ms (fr sz)) (cw : va_CN R s args own index y host bytes maxL none ws rm mc ms n ∧ y.name = "<init>" ∧ (Cond.instanceMethod y).before args s = true) (hX : hp_Ok X) (hK : va_K D cl tys s) (hXs : X A s s.heap) (h : hp_W D cl A s.heap L f H locs)
    (hn : As.length = n) (hls : ls.size = nL) (hst : st0 = As.reverse ++ .ref b :: rest) (hW : (rest.map fun v => v.category).sum ≤ 8) (hdg : decode cc pc = .ok (.invokespecial index, 3)) (hf : cells + mc ≤ R.cells ∧ slots + ms ≤ R.slots) :
    va_Run p l e R s m args below meth c H locs cells slots mc ms (F0 m pc ls st0) rest (Qc H.size (Value.ref b :: As).toArray) (fr H.size) :=
  va_runIN S (hM H.size) cw (hp_preS hX hK hXs h) rfl hn hls hst (lv_room hW) hdg hf
/-! calls: what goes on -/
theorem hp_calli {post : Int32 → hp_U → Prop} {a : Array Value} (hr : va_Run p l e R s m args below meth c H locs cells slots mc ms (F0 m pc ls st0) rest (va_Qi post (hp_B D cl (va_A (va_pl L f) H.size)) (va_A (va_pl L f) H.size) a) (va_A (va_pl L f) H.size)) (h : hp_W D cl A s.heap L f H locs)
    (kk : ∀ (r : Int32) (L1 : List Nat) (f1 : Nat → va_E) (H1 : Heap) (locs1 : List Loc), post r (L1, f1) → hp_W D cl A s.heap L1 f1 H1 locs1 → W p l e R s m args below meth c H1 locs1 (cells + mc) (slots + ms) Q (F0 m (pc + 3) ls (.int r :: rest))) : W p l e R s m args below meth c H locs cells slots Q (F0 m pc ls st0) := by
  refine va_calli hr h.2.2.1 (fun q _ hq => h.sub q hq) h.sub (fun r u t H1 locs1 ht hvm hpost hB hz hk hS => ?_)
  obtain ⟨L1, f1⟩ := u
  exact kk r L1 f1 H1 locs1 hpost ⟨by rw [← ht]; exact hB.1, hB.2.weaken (fun k q _ hq => h.sub q.1 hq), hS, h.2.2.2⟩
theorem hp_callv {post : hp_U → Prop} {a : Array Value} (hr : va_Run p l e R s m args below meth c H locs cells slots mc ms (F0 m pc ls st0) rest (va_Qv post (hp_B D cl (va_A (va_pl L f) H.size)) (va_A (va_pl L f) H.size) a) (va_A (va_pl L f) H.size)) (h : hp_W D cl A s.heap L f H locs)
    (kk : ∀ (L1 : List Nat) (f1 : Nat → va_E) (H1 : Heap) (locs1 : List Loc), post (L1, f1) → hp_W D cl A s.heap L1 f1 H1 locs1 → W p l e R s m args below meth c H1 locs1 (cells + mc) (slots + ms) Q (F0 m (pc + 3) ls rest)) : W p l e R s m args below meth c H locs cells slots Q (F0 m pc ls st0) := by
  refine va_callv hr h.2.2.1 (fun q _ hq => h.sub q hq) h.sub (fun u t H1 locs1 ht hvm hpost hB hz hk hS => ?_)
  obtain ⟨L1, f1⟩ := u
  exact kk L1 f1 H1 locs1 hpost ⟨by rw [← ht]; exact hB.1, hB.2.weaken (fun k q _ hq => h.sub q.1 hq), hS, h.2.2.2⟩
theorem hp_callr {post : Nat → hp_U → Prop} {a : Array Value} (hr : va_Run p l e R s m args below meth c H locs cells slots mc ms (F0 m pc ls st0) rest (va_Qr (fun _ => True) (hp_Br D cl (va_A (va_pl L f) H.size) post) (va_A (va_pl L f) H.size) a) (va_A (va_pl L f) H.size)) (h : hp_W D cl A s.heap L f H locs)
    (kk : ∀ (r : Nat) (L1 : List Nat) (f1 : Nat → va_E) (H1 : Heap) (locs1 : List Loc), post r (L1, f1) → hp_W D cl A s.heap L1 f1 H1 locs1 → W p l e R s m args below meth c H1 locs1 (cells + mc) (slots + ms) Q (F0 m (pc + 3) ls (.ref r :: rest))) : W p l e R s m args below meth c H locs cells slots Q (F0 m pc ls st0) := by
  refine va_callr hr h.2.2.1 (fun q _ hq => h.sub q hq) h.sub (fun u ra t H1 locs1 ht hvm _ hB hz hk hS => ?_)
  obtain ⟨L1, f1⟩ := u
  exact kk ra L1 f1 H1 locs1 hB.1 ⟨by rw [← ht]; exact hB.2.1, hB.2.2.weaken (fun k q _ hq => h.sub q.1 hq), hS, h.2.2.2⟩
/-! methods that only read: the heap stays, nothing is made; an int comes back, or nothing -/
theorem hp_callR {post : Int32 → Prop} {a : Array Value} (hr : va_Run p l e R s m args below meth c H locs cells slots 0 0 (F0 m pc ls st0) rest (hp_QR post a) (fun _ => False))
    (kk : ∀ r : Int32, post r → W p l e R s m args below meth c H locs cells slots Q (F0 m (pc + 3) ls (.int r :: rest))) : W p l e R s m args below meth c H locs cells slots Q (F0 m pc ls st0) := by
  intro T hT X
  obtain ⟨v, st₀, t, T', Lc, h0, X', hL, e1, e2, ⟨⟨r, hv, hp⟩, hh⟩, st⟩ := hr T hT X
  cases hv
  have hn : Lc = [] := by
    cases Lc with
    | nil => rfl
    | cons q t => exact (hL q List.mem_cons_self).elim
  subst hn
  rw [List.append_nil] at X'
  obtain ⟨t2, a1, b1⟩ := kk r hp T' (by rw [e1, hh, h0]) X'
  exact ⟨t2, st t2 a1, b1⟩
theorem hp_callU {a : Array Value} {Pt : Prop} (hr : va_Run p l e R s m args below meth c H locs cells slots 0 0 (F0 m pc ls st0) rest (hp_QU Pt a) (fun _ => False))
    (kk : Pt → W p l e R s m args below meth c H locs cells slots Q (F0 m (pc + 3) ls rest)) : W p l e R s m args below meth c H locs cells slots Q (F0 m pc ls st0) := by
  intro T hT X
  obtain ⟨v, st₀, t, T', Lc, h0, X', hL, e1, e2, ⟨hv, hp, hh⟩, st⟩ := hr T hT X
  cases hv
  have hn : Lc = [] := by
    cases Lc with
    | nil => rfl
    | cons q t => exact (hL q List.mem_cons_self).elim
  subst hn
  rw [List.append_nil] at X'
  obtain ⟨t2, a1, b1⟩ := kk hp T' (by rw [e1, hh, h0]) X'
  exact ⟨t2, st t2 a1, b1⟩
theorem hp_callRr {post : Nat → Prop} {a : Array Value} (hr : va_Run p l e R s m args below meth c H locs cells slots 0 0 (F0 m pc ls st0) rest (hp_QRr post a) (fun _ => False))
    (kk : ∀ r : Nat, post r → W p l e R s m args below meth c H locs cells slots Q (F0 m (pc + 3) ls (.ref r :: rest))) : W p l e R s m args below meth c H locs cells slots Q (F0 m pc ls st0) := by
  intro T hT X
  obtain ⟨v, st₀, t, T', Lc, h0, X', hL, e1, e2, ⟨⟨r, hv, hp⟩, hh⟩, st⟩ := hr T hT X
  cases hv
  have hn : Lc = [] := by
    cases Lc with
    | nil => rfl
    | cons q t => exact (hL q List.mem_cons_self).elim
  subst hn
  rw [List.append_nil] at X'
  obtain ⟨t2, a1, b1⟩ := kk r hp T' (by rw [e1, hh, h0]) X'
  exact ⟨t2, st t2 a1, b1⟩
theorem hp_riret {post : Int32 → Prop} (hexec : p.tables.exec = Jvm.exec) (hb : c.code = cc) (hr : meth.sig.returnType = some .int) (hlk : meth.locks = false) {v : Int32} (hp : post v) (hdg : decode cc pc = .ok (.ireturn, 1)) :
    W p l e R s m args below meth c s.heap [] 0 0 (MQ below (hp_QR post) args s 0 0 (fun _ => False)) (F0 m pc ls [.int v]) :=
  W.iret hexec hb hr (fun t ht hW => ⟨⟨v, rfl, hp⟩, ht⟩) (fun q hq => by cases hq) hdg hlk
theorem hp_rzret {post : Int32 → Prop} (hexec : p.tables.exec = Jvm.exec) (hb : c.code = cc) (hr : meth.sig.returnType = some .boolean) (hlk : meth.locks = false) {v : Int32} (hn : narrow .boolean (.int v) = .int v) (hp : post v) (hdg : decode cc pc = .ok (.ireturn, 1)) :
    W p l e R s m args below meth c s.heap [] 0 0 (MQ below (hp_QR post) args s 0 0 (fun _ => False)) (F0 m pc ls [.int v]) :=
  W.zret hexec hb hr hn (fun t ht hW => ⟨⟨v, rfl, hp⟩, ht⟩) (fun q hq => by cases hq) hdg hlk
theorem hp_rvret {Pt : Prop} (hexec : p.tables.exec = Jvm.exec) (hb : c.code = cc) (hr : meth.sig.returnType = none) (hlk : meth.locks = false) (hp : Pt) (hdg : decode cc pc = .ok (.return_, 1)) :
    W p l e R s m args below meth c s.heap [] 0 0 (MQ below (hp_QU Pt) args s 0 0 (fun _ => False)) (F0 m pc ls []) :=
  W.vret hexec hb hr (fun t ht hW => ⟨rfl, hp, ht⟩) (fun q hq => by cases hq) hdg hlk
theorem hp_raret {post : Nat → Prop} {rt : FieldType} (hexec : p.tables.exec = Jvm.exec) (hb : c.code = cc) (hr : meth.sig.returnType = some rt) (hrt : (∃ n, rt = .object n) ∨ ∃ t, rt = .array t) (hlk : meth.locks = false) {v : Nat} (hp : post v) (hdg : decode cc pc = .ok (.areturn, 1)) :
    W p l e R s m args below meth c s.heap [] 0 0 (MQ below (hp_QRr post) args s 0 0 (fun _ => False)) (F0 m pc ls [.ref v]) :=
  W.aret hexec hb hr hrt (Or.inr ⟨v, rfl⟩) (fun t ht hW => ⟨⟨v, rfl, hp⟩, ht⟩) (fun q hq => by cases hq) hdg hlk
end HPC
