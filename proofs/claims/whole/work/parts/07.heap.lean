/-! The whole heap of class, reference and law as ONE pool: a list L of addresses, and f, what lies there. Rows of the kit said anew over it; contracts that are given the whole pool and give the whole pool back. -/
def hp_W (D : va_G) (cl : List vw_C) (A : Nat → Prop) (H0 : Heap) (L : List Nat) (f : Nat → va_E) (H : Heap) (locs : List Loc) : Prop :=
  va_P D cl (va_pl L f) H ∧ va_D A (va_pl L f) ∧ va_S A H0 H locs ∧ ∀ q : Nat, H0.size ≤ q → A q
def hp_at (L : List Nat) (f : Nat → va_E) (a : Nat) (e : va_E) : Prop := a ∈ L ∧ f a = e
theorem hp_at.i {L : List Nat} {f : Nat → va_E} {a : Nat} {e : va_E} (h : hp_at L f a e) : ∃ k : Nat, (va_pl L f)[k]? = some (a, e) := by
  obtain ⟨k, hk⟩ := va_pl_get (X := []) (f := f) h.1
  rw [h.2] at hk
  exact ⟨k, hk⟩
theorem hp_at.self {L : List Nat} {f : Nat → va_E} {a : Nat} {e e' : va_E} (h : hp_at L f a e) : hp_at L (va_up f a e') a e' := ⟨h.1, va_up_self _ _ _⟩
theorem hp_at.ne {L : List Nat} {f : Nat → va_E} {a b : Nat} {e e' : va_E} (h : hp_at L f a e) (hb : a ≠ b) : hp_at L (va_up f b e') a e := ⟨h.1, by rw [va_up_ne _ _ hb]; exact h.2⟩
theorem hp_at.push {L : List Nat} {f : Nat → va_E} {a q : Nat} {e e' : va_E} (h : hp_at L f a e) (hq : q ∉ L) : hp_at (L ++ [q]) (va_up f q e') a e :=
  ⟨List.mem_append_left _ h.1, by
    have hne : a ≠ q := fun z => hq (z ▸ h.1)
    rw [va_up_ne _ _ hne]
    exact h.2⟩
theorem hp_at.new (L : List Nat) (f : Nat → va_E) (q : Nat) (e : va_E) : hp_at (L ++ [q]) (va_up f q e) q e := ⟨List.mem_append_right _ (List.mem_singleton.mpr rfl), va_up_self _ _ _⟩
theorem hp_at.apart {L : List Nat} {f : Nat → va_E} {a b : Nat} {e e' : va_E} (h : hp_at L f a e) (h' : hp_at L f b e') (hne : e ≠ e') : a ≠ b := fun z => hne (by rw [← h.2, ← h'.2, z])
theorem hp_set {A : Nat → Prop} {L : List Nat} {f : Nat → va_E} {a k : Nat} {e0 : va_E} (e : va_E) (hD : va_D A (va_pl L f)) (h : hp_at L f a e0) (hk : (va_pl L f)[k]? = some (a, e0)) : (va_pl L f).set k (a, e) = va_pl L (va_up f a e) := by
  have h2 : (va_pl L f)[k]? = some (a, f a) := by rw [h.2]; exact hk
  exact va_pl_set (X := []) (e := e) hD h.1 h2
theorem hp_tyeq {s : State} {ty : FieldType} {c1 c2 : ClassId} (h1 : va_RA s c1 ty) (h2 : va_RA s c2 ty) : c1 = c2 := by
  cases ty with
  | object C =>
    obtain ⟨_, _, _, _, _, g1⟩ := h1
    obtain ⟨_, _, _, _, _, g2⟩ := h2
    exact Option.some.inj (g1.symm.trans g2)
  | _ => exact Option.some.inj (Eq.trans (Eq.symm h1) h2)
/-- what does not lie in the pool and stays as it is: statics, constants, words of the nest -/
def hp_Ok (X : (Nat → Prop) → State → Heap → Prop) : Prop :=
  (∀ (A : Nat → Prop) (s U : State) (H : Heap), U.vm = s.vm → X A s H → X A U H) ∧
  (∀ (A : Nat → Prop) (s U : State) (H : Heap), s.WarmedH U.vm → X A s H → X A U H) ∧
  (∀ (A : Nat → Prop) (s : State) (H H1 : Heap), (∀ a : Nat, a < H.size → ¬ A a → H1[a]? = H[a]?) → X A s H → X A s H1) ∧
  (∀ (A B : Nat → Prop) (s : State) (H : Heap), (∀ q, B q → A q) → X A s H → X B s H)
def hp_Pre (D : va_G) (cl : List vw_C) (tys : List (ClassId × FieldType)) (X : (Nat → Prop) → State → Heap → Prop) (av : List Value) (L : List Nat) (f : Nat → va_E) (sz : Nat) : Array Value → State → Prop :=
  va_Pc av (fun U => U.heap.size = sz ∧ va_P D cl (va_pl L f) U.heap ∧ va_K D cl tys U ∧ va_D (fun _ => True) (va_pl L f) ∧ X (va_A (va_pl L f) sz) U U.heap)
abbrev hp_U : Type := List Nat × (Nat → va_E)
def hp_B (D : va_G) (cl : List vw_C) (A : Nat → Prop) (u : hp_U) (t : State) : Prop := va_P D cl (va_pl u.1 u.2) t.heap ∧ va_D A (va_pl u.1 u.2)
def hp_Br (D : va_G) (cl : List vw_C) (A : Nat → Prop) (post : Nat → hp_U → Prop) (u : hp_U) (a : Nat) (t : State) : Prop := post a u ∧ hp_B D cl A u t
/-- contracts: an int comes back; nothing; a reference -/
def hp_Mi (l : Launch) (y : MethodName) (ws : List Cond) (rm : Room) (D : va_G) (cl : List vw_C) (tys : List (ClassId × FieldType)) (X : (Nat → Prop) → State → Heap → Prop) (av : List Value) (L : List Nat) (f : Nat → va_E) (post : Int32 → hp_U → Prop) (mc ms : Nat) : Prop :=
  ∀ sz : Nat, Met l y ws rm (hp_Pre D cl tys X av L f sz) (va_Qi post (hp_B D cl (va_A (va_pl L f) sz)) (va_A (va_pl L f) sz)) mc ms (va_A (va_pl L f) sz)
def hp_Mv (l : Launch) (y : MethodName) (ws : List Cond) (rm : Room) (D : va_G) (cl : List vw_C) (tys : List (ClassId × FieldType)) (X : (Nat → Prop) → State → Heap → Prop) (av : List Value) (L : List Nat) (f : Nat → va_E) (post : hp_U → Prop) (mc ms : Nat) : Prop :=
  ∀ sz : Nat, Met l y ws rm (hp_Pre D cl tys X av L f sz) (va_Qv post (hp_B D cl (va_A (va_pl L f) sz)) (va_A (va_pl L f) sz)) mc ms (va_A (va_pl L f) sz)
def hp_Mr (l : Launch) (y : MethodName) (ws : List Cond) (rm : Room) (D : va_G) (cl : List vw_C) (tys : List (ClassId × FieldType)) (X : (Nat → Prop) → State → Heap → Prop) (av : List Value) (L : List Nat) (f : Nat → va_E) (post : Nat → hp_U → Prop) (mc ms : Nat) : Prop :=
  ∀ sz : Nat, Met l y ws rm (hp_Pre D cl tys X av L f sz) (va_Qr (fun _ => True) (hp_Br D cl (va_A (va_pl L f) sz) post) (va_A (va_pl L f) sz)) mc ms (va_A (va_pl L f) sz)
theorem hp_blind {D : va_G} {cl : List vw_C} {tys : List (ClassId × FieldType)} {X : (Nat → Prop) → State → Heap → Prop} (hX : hp_Ok X) {av : List Value} {L : List Nat} {f : Nat → va_E} {sz : Nat} : FrameBlind (hp_Pre D cl tys X av L f sz) := by
  intro a U g mk q
  obtain ⟨q0, q1, qP, qK, qD, qX⟩ := q
  exact ⟨q0, q1, qP, va_K.moved (u := U) (U := U.calling g mk a) (Vm.Alike.refl U.vm) qK, qD, hX.1 _ U (U.calling g mk a) _ rfl qX⟩
theorem hp_at.self' {L : List Nat} {f f1 : Nat → va_E} {a : Nat} {e e' : va_E} (hf : f1 = va_up f a e') (h : hp_at L f a e) : hp_at L f1 a e' := hf ▸ h.self
theorem hp_at.ne' {L : List Nat} {f f1 : Nat → va_E} {a b : Nat} {e e' : va_E} (hf : f1 = va_up f b e') (h : hp_at L f a e) (hb : a ≠ b) : hp_at L f1 a e := hf ▸ h.ne hb
theorem hp_at.push' {L L1 : List Nat} {f f1 : Nat → va_E} {a q : Nat} {e e' : va_E} (hL : L1 = L ++ [q]) (hf : f1 = va_up f q e') (h : hp_at L f a e) (hq : q ∉ L) : hp_at L1 f1 a e := hL ▸ hf ▸ h.push hq
theorem hp_at.new' {L L1 : List Nat} {f f1 : Nat → va_E} {q : Nat} {e : va_E} (hL : L1 = L ++ [q]) (hf : f1 = va_up f q e) : hp_at L1 f1 q e := hL ▸ hf ▸ hp_at.new L f q e
section HP
variable {p : Program} {l : Launch} {e : Env} {R : Room} {s : State} {m : MethodId} {args : Array Value} {below : List Frame} {meth : Method} {c : Code} {H : Heap} {locs : List Loc} {cells slots : Nat} {Q : State → Prop}
variable {cc : ByteArray} {pc : Nat} {ls : Array Slot} {rest : List Value} {D : va_G} {cl : List vw_C} {A : Nat → Prop} {a : Nat} {tys : List (ClassId × FieldType)} {H0 : Heap} {L : List Nat} {f : Nat → va_E}
theorem hp_W.sub (h : hp_W D cl A H0 L f H locs) : ∀ q, va_A (va_pl L f) H.size q → A q := by
  intro q hq
  rcases hq with ⟨k, e, hk⟩ | hq
  · exact h.2.1.2 k _ hk
  · exact h.2.2.2 q (Nat.le_trans h.2.2.1.1 hq)
theorem hp_get (hexec : p.tables.exec = Jvm.exec) (hb : c.code = cc) {own ref C : String} {T : u_T} {N ci index : Nat} {Ts : List Cond} (hts : ∀ w ∈ Ts, w.before args s = true) (hin : ∀ w ∈ u_ws C T N, w ∈ Ts) (hown : s.vm.findClass own = some m.cls) (hK : va_K D cl tys s) (h : hp_W D cl A H0 L f H locs) {fs : List Value} (he : hp_at L f a (.inr (ci, fs))) (hc : cl[ci]? = some (C, T, N)) (k : Nat) (hk : k < N) (hlink : (Cond.fieldLink own index ref (T k).2.1 (T k).2.2.1).before args s = true) (hsame : ∀ x, s.fieldFound? (T k).1 (T k).2.1 (T k).2.2.1 = some x → s.fieldFound? ref (T k).2.1 (T k).2.2.1 = some x) {v : Value} (hv : fs[k]? = some v) (hdg : decode cc pc = .ok (.getfield index, 3))
    (kk : W p l e R s m args below meth c H locs cells slots Q (F0 m (pc + 3) ls (v :: rest))) : W p l e R s m args below meth c H locs cells slots Q (F0 m pc ls (.ref a :: rest)) := by
  obtain ⟨q0, hq⟩ := he.i
  exact va_get hexec hb hts hin hown hK h.1 q0 hq hc k hk hlink hsame hv hdg kk
theorem hp_getN (hexec : p.tables.exec = Jvm.exec) (hb : c.code = cc) {own ref C host : String} {T : u_T} {N ci index : Nat} {Ts : List Cond} (hts : ∀ w ∈ Ts, w.before args s = true) (hin : ∀ w ∈ u_ws C T N, w ∈ Ts) (hown : s.vm.findClass own = some m.cls) (hK : va_K D cl tys s) (h : hp_W D cl A H0 L f H locs) {fs : List Value} (he : hp_at L f a (.inr (ci, fs))) (hc : cl[ci]? = some (C, T, N)) (k : Nat) (hk : k < N) (hlink : (Cond.fieldLinkNest own index ref (T k).2.1 (T k).2.2.1 host).before args s = true) (hsame : ∀ x, s.fieldFound? (T k).1 (T k).2.1 (T k).2.2.1 = some x → s.fieldFound? ref (T k).2.1 (T k).2.2.1 = some x) {v : Value} (hv : fs[k]? = some v) (hdg : decode cc pc = .ok (.getfield index, 3))
    (kk : W p l e R s m args below meth c H locs cells slots Q (F0 m (pc + 3) ls (v :: rest))) : W p l e R s m args below meth c H locs cells slots Q (F0 m pc ls (.ref a :: rest)) := by
  obtain ⟨q0, hq⟩ := he.i
  exact va_getN hexec hb hts hin hown hK h.1 q0 hq hc k hk hlink hsame hv hdg kk
theorem hp_put (hexec : p.tables.exec = Jvm.exec) (hb : c.code = cc) {own ref C : String} {T : u_T} {N ci index : Nat} {Ts : List Cond} (hts : ∀ w ∈ Ts, w.before args s = true) (hin : ∀ w ∈ u_ws C T N, w ∈ Ts) (ty0 : Nat → FieldType) (hty : ∀ k, k < N → parseFieldDescriptor (T k).2.2.1 = some (ty0 k)) (hnm : ∀ a, a < N → ∀ b, b < N → a ≠ b → (T a).2.1 ≠ (T b).2.1) (hown : s.vm.findClass own = some m.cls) (hK : va_K D cl tys s) (h : hp_W D cl A H0 L f H locs) {fs fs' : List Value} (he : hp_at L f a (.inr (ci, fs))) (hc : cl[ci]? = some (C, T, N)) (k : Nat) (hk : k < N) (hlink : (Cond.fieldLink own index ref (T k).2.1 (T k).2.2.1).before args s = true) (hsame : ∀ x, s.fieldFound? (T k).1 (T k).2.1 (T k).2.2.1 = some x → s.fieldFound? ref (T k).2.1 (T k).2.2.1 = some x) (hfin : (T k).2.2.2 = false) {ty : FieldType} {v : Value} (hd : parseFieldDescriptor (T k).2.2.1 = some ty) (hn : narrow ty v = v) (hfit : fits ty v = true) (hl : k < fs.length) (hfs : fs.set k v = fs') (hdg : decode cc pc = .ok (.putfield index, 3))
    (kk : ∀ (H1 : Heap) (locs1 : List Loc) (f1 : Nat → va_E), f1 = va_up f a (.inr (ci, fs')) → hp_W D cl A H0 L f1 H1 locs1 → W p l e R s m args below meth c H1 locs1 cells slots Q (F0 m (pc + 3) ls rest)) : W p l e R s m args below meth c H locs cells slots Q (F0 m pc ls (v :: .ref a :: rest)) := by
  subst hfs
  obtain ⟨q0, hq⟩ := he.i
  refine va_put hexec hb hts hin ty0 hty hnm hown hK h.1 h.2.1 h.2.2.1 q0 hq hc k hk hlink hsame hfin hd hn hfit hl hdg (fun H1 locs1 h1 h2 h3 => ?_)
  rw [hp_set _ h.2.1 he hq] at h1 h2
  exact kk H1 locs1 _ rfl ⟨h1, h2, h3, h.2.2.2⟩
theorem hp_putF (hexec : p.tables.exec = Jvm.exec) (hb : c.code = cc) {own ref C : String} {T : u_T} {N ci index : Nat} {Ts : List Cond} (hts : ∀ w ∈ Ts, w.before args s = true) (hin : ∀ w ∈ u_ws C T N, w ∈ Ts) (ty0 : Nat → FieldType) (hty : ∀ k, k < N → parseFieldDescriptor (T k).2.2.1 = some (ty0 k)) (hnm : ∀ a, a < N → ∀ b, b < N → a ≠ b → (T a).2.1 ≠ (T b).2.1) (hown : s.vm.findClass own = some m.cls) (hK : va_K D cl tys s) (h : hp_W D cl A H0 L f H locs) {fs fs' : List Value} (he : hp_at L f a (.inr (ci, fs))) (hc : cl[ci]? = some (C, T, N)) (k : Nat) (hk : k < N) (hlink : (Cond.fieldLink own index ref (T k).2.1 (T k).2.2.1).before args s = true) (hsame : ∀ x, s.fieldFound? (T k).1 (T k).2.1 (T k).2.2.1 = some x → s.fieldFound? ref (T k).2.1 (T k).2.2.1 = some x) (hfin : (T k).2.2.2 = true) (hin2 : meth.name = "<init>") (hdecl : (T k).1 = own) {ty : FieldType} {v : Value} (hd : parseFieldDescriptor (T k).2.2.1 = some ty) (hn : narrow ty v = v) (hfit : fits ty v = true) (hl : k < fs.length) (hfs : fs.set k v = fs') (hdg : decode cc pc = .ok (.putfield index, 3))
    (kk : ∀ (H1 : Heap) (locs1 : List Loc) (f1 : Nat → va_E), f1 = va_up f a (.inr (ci, fs')) → hp_W D cl A H0 L f1 H1 locs1 → W p l e R s m args below meth c H1 locs1 cells slots Q (F0 m (pc + 3) ls rest)) : W p l e R s m args below meth c H locs cells slots Q (F0 m pc ls (v :: .ref a :: rest)) := by
  subst hfs
  obtain ⟨q0, hq⟩ := he.i
  refine va_putF hexec hb hts hin ty0 hty hnm hown hK h.1 h.2.1 h.2.2.1 q0 hq hc k hk hlink hsame hfin hin2 hdecl hd hn hfit hl hdg (fun H1 locs1 h1 h2 h3 => ?_)
  rw [hp_set _ h.2.1 he hq] at h1 h2
  exact kk H1 locs1 _ rfl ⟨h1, h2, h3, h.2.2.2⟩
theorem hp_putN (hexec : p.tables.exec = Jvm.exec) (hb : c.code = cc) {own ref C host : String} {T : u_T} {N ci index : Nat} {Ts : List Cond} (hts : ∀ w ∈ Ts, w.before args s = true) (hin : ∀ w ∈ u_ws C T N, w ∈ Ts) (ty0 : Nat → FieldType) (hty : ∀ k, k < N → parseFieldDescriptor (T k).2.2.1 = some (ty0 k)) (hnm : ∀ a, a < N → ∀ b, b < N → a ≠ b → (T a).2.1 ≠ (T b).2.1) (hown : s.vm.findClass own = some m.cls) (hK : va_K D cl tys s) (h : hp_W D cl A H0 L f H locs) {fs fs' : List Value} (he : hp_at L f a (.inr (ci, fs))) (hc : cl[ci]? = some (C, T, N)) (k : Nat) (hk : k < N) (hlink : (Cond.fieldLinkNest own index ref (T k).2.1 (T k).2.2.1 host).before args s = true) (hsame : ∀ x, s.fieldFound? (T k).1 (T k).2.1 (T k).2.2.1 = some x → s.fieldFound? ref (T k).2.1 (T k).2.2.1 = some x) (hfin : (T k).2.2.2 = false) {ty : FieldType} {v : Value} (hd : parseFieldDescriptor (T k).2.2.1 = some ty) (hn : narrow ty v = v) (hfit : fits ty v = true) (hl : k < fs.length) (hfs : fs.set k v = fs') (hdg : decode cc pc = .ok (.putfield index, 3))
    (kk : ∀ (H1 : Heap) (locs1 : List Loc) (f1 : Nat → va_E), f1 = va_up f a (.inr (ci, fs')) → hp_W D cl A H0 L f1 H1 locs1 → W p l e R s m args below meth c H1 locs1 cells slots Q (F0 m (pc + 3) ls rest)) : W p l e R s m args below meth c H locs cells slots Q (F0 m pc ls (v :: .ref a :: rest)) := by
  subst hfs
  obtain ⟨q0, hq⟩ := he.i
  refine va_putN hexec hb hts hin ty0 hty hnm hown hK h.1 h.2.1 h.2.2.1 q0 hq hc k hk hlink hsame hfin hd hn hfit hl hdg (fun H1 locs1 h1 h2 h3 => ?_)
  rw [hp_set _ h.2.1 he hq] at h1 h2
  exact kk H1 locs1 _ rfl ⟨h1, h2, h3, h.2.2.2⟩
/-! arrays: contents by a function; (cA, ty) stands at place t0 of tys; the index is nI j -/
theorem hp_ix {i : Int32} {j n : Nat} (hi : i = nI j) (hj : j < n) (hn : n < 2 ^ 31) : vp_in i n ∧ i.toNatClampNeg = j := by
  subst hi
  exact ⟨vp_in_nI hj hn, nI_clamp (by omega)⟩
theorem hp_iald (hexec : p.tables.exec = Jvm.exec) (hb : c.code = cc) (hK : va_K D cl tys s) (h : hp_W D cl A H0 L f H locs) (t0 : Nat) {cA : ClassId} {n : Nat} {g : Nat → Int32} (he : hp_at L f a (.inl (cA, n, .inl g))) (ht : tys[t0]? = some (cA, .int)) {i : Int32} {j : Nat} (hi : i = nI j) (hj : j < n) (hn : n < 2 ^ 31) (hdg : decode cc pc = .ok (.iaload, 1))
    (kk : W p l e R s m args below meth c H locs cells slots Q (F0 m (pc + 1) ls (.int (g j) :: rest))) : W p l e R s m args below meth c H locs cells slots Q (F0 m pc ls (.int i :: .ref a :: rest)) := by
  obtain ⟨q0, hq⟩ := he.i
  obtain ⟨h1, h2⟩ := hp_ix hi hj hn
  refine va_iald hexec hb hK h.1 q0 t0 hq ht h1 hdg ?_
  rw [h2]
  exact kk
theorem hp_zald (hexec : p.tables.exec = Jvm.exec) (hb : c.code = cc) (hK : va_K D cl tys s) (h : hp_W D cl A H0 L f H locs) (t0 : Nat) {cA : ClassId} {n : Nat} {g : Nat → Int32} (he : hp_at L f a (.inl (cA, n, .inl g))) (ht : tys[t0]? = some (cA, .boolean)) {i : Int32} {j : Nat} (hi : i = nI j) (hj : j < n) (hn : n < 2 ^ 31) (hdg : decode cc pc = .ok (.baload, 1))
    (kk : W p l e R s m args below meth c H locs cells slots Q (F0 m (pc + 1) ls (.int (g j) :: rest))) : W p l e R s m args below meth c H locs cells slots Q (F0 m pc ls (.int i :: .ref a :: rest)) := by
  obtain ⟨q0, hq⟩ := he.i
  obtain ⟨h1, h2⟩ := hp_ix hi hj hn
  refine va_zald hexec hb hK h.1 q0 t0 hq ht h1 hdg ?_
  rw [h2]
  exact kk
theorem hp_lald (hexec : p.tables.exec = Jvm.exec) (hb : c.code = cc) (hK : va_K D cl tys s) (h : hp_W D cl A H0 L f H locs) (t0 : Nat) {cA : ClassId} {n : Nat} {g : Nat → Int64} (he : hp_at L f a (.inl (cA, n, .inr (.inl g)))) (ht : tys[t0]? = some (cA, .long)) {i : Int32} {j : Nat} (hi : i = nI j) (hj : j < n) (hn : n < 2 ^ 31) (hdg : decode cc pc = .ok (.laload, 1))
    (kk : W p l e R s m args below meth c H locs cells slots Q (F0 m (pc + 1) ls (.long (g j) :: rest))) : W p l e R s m args below meth c H locs cells slots Q (F0 m pc ls (.int i :: .ref a :: rest)) := by
  obtain ⟨q0, hq⟩ := he.i
  obtain ⟨h1, h2⟩ := hp_ix hi hj hn
  refine va_lald hexec hb hK h.1 q0 t0 hq ht h1 hdg ?_
  rw [h2]
  exact kk
theorem hp_aald (hexec : p.tables.exec = Jvm.exec) (hb : c.code = cc) (hK : va_K D cl tys s) (h : hp_W D cl A H0 L f H locs) (t0 : Nat) {cA : ClassId} {C : String} {n : Nat} {g : Nat → Option Nat} (he : hp_at L f a (.inl (cA, n, .inr (.inr (.inr (.inr g)))))) (ht : tys[t0]? = some (cA, .object C)) {i : Int32} {j : Nat} (hi : i = nI j) (hj : j < n) (hn : n < 2 ^ 31) {r : Nat} (hg : g j = some r) (hdg : decode cc pc = .ok (.aaload, 1))
    (kk : W p l e R s m args below meth c H locs cells slots Q (F0 m (pc + 1) ls (.ref r :: rest))) : W p l e R s m args below meth c H locs cells slots Q (F0 m pc ls (.int i :: .ref a :: rest)) := by
  obtain ⟨q0, hq⟩ := he.i
  obtain ⟨h1, h2⟩ := hp_ix hi hj hn
  refine va_aldq hexec hb hK h.1 q0 t0 hq ht h1 hdg ?_
  rw [h2, hg]
  exact kk
theorem hp_iast (hexec : p.tables.exec = Jvm.exec) (hb : c.code = cc) (hK : va_K D cl tys s) (h : hp_W D cl A H0 L f H locs) (t0 : Nat) {cA : ClassId} {n : Nat} {g : Nat → Int32} (he : hp_at L f a (.inl (cA, n, .inl g))) (ht : tys[t0]? = some (cA, .int)) {i : Int32} {j : Nat} (hi : i = nI j) (hj : j < n) (hn : n < 2 ^ 31) {x : Int32}  (hdg : decode cc pc = .ok (.iastore, 1))
    (kk : ∀ (H1 : Heap) (locs1 : List Loc) (f1 : Nat → va_E), f1 = va_up f a (.inl (cA, n, .inl (upd g j x))) → hp_W D cl A H0 L f1 H1 locs1 → W p l e R s m args below meth c H1 locs1 cells slots Q (F0 m (pc + 1) ls rest)) : W p l e R s m args below meth c H locs cells slots Q (F0 m pc ls (.int x :: .int i :: .ref a :: rest)) := by
  obtain ⟨q0, hq⟩ := he.i
  obtain ⟨g1, g2⟩ := hp_ix hi hj hn
  refine va_iast hexec hb hK h.1 h.2.1 h.2.2.1 q0 t0 hq ht g1 hdg (fun H1 locs1 h1 h2 h3 => ?_)
  rw [hp_set _ h.2.1 he hq, g2] at h1 h2
  exact kk H1 locs1 _ rfl ⟨h1, h2, h3, h.2.2.2⟩
theorem hp_zast (hexec : p.tables.exec = Jvm.exec) (hb : c.code = cc) (hK : va_K D cl tys s) (h : hp_W D cl A H0 L f H locs) (t0 : Nat) {cA : ClassId} {n : Nat} {g : Nat → Int32} (he : hp_at L f a (.inl (cA, n, .inl g))) (ht : tys[t0]? = some (cA, .boolean)) {i : Int32} {j : Nat} (hi : i = nI j) (hj : j < n) (hn : n < 2 ^ 31) {x : Int32} (hx : vp_nar .boolean x = x) (hdg : decode cc pc = .ok (.bastore, 1))
    (kk : ∀ (H1 : Heap) (locs1 : List Loc) (f1 : Nat → va_E), f1 = va_up f a (.inl (cA, n, .inl (upd g j x))) → hp_W D cl A H0 L f1 H1 locs1 → W p l e R s m args below meth c H1 locs1 cells slots Q (F0 m (pc + 1) ls rest)) : W p l e R s m args below meth c H locs cells slots Q (F0 m pc ls (.int x :: .int i :: .ref a :: rest)) := by
  obtain ⟨q0, hq⟩ := he.i
  obtain ⟨g1, g2⟩ := hp_ix hi hj hn
  refine va_zast hexec hb hK h.1 h.2.1 h.2.2.1 q0 t0 hq ht g1 hdg (fun H1 locs1 h1 h2 h3 => ?_)
  rw [hp_set _ h.2.1 he hq, g2, hx] at h1 h2
  exact kk H1 locs1 _ rfl ⟨h1, h2, h3, h.2.2.2⟩
theorem hp_last (hexec : p.tables.exec = Jvm.exec) (hb : c.code = cc) (hK : va_K D cl tys s) (h : hp_W D cl A H0 L f H locs) (t0 : Nat) {cA : ClassId} {n : Nat} {g : Nat → Int64} (he : hp_at L f a (.inl (cA, n, .inr (.inl g)))) (ht : tys[t0]? = some (cA, .long)) {i : Int32} {j : Nat} (hi : i = nI j) (hj : j < n) (hn : n < 2 ^ 31) {x : Int64}  (hdg : decode cc pc = .ok (.lastore, 1))
    (kk : ∀ (H1 : Heap) (locs1 : List Loc) (f1 : Nat → va_E), f1 = va_up f a (.inl (cA, n, .inr (.inl (vp_updL g j x)))) → hp_W D cl A H0 L f1 H1 locs1 → W p l e R s m args below meth c H1 locs1 cells slots Q (F0 m (pc + 1) ls rest)) : W p l e R s m args below meth c H locs cells slots Q (F0 m pc ls (.long x :: .int i :: .ref a :: rest)) := by
  obtain ⟨q0, hq⟩ := he.i
  obtain ⟨g1, g2⟩ := hp_ix hi hj hn
  refine va_last hexec hb hK h.1 h.2.1 h.2.2.1 q0 t0 hq ht g1 hdg (fun H1 locs1 h1 h2 h3 => ?_)
  rw [hp_set _ h.2.1 he hq, g2] at h1 h2
  exact kk H1 locs1 _ rfl ⟨h1, h2, h3, h.2.2.2⟩
theorem hp_aast (hexec : p.tables.exec = Jvm.exec) (hb : c.code = cc) (hK : va_K D cl tys s) (h : hp_W D cl A H0 L f H locs) (t0 : Nat) {ci : Nat} {r : vw_C} {v : Nat} {vs : List Value} {cA : ClassId} {n : Nat} {g : Nat → Option Nat} (he : hp_at L f a (.inl (cA, n, .inr (.inr (.inr (.inr g)))))) (ht : tys[t0]? = some (cA, .object r.1)) (hv : hp_at L f v (.inr (ci, vs))) (hc : cl[ci]? = some r) {i : Int32} {j : Nat} (hi : i = nI j) (hj : j < n) (hn : n < 2 ^ 31) (hdg : decode cc pc = .ok (.aastore, 1))
    (kk : ∀ (H1 : Heap) (locs1 : List Loc) (f1 : Nat → va_E), f1 = va_up f a (.inl (cA, n, .inr (.inr (.inr (.inr (va_up g j (some v))))))) → hp_W D cl A H0 L f1 H1 locs1 → W p l e R s m args below meth c H1 locs1 cells slots Q (F0 m (pc + 1) ls rest)) : W p l e R s m args below meth c H locs cells slots Q (F0 m pc ls (.ref v :: .int i :: .ref a :: rest)) := by
  obtain ⟨q0, hq⟩ := he.i
  obtain ⟨g1, g2⟩ := hp_ix hi hj hn
  obtain ⟨qk, hqk⟩ := hv.i
  refine va_astq hexec hb hK h.1 h.2.1 h.2.2.1 q0 t0 qk ci hq ht hqk hc g1 hdg (fun H1 locs1 h1 h2 h3 => ?_)
  rw [hp_set _ h.2.1 he hq, g2] at h1 h2
  exact kk H1 locs1 _ rfl ⟨h1, h2, h3, h.2.2.2⟩
theorem hp_aastO (hexec : p.tables.exec = Jvm.exec) (hb : c.code = cc) (hK : va_K D cl tys s) (h : hp_W D cl A H0 L f H locs) (t0 : Nat) {ci : Nat} {E : String} {r : vw_C} {v : Nat} {vs : List Value} {cA : ClassId} {n : Nat} {g : Nat → Option Nat} (he : hp_at L f a (.inl (cA, n, .inr (.inr (.inr (.inr g)))))) (ht : tys[t0]? = some (cA, .object E)) (hca : va_Nw (.castable r.1 E) s) (hv : hp_at L f v (.inr (ci, vs))) (hc : cl[ci]? = some r) {i : Int32} {j : Nat} (hi : i = nI j) (hj : j < n) (hn : n < 2 ^ 31) (hdg : decode cc pc = .ok (.aastore, 1))
    (kk : ∀ (H1 : Heap) (locs1 : List Loc) (f1 : Nat → va_E), f1 = va_up f a (.inl (cA, n, .inr (.inr (.inr (.inr (va_up g j (some v))))))) → hp_W D cl A H0 L f1 H1 locs1 → W p l e R s m args below meth c H1 locs1 cells slots Q (F0 m (pc + 1) ls rest)) : W p l e R s m args below meth c H locs cells slots Q (F0 m pc ls (.ref v :: .int i :: .ref a :: rest)) := by
  obtain ⟨q0, hq⟩ := he.i
  obtain ⟨g1, g2⟩ := hp_ix hi hj hn
  obtain ⟨qk, hqk⟩ := hv.i
  refine va_astqO hexec hb hK h.1 h.2.1 h.2.2.1 q0 t0 qk ci hq ht hca hqk hc g1 hdg (fun H1 locs1 h1 h2 h3 => ?_)
  rw [hp_set _ h.2.1 he hq, g2] at h1 h2
  exact kk H1 locs1 _ rfl ⟨h1, h2, h3, h.2.2.2⟩
theorem hp_aastN (hexec : p.tables.exec = Jvm.exec) (hb : c.code = cc) (hK : va_K D cl tys s) (h : hp_W D cl A H0 L f H locs) (t0 : Nat) {C : String} {cA : ClassId} {n : Nat} {g : Nat → Option Nat} (he : hp_at L f a (.inl (cA, n, .inr (.inr (.inr (.inr g)))))) (ht : tys[t0]? = some (cA, .object C))  {i : Int32} {j : Nat} (hi : i = nI j) (hj : j < n) (hn : n < 2 ^ 31) (hdg : decode cc pc = .ok (.aastore, 1))
    (kk : ∀ (H1 : Heap) (locs1 : List Loc) (f1 : Nat → va_E), f1 = va_up f a (.inl (cA, n, .inr (.inr (.inr (.inr (va_up g j none)))))) → hp_W D cl A H0 L f1 H1 locs1 → W p l e R s m args below meth c H1 locs1 cells slots Q (F0 m (pc + 1) ls rest)) : W p l e R s m args below meth c H locs cells slots Q (F0 m pc ls (.null :: .int i :: .ref a :: rest)) := by
  obtain ⟨q0, hq⟩ := he.i
  obtain ⟨g1, g2⟩ := hp_ix hi hj hn
  refine va_astqN hexec hb hK h.1 h.2.1 h.2.2.1 q0 t0 hq ht g1 hdg (fun H1 locs1 h1 h2 h3 => ?_)
  rw [hp_set _ h.2.1 he hq, g2] at h1 h2
  exact kk H1 locs1 _ rfl ⟨h1, h2, h3, h.2.2.2⟩
theorem hp_alen (hexec : p.tables.exec = Jvm.exec) (hb : c.code = cc) (hK : va_K D cl tys s) (h : hp_W D cl A H0 L f H locs) (t0 : Nat) {cA : ClassId} {x : vp_A} (he : hp_at L f a (.inl (cA, x))) {ty : FieldType} (ht : tys[t0]? = some (cA, ty)) {v : Int32} (hv : Int32.ofNat x.1 = v) (hdg : decode cc pc = .ok (.arraylength, 1))
    (kk : W p l e R s m args below meth c H locs cells slots Q (F0 m (pc + 1) ls (.int v :: rest))) : W p l e R s m args below meth c H locs cells slots Q (F0 m pc ls (.ref a :: rest)) := by
  obtain ⟨q0, hq⟩ := he.i
  exact va_alen hexec hb hK h.1 q0 t0 hq ht hv hdg kk
/-! new cells -/
theorem hp_new (hexec : p.tables.exec = Jvm.exec) (hb : c.code = cc) {own C : String} {T : u_T} {N ci index : Nat} {Ts : List Cond} (hts : ∀ w ∈ Ts, w.before args s = true) (hin : ∀ w ∈ u_ws C T N, w ∈ Ts) (ty : Nat → FieldType) (hty : ∀ k, k < N → parseFieldDescriptor (T k).2.2.1 = some (ty k)) (hown : s.vm.findClass own = some m.cls) (hcl : (Cond.classLink own index C).before args s = true) (hinst : (Cond.instantiable C N).before args s = true) (hini : (Cond.initialized C).before args s = true)
    (hK : va_K D cl tys s) (h : hp_W D cl A H0 L f H locs) (hc : cl[ci]? = some (C, T, N)) {fs : List Value} (hfs : ∀ j, j < N → defaultValue (ty j) = vp_V fs j) (hcells : cells + 1 ≤ R.cells) (hslots : slots + N ≤ R.slots) (hdg : decode cc pc = .ok (.new index, 3))
    (kk : ∀ (q : Nat) (H1 : Heap) (L1 : List Nat) (f1 : Nat → va_E), q ∉ L → L1 = L ++ [q] → f1 = va_up f q (.inr (ci, fs)) → hp_W D cl A H0 L1 f1 H1 locs → W p l e R s m args below meth c H1 locs (cells + 1) (slots + N) Q (F0 m (pc + 3) ls (.ref q :: rest))) : W p l e R s m args below meth c H locs cells slots Q (F0 m pc ls rest) := by
  refine va_new hexec hb hts hin ty hty hown hcl hinst hini hK h.1 h.2.1 h.2.2.1 h.2.2.2 hc hfs hcells hslots hdg (fun q H1 h1 h2 h3 => ?_)
  have hq : q ∉ L := va_pl_fresh2 (X := []) h2
  rw [va_pl_push hq] at h1 h2
  exact kk q H1 _ _ hq rfl rfl ⟨h1, h2, h3, h.2.2.2⟩
theorem hp_newa (hexec : p.tables.exec = Jvm.exec) (hb : c.code = cc) {atype : ArrayType} (harr : (Cond.arrayClass (newarray.typeOf atype)).before args s = true) {ty : FieldType} (hty : newarray.typeOf atype = ty) (hK : va_K D cl tys s) (h : hp_W D cl A H0 L f H locs) (t0 : Nat) {cA : ClassId} (ht : tys[t0]? = some (cA, ty))
    {n : Int32} {N' : Nat} {a0 : vp_A} (ha : ∀ cA : ClassId, vp_cell cA a0 = arrV cA N' (fun _ => defaultValue ty)) (hn : ¬ n < 0) (hN : n.toNatClampNeg = N') (hbytes : N' * componentBytes ty ≤ 536870912) (hcells : cells + 1 ≤ R.cells) (hslots : slots + N' ≤ R.slots) (hdg : decode cc pc = .ok (.newarray atype, 2))
    (kk : ∀ (q : Nat) (H1 : Heap) (L1 : List Nat) (f1 : Nat → va_E), q ∉ L → L1 = L ++ [q] → f1 = va_up f q (.inl (cA, a0)) → hp_W D cl A H0 L1 f1 H1 locs → W p l e R s m args below meth c H1 locs (cells + 1) (slots + N') Q (F0 m (pc + 2) ls (.ref q :: rest))) : W p l e R s m args below meth c H locs cells slots Q (F0 m pc ls (.int n :: rest)) := by
  refine va_newa hexec hb harr hty hK h.1 h.2.1 h.2.2.1 h.2.2.2 ha hn hN hbytes hcells hslots hdg (fun q cA1 H1 hK1 h1 h2 h3 => ?_)
  have e1 := (hK1.2 tys.length (cA1, ty) (by rw [List.getElem?_append_right (Nat.le_refl _), Nat.sub_self]; rfl)).2
  have e2 := (hK.2 t0 _ ht).2
  have e3 : cA1 = cA := hp_tyeq e1 e2
  subst e3
  have hq : q ∉ L := va_pl_fresh2 (X := []) h2
  rw [va_pl_push hq] at h1 h2
  exact kk q H1 _ _ hq rfl rfl ⟨h1, h2, h3, h.2.2.2⟩
theorem hp_newq (hexec : p.tables.exec = Jvm.exec) (hb : c.code = cc) {own C : String} {index : Nat} (hown : s.vm.findClass own = some m.cls) (hclink : (Cond.classLink own index C).before args s = true) (hover : va_AO C s) (hK : va_K D cl tys s) (h : hp_W D cl A H0 L f H locs) (t0 : Nat) {cA : ClassId} (ht : tys[t0]? = some (cA, .object C))
    {n : Int32} {N' : Nat} (hn : ¬ n < 0) (hN : n.toNatClampNeg = N') (hbytes : N' * 4 ≤ 536870912) (hcells : cells + 1 ≤ R.cells) (hslots : slots + N' ≤ R.slots) (hdg : decode cc pc = .ok (.anewarray index, 3))
    (kk : ∀ (q : Nat) (H1 : Heap) (L1 : List Nat) (f1 : Nat → va_E), q ∉ L → L1 = L ++ [q] → f1 = va_up f q (.inl (cA, N', .inr (.inr (.inr (.inr (fun _ => none)))))) → hp_W D cl A H0 L1 f1 H1 locs → W p l e R s m args below meth c H1 locs (cells + 1) (slots + N') Q (F0 m (pc + 3) ls (.ref q :: rest))) : W p l e R s m args below meth c H locs cells slots Q (F0 m pc ls (.int n :: rest)) := by
  refine va_newq hexec hb hown hclink hover hK h.1 h.2.1 h.2.2.1 h.2.2.2 hn hN hbytes hcells hslots hdg (fun q cA1 H1 hK1 h1 h2 h3 => ?_)
  have e1 := (hK1.2 tys.length (cA1, .object C) (by rw [List.getElem?_append_right (Nat.le_refl _), Nat.sub_self]; rfl)).2
  have e2 := (hK.2 t0 _ ht).2
  have e3 : cA1 = cA := hp_tyeq e1 e2
  subst e3
  have hq : q ∉ L := va_pl_fresh2 (X := []) h2
  rw [va_pl_push hq] at h1 h2
  exact kk q H1 _ _ hq rfl rfl ⟨h1, h2, h3, h.2.2.2⟩
end HP
