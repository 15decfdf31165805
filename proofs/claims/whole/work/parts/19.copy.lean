/-! ArrayList: rows for arraycopy and getClass over the pool; Math, ArraysSupport, Arrays.copyOf, by program (wip/mk19.py). -/
theorem w385 : (.native ⟨"java/lang/Object", "getClass", "()Ljava/lang/Class;"⟩ : Cond) ∈ gw := gw_in 429 (by decide +kernel) (by decide +kernel)
theorem w397 : (.native ⟨"java/lang/System", "arraycopy", "(Ljava/lang/Object;ILjava/lang/Object;II)V"⟩ : Cond) ∈ gw := gw_in 441 (by decide +kernel) (by decide +kernel)
section HPX
variable {p : Program} {l : Launch} {e : Env} {R : Room} {s : State} {m : MethodId} {args : Array Value} {below : List Frame} {meth : Method} {c : Code} {H : Heap} {locs : List Loc} {cells slots : Nat} {Q : State → Prop}
variable {cc : ByteArray} {pc : Nat} {ls : Array Slot} {rest : List Value} {D : va_G} {cl : List vw_C} {A : Nat → Prop} {a : Nat} {tys : List (ClassId × FieldType)} {H0 : Heap} {L : List Nat} {f : Nat → va_E}
theorem hp_copyq (hexec : p.tables.exec = Jvm.exec) (hb : c.code = cc) (hml : c.maxLocals = ls.size) {own : String} {index : Nat} (hown : s.vm.findClass own = some m.cls) (hlink : (Cond.methodLink own index arraycopyName).before args s = true) (hnat : (Cond.native arraycopyName).before args s = true) (hstat : (Cond.static arraycopyName).before args s = true) (hini : (Cond.initialized "java/lang/System").before args s = true) (hK : va_K D cl tys s) (h : hp_W D cl A H0 L f H locs)
    (t0 t1 : Nat) {a0 : Nat} {c0 c1 : ClassId} {n0 n1 : Nat} {g0 g : Nat → Option Nat} {E0 E1 : String} {ci : Nat} {r : vw_C} (he0 : hp_at L f a0 (kar c0 n0 g0)) (he1 : hp_at L f a (kar c1 n1 g)) (ht0 : tys[t0]? = some (c0, .object E0)) (ht1 : tys[t1]? = some (c1, .object E1)) {xs xd xn : Int32} {sp dp n : Nat} (es : xs = nI sp) (ed : xd = nI dp) (en : xn = nI n) (h4 : sp + n ≤ n0) (h5 : dp + n ≤ n1) (hn0 : n0 < 2 ^ 31) (hn1 : n1 < 2 ^ 31)
    (hc : cl[ci]? = some r) (hel : ∀ i : Nat, i < n → ∀ y : Nat, g0 (sp + i) = some y → ∃ fs : List Value, hp_at L f y (.inr (ci, fs))) (hca : va_Nw (.castable r.1 E1) s) (hframes : 1 ≤ R.frames) (hlocals : (rest.map fun v => v.category).sum + (nativeFrameWords "java/lang/System" "arraycopy" 5 + 11) ≤ R.locals) (hdg : decode cc pc = .ok (.invokestatic index, 3))
    (kk : ∀ (H1 : Heap) (locs1 : List Loc) (f1 : Nat → va_E), f1 = va_up f a (kar c1 n1 (va_cpy g0 g sp dp n)) → hp_W D cl A H0 L f1 H1 locs1 → W p l e R s m args below meth c H1 locs1 cells slots Q (F0 m (pc + 3) ls rest)) : W p l e R s m args below meth c H locs cells slots Q (F0 m pc ls (.int xn :: .int xd :: .ref a :: .int xs :: .ref a0 :: rest)) := by
  subst es ed en
  obtain ⟨q0, hq0⟩ := he0.i
  obtain ⟨q1, hq1⟩ := he1.i
  have cs : (nI sp).toNatClampNeg = sp := nI_clamp (by omega)
  have cd : (nI dp).toNatClampNeg = dp := nI_clamp (by omega)
  have cn : (nI n).toNatClampNeg = n := nI_clamp (by omega)
  refine va_copyq hexec hb hml hown hlink hnat hstat hini hK h.1 h.2.1 h.2.2.1 q0 q1 t0 t1 (C := r.1) hq0 hq1 ht0 ht1 (nI_pos (by omega)) (nI_pos (by omega)) (nI_pos (by omega)) (by rw [cs, cn]; exact h4) (by rw [cd, cn]; exact h5) (fun i hi y hy => ?_) (fun comp x hcomp hx => ?_) hframes hlocals hdg (fun H1 locs1 h1 h2 h3 => ?_)
  · rw [cn] at hi
    rw [cs] at hy
    obtain ⟨fs, hfs⟩ := hel i hi y hy
    obtain ⟨qk, hqk⟩ := hfs.i
    exact va_recv hK h.1 hc hqk
  · obtain ⟨x0, t1', f1, f2, f3⟩ := Cond.castable_spec (va_Nw.use (A := args) rfl hca)
    cases hx.symm.trans f1
    cases hcomp.symm.trans f2
    exact f3
  · rw [hp_set _ h.2.1 he1 hq1, cs, cd, cn] at h1 h2
    exact kk H1 locs1 _ rfl ⟨h1, h2, h3, h.2.2.2⟩
theorem hp_getC (hexec : p.tables.exec = Jvm.exec) (hb : c.code = cc) (hml : c.maxLocals = ls.size) {own C nm : String} {index mi t0 : Nat} (hown : s.vm.findClass own = some m.cls) (hlink : (Cond.methodLink own index ⟨"java/lang/Object", "getClass", "()Ljava/lang/Class;"⟩).before args s = true) (hdecl : (Cond.declares ⟨"java/lang/Object", "getClass", "()Ljava/lang/Class;"⟩).before args s = true)
    (hsel : (Cond.selects nm ⟨"java/lang/Object", "getClass", "()Ljava/lang/Class;"⟩ ⟨"java/lang/Object", "getClass", "()Ljava/lang/Class;"⟩).before args s = true) (hinst : (Cond.instanceMethod ⟨"java/lang/Object", "getClass", "()Ljava/lang/Class;"⟩).before args s = true) (hnat : (Cond.native ⟨"java/lang/Object", "getClass", "()Ljava/lang/Class;"⟩).before args s = true) (hM : va_Mi nm mi s)
    (hK : va_K D cl tys s) (h : hp_W D cl A H0 L f H locs) {cA : ClassId} {n : Nat} {g : Nat → Option Nat} (he : hp_at L f a (kar cA n g)) (ht : tys[t0]? = some (cA, .object C)) (hnm : "[" ++ (FieldType.object C).toString = nm) (hframes : 1 ≤ R.frames) (hlocals : (rest.map fun v => v.category).sum + 14 ≤ R.locals) (hdg : decode cc pc = .ok (.invokevirtual index, 3))
    (k : W p l e R s m args below meth c H locs cells slots Q (F0 m (pc + 3) ls (.ref mi :: rest))) : W p l e R s m args below meth c H locs cells slots Q (F0 m pc ls (.ref a :: rest)) := by
  obtain ⟨q0, hq⟩ := he.i
  exact va_getC hexec hb hml hown hlink hdecl hsel hinst hnat hM ⟨_, h.1 q0 _ hq, rfl, va_nmO (hK.2 t0 _ ht).2 hnm⟩ hframes hlocals hdg k
end HPX
theorem hp_mx {x y : Nat} (hx : x < 2 ^ 31) (hy : y < 2 ^ 31) : (if nI x < nI y then nI y else nI x) = nI (max x y) := by
  by_cases h : x < y
  · rw [if_pos ((nI_ltI hx hy).mpr h), Nat.max_eq_right (Nat.le_of_lt h)]
  · rw [if_neg (fun z => h ((nI_ltI hx hy).mp z)), Nat.max_eq_left (Nat.not_lt.mp h)]
theorem hp_mn {x y : Nat} (hx : x < 2 ^ 31) (hy : y < 2 ^ 31) : (if nI y < nI x then nI y else nI x) = nI (min x y) := by
  by_cases h : y < x
  · rw [if_pos ((nI_ltI hy hx).mpr h), Nat.min_eq_right (Nat.le_of_lt h)]
  · rw [if_neg (fun z => h ((nI_ltI hy hx).mp z)), Nat.min_eq_left (Nat.not_lt.mp h)]
set_option maxHeartbeats 4000000 in
set_option maxRecDepth 100000 in
theorem c_Su_newLength (l : Launch) (D : va_G) (tys : List (ClassId × FieldType)) (de : Nat) (sa : Nat → Nat) {L : List Nat} {f : Nat → va_E} {x y z : Nat} (hs : x + max y z < 2 ^ 30) (h0 : 0 < x + max y z) : hp_Ri l y_Su_newLength (gw_ws y_Su_newLength b_Su_newLength 4 (some .int)) { frames := 1, cells := 0, slots := 0, locals := 22 } D kc tys (s_X de sa) [.int (nI x), .int (nI y), .int (nI z)] L f (fun r => r = nI (x + max y z)) := by
  refine hp_ofW (Qc := fun A => hp_QR (fun r => r = nI (x + max y z))) (fr := fun A => (fun _ => False)) (ret := (some .int)) (by decide) rfl (Nat.le_of_ble_eq_true rfl) ?_
  intro p e s m below meth c ls A hx hb hml hr hts hown hlk hnm hl hK hX h
  have hg : ∀ w ∈ gw, w.before _ s = true := fun w hw => hts w (List.mem_cons_of_mem _ hw)
  have hown : s.vm.findClass "jdk/internal/util/ArraysSupport" = some m.cls := hown
  have hnm : meth.name = "newLength" := hnm
  have hl : lv_has ls 4 [(0, .int (nI x)), (1, .int (nI y)), (2, .int (nI z))] := hl
  refine lv_iload_n hx hb d_Su_newLength_0 rfl (lv_at hl 0 rfl) ?_
  refine lv_iload_n hx hb d_Su_newLength_1 rfl (lv_at hl 1 rfl) ?_
  refine lv_iload_n hx hb d_Su_newLength_2 rfl (lv_at hl 2 rfl) ?_
  refine va_mmax hx hb (by rw [hml]; exact hl.1.symm) hown (hg _ w364) (hg _ w365) (hg _ w17) (hg _ w366) (Nat.le_of_ble_eq_true rfl) (Nat.le_of_ble_eq_true rfl) (Nat.le_of_ble_eq_true rfl) (Nat.le_of_ble_eq_true rfl) d_Su_newLength_3 ?_
  rw [hp_mx (by omega) (by omega)]
  refine lv_iadd hx hb d_Su_newLength_6 ?_
  rw [nI_add]
  refine lv_istore_n (lv' := [(3, .int (nI (x + max y z))), (0, .int (nI x)), (1, .int (nI y)), (2, .int (nI z))]) hx hb d_Su_newLength_7 rfl hl (by decide) rfl (fun ls hl => ?_)
  refine lv_iconst (v := 0) hx hb d_Su_newLength_8 (by decide) ?_
  refine lv_iload_n hx hb d_Su_newLength_9 rfl (lv_at hl 0 rfl) ?_
  refine lv_icmp_ge (tgt := 21) hx hb d_Su_newLength_10 (by decide) (fun hc => ?_) (fun hc => ?_)
  · skip
    exact absurd hc (nI_nle h0 (by omega))
  · skip
    refine lv_iload_n hx hb d_Su_newLength_13 rfl (lv_at hl 0 rfl) ?_
    refine lv_ldc hx hb hown (hg _ w367) d_Su_newLength_14 ?_
    refine lv_icmp_gt (tgt := 21) hx hb d_Su_newLength_16 (by decide) (fun hc2 => ?_) (fun hc2 => ?_)
    · skip
      exact absurd hc2 (show ¬ nI 2147483639 < nI (x + max y z) from nI_nlt (by omega) (by decide))
    · skip
      refine lv_iload_n hx hb d_Su_newLength_19 rfl (lv_at hl 0 rfl) ?_
      exact hp_riret hx hb hr hlk rfl d_Su_newLength_20

set_option maxHeartbeats 4000000 in
set_option maxRecDepth 100000 in
theorem c_As_copyOf1 (l : Launch) (D : va_G) (tys : List (ClassId × FieldType)) (de : Nat) (sa : Nat → Nat) {L : List Nat} {f : Nat → va_E} {ea n n2 : Nat} {g : Nat → Option Nat} {cO : ClassId} (ht1 : tys[1]? = some (cO, .object "java/lang/Object")) (hE : hp_at L f ea (kar cO n g)) (hel : ∀ j y, j < n → g j = some y → ∃ x, hp_at L f y (km x)) (hn : n ≤ n2) (hn2 : n2 < 2 ^ 22) : hp_Mr l y_As_copyOf1 (gw_ws y_As_copyOf1 b_As_copyOf1 4 (some (.array (.object "java/lang/Object")))) { frames := 1, cells := 1, slots := n2, locals := 30 } D kc tys (s_X de sa) [.ref ea, .int (nI n2), .ref (sa 100000)] L f (fun r u => r ∉ L ∧ ∃ g' : Nat → Option Nat, u = (L ++ [r], va_up f r (kar cO n2 g')) ∧ ∀ j, j < n → g' j = g j) 1 n2 := by
  refine hp_ofW (Qc := fun A => va_Qr (fun _ => True) (hp_Br D kc A (fun r u => r ∉ L ∧ ∃ g' : Nat → Option Nat, u = (L ++ [r], va_up f r (kar cO n2 g')) ∧ ∀ j, j < n → g' j = g j)) A) (fr := fun A => A) (ret := (some (.array (.object "java/lang/Object")))) (by decide) rfl (Nat.le_of_ble_eq_true rfl) ?_
  intro p e s m below meth c ls A hx hb hml hr hts hown hlk hnm hl hK hX h
  have hg : ∀ w ∈ gw, w.before _ s = true := fun w hw => hts w (List.mem_cons_of_mem _ hw)
  have hown : s.vm.findClass "java/util/Arrays" = some m.cls := hown
  have hnm : meth.name = "copyOf" := hnm
  have hl : lv_has ls 4 [(0, .ref ea), (1, .int (nI n2)), (2, .ref (sa 100000))] := hl
  refine lv_aload_n hx hb d_As_copyOf1_0 rfl (lv_at hl 2 rfl) ?_
  refine va_ldcM hx hb hown (hg _ w389) hX.2.2.2.2.2.2.2 d_As_copyOf1_1 ?_
  refine lv_acmp_ne (rx := some (sa 100000)) (ry := some (sa 100000)) (tgt := 13) hx hb d_As_copyOf1_3 (by decide) (fun z => absurd rfl z) (fun _ => ?_)
  refine lv_iload_n hx hb d_As_copyOf1_6 rfl (lv_at hl 1 rfl) ?_
  refine hp_newq (N' := n2) hx hb hown (hg _ w391) (s_Nw hX n390) hK h 1 ht1 (nI_pos (by omega)) (nI_clamp (by omega)) (by omega) (by dsimp only; omega) (by dsimp only; omega) d_As_copyOf1_7 (fun q H L1 f1 hq hL1 hf1 h => ?_)
  have ne_ea_q : ea ≠ q := fun z => hq (z ▸ hE.1)
  have hE0 := hE
  have hE := hE.push' hL1 hf1 hq
  have hq1 := hp_at.new' hL1 hf1
  refine lv_goto (tgt := 24) hx hb d_As_copyOf1_10 (by decide) ?_
  refine lv_astore_n (lv' := [(3, .ref q), (0, .ref ea), (1, .int (nI n2)), (2, .ref (sa 100000))]) hx hb d_As_copyOf1_24 rfl hl (by decide) rfl (fun ls hl => ?_)
  refine lv_aload_n hx hb d_As_copyOf1_25 rfl (lv_at hl 1 rfl) ?_
  refine lv_iconst (v := 0) hx hb d_As_copyOf1_26 (by decide) ?_
  refine lv_aload_n hx hb d_As_copyOf1_27 rfl (lv_at hl 0 rfl) ?_
  refine lv_iconst (v := 0) hx hb d_As_copyOf1_28 (by decide) ?_
  refine lv_aload_n hx hb d_As_copyOf1_29 rfl (lv_at hl 1 rfl) ?_
  refine hp_alen (v := nI n) hx hb hK h 1 hE ht1 rfl d_As_copyOf1_30 ?_
  refine lv_iload_n hx hb d_As_copyOf1_31 rfl (lv_at hl 2 rfl) ?_
  refine va_mmin hx hb (by rw [hml]; exact hl.1.symm) hown (hg _ w392) (hg _ w393) (hg _ w17) (hg _ w394) (Nat.le_of_ble_eq_true rfl) (Nat.le_of_ble_eq_true rfl) (by dsimp only; omega) (by dsimp only; omega) d_As_copyOf1_32 ?_
  rw [hp_mn (by omega) (by omega)]
  rw [Nat.min_eq_left hn]
  refine hp_copyq hx hb (by rw [hml]; exact hl.1.symm) hown (hg _ w395) (hg _ w397) (hg _ w396) (hg _ w18) hK h 1 1 (ci := 2) hE hq1 ht1 ht1 (sp := 0) (dp := 0) (n := n) rfl rfl rfl (by omega) (by omega) (by omega) (by omega) rfl (fun i hi y hy => ?_) (s_Nw hX n744) (Nat.le_of_ble_eq_true rfl) (Nat.le_of_ble_eq_true rfl) d_As_copyOf1_35 (fun H locs f2 hf2 h => ?_)
  · obtain ⟨x, hx9⟩ := hel i y hi (by rw [Nat.zero_add] at hy; exact hy)
    exact ⟨_, hx9.push' hL1 hf1 hq⟩
  refine lv_aload_n hx hb d_As_copyOf1_38 rfl (lv_at hl 0 rfl) ?_
  exact hp_aret hx hb hr (by first | exact Or.inl ⟨_, rfl⟩ | exact Or.inr ⟨_, rfl⟩) hlk h ⟨hq, va_cpy g (fun _ => none) 0 0 n, by rw [hL1, hf2, hf1, bx_uu], fun j hj => by rw [pk_cpy_in (Nat.zero_le _) (by omega)]; congr 1; omega⟩ (by omega) (by omega) d_As_copyOf1_39

set_option maxHeartbeats 4000000 in
set_option maxRecDepth 100000 in
theorem c_As_copyOf0 (l : Launch) (D : va_G) (tys : List (ClassId × FieldType)) (de : Nat) (sa : Nat → Nat) {L : List Nat} {f : Nat → va_E} {ea n n2 : Nat} {g : Nat → Option Nat} {cO : ClassId} (ht1 : tys[1]? = some (cO, .object "java/lang/Object")) (hE : hp_at L f ea (kar cO n g)) (hel : ∀ j y, j < n → g j = some y → ∃ x, hp_at L f y (km x)) (hn : n ≤ n2) (hn2 : n2 < 2 ^ 22) : hp_Mr l y_As_copyOf0 (gw_ws y_As_copyOf0 b_As_copyOf0 2 (some (.array (.object "java/lang/Object")))) { frames := 2, cells := 1, slots := n2, locals := 53 } D kc tys (s_X de sa) [.ref ea, .int (nI n2)] L f (fun r u => r ∉ L ∧ ∃ g' : Nat → Option Nat, u = (L ++ [r], va_up f r (kar cO n2 g')) ∧ ∀ j, j < n → g' j = g j) 1 n2 := by
  refine hp_ofW (Qc := fun A => va_Qr (fun _ => True) (hp_Br D kc A (fun r u => r ∉ L ∧ ∃ g' : Nat → Option Nat, u = (L ++ [r], va_up f r (kar cO n2 g')) ∧ ∀ j, j < n → g' j = g j)) A) (fr := fun A => A) (ret := (some (.array (.object "java/lang/Object")))) (by decide) rfl (Nat.le_of_ble_eq_true rfl) ?_
  intro p e s m below meth c ls A hx hb hml hr hts hown hlk hnm hl hK hX h
  have hg : ∀ w ∈ gw, w.before _ s = true := fun w hw => hts w (List.mem_cons_of_mem _ hw)
  have hown : s.vm.findClass "java/util/Arrays" = some m.cls := hown
  have hnm : meth.name = "copyOf" := hnm
  have hl : lv_has ls 2 [(0, .ref ea), (1, .int (nI n2))] := hl
  refine lv_aload_n hx hb d_As_copyOf0_0 rfl (lv_at hl 0 rfl) ?_
  refine lv_iload_n hx hb d_As_copyOf0_1 rfl (lv_at hl 1 rfl) ?_
  refine lv_aload_n hx hb d_As_copyOf0_2 rfl (lv_at hl 0 rfl) ?_
  refine hp_getC (t0 := 1) hx hb (by rw [hml]; exact hl.1.symm) hown (hg _ w374) (s_N hX n740) (hg _ w739) (hg _ w375) (hg _ w385) hX.2.2.2.2.2.2.2 hK h hE ht1 (by decide) (Nat.le_of_ble_eq_true rfl) (Nat.le_of_ble_eq_true rfl) d_As_copyOf0_3 ?_
  refine hp_callr (hp_runS (As := [.ref ea, .int (nI n2), .ref (sa 100000)]) (rest := []) ⟨hx, hb, hml, hown, hg⟩ (c_As_copyOf1 l D tys de sa ht1 hE hel hn hn2) (va_cwS 3 hg (gw_S w386 w387 w6 w388) rfl rfl rfl (by decide +kernel) ⟨Nat.le_of_ble_eq_true rfl, Nat.le_of_ble_eq_true rfl⟩) (s_ok de sa) hK hX h rfl hl.1 rfl (Nat.le_of_ble_eq_true rfl) d_As_copyOf0_6 ⟨by dsimp only; omega, by dsimp only; omega⟩) h (fun r1 L1 f1 H locs hp h => ?_)
  exact hp_aret hx hb hr (by first | exact Or.inl ⟨_, rfl⟩ | exact Or.inr ⟨_, rfl⟩) hlk h hp (by omega) (by omega) d_As_copyOf0_9
