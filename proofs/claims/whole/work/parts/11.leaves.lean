/-! Contracts of the leaves: Node, Message, ArrayList's readers, by program (wip/mk11.py). -/
abbrev kn (i ma qa : Nat) (v : Nat → Int32) : va_E := .inr (1, [.int (nI i), .ref ma, .ref qa, .int (v 0), .int (v 1), .int (v 2), .int (v 3), .int (v 4), .int (v 5), .int (v 6), .int (v 7), .int (v 8)])
abbrev km (q : Int32 × Int32 × Int32 × Int32 × Int32) : va_E := .inr (2, [.int q.1, .int q.2.1, .int q.2.2.1, .int q.2.2.2.1, .int q.2.2.2.2])
abbrev ka (ea : Nat) (n mo : Int32) : va_E := .inr (4, [.ref ea, .int n, .int mo])
theorem hp_upself {L : List Nat} {f : Nat → va_E} {a : Nat} {e : va_E} (h : hp_at L f a e) : va_up f a e = f := by
  funext j
  by_cases hj : j = a
  · subst hj; rw [va_up_self]; exact h.2.symm
  · rw [va_up_ne _ _ hj]
set_option maxHeartbeats 4000000 in
set_option maxRecDepth 100000 in
theorem c_N_forgetBest (l : Launch) (D : va_G) (tys : List (ClassId × FieldType)) (de : Nat) (sa : Nat → Nat) {L : List Nat} {f : Nat → va_E} {a i ma qa : Nat} {v : Nat → Int32} (he : hp_at L f a (kn i ma qa v)) : hp_Mv l y_N_forgetBest (gw_ws y_N_forgetBest b_N_forgetBest 1 none) { frames := 0, cells := 0, slots := 0, locals := 0 } D kc tys (s_X de sa) [.ref a] L f (fun u => u = (L, va_up f a (kn i ma qa (upd (upd v 5 (-1)) 6 100)))) 0 0 := by
  refine hp_ofW (Qc := fun A => va_Qv (fun u => u = (L, va_up f a (kn i ma qa (upd (upd v 5 (-1)) 6 100)))) (hp_B D kc A) A) (fr := fun A => A) (ret := none) (by decide) rfl (Nat.le_of_ble_eq_true rfl) ?_
  intro p e s m below meth c ls A hx hb hml hr hts hown hlk hnm hl hK hX h
  have hg : ∀ w ∈ gw, w.before _ s = true := fun w hw => hts w (List.mem_cons_of_mem _ hw)
  have hown : s.vm.findClass "MergingFragments$Node" = some m.cls := hown
  have hnm : meth.name = "forgetBest" := hnm
  have hl : lv_has ls 1 [(0, .ref a)] := hl
  refine lv_aload_n hx hb d_N_forgetBest_0 rfl (lv_at hl 0 rfl) ?_
  refine lv_iconst (v := (-1)) hx hb d_N_forgetBest_1 (by decide) ?_
  refine hp_put (ty := .int) (v := .int (-1)) (fs' := [.int (nI i), .ref ma, .ref qa, .int (v 0), .int (v 1), .int (v 2), .int (v 3), .int (v 4), .int (-1), .int (v 6), .int (v 7), .int (v 8)]) hx hb hg in_N t_N t_N_ok n_N hown hK h he rfl 8 (by decide) (hg _ w94) (fun _ z => z) rfl (by decide +kernel) rfl rfl (Nat.le_of_ble_eq_true rfl) rfl d_N_forgetBest_2 (fun H locs f1 hf1 h => ?_)
  have he := he.self' hf1
  refine lv_aload_n hx hb d_N_forgetBest_5 rfl (lv_at hl 0 rfl) ?_
  refine lv_bipush (v := 100) hx hb d_N_forgetBest_6 (by decide) ?_
  refine hp_put (ty := .int) (v := .int 100) (fs' := [.int (nI i), .ref ma, .ref qa, .int (v 0), .int (v 1), .int (v 2), .int (v 3), .int (v 4), .int (-1), .int 100, .int (v 7), .int (v 8)]) hx hb hg in_N t_N t_N_ok n_N hown hK h he rfl 9 (by decide) (hg _ w96) (fun _ z => z) rfl (by decide +kernel) rfl rfl (Nat.le_of_ble_eq_true rfl) rfl d_N_forgetBest_8 (fun H locs f2 hf2 h => ?_)
  have he := he.self' hf2
  exact hp_vret hx hb hr hlk h (by rw [hf2, hf1, bx_uu] <;> rfl) (by omega) (by omega) d_N_forgetBest_11

set_option maxHeartbeats 4000000 in
set_option maxRecDepth 100000 in
theorem c_N_improveBest (l : Launch) (D : va_G) (tys : List (ClassId × FieldType)) (de : Nat) (sa : Nat → Nat) {L : List Nat} {f : Nat → va_E} {a i ma qa : Nat} {v : Nat → Int32} {x y : Int32} (he : hp_at L f a (kn i ma qa v)) : hp_Mv l y_N_improveBest (gw_ws y_N_improveBest b_N_improveBest 3 none) { frames := 0, cells := 0, slots := 0, locals := 0 } D kc tys (s_X de sa) [.ref a, .int x, .int y] L f (fun u => u = (L, va_up f a (kn i ma qa (if y < v 6 then upd (upd v 5 x) 6 y else v)))) 0 0 := by
  refine hp_ofW (Qc := fun A => va_Qv (fun u => u = (L, va_up f a (kn i ma qa (if y < v 6 then upd (upd v 5 x) 6 y else v)))) (hp_B D kc A) A) (fr := fun A => A) (ret := none) (by decide) rfl (Nat.le_of_ble_eq_true rfl) ?_
  intro p e s m below meth c ls A hx hb hml hr hts hown hlk hnm hl hK hX h
  have hg : ∀ w ∈ gw, w.before _ s = true := fun w hw => hts w (List.mem_cons_of_mem _ hw)
  have hown : s.vm.findClass "MergingFragments$Node" = some m.cls := hown
  have hnm : meth.name = "improveBest" := hnm
  have hl : lv_has ls 3 [(0, .ref a), (1, .int x), (2, .int y)] := hl
  refine lv_iload_n hx hb d_N_improveBest_0 rfl (lv_at hl 2 rfl) ?_
  refine lv_aload_n hx hb d_N_improveBest_1 rfl (lv_at hl 0 rfl) ?_
  refine hp_get (v := .int (v 6)) hx hb hg in_N hown hK h he rfl 9 (by decide) (hg _ w96) (fun _ z => z) rfl d_N_improveBest_2 ?_
  refine lv_icmp_ge (tgt := 18) hx hb d_N_improveBest_5 (by decide) (fun hc => ?_) (fun hc => ?_)
  · skip
    exact hp_vret hx hb hr hlk h (by rw [if_neg (fun z => absurd z (Int32.not_lt.mpr hc))]; exact congrArg (Prod.mk L) (hp_upself he).symm) (by omega) (by omega) d_N_improveBest_18
  · skip
    refine lv_aload_n hx hb d_N_improveBest_8 rfl (lv_at hl 0 rfl) ?_
    refine lv_iload_n hx hb d_N_improveBest_9 rfl (lv_at hl 1 rfl) ?_
    refine hp_put (ty := .int) (v := .int x) (fs' := [.int (nI i), .ref ma, .ref qa, .int (v 0), .int (v 1), .int (v 2), .int (v 3), .int (v 4), .int x, .int (v 6), .int (v 7), .int (v 8)]) hx hb hg in_N t_N t_N_ok n_N hown hK h he rfl 8 (by decide) (hg _ w94) (fun _ z => z) rfl (by decide +kernel) rfl rfl (Nat.le_of_ble_eq_true rfl) rfl d_N_improveBest_10 (fun H locs f1 hf1 h => ?_)
    have he := he.self' hf1
    refine lv_aload_n hx hb d_N_improveBest_13 rfl (lv_at hl 0 rfl) ?_
    refine lv_iload_n hx hb d_N_improveBest_14 rfl (lv_at hl 2 rfl) ?_
    refine hp_put (ty := .int) (v := .int y) (fs' := [.int (nI i), .ref ma, .ref qa, .int (v 0), .int (v 1), .int (v 2), .int (v 3), .int (v 4), .int x, .int y, .int (v 7), .int (v 8)]) hx hb hg in_N t_N t_N_ok n_N hown hK h he rfl 9 (by decide) (hg _ w96) (fun _ z => z) rfl (by decide +kernel) rfl rfl (Nat.le_of_ble_eq_true rfl) rfl d_N_improveBest_15 (fun H locs f2 hf2 h => ?_)
    have he := he.self' hf2
    exact hp_vret hx hb hr hlk h (by rw [if_pos (Int32.not_le.mp hc), hf2, hf1, bx_uu] <;> rfl) (by omega) (by omega) d_N_improveBest_18

set_option maxHeartbeats 4000000 in
set_option maxRecDepth 100000 in
theorem c_N_rejectIfBasic (l : Launch) (D : va_G) (tys : List (ClassId × FieldType)) (de : Nat) (sa : Nat → Nat) {L : List Nat} {f : Nat → va_E} {a i ma qa : Nat} {v : Nat → Int32} {j : Nat} {g : Nat → Int32} {cI : ClassId} (ht : tys[0]? = some (cI, .int)) (hne : a ≠ ma) (hj : j < 12) (he : hp_at L f a (kn i ma qa v)) (hm : hp_at L f ma (.inl (cI, 12, .inl g))) : hp_Mv l y_N_rejectIfBasic (gw_ws y_N_rejectIfBasic b_N_rejectIfBasic 2 none) { frames := 0, cells := 0, slots := 0, locals := 0 } D kc tys (s_X de sa) [.ref a, .int (nI j)] L f (fun u => u = (L, va_up f ma (.inl (cI, 12, .inl (if g j = 0 then upd g j 2 else g))))) 0 0 := by
  refine hp_ofW (Qc := fun A => va_Qv (fun u => u = (L, va_up f ma (.inl (cI, 12, .inl (if g j = 0 then upd g j 2 else g))))) (hp_B D kc A) A) (fr := fun A => A) (ret := none) (by decide) rfl (Nat.le_of_ble_eq_true rfl) ?_
  intro p e s m below meth c ls A hx hb hml hr hts hown hlk hnm hl hK hX h
  have hg : ∀ w ∈ gw, w.before _ s = true := fun w hw => hts w (List.mem_cons_of_mem _ hw)
  have hown : s.vm.findClass "MergingFragments$Node" = some m.cls := hown
  have hnm : meth.name = "rejectIfBasic" := hnm
  have hl : lv_has ls 2 [(0, .ref a), (1, .int (nI j))] := hl
  refine lv_aload_n hx hb d_N_rejectIfBasic_0 rfl (lv_at hl 0 rfl) ?_
  refine hp_get (v := .ref ma) hx hb hg in_N hown hK h he rfl 1 (by decide) (hg _ w80) (fun _ z => z) rfl d_N_rejectIfBasic_1 ?_
  refine lv_iload_n hx hb d_N_rejectIfBasic_4 rfl (lv_at hl 1 rfl) ?_
  refine hp_iald hx hb hK h 0 hm ht rfl (by omega) (by decide) d_N_rejectIfBasic_5 ?_
  refine lv_if_ne (tgt := 16) hx hb d_N_rejectIfBasic_6 (by decide) (fun hc => ?_) (fun hc => ?_)
  · skip
    exact hp_vret hx hb hr hlk h (by rw [if_neg hc]; exact congrArg (Prod.mk L) (hp_upself hm).symm) (by omega) (by omega) d_N_rejectIfBasic_16
  · skip
    refine lv_aload_n hx hb d_N_rejectIfBasic_9 rfl (lv_at hl 0 rfl) ?_
    refine hp_get (v := .ref ma) hx hb hg in_N hown hK h he rfl 1 (by decide) (hg _ w80) (fun _ z => z) rfl d_N_rejectIfBasic_10 ?_
    refine lv_iload_n hx hb d_N_rejectIfBasic_13 rfl (lv_at hl 1 rfl) ?_
    refine lv_iconst (v := 2) hx hb d_N_rejectIfBasic_14 (by decide) ?_
    refine hp_iast hx hb hK h 0 hm ht rfl (by omega) (by decide) d_N_rejectIfBasic_15 (fun H locs f1 hf1 h => ?_)
    have he := he.ne' hf1 hne
    have hm := hm.self' hf1
    exact hp_vret hx hb hr hlk h (by rw [if_pos hc, hf1] <;> rfl) (by omega) (by omega) d_N_rejectIfBasic_16

set_option maxHeartbeats 4000000 in
set_option maxRecDepth 100000 in
theorem c_M_kind (l : Launch) (D : va_G) (tys : List (ClassId × FieldType)) (de : Nat) (sa : Nat → Nat) {L : List Nat} {f : Nat → va_E} {a : Nat} {q : Int32 × Int32 × Int32 × Int32 × Int32} (he : hp_at L f a (km q)) : hp_Ri l y_M_kind (gw_ws y_M_kind b_M_kind 1 (some .int)) { frames := 0, cells := 0, slots := 0, locals := 0 } D kc tys (s_X de sa) [.ref a] L f (fun r => r = q.1) := by
  refine hp_ofW (Qc := fun A => hp_QR (fun r => r = q.1)) (fr := fun A => (fun _ => False)) (ret := (some .int)) (by decide) rfl (Nat.le_of_ble_eq_true rfl) ?_
  intro p e s m below meth c ls A hx hb hml hr hts hown hlk hnm hl hK hX h
  have hg : ∀ w ∈ gw, w.before _ s = true := fun w hw => hts w (List.mem_cons_of_mem _ hw)
  have hown : s.vm.findClass "MergingFragments$Message" = some m.cls := hown
  have hnm : meth.name = "kind" := hnm
  have hl : lv_has ls 1 [(0, .ref a)] := hl
  refine lv_aload_n hx hb d_M_kind_0 rfl (lv_at hl 0 rfl) ?_
  refine hp_get (v := .int q.1) hx hb hg in_M hown hK h he rfl 0 (by decide) (hg _ w321) (fun _ z => z) rfl d_M_kind_1 ?_
  exact hp_riret hx hb hr hlk rfl d_M_kind_4

set_option maxHeartbeats 4000000 in
set_option maxRecDepth 100000 in
theorem c_M_over (l : Launch) (D : va_G) (tys : List (ClassId × FieldType)) (de : Nat) (sa : Nat → Nat) {L : List Nat} {f : Nat → va_E} {a : Nat} {q : Int32 × Int32 × Int32 × Int32 × Int32} (he : hp_at L f a (km q)) : hp_Ri l y_M_over (gw_ws y_M_over b_M_over 1 (some .int)) { frames := 0, cells := 0, slots := 0, locals := 0 } D kc tys (s_X de sa) [.ref a] L f (fun r => r = q.2.1) := by
  refine hp_ofW (Qc := fun A => hp_QR (fun r => r = q.2.1)) (fr := fun A => (fun _ => False)) (ret := (some .int)) (by decide) rfl (Nat.le_of_ble_eq_true rfl) ?_
  intro p e s m below meth c ls A hx hb hml hr hts hown hlk hnm hl hK hX h
  have hg : ∀ w ∈ gw, w.before _ s = true := fun w hw => hts w (List.mem_cons_of_mem _ hw)
  have hown : s.vm.findClass "MergingFragments$Message" = some m.cls := hown
  have hnm : meth.name = "over" := hnm
  have hl : lv_has ls 1 [(0, .ref a)] := hl
  refine lv_aload_n hx hb d_M_over_0 rfl (lv_at hl 0 rfl) ?_
  refine hp_get (v := .int q.2.1) hx hb hg in_M hown hK h he rfl 1 (by decide) (hg _ w322) (fun _ z => z) rfl d_M_over_1 ?_
  exact hp_riret hx hb hr hlk rfl d_M_over_4

set_option maxHeartbeats 4000000 in
set_option maxRecDepth 100000 in
theorem c_M_first (l : Launch) (D : va_G) (tys : List (ClassId × FieldType)) (de : Nat) (sa : Nat → Nat) {L : List Nat} {f : Nat → va_E} {a : Nat} {q : Int32 × Int32 × Int32 × Int32 × Int32} (he : hp_at L f a (km q)) : hp_Ri l y_M_first (gw_ws y_M_first b_M_first 1 (some .int)) { frames := 0, cells := 0, slots := 0, locals := 0 } D kc tys (s_X de sa) [.ref a] L f (fun r => r = q.2.2.1) := by
  refine hp_ofW (Qc := fun A => hp_QR (fun r => r = q.2.2.1)) (fr := fun A => (fun _ => False)) (ret := (some .int)) (by decide) rfl (Nat.le_of_ble_eq_true rfl) ?_
  intro p e s m below meth c ls A hx hb hml hr hts hown hlk hnm hl hK hX h
  have hg : ∀ w ∈ gw, w.before _ s = true := fun w hw => hts w (List.mem_cons_of_mem _ hw)
  have hown : s.vm.findClass "MergingFragments$Message" = some m.cls := hown
  have hnm : meth.name = "first" := hnm
  have hl : lv_has ls 1 [(0, .ref a)] := hl
  refine lv_aload_n hx hb d_M_first_0 rfl (lv_at hl 0 rfl) ?_
  refine hp_get (v := .int q.2.2.1) hx hb hg in_M hown hK h he rfl 2 (by decide) (hg _ w323) (fun _ z => z) rfl d_M_first_1 ?_
  exact hp_riret hx hb hr hlk rfl d_M_first_4

set_option maxHeartbeats 4000000 in
set_option maxRecDepth 100000 in
theorem c_M_second (l : Launch) (D : va_G) (tys : List (ClassId × FieldType)) (de : Nat) (sa : Nat → Nat) {L : List Nat} {f : Nat → va_E} {a : Nat} {q : Int32 × Int32 × Int32 × Int32 × Int32} (he : hp_at L f a (km q)) : hp_Ri l y_M_second (gw_ws y_M_second b_M_second 1 (some .int)) { frames := 0, cells := 0, slots := 0, locals := 0 } D kc tys (s_X de sa) [.ref a] L f (fun r => r = q.2.2.2.1) := by
  refine hp_ofW (Qc := fun A => hp_QR (fun r => r = q.2.2.2.1)) (fr := fun A => (fun _ => False)) (ret := (some .int)) (by decide) rfl (Nat.le_of_ble_eq_true rfl) ?_
  intro p e s m below meth c ls A hx hb hml hr hts hown hlk hnm hl hK hX h
  have hg : ∀ w ∈ gw, w.before _ s = true := fun w hw => hts w (List.mem_cons_of_mem _ hw)
  have hown : s.vm.findClass "MergingFragments$Message" = some m.cls := hown
  have hnm : meth.name = "second" := hnm
  have hl : lv_has ls 1 [(0, .ref a)] := hl
  refine lv_aload_n hx hb d_M_second_0 rfl (lv_at hl 0 rfl) ?_
  refine hp_get (v := .int q.2.2.2.1) hx hb hg in_M hown hK h he rfl 3 (by decide) (hg _ w324) (fun _ z => z) rfl d_M_second_1 ?_
  exact hp_riret hx hb hr hlk rfl d_M_second_4

set_option maxHeartbeats 4000000 in
set_option maxRecDepth 100000 in
theorem c_M_third (l : Launch) (D : va_G) (tys : List (ClassId × FieldType)) (de : Nat) (sa : Nat → Nat) {L : List Nat} {f : Nat → va_E} {a : Nat} {q : Int32 × Int32 × Int32 × Int32 × Int32} (he : hp_at L f a (km q)) : hp_Ri l y_M_third (gw_ws y_M_third b_M_third 1 (some .int)) { frames := 0, cells := 0, slots := 0, locals := 0 } D kc tys (s_X de sa) [.ref a] L f (fun r => r = q.2.2.2.2) := by
  refine hp_ofW (Qc := fun A => hp_QR (fun r => r = q.2.2.2.2)) (fr := fun A => (fun _ => False)) (ret := (some .int)) (by decide) rfl (Nat.le_of_ble_eq_true rfl) ?_
  intro p e s m below meth c ls A hx hb hml hr hts hown hlk hnm hl hK hX h
  have hg : ∀ w ∈ gw, w.before _ s = true := fun w hw => hts w (List.mem_cons_of_mem _ hw)
  have hown : s.vm.findClass "MergingFragments$Message" = some m.cls := hown
  have hnm : meth.name = "third" := hnm
  have hl : lv_has ls 1 [(0, .ref a)] := hl
  refine lv_aload_n hx hb d_M_third_0 rfl (lv_at hl 0 rfl) ?_
  refine hp_get (v := .int q.2.2.2.2) hx hb hg in_M hown hK h he rfl 4 (by decide) (hg _ w325) (fun _ z => z) rfl d_M_third_1 ?_
  exact hp_riret hx hb hr hlk rfl d_M_third_4

set_option maxHeartbeats 4000000 in
set_option maxRecDepth 100000 in
theorem c_A_size (l : Launch) (D : va_G) (tys : List (ClassId × FieldType)) (de : Nat) (sa : Nat → Nat) {L : List Nat} {f : Nat → va_E} {a ea : Nat} {n mo : Int32} (he : hp_at L f a (ka ea n mo)) : hp_Ri l y_A_size (gw_ws y_A_size b_A_size 1 (some .int)) { frames := 0, cells := 0, slots := 0, locals := 0 } D kc tys (s_X de sa) [.ref a] L f (fun r => r = n) := by
  refine hp_ofW (Qc := fun A => hp_QR (fun r => r = n)) (fr := fun A => (fun _ => False)) (ret := (some .int)) (by decide) rfl (Nat.le_of_ble_eq_true rfl) ?_
  intro p e s m below meth c ls A hx hb hml hr hts hown hlk hnm hl hK hX h
  have hg : ∀ w ∈ gw, w.before _ s = true := fun w hw => hts w (List.mem_cons_of_mem _ hw)
  have hown : s.vm.findClass "java/util/ArrayList" = some m.cls := hown
  have hnm : meth.name = "size" := hnm
  have hl : lv_has ls 1 [(0, .ref a)] := hl
  refine lv_aload_n hx hb d_A_size_0 rfl (lv_at hl 0 rfl) ?_
  refine hp_get (v := .int n) hx hb hg in_A hown hK h he rfl 1 (by decide) (hg _ w51) (fun _ z => z) rfl d_A_size_1 ?_
  exact hp_riret hx hb hr hlk rfl d_A_size_4

set_option maxHeartbeats 4000000 in
set_option maxRecDepth 100000 in
theorem c_A_isEmpty (l : Launch) (D : va_G) (tys : List (ClassId × FieldType)) (de : Nat) (sa : Nat → Nat) {L : List Nat} {f : Nat → va_E} {a ea : Nat} {n mo : Int32} (he : hp_at L f a (ka ea n mo)) : hp_Ri l y_A_isEmpty (gw_ws y_A_isEmpty b_A_isEmpty 1 (some .boolean)) { frames := 0, cells := 0, slots := 0, locals := 0 } D kc tys (s_X de sa) [.ref a] L f (fun r => r = if n = 0 then 1 else 0) := by
  refine hp_ofW (Qc := fun A => hp_QR (fun r => r = if n = 0 then 1 else 0)) (fr := fun A => (fun _ => False)) (ret := (some .boolean)) (by decide) rfl (Nat.le_of_ble_eq_true rfl) ?_
  intro p e s m below meth c ls A hx hb hml hr hts hown hlk hnm hl hK hX h
  have hg : ∀ w ∈ gw, w.before _ s = true := fun w hw => hts w (List.mem_cons_of_mem _ hw)
  have hown : s.vm.findClass "java/util/ArrayList" = some m.cls := hown
  have hnm : meth.name = "isEmpty" := hnm
  have hl : lv_has ls 1 [(0, .ref a)] := hl
  refine lv_aload_n hx hb d_A_isEmpty_0 rfl (lv_at hl 0 rfl) ?_
  refine hp_get (v := .int n) hx hb hg in_A hown hK h he rfl 1 (by decide) (hg _ w51) (fun _ z => z) rfl d_A_isEmpty_1 ?_
  refine lv_if_ne (tgt := 11) hx hb d_A_isEmpty_4 (by decide) (fun hc => ?_) (fun hc => ?_)
  · skip
    refine lv_iconst (v := 0) hx hb d_A_isEmpty_11 (by decide) ?_
    exact hp_rzret hx hb hr hlk rfl (by rw [if_neg hc]) d_A_isEmpty_12
  · skip
    refine lv_iconst (v := 1) hx hb d_A_isEmpty_7 (by decide) ?_
    refine lv_goto (tgt := 12) hx hb d_A_isEmpty_8 (by decide) ?_
    exact hp_rzret hx hb hr hlk rfl (by rw [if_pos hc]) d_A_isEmpty_12
