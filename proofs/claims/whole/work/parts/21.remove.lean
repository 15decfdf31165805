/-! ArrayList.get, remove(0), by program (wip/mk21.py). -/
set_option maxHeartbeats 4000000 in
set_option maxRecDepth 100000 in
theorem c_Pr_checkIndex (l : Launch) (D : va_G) (tys : List (ClassId × FieldType)) (de : Nat) (sa : Nat → Nat) {L : List Nat} {f : Nat → va_E} {i n : Nat} (hi : i < n) (hn : n < 2 ^ 31) : hp_Ri l y_Pr_checkIndex (gw_ws y_Pr_checkIndex b_Pr_checkIndex 3 (some .int)) { frames := 0, cells := 0, slots := 0, locals := 0 } D kc tys (s_X de sa) [.int (nI i), .int (nI n), .null] L f (fun r => r = nI i) := by
  refine hp_ofW (Qc := fun A => hp_QR (fun r => r = nI i)) (fr := fun A => (fun _ => False)) (ret := (some .int)) (by decide) rfl (Nat.le_of_ble_eq_true rfl) ?_
  intro p e s m below meth c ls A hx hb hml hr hts hown hlk hnm hl hK hX h
  have hg : ∀ w ∈ gw, w.before _ s = true := fun w hw => hts w (List.mem_cons_of_mem _ hw)
  have hown : s.vm.findClass "jdk/internal/util/Preconditions" = some m.cls := hown
  have hnm : meth.name = "checkIndex" := hnm
  have hl : lv_has ls 3 [(0, .int (nI i)), (1, .int (nI n)), (2, .null)] := hl
  refine lv_iload_n hx hb d_Pr_checkIndex_0 rfl (lv_at hl 0 rfl) ?_
  refine lv_if_lt (tgt := 9) hx hb d_Pr_checkIndex_1 (by decide) (fun hc => ?_) (fun hc => ?_)
  · skip
    exact absurd hc (nI_pos (by omega))
  · skip
    refine lv_iload_n hx hb d_Pr_checkIndex_4 rfl (lv_at hl 0 rfl) ?_
    refine lv_iload_n hx hb d_Pr_checkIndex_5 rfl (lv_at hl 1 rfl) ?_
    refine lv_icmp_lt (tgt := 16) hx hb d_Pr_checkIndex_6 (by decide) (fun hc2 => ?_) (fun hc2 => ?_)
    · skip
      refine lv_iload_n hx hb d_Pr_checkIndex_16 rfl (lv_at hl 0 rfl) ?_
      exact hp_riret hx hb hr hlk rfl d_Pr_checkIndex_17
    · skip
      exact absurd (nI_lt hi hn) hc2

set_option maxHeartbeats 4000000 in
set_option maxRecDepth 100000 in
theorem c_Ob_checkIndex (l : Launch) (D : va_G) (tys : List (ClassId × FieldType)) (de : Nat) (sa : Nat → Nat) {L : List Nat} {f : Nat → va_E} {i n : Nat} (hi : i < n) (hn : n < 2 ^ 31) : hp_Ri l y_Ob_checkIndex (gw_ws y_Ob_checkIndex b_Ob_checkIndex 2 (some .int)) { frames := 1, cells := 0, slots := 0, locals := 22 } D kc tys (s_X de sa) [.int (nI i), .int (nI n)] L f (fun r => r = nI i) := by
  refine hp_ofW (Qc := fun A => hp_QR (fun r => r = nI i)) (fr := fun A => (fun _ => False)) (ret := (some .int)) (by decide) rfl (Nat.le_of_ble_eq_true rfl) ?_
  intro p e s m below meth c ls A hx hb hml hr hts hown hlk hnm hl hK hX h
  have hg : ∀ w ∈ gw, w.before _ s = true := fun w hw => hts w (List.mem_cons_of_mem _ hw)
  have hown : s.vm.findClass "java/util/Objects" = some m.cls := hown
  have hnm : meth.name = "checkIndex" := hnm
  have hl : lv_has ls 2 [(0, .int (nI i)), (1, .int (nI n))] := hl
  refine lv_iload_n hx hb d_Ob_checkIndex_0 rfl (lv_at hl 0 rfl) ?_
  refine lv_iload_n hx hb d_Ob_checkIndex_1 rfl (lv_at hl 1 rfl) ?_
  refine lv_null hx hb d_Ob_checkIndex_2 ?_
  refine hp_callR (hp_runS (As := [.int (nI i), .int (nI n), .null]) (rest := []) ⟨hx, hb, hml, hown, hg⟩ (c_Pr_checkIndex l D tys de sa (L := L) (f := f) hi hn) (va_cwS 3 hg (gw_S w422 w423 w20 w424) rfl rfl rfl (by decide +kernel) ⟨Nat.le_of_ble_eq_true rfl, Nat.le_of_ble_eq_true rfl⟩) (s_ok de sa) hK hX h rfl hl.1 rfl (Nat.le_of_ble_eq_true rfl) d_Ob_checkIndex_3 ⟨Nat.le_of_ble_eq_true rfl, Nat.le_of_ble_eq_true rfl⟩) (fun r1 hp => ?_)
  exact hp_riret hx hb hr hlk hp d_Ob_checkIndex_6

set_option maxHeartbeats 4000000 in
set_option maxRecDepth 100000 in
theorem c_A_elementData (l : Launch) (D : va_G) (tys : List (ClassId × FieldType)) (de : Nat) (sa : Nat → Nat) {L : List Nat} {f : Nat → va_E} {a ea n cap i y : Nat} {mo : Int32} {g : Nat → Option Nat} {cO : ClassId} (ht1 : tys[1]? = some (cO, .object "java/lang/Object")) (he : hp_at L f a (ka ea (nI n) mo)) (hE : hp_at L f ea (kar cO cap g)) (hn : n ≤ cap) (hcap : cap < 2 ^ 31) (hi : i < n) (hgi : g i = some y) : hp_Rr l y_A_elementData (gw_ws y_A_elementData b_A_elementData 2 (some (.object "java/lang/Object"))) { frames := 0, cells := 0, slots := 0, locals := 0 } D kc tys (s_X de sa) [.ref a, .int (nI i)] L f (fun r => r = y) := by
  refine hp_ofW (Qc := fun A => hp_QRr (fun r => r = y)) (fr := fun A => (fun _ => False)) (ret := (some (.object "java/lang/Object"))) (by decide) rfl (Nat.le_of_ble_eq_true rfl) ?_
  intro p e s m below meth c ls A hx hb hml hr hts hown hlk hnm hl hK hX h
  have hg : ∀ w ∈ gw, w.before _ s = true := fun w hw => hts w (List.mem_cons_of_mem _ hw)
  have hown : s.vm.findClass "java/util/ArrayList" = some m.cls := hown
  have hnm : meth.name = "elementData" := hnm
  have hl : lv_has ls 2 [(0, .ref a), (1, .int (nI i))] := hl
  refine lv_aload_n hx hb d_A_elementData_0 rfl (lv_at hl 0 rfl) ?_
  refine hp_get (v := .ref ea) hx hb hg in_A hown hK h he rfl 0 (by decide) (hg _ w50) (fun _ z => z) rfl d_A_elementData_1 ?_
  refine lv_iload_n hx hb d_A_elementData_4 rfl (lv_at hl 1 rfl) ?_
  refine hp_aald (j := i) hx hb hK h 1 hE ht1 rfl (by omega) hcap hgi d_A_elementData_5 ?_
  exact hp_raret hx hb hr (by first | exact Or.inl ⟨_, rfl⟩ | exact Or.inr ⟨_, rfl⟩) hlk rfl d_A_elementData_6

set_option maxHeartbeats 4000000 in
set_option maxRecDepth 100000 in
theorem c_A_get (l : Launch) (D : va_G) (tys : List (ClassId × FieldType)) (de : Nat) (sa : Nat → Nat) {L : List Nat} {f : Nat → va_E} {a ea n cap i y : Nat} {mo : Int32} {g : Nat → Option Nat} {cO : ClassId} (ht1 : tys[1]? = some (cO, .object "java/lang/Object")) (he : hp_at L f a (ka ea (nI n) mo)) (hE : hp_at L f ea (kar cO cap g)) (hn : n ≤ cap) (hcap : cap < 2 ^ 31) (hi : i < n) (hgi : g i = some y) : hp_Rr l y_A_get (gw_ws y_A_get b_A_get 2 (some (.object "java/lang/Object"))) { frames := 2, cells := 0, slots := 0, locals := 43 } D kc tys (s_X de sa) [.ref a, .int (nI i)] L f (fun r => r = y) := by
  refine hp_ofW (Qc := fun A => hp_QRr (fun r => r = y)) (fr := fun A => (fun _ => False)) (ret := (some (.object "java/lang/Object"))) (by decide) rfl (Nat.le_of_ble_eq_true rfl) ?_
  intro p e s m below meth c ls A hx hb hml hr hts hown hlk hnm hl hK hX h
  have hg : ∀ w ∈ gw, w.before _ s = true := fun w hw => hts w (List.mem_cons_of_mem _ hw)
  have hown : s.vm.findClass "java/util/ArrayList" = some m.cls := hown
  have hnm : meth.name = "get" := hnm
  have hl : lv_has ls 2 [(0, .ref a), (1, .int (nI i))] := hl
  refine lv_iload_n hx hb d_A_get_0 rfl (lv_at hl 1 rfl) ?_
  refine lv_aload_n hx hb d_A_get_1 rfl (lv_at hl 0 rfl) ?_
  refine hp_get (v := .int (nI n)) hx hb hg in_A hown hK h he rfl 1 (by decide) (hg _ w51) (fun _ z => z) rfl d_A_get_2 ?_
  refine hp_callR (hp_runS (As := [.int (nI i), .int (nI n)]) (rest := []) ⟨hx, hb, hml, hown, hg⟩ (c_Ob_checkIndex l D tys de sa (L := L) (f := f) hi (by omega)) (va_cwS 2 hg (gw_S w419 w420 w19 w421) rfl rfl rfl (by decide +kernel) ⟨Nat.le_of_ble_eq_true rfl, Nat.le_of_ble_eq_true rfl⟩) (s_ok de sa) hK hX h rfl hl.1 rfl (Nat.le_of_ble_eq_true rfl) d_A_get_5 ⟨Nat.le_of_ble_eq_true rfl, Nat.le_of_ble_eq_true rfl⟩) (fun r1 hp => ?_)
  refine lv_pop hx hb d_A_get_8 rfl ?_
  refine lv_aload_n hx hb d_A_get_9 rfl (lv_at hl 0 rfl) ?_
  refine lv_iload_n hx hb d_A_get_10 rfl (lv_at hl 1 rfl) ?_
  refine hp_callRr (hp_runV (As := [.int (nI i)]) (rest := []) ⟨hx, hb, hml, hown, hg⟩ (c_A_elementData l D tys de sa ht1 he hE hn hcap hi hgi) (cwV 1 hg (gw_V w533 w534 w535 w5 w536) rfl rfl rfl (by decide +kernel) ⟨Nat.le_of_ble_eq_true rfl, Nat.le_of_ble_eq_true rfl⟩) (s_ok de sa) hK hX h he rfl rfl rfl hl.1 rfl (Nat.le_of_ble_eq_true rfl) d_A_get_11 ⟨Nat.le_of_ble_eq_true rfl, Nat.le_of_ble_eq_true rfl⟩) (fun r1 hp => ?_)
  exact hp_raret hx hb hr (by first | exact Or.inl ⟨_, rfl⟩ | exact Or.inr ⟨_, rfl⟩) hlk hp d_A_get_14

theorem hp_sw9 {f : Nat → va_E} {a b : Nat} {e1 e2 e3 e4 : va_E} (h : a ≠ b) : va_up (va_up (va_up (va_up f a e1) b e2) a e3) b e4 = va_up (va_up f a e3) b e4 := by
  funext j
  by_cases hb : j = b
  · subst hb; rw [va_up_self, va_up_self]
  · by_cases ha : j = a
    · subst ha; rw [va_up_ne _ _ hb, va_up_self, va_up_ne _ _ hb, va_up_self]
    · rw [va_up_ne _ _ hb, va_up_ne _ _ ha, va_up_ne _ _ hb, va_up_ne _ _ ha, va_up_ne _ _ hb, va_up_ne _ _ ha]
set_option maxHeartbeats 4000000 in
set_option maxRecDepth 100000 in
theorem c_A_fastRemove (l : Launch) (D : va_G) (tys : List (ClassId × FieldType)) (de : Nat) (sa : Nat → Nat) {L : List Nat} {f : Nat → va_E} {a ea k cap : Nat} {mo : Int32} {g : Nat → Option Nat} {cO : ClassId} (ht1 : tys[1]? = some (cO, .object "java/lang/Object")) (he : hp_at L f a (ka ea (nI (k + 1)) mo)) (hE : hp_at L f ea (kar cO cap g)) (hkc : k + 1 ≤ cap) (hcap : cap < 2 ^ 31) (hel : ∀ j y, j < k + 1 → g j = some y → ∃ x, hp_at L f y (km x)) : hp_Mv l y_A_fastRemove (gw_ws y_A_fastRemove b_A_fastRemove 4 none) { frames := 1, cells := 0, slots := 0, locals := 30 } D kc tys (s_X de sa) [.ref a, .ref ea, .int 0] L f (fun u => (∃ g' : Nat → Option Nat, u = (L, va_up (va_up f a (ka ea (nI k) (mo + 1))) ea (kar cO cap g')) ∧ ∀ j, j < k → g' j = g (j + 1))) 0 0 := by
  refine hp_ofW (Qc := fun A => va_Qv (fun u => (∃ g' : Nat → Option Nat, u = (L, va_up (va_up f a (ka ea (nI k) (mo + 1))) ea (kar cO cap g')) ∧ ∀ j, j < k → g' j = g (j + 1))) (hp_B D kc A) A) (fr := fun A => A) (ret := none) (by decide) rfl (Nat.le_of_ble_eq_true rfl) ?_
  intro p e s m below meth c ls A hx hb hml hr hts hown hlk hnm hl hK hX h
  have hg : ∀ w ∈ gw, w.before _ s = true := fun w hw => hts w (List.mem_cons_of_mem _ hw)
  have hown : s.vm.findClass "java/util/ArrayList" = some m.cls := hown
  have hnm : meth.name = "fastRemove" := hnm
  have hl : lv_has ls 4 [(0, .ref a), (1, .ref ea), (2, .int 0)] := hl
  have he0 := he
  have ne_a_ea : a ≠ ea := he.apart hE (fun z => by cases z)
  refine lv_aload_n hx hb d_A_fastRemove_0 rfl (lv_at hl 0 rfl) ?_
  refine lv_dup hx hb d_A_fastRemove_1 rfl ?_
  refine hp_get (v := .int mo) hx hb hg in_A hown hK h he rfl 2 (by decide) (hg _ w53) (fun x9 h9 => u_same (hg _ w54) x9 h9) rfl d_A_fastRemove_2 ?_
  refine lv_iconst (v := 1) hx hb d_A_fastRemove_5 (by decide) ?_
  refine lv_iadd hx hb d_A_fastRemove_6 ?_
  refine hp_put (ty := .int) (v := .int (mo + 1)) (fs' := [.ref ea, .int (nI (k + 1)), .int (mo + 1)]) hx hb hg in_A t_A t_A_ok n_A hown hK h he rfl 2 (by decide) (hg _ w53) (fun x9 h9 => u_same (hg _ w54) x9 h9) rfl (by decide +kernel) rfl rfl (Nat.le_of_ble_eq_true rfl) rfl d_A_fastRemove_7 (fun H locs f1 hf1 h => ?_)
  have he := he.self' hf1
  have hE := hE.ne' hf1 (Ne.symm ne_a_ea)
  refine lv_aload_n hx hb d_A_fastRemove_10 rfl (lv_at hl 0 rfl) ?_
  refine hp_get (v := .int (nI (k + 1))) hx hb hg in_A hown hK h he rfl 1 (by decide) (hg _ w51) (fun _ z => z) rfl d_A_fastRemove_11 ?_
  refine lv_iconst (v := 1) hx hb d_A_fastRemove_14 (by decide) ?_
  refine lv_isub hx hb d_A_fastRemove_15 ?_
  rw [nI_pred]
  refine lv_dup hx hb d_A_fastRemove_16 rfl ?_
  refine lv_istore_n (lv' := [(3, .int (nI k)), (0, .ref a), (1, .ref ea), (2, .int 0)]) hx hb d_A_fastRemove_17 rfl hl (by decide) rfl (fun ls hl => ?_)
  refine lv_iload_n hx hb d_A_fastRemove_18 rfl (lv_at hl 3 rfl) ?_
  refine lv_icmp_le (tgt := 34) hx hb d_A_fastRemove_19 (by decide) (fun hc => ?_) (fun hc => ?_)
  · skip
    have hk0 : k = 0 := by rcases Nat.eq_zero_or_pos k with z | z; exact z; exact absurd hc (nI_nle z (by omega))
    refine lv_aload_n hx hb d_A_fastRemove_34 rfl (lv_at hl 2 rfl) ?_
    refine lv_aload_n hx hb d_A_fastRemove_35 rfl (lv_at hl 1 rfl) ?_
    refine lv_iload_n hx hb d_A_fastRemove_36 rfl (lv_at hl 0 rfl) ?_
    refine lv_dup_x1 hx hb d_A_fastRemove_37 rfl rfl ?_
    refine hp_put (ty := .int) (v := .int (nI k)) (fs' := [.ref ea, .int (nI k), .int (mo + 1)]) hx hb hg in_A t_A t_A_ok n_A hown hK h he rfl 1 (by decide) (hg _ w51) (fun _ z => z) rfl (by decide +kernel) rfl rfl (Nat.le_of_ble_eq_true rfl) rfl d_A_fastRemove_38 (fun H locs f2 hf2 h => ?_)
    have he := he.self' hf2
    have hE := hE.ne' hf2 (Ne.symm ne_a_ea)
    refine lv_null hx hb d_A_fastRemove_41 ?_
    refine hp_aastN hx hb hK h 1 hE ht1 (j := k) rfl (by omega) hcap d_A_fastRemove_42 (fun H locs f3 hf3 h => ?_)
    exact hp_vret hx hb hr hlk h ⟨va_up g k none, by rw [hf3, hf2, hf1, bx_uu], fun j hj => absurd hj (by omega)⟩ (by omega) (by omega) d_A_fastRemove_43
  · skip
    have hk0 : 0 < k := by rcases Nat.eq_zero_or_pos k with z | z; exact absurd (show nI k ≤ 0 by rw [z]; decide) hc; exact z
    refine lv_aload_n hx hb d_A_fastRemove_22 rfl (lv_at hl 2 rfl) ?_
    refine lv_iload_n hx hb d_A_fastRemove_23 rfl (lv_at hl 3 rfl) ?_
    refine lv_iconst (v := 1) hx hb d_A_fastRemove_24 (by decide) ?_
    refine lv_iadd hx hb d_A_fastRemove_25 ?_
    refine lv_aload_n hx hb d_A_fastRemove_26 rfl (lv_at hl 2 rfl) ?_
    refine lv_iload_n hx hb d_A_fastRemove_27 rfl (lv_at hl 3 rfl) ?_
    refine lv_iload_n hx hb d_A_fastRemove_28 rfl (lv_at hl 0 rfl) ?_
    refine lv_iload_n hx hb d_A_fastRemove_29 rfl (lv_at hl 3 rfl) ?_
    refine lv_isub hx hb d_A_fastRemove_30 ?_
    rw [show nI k - 0 = nI k from by rw [show (0 : Int32) = nI 0 from rfl, pk_sub (Nat.zero_le _), Nat.sub_zero]]
    refine hp_copyq hx hb (by rw [hml]; exact hl.1.symm) hown (hg _ w429) (hg _ w397) (hg _ w396) (hg _ w18) hK h 1 1 (ci := 2) hE hE ht1 ht1 (sp := 1) (dp := 0) (n := k) rfl rfl rfl (by omega) (by omega) hcap hcap rfl (fun i hi y hy => ?_) (s_Nw hX n744) (Nat.le_of_ble_eq_true rfl) (Nat.le_of_ble_eq_true rfl) d_A_fastRemove_31 (fun H locs f2 hf2 h => ?_)
    · obtain ⟨x, hx9⟩ := hel (1 + i) y (by omega) hy
      exact ⟨_, hx9.ne' hf1 (hx9.apart he0 (fun z => by cases z))⟩
    have he := he.ne' hf2 ne_a_ea
    have hE := hE.self' hf2
    refine lv_aload_n hx hb d_A_fastRemove_34 rfl (lv_at hl 2 rfl) ?_
    refine lv_aload_n hx hb d_A_fastRemove_35 rfl (lv_at hl 1 rfl) ?_
    refine lv_iload_n hx hb d_A_fastRemove_36 rfl (lv_at hl 0 rfl) ?_
    refine lv_dup_x1 hx hb d_A_fastRemove_37 rfl rfl ?_
    refine hp_put (ty := .int) (v := .int (nI k)) (fs' := [.ref ea, .int (nI k), .int (mo + 1)]) hx hb hg in_A t_A t_A_ok n_A hown hK h he rfl 1 (by decide) (hg _ w51) (fun _ z => z) rfl (by decide +kernel) rfl rfl (Nat.le_of_ble_eq_true rfl) rfl d_A_fastRemove_38 (fun H locs f3 hf3 h => ?_)
    have he := he.self' hf3
    have hE := hE.ne' hf3 (Ne.symm ne_a_ea)
    refine lv_null hx hb d_A_fastRemove_41 ?_
    refine hp_aastN hx hb hK h 1 hE ht1 (j := k) rfl (by omega) hcap d_A_fastRemove_42 (fun H locs f4 hf4 h => ?_)
    exact hp_vret hx hb hr hlk h ⟨va_up (va_cpy g g 1 0 k) k none, by rw [hf4, hf3, hf2, hf1]; exact congrArg (Prod.mk L) (hp_sw9 ne_a_ea), fun j hj => by rw [va_up_ne _ _ (by omega), pk_cpy_in (Nat.zero_le _) (by omega)]; congr 1; omega⟩ (by omega) (by omega) d_A_fastRemove_43

set_option maxHeartbeats 4000000 in
set_option maxRecDepth 100000 in
theorem c_A_remove (l : Launch) (D : va_G) (tys : List (ClassId × FieldType)) (de : Nat) (sa : Nat → Nat) {L : List Nat} {f : Nat → va_E} {a ea k cap y : Nat} {mo : Int32} {g : Nat → Option Nat} {cO : ClassId} (ht1 : tys[1]? = some (cO, .object "java/lang/Object")) (he : hp_at L f a (ka ea (nI (k + 1)) mo)) (hE : hp_at L f ea (kar cO cap g)) (hkc : k + 1 ≤ cap) (hcap : cap < 2 ^ 31) (hel : ∀ j y, j < k + 1 → g j = some y → ∃ x, hp_at L f y (km x)) (hg0 : g 0 = some y) : hp_Mr l y_A_remove (gw_ws y_A_remove b_A_remove 4 (some (.object "java/lang/Object"))) { frames := 2, cells := 0, slots := 0, locals := 53 } D kc tys (s_X de sa) [.ref a, .int 0] L f (fun r u => r = y ∧ (∃ g' : Nat → Option Nat, u = (L, va_up (va_up f a (ka ea (nI k) (mo + 1))) ea (kar cO cap g')) ∧ ∀ j, j < k → g' j = g (j + 1))) 0 0 := by
  refine hp_ofW (Qc := fun A => va_Qr (fun _ => True) (hp_Br D kc A (fun r u => r = y ∧ (∃ g' : Nat → Option Nat, u = (L, va_up (va_up f a (ka ea (nI k) (mo + 1))) ea (kar cO cap g')) ∧ ∀ j, j < k → g' j = g (j + 1)))) A) (fr := fun A => A) (ret := (some (.object "java/lang/Object"))) (by decide) rfl (Nat.le_of_ble_eq_true rfl) ?_
  intro p e s m below meth c ls A hx hb hml hr hts hown hlk hnm hl hK hX h
  have hg : ∀ w ∈ gw, w.before _ s = true := fun w hw => hts w (List.mem_cons_of_mem _ hw)
  have hown : s.vm.findClass "java/util/ArrayList" = some m.cls := hown
  have hnm : meth.name = "remove" := hnm
  have hl : lv_has ls 4 [(0, .ref a), (1, .int 0)] := hl
  refine lv_iload_n hx hb d_A_remove_0 rfl (lv_at hl 1 rfl) ?_
  refine lv_aload_n hx hb d_A_remove_1 rfl (lv_at hl 0 rfl) ?_
  refine hp_get (v := .int (nI (k + 1))) hx hb hg in_A hown hK h he rfl 1 (by decide) (hg _ w51) (fun _ z => z) rfl d_A_remove_2 ?_
  refine hp_callR (hp_runS (As := [.int 0, .int (nI (k + 1))]) (rest := []) ⟨hx, hb, hml, hown, hg⟩ (c_Ob_checkIndex l D tys de sa (L := L) (f := f) (i := 0) (n := k + 1) (by omega) (by omega)) (va_cwS 2 hg (gw_S w419 w420 w19 w421) rfl rfl rfl (by decide +kernel) ⟨Nat.le_of_ble_eq_true rfl, Nat.le_of_ble_eq_true rfl⟩) (s_ok de sa) hK hX h rfl hl.1 rfl (Nat.le_of_ble_eq_true rfl) d_A_remove_5 ⟨Nat.le_of_ble_eq_true rfl, Nat.le_of_ble_eq_true rfl⟩) (fun r1 hp => ?_)
  refine lv_pop hx hb d_A_remove_8 rfl ?_
  refine lv_aload_n hx hb d_A_remove_9 rfl (lv_at hl 0 rfl) ?_
  refine hp_get (v := .ref ea) hx hb hg in_A hown hK h he rfl 0 (by decide) (hg _ w50) (fun _ z => z) rfl d_A_remove_10 ?_
  refine lv_astore_n (lv' := [(2, .ref ea), (0, .ref a), (1, .int 0)]) hx hb d_A_remove_13 rfl hl (by decide) rfl (fun ls hl => ?_)
  refine lv_aload_n hx hb d_A_remove_14 rfl (lv_at hl 0 rfl) ?_
  refine lv_iload_n hx hb d_A_remove_15 rfl (lv_at hl 2 rfl) ?_
  refine hp_aald (j := 0) hx hb hK h 1 hE ht1 rfl (by omega) hcap hg0 d_A_remove_16 ?_
  refine lv_astore_n (lv' := [(3, .ref y), (2, .ref ea), (0, .ref a), (1, .int 0)]) hx hb d_A_remove_17 rfl hl (by decide) rfl (fun ls hl => ?_)
  refine lv_aload_n hx hb d_A_remove_18 rfl (lv_at hl 2 rfl) ?_
  refine lv_aload_n hx hb d_A_remove_19 rfl (lv_at hl 1 rfl) ?_
  refine lv_iload_n hx hb d_A_remove_20 rfl (lv_at hl 3 rfl) ?_
  refine hp_callv (hp_runV (As := [.ref ea, .int 0]) (rest := []) ⟨hx, hb, hml, hown, hg⟩ (c_A_fastRemove l D tys de sa ht1 he hE hkc hcap hel) (cwV 2 hg (gw_V w425 w427 ws13 w5 w428) rfl rfl rfl (by decide +kernel) ⟨Nat.le_of_ble_eq_true rfl, Nat.le_of_ble_eq_true rfl⟩) (s_ok de sa) hK hX h he rfl rfl rfl hl.1 rfl (Nat.le_of_ble_eq_true rfl) d_A_remove_21 ⟨Nat.le_of_ble_eq_true rfl, Nat.le_of_ble_eq_true rfl⟩) h (fun L1 f1 H locs hp h => ?_)
  refine lv_aload_n hx hb d_A_remove_24 rfl (lv_at hl 0 rfl) ?_
  exact hp_aret hx hb hr (by first | exact Or.inl ⟨_, rfl⟩ | exact Or.inr ⟨_, rfl⟩) hlk h ⟨rfl, hp⟩ (by omega) (by omega) d_A_remove_25
