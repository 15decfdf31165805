/-! Constructors below Node and Message; Arrays.fill, ArrayList.clear, Node.reset, by program (wip/mk12.py). -/
set_option maxHeartbeats 4000000 in
set_option maxRecDepth 100000 in
theorem c_Rc_init (l : Launch) (D : va_G) (tys : List (ClassId × FieldType)) (de : Nat) (sa : Nat → Nat) {L : List Nat} {f : Nat → va_E} {a : Nat}  : hp_Ru l y_Rc_init (gw_ws y_Rc_init b_Rc_init 1 none) { frames := 1, cells := 0, slots := 0, locals := 12 } D kc tys (s_X de sa) [.ref a] L f True := by
  refine hp_ofW (Qc := fun A => hp_QU True) (fr := fun A => (fun _ => False)) (ret := none) (by decide) rfl (Nat.le_of_ble_eq_true rfl) ?_
  intro p e s m below meth c ls A hx hb hml hr hts hown hlk hnm hl hK hX h
  have hg : ∀ w ∈ gw, w.before _ s = true := fun w hw => hts w (List.mem_cons_of_mem _ hw)
  have hown : s.vm.findClass "java/lang/Record" = some m.cls := hown
  have hnm : meth.name = "<init>" := hnm
  have hl : lv_has ls 1 [(0, .ref a)] := hl
  refine lv_aload_n hx hb d_Rc_init_0 rfl (lv_at hl 0 rfl) ?_
  refine W.objInit hx hb hown (hg _ w320) (hg _ w27) (hg _ w28) rfl (by rw [hml]; exact hl.1) rfl d_Rc_init_1 (Nat.le_of_ble_eq_true rfl) (Nat.le_of_ble_eq_true rfl) ?_
  refine W.eq (g2 := F0 m 4 ls []) rfl ?_
  exact hp_rvret hx hb hr hlk trivial d_Rc_init_4

set_option maxHeartbeats 4000000 in
set_option maxRecDepth 100000 in
theorem c_Ac_init (l : Launch) (D : va_G) (tys : List (ClassId × FieldType)) (de : Nat) (sa : Nat → Nat) {L : List Nat} {f : Nat → va_E} {a : Nat}  : hp_Ru l y_Ac_init (gw_ws y_Ac_init b_Ac_init 1 none) { frames := 1, cells := 0, slots := 0, locals := 12 } D kc tys (s_X de sa) [.ref a] L f True := by
  refine hp_ofW (Qc := fun A => hp_QU True) (fr := fun A => (fun _ => False)) (ret := none) (by decide) rfl (Nat.le_of_ble_eq_true rfl) ?_
  intro p e s m below meth c ls A hx hb hml hr hts hown hlk hnm hl hK hX h
  have hg : ∀ w ∈ gw, w.before _ s = true := fun w hw => hts w (List.mem_cons_of_mem _ hw)
  have hown : s.vm.findClass "java/util/AbstractCollection" = some m.cls := hown
  have hnm : meth.name = "<init>" := hnm
  have hl : lv_has ls 1 [(0, .ref a)] := hl
  refine lv_aload_n hx hb d_Ac_init_0 rfl (lv_at hl 0 rfl) ?_
  refine W.objInit hx hb hown (hg _ w47) (hg _ w27) (hg _ w28) rfl (by rw [hml]; exact hl.1) rfl d_Ac_init_1 (Nat.le_of_ble_eq_true rfl) (Nat.le_of_ble_eq_true rfl) ?_
  refine W.eq (g2 := F0 m 4 ls []) rfl ?_
  exact hp_rvret hx hb hr hlk trivial d_Ac_init_4

set_option maxHeartbeats 4000000 in
set_option maxRecDepth 100000 in
theorem c_Al_init (l : Launch) (D : va_G) (tys : List (ClassId × FieldType)) (de : Nat) (sa : Nat → Nat) {L : List Nat} {f : Nat → va_E} {a : Nat} {w : Value} {n mo : Int32} (he : hp_at L f a (.inr (4, [w, .int n, .int mo]))) : hp_Mv l y_Al_init (gw_ws y_Al_init b_Al_init 1 none) { frames := 2, cells := 0, slots := 0, locals := 32 } D kc tys (s_X de sa) [.ref a] L f (fun u => u = (L, va_up f a (.inr (4, [w, .int n, .int 0])))) 0 0 := by
  refine hp_ofW (Qc := fun A => va_Qv (fun u => u = (L, va_up f a (.inr (4, [w, .int n, .int 0])))) (hp_B D kc A) A) (fr := fun A => A) (ret := none) (by decide) rfl (Nat.le_of_ble_eq_true rfl) ?_
  intro p e s m below meth c ls A hx hb hml hr hts hown hlk hnm hl hK hX h
  have hg : ∀ w ∈ gw, w.before _ s = true := fun w hw => hts w (List.mem_cons_of_mem _ hw)
  have hown : s.vm.findClass "java/util/AbstractList" = some m.cls := hown
  have hnm : meth.name = "<init>" := hnm
  have hl : lv_has ls 1 [(0, .ref a)] := hl
  refine lv_aload_n hx hb d_Al_init_0 rfl (lv_at hl 0 rfl) ?_
  refine hp_callU (hp_runI (As := []) (rest := []) ⟨hx, hb, hml, hown, hg⟩ (c_Ac_init l D tys de sa (L := L) (f := f) (a := a)) (cwI 0 hg (gw_code w46) rfl rfl rfl (hg _ w3) (hg _ w44) (hg _ w45) rfl (by decide +kernel) ⟨Nat.le_of_ble_eq_true rfl, Nat.le_of_ble_eq_true rfl⟩) (s_ok de sa) hK hX h rfl hl.1 rfl (Nat.le_of_ble_eq_true rfl) d_Al_init_1 ⟨Nat.le_of_ble_eq_true rfl, Nat.le_of_ble_eq_true rfl⟩) (fun hp => ?_)
  refine lv_aload_n hx hb d_Al_init_4 rfl (lv_at hl 0 rfl) ?_
  refine lv_iconst (v := 0) hx hb d_Al_init_5 (by decide) ?_
  refine hp_put (ty := .int) (v := .int 0) (fs' := [w, .int n, .int 0]) hx hb hg in_A t_A t_A_ok n_A hown hK h he rfl 2 (by decide) (hg _ w52) (fun _ z => z) rfl (by decide +kernel) rfl rfl (Nat.le_of_ble_eq_true rfl) rfl d_Al_init_6 (fun H locs f1 hf1 h => ?_)
  have he := he.self' hf1
  exact hp_vret hx hb hr hlk h (by rw [hf1] <;> rfl) (by omega) (by omega) d_Al_init_9

set_option maxHeartbeats 4000000 in
set_option maxRecDepth 100000 in
theorem c_A_init (l : Launch) (D : va_G) (tys : List (ClassId × FieldType)) (de : Nat) (sa : Nat → Nat) {L : List Nat} {f : Nat → va_E} {a : Nat} {w : Value} {n mo : Int32} (he : hp_at L f a (.inr (4, [w, .int n, .int mo]))) : hp_Mv l y_A_init (gw_ws y_A_init b_A_init 1 none) { frames := 3, cells := 0, slots := 0, locals := 52 } D kc tys (s_X de sa) [.ref a] L f (fun u => u = (L, va_up f a (ka de n 0))) 0 0 := by
  refine hp_ofW (Qc := fun A => va_Qv (fun u => u = (L, va_up f a (ka de n 0))) (hp_B D kc A) A) (fr := fun A => A) (ret := none) (by decide) rfl (Nat.le_of_ble_eq_true rfl) ?_
  intro p e s m below meth c ls A hx hb hml hr hts hown hlk hnm hl hK hX h
  have hg : ∀ w ∈ gw, w.before _ s = true := fun w hw => hts w (List.mem_cons_of_mem _ hw)
  have hown : s.vm.findClass "java/util/ArrayList" = some m.cls := hown
  have hnm : meth.name = "<init>" := hnm
  have hl : lv_has ls 1 [(0, .ref a)] := hl
  refine lv_aload_n hx hb d_A_init_0 rfl (lv_at hl 0 rfl) ?_
  refine hp_callv (hp_runI (As := []) (rest := []) ⟨hx, hb, hml, hown, hg⟩ (c_Al_init l D tys de sa he) (cwI 0 hg (gw_code w43) rfl rfl rfl (hg _ w4) (hg _ w41) (hg _ w42) rfl (by decide +kernel) ⟨Nat.le_of_ble_eq_true rfl, Nat.le_of_ble_eq_true rfl⟩) (s_ok de sa) hK hX h rfl hl.1 rfl (Nat.le_of_ble_eq_true rfl) d_A_init_1 ⟨Nat.le_of_ble_eq_true rfl, Nat.le_of_ble_eq_true rfl⟩) h (fun L1 f1 H locs hp h => ?_)
  obtain ⟨rfl, rfl⟩ := Prod.mk.inj hp
  have he := he.self (e' := .inr (4, [w, .int n, .int 0]))
  refine lv_aload_n hx hb d_A_init_4 rfl (lv_at hl 0 rfl) ?_
  refine va_gets hx hb hX.2.2.2.1 h.2.2.1 hown (hg _ w48) (fun _ z => z) d_A_init_5 ?_
  refine hp_put (ty := (.array (.object "java/lang/Object"))) (v := .ref de) (fs' := [.ref de, .int n, .int 0]) hx hb hg in_A t_A t_A_ok n_A hown hK h he rfl 0 (by decide) (hg _ w50) (fun _ z => z) rfl (by decide +kernel) rfl rfl (Nat.le_of_ble_eq_true rfl) rfl d_A_init_8 (fun H locs f2 hf2 h => ?_)
  have he := he.self' hf2
  exact hp_vret hx hb hr hlk h (by rw [hf2, bx_uu] <;> rfl) (by omega) (by omega) d_A_init_11

set_option maxHeartbeats 4000000 in
set_option maxRecDepth 100000 in
theorem c_M_init (l : Launch) (D : va_G) (tys : List (ClassId × FieldType)) (de : Nat) (sa : Nat → Nat) {L : List Nat} {f : Nat → va_E} {a : Nat} {x0 x1 x2 x3 x4 z0 z1 z2 z3 z4 : Int32} (he : hp_at L f a (.inr (2, [.int z0, .int z1, .int z2, .int z3, .int z4]))) : hp_Mv l y_M_init (gw_ws y_M_init b_M_init 6 none) { frames := 2, cells := 0, slots := 0, locals := 32 } D kc tys (s_X de sa) [.ref a, .int x0, .int x1, .int x2, .int x3, .int x4] L f (fun u => u = (L, va_up f a (km (x0, x1, x2, x3, x4)))) 0 0 := by
  refine hp_ofW (Qc := fun A => va_Qv (fun u => u = (L, va_up f a (km (x0, x1, x2, x3, x4)))) (hp_B D kc A) A) (fr := fun A => A) (ret := none) (by decide) rfl (Nat.le_of_ble_eq_true rfl) ?_
  intro p e s m below meth c ls A hx hb hml hr hts hown hlk hnm hl hK hX h
  have hg : ∀ w ∈ gw, w.before _ s = true := fun w hw => hts w (List.mem_cons_of_mem _ hw)
  have hown : s.vm.findClass "MergingFragments$Message" = some m.cls := hown
  have hnm : meth.name = "<init>" := hnm
  have hl : lv_has ls 6 [(0, .ref a), (1, .int x0), (2, .int x1), (3, .int x2), (4, .int x3), (5, .int x4)] := hl
  refine lv_aload_n hx hb d_M_init_0 rfl (lv_at hl 0 rfl) ?_
  refine hp_callU (hp_runI (As := []) (rest := []) ⟨hx, hb, hml, hown, hg⟩ (c_Rc_init l D tys de sa (L := L) (f := f) (a := a)) (cwI 0 hg (gw_code w319) rfl rfl rfl (hg _ w14) (hg _ w317) (hg _ w318) rfl (by decide +kernel) ⟨Nat.le_of_ble_eq_true rfl, Nat.le_of_ble_eq_true rfl⟩) (s_ok de sa) hK hX h rfl hl.1 rfl (Nat.le_of_ble_eq_true rfl) d_M_init_1 ⟨Nat.le_of_ble_eq_true rfl, Nat.le_of_ble_eq_true rfl⟩) (fun hp => ?_)
  refine lv_aload_n hx hb d_M_init_4 rfl (lv_at hl 0 rfl) ?_
  refine lv_iload_n hx hb d_M_init_5 rfl (lv_at hl 1 rfl) ?_
  refine hp_putF (ty := .int) (v := .int x0) (fs' := [.int x0, .int z1, .int z2, .int z3, .int z4]) hx hb hg in_M t_M t_M_ok n_M hown hK h he rfl 0 (by decide) (hg _ w321) (fun _ z => z) rfl hnm rfl (by decide +kernel) rfl rfl (Nat.le_of_ble_eq_true rfl) rfl d_M_init_6 (fun H locs f1 hf1 h => ?_)
  have he := he.self' hf1
  refine lv_aload_n hx hb d_M_init_9 rfl (lv_at hl 0 rfl) ?_
  refine lv_iload_n hx hb d_M_init_10 rfl (lv_at hl 2 rfl) ?_
  refine hp_putF (ty := .int) (v := .int x1) (fs' := [.int x0, .int x1, .int z2, .int z3, .int z4]) hx hb hg in_M t_M t_M_ok n_M hown hK h he rfl 1 (by decide) (hg _ w322) (fun _ z => z) rfl hnm rfl (by decide +kernel) rfl rfl (Nat.le_of_ble_eq_true rfl) rfl d_M_init_11 (fun H locs f2 hf2 h => ?_)
  have he := he.self' hf2
  refine lv_aload_n hx hb d_M_init_14 rfl (lv_at hl 0 rfl) ?_
  refine lv_iload_n hx hb d_M_init_15 rfl (lv_at hl 3 rfl) ?_
  refine hp_putF (ty := .int) (v := .int x2) (fs' := [.int x0, .int x1, .int x2, .int z3, .int z4]) hx hb hg in_M t_M t_M_ok n_M hown hK h he rfl 2 (by decide) (hg _ w323) (fun _ z => z) rfl hnm rfl (by decide +kernel) rfl rfl (Nat.le_of_ble_eq_true rfl) rfl d_M_init_16 (fun H locs f3 hf3 h => ?_)
  have he := he.self' hf3
  refine lv_aload_n hx hb d_M_init_19 rfl (lv_at hl 0 rfl) ?_
  refine lv_iload hx hb d_M_init_20 (lv_at hl 4 rfl) ?_
  refine hp_putF (ty := .int) (v := .int x3) (fs' := [.int x0, .int x1, .int x2, .int x3, .int z4]) hx hb hg in_M t_M t_M_ok n_M hown hK h he rfl 3 (by decide) (hg _ w324) (fun _ z => z) rfl hnm rfl (by decide +kernel) rfl rfl (Nat.le_of_ble_eq_true rfl) rfl d_M_init_22 (fun H locs f4 hf4 h => ?_)
  have he := he.self' hf4
  refine lv_aload_n hx hb d_M_init_25 rfl (lv_at hl 0 rfl) ?_
  refine lv_iload hx hb d_M_init_26 (lv_at hl 5 rfl) ?_
  refine hp_putF (ty := .int) (v := .int x4) (fs' := [.int x0, .int x1, .int x2, .int x3, .int x4]) hx hb hg in_M t_M t_M_ok n_M hown hK h he rfl 4 (by decide) (hg _ w325) (fun _ z => z) rfl hnm rfl (by decide +kernel) rfl rfl (Nat.le_of_ble_eq_true rfl) rfl d_M_init_28 (fun H locs f5 hf5 h => ?_)
  have he := he.self' hf5
  exact hp_vret hx hb hr hlk h (by rw [hf5, hf4, hf3, hf2, hf1, bx_uu, bx_uu, bx_uu, bx_uu] <;> rfl) (by omega) (by omega) d_M_init_31
