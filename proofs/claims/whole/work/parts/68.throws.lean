/-! The class's methods where they throw, by program (wip/mk68.py). -/
set_option maxHeartbeats 4000000 in
set_option maxRecDepth 100000 in
theorem t_G_requireNode (l : Launch) (hoff : th_Off l) (D : va_G) (tys : List (ClassId × FieldType)) (de : Nat) (sa : Nat → Nat) {L : List Nat} {f : Nat → va_E} {w : Int32} {ad τ : Nat → Nat} {E : kE} {S : kS} {cI cO cN : ClassId} (ht : tys[0]? = some (cI, .int)) (ht1 : tys[1]? = some (cO, .object "java/lang/Object")) (ht2 : tys[2]? = some (cN, .object "MergingFragments$Node")) (hG : kG cI cO cN de ad τ L f E S) (hbad : kBad E w) : hp_T l y_G_requireNode (gw_ws y_G_requireNode b_G_requireNode 2 none) { frames := 6, cells := 1, slots := 6, locals := 89 } D kc tys (s_X de sa) [.ref (ad 0), .int w] L f "java/lang/IndexOutOfBoundsException" := by
  refine th_ofW (ret := none) (by decide) rfl (Nat.le_of_ble_eq_true rfl) ?_
  intro p e s m below meth c ls A hx hb hml hno hts hown hlk hl hK hX h
  have hg : ∀ w ∈ gw, w.before _ s = true := fun w hw => hts w (List.mem_cons_of_mem _ hw)
  have hown : s.vm.findClass "MergingFragments" = some m.cls := hown
  have hl : lv_has ls 2 [(0, .ref (ad 0)), (1, .int w)] := hl
  have he := hG.1
  refine lv_iload_n hx hb d_G_requireNode_0 rfl (lv_at hl 1 rfl) ?_
  refine lv_if_lt (tgt := 12) hx hb d_G_requireNode_1 (by decide) (fun hc => ?_) (fun hc => ?_)
  · skip
    exact th_raise (own := "MergingFragments") (C := "java/lang/IndexOutOfBoundsException") (txt := "there is no such node") (inew := 124) (ildc := 154) (ic := 128) (st := sa 154) (names := ["java/lang/RuntimeException", "java/lang/Exception"]) hx hb hoff hown hlk (by rw [hml]; exact hl.1) hg hX (hg _ w255) (hg _ w12) (hX.2.2.1 (154, "there is no such node") (by decide)) at_IO at_ft.1 at_ft.2.2.2 (hno _) d_G_requireNode_12 d_G_requireNode_15 d_G_requireNode_16 d_G_requireNode_18 d_G_requireNode_21 (Nat.le_of_ble_eq_true rfl) (Nat.le_of_ble_eq_true rfl) (Nat.le_of_ble_eq_true rfl) (Nat.le_of_ble_eq_true rfl)
  · skip
    refine lv_iload_n hx hb d_G_requireNode_4 rfl (lv_at hl 1 rfl) ?_
    refine lv_aload_n hx hb d_G_requireNode_5 rfl (lv_at hl 0 rfl) ?_
    refine hp_get (v := .int (nI E.1)) hx hb hg in_G hown hK h he rfl 4 (by decide) (hg _ w131) (fun _ z => z) rfl d_G_requireNode_6 ?_
    refine lv_icmp_lt (tgt := 22) hx hb d_G_requireNode_9 (by decide) (fun hc2 => ?_) (fun hc2 => ?_)
    · skip
      rcases hbad with z | z
      · exact absurd z hc
      · exact absurd hc2 (Int32.not_lt.mpr z)
    · skip
      exact th_raise (own := "MergingFragments") (C := "java/lang/IndexOutOfBoundsException") (txt := "there is no such node") (inew := 124) (ildc := 154) (ic := 128) (st := sa 154) (names := ["java/lang/RuntimeException", "java/lang/Exception"]) hx hb hoff hown hlk (by rw [hml]; exact hl.1) hg hX (hg _ w255) (hg _ w12) (hX.2.2.1 (154, "there is no such node") (by decide)) at_IO at_ft.1 at_ft.2.2.2 (hno _) d_G_requireNode_12 d_G_requireNode_15 d_G_requireNode_16 d_G_requireNode_18 d_G_requireNode_21 (Nat.le_of_ble_eq_true rfl) (Nat.le_of_ble_eq_true rfl) (Nat.le_of_ble_eq_true rfl) (Nat.le_of_ble_eq_true rfl)

set_option maxHeartbeats 4000000 in
set_option maxRecDepth 100000 in
theorem t_G_wake (l : Launch) (hoff : th_Off l) (D : va_G) (tys : List (ClassId × FieldType)) (de : Nat) (sa : Nat → Nat) {L : List Nat} {f : Nat → va_E} {w  : Int32} {ad τ : Nat → Nat} {E : kE} {S : kS} {cI cO cN : ClassId} (ht : tys[0]? = some (cI, .int)) (ht1 : tys[1]? = some (cO, .object "java/lang/Object")) (ht2 : tys[2]? = some (cN, .object "MergingFragments$Node")) (hG : kG cI cO cN de ad τ L f E S) (hbad : kBad E w) : hp_T l y_G_wake (gw_ws y_G_wake b_G_wake 2 (some .boolean)) { frames := 8, cells := 1, slots := 6, locals := 140 } D kc tys (s_X de sa) [.ref (ad 0), .int w] L f "java/lang/IndexOutOfBoundsException" := by
  refine th_ofW (ret := (some .boolean)) (by decide) rfl (Nat.le_of_ble_eq_true rfl) ?_
  intro p e s m below meth c ls A hx hb hml hno hts hown hlk hl hK hX h
  have hg : ∀ w ∈ gw, w.before _ s = true := fun w hw => hts w (List.mem_cons_of_mem _ hw)
  have hown : s.vm.findClass "MergingFragments" = some m.cls := hown
  have hl : lv_has ls 2 [(0, .ref (ad 0)), (1, .int w)] := hl
  have he := hG.1
  refine lv_aload_n hx hb d_G_wake_0 rfl (lv_at hl 0 rfl) ?_
  refine lv_iload_n hx hb d_G_wake_1 rfl (lv_at hl 1 rfl) ?_
  exact hp_tpass (hp_trunV (As := [.int w]) (rest := []) ⟨hx, hb, hml, hown, hg⟩ (t_G_requireNode l hoff D tys de sa (w := w) ht ht1 ht2 hG hbad) (cwV 1 hg (gw_V w251 w253 ws3 w1 w254) rfl rfl rfl (by decide +kernel) ⟨Nat.le_of_ble_eq_true rfl, Nat.le_of_ble_eq_true rfl⟩) (s_ok de sa) hK hX h he rfl rfl rfl hl.1 rfl (Nat.le_of_ble_eq_true rfl) d_G_wake_2 ⟨Nat.le_of_ble_eq_true rfl, Nat.le_of_ble_eq_true rfl⟩) hno hlk

set_option maxHeartbeats 4000000 in
set_option maxRecDepth 100000 in
theorem t_G_handle (l : Launch) (hoff : th_Off l) (D : va_G) (tys : List (ClassId × FieldType)) (de : Nat) (sa : Nat → Nat) {L : List Nat} {f : Nat → va_E} {w  : Int32} {ad τ : Nat → Nat} {E : kE} {S : kS} {cI cO cN : ClassId} (ht : tys[0]? = some (cI, .int)) (ht1 : tys[1]? = some (cO, .object "java/lang/Object")) (ht2 : tys[2]? = some (cN, .object "MergingFragments$Node")) (hG : kG cI cO cN de ad τ L f E S) (hbad : kBad E w) : hp_T l y_G_handle (gw_ws y_G_handle b_G_handle 2 (some .int)) { frames := 8, cells := 1, slots := 6, locals := 140 } D kc tys (s_X de sa) [.ref (ad 0), .int w] L f "java/lang/IndexOutOfBoundsException" := by
  refine th_ofW (ret := (some .int)) (by decide) rfl (Nat.le_of_ble_eq_true rfl) ?_
  intro p e s m below meth c ls A hx hb hml hno hts hown hlk hl hK hX h
  have hg : ∀ w ∈ gw, w.before _ s = true := fun w hw => hts w (List.mem_cons_of_mem _ hw)
  have hown : s.vm.findClass "MergingFragments" = some m.cls := hown
  have hl : lv_has ls 2 [(0, .ref (ad 0)), (1, .int w)] := hl
  have he := hG.1
  refine lv_aload_n hx hb d_G_handle_0 rfl (lv_at hl 0 rfl) ?_
  refine lv_iload_n hx hb d_G_handle_1 rfl (lv_at hl 1 rfl) ?_
  exact hp_tpass (hp_trunV (As := [.int w]) (rest := []) ⟨hx, hb, hml, hown, hg⟩ (t_G_requireNode l hoff D tys de sa (w := w) ht ht1 ht2 hG hbad) (cwV 1 hg (gw_V w251 w253 ws3 w1 w254) rfl rfl rfl (by decide +kernel) ⟨Nat.le_of_ble_eq_true rfl, Nat.le_of_ble_eq_true rfl⟩) (s_ok de sa) hK hX h he rfl rfl rfl hl.1 rfl (Nat.le_of_ble_eq_true rfl) d_G_handle_2 ⟨Nat.le_of_ble_eq_true rfl, Nat.le_of_ble_eq_true rfl⟩) hno hlk

set_option maxHeartbeats 4000000 in
set_option maxRecDepth 100000 in
theorem t_G_run1 (l : Launch) (hoff : th_Off l) (D : va_G) (tys : List (ClassId × FieldType)) (de : Nat) (sa : Nat → Nat) {L : List Nat} {f : Nat → va_E} {w u9 : Int32} {ad τ : Nat → Nat} {E : kE} {S : kS} {cI cO cN : ClassId} (ht : tys[0]? = some (cI, .int)) (ht1 : tys[1]? = some (cO, .object "java/lang/Object")) (ht2 : tys[2]? = some (cN, .object "MergingFragments$Node")) (hG : kG cI cO cN de ad τ L f E S) (hbad : kBad E w) : hp_T l y_G_run (gw_ws y_G_run b_G_run 7 (some .int)) { frames := 8, cells := 1, slots := 6, locals := 140 } D kc tys (s_X de sa) [.ref (ad 0), .int w, .int u9] L f "java/lang/IndexOutOfBoundsException" := by
  refine th_ofW (ret := (some .int)) (by decide) rfl (Nat.le_of_ble_eq_true rfl) ?_
  intro p e s m below meth c ls A hx hb hml hno hts hown hlk hl hK hX h
  have hg : ∀ w ∈ gw, w.before _ s = true := fun w hw => hts w (List.mem_cons_of_mem _ hw)
  have hown : s.vm.findClass "MergingFragments" = some m.cls := hown
  have hl : lv_has ls 7 [(0, .ref (ad 0)), (1, .int w), (2, .int u9)] := hl
  have he := hG.1
  refine lv_aload_n hx hb d_G_run_0 rfl (lv_at hl 0 rfl) ?_
  refine lv_iload_n hx hb d_G_run_1 rfl (lv_at hl 1 rfl) ?_
  exact hp_tpass (hp_trunV (As := [.int w]) (rest := []) ⟨hx, hb, hml, hown, hg⟩ (t_G_requireNode l hoff D tys de sa (w := w) ht ht1 ht2 hG hbad) (cwV 1 hg (gw_V w251 w253 ws3 w1 w254) rfl rfl rfl (by decide +kernel) ⟨Nat.le_of_ble_eq_true rfl, Nat.le_of_ble_eq_true rfl⟩) (s_ok de sa) hK hX h he rfl rfl rfl hl.1 rfl (Nat.le_of_ble_eq_true rfl) d_G_run_2 ⟨Nat.le_of_ble_eq_true rfl, Nat.le_of_ble_eq_true rfl⟩) hno hlk

set_option maxHeartbeats 4000000 in
set_option maxRecDepth 100000 in
theorem t_G_about1 (l : Launch) (hoff : th_Off l) (D : va_G) (tys : List (ClassId × FieldType)) (de : Nat) (sa : Nat → Nat) {L : List Nat} {f : Nat → va_E} {w u9 : Int32} {ad τ : Nat → Nat} {E : kE} {S : kS} {cI cO cN : ClassId} (ht : tys[0]? = some (cI, .int)) (ht1 : tys[1]? = some (cO, .object "java/lang/Object")) (ht2 : tys[2]? = some (cN, .object "MergingFragments$Node")) (hG : kG cI cO cN de ad τ L f E S) (hbad : kBad E w) : hp_T l y_G_about (gw_ws y_G_about b_G_about 4 (some .int)) { frames := 8, cells := 1, slots := 6, locals := 140 } D kc tys (s_X de sa) [.ref (ad 0), .int w, .int u9] L f "java/lang/IndexOutOfBoundsException" := by
  refine th_ofW (ret := (some .int)) (by decide) rfl (Nat.le_of_ble_eq_true rfl) ?_
  intro p e s m below meth c ls A hx hb hml hno hts hown hlk hl hK hX h
  have hg : ∀ w ∈ gw, w.before _ s = true := fun w hw => hts w (List.mem_cons_of_mem _ hw)
  have hown : s.vm.findClass "MergingFragments" = some m.cls := hown
  have hl : lv_has ls 4 [(0, .ref (ad 0)), (1, .int w), (2, .int u9)] := hl
  have he := hG.1
  refine lv_aload_n hx hb d_G_about_0 rfl (lv_at hl 0 rfl) ?_
  refine lv_iload_n hx hb d_G_about_1 rfl (lv_at hl 1 rfl) ?_
  exact hp_tpass (hp_trunV (As := [.int w]) (rest := []) ⟨hx, hb, hml, hown, hg⟩ (t_G_requireNode l hoff D tys de sa (w := w) ht ht1 ht2 hG hbad) (cwV 1 hg (gw_V w251 w253 ws3 w1 w254) rfl rfl rfl (by decide +kernel) ⟨Nat.le_of_ble_eq_true rfl, Nat.le_of_ble_eq_true rfl⟩) (s_ok de sa) hK hX h he rfl rfl rfl hl.1 rfl (Nat.le_of_ble_eq_true rfl) d_G_about_2 ⟨Nat.le_of_ble_eq_true rfl, Nat.le_of_ble_eq_true rfl⟩) hno hlk

set_option maxHeartbeats 4000000 in
set_option maxRecDepth 100000 in
theorem t_G_mark1 (l : Launch) (hoff : th_Off l) (D : va_G) (tys : List (ClassId × FieldType)) (de : Nat) (sa : Nat → Nat) {L : List Nat} {f : Nat → va_E} {w u9 : Int32} {ad τ : Nat → Nat} {E : kE} {S : kS} {cI cO cN : ClassId} (ht : tys[0]? = some (cI, .int)) (ht1 : tys[1]? = some (cO, .object "java/lang/Object")) (ht2 : tys[2]? = some (cN, .object "MergingFragments$Node")) (hG : kG cI cO cN de ad τ L f E S) (hbad : kBad E w) : hp_T l y_G_mark (gw_ws y_G_mark b_G_mark 3 (some .int)) { frames := 8, cells := 1, slots := 6, locals := 140 } D kc tys (s_X de sa) [.ref (ad 0), .int w, .int u9] L f "java/lang/IndexOutOfBoundsException" := by
  refine th_ofW (ret := (some .int)) (by decide) rfl (Nat.le_of_ble_eq_true rfl) ?_
  intro p e s m below meth c ls A hx hb hml hno hts hown hlk hl hK hX h
  have hg : ∀ w ∈ gw, w.before _ s = true := fun w hw => hts w (List.mem_cons_of_mem _ hw)
  have hown : s.vm.findClass "MergingFragments" = some m.cls := hown
  have hl : lv_has ls 3 [(0, .ref (ad 0)), (1, .int w), (2, .int u9)] := hl
  have he := hG.1
  refine lv_aload_n hx hb d_G_mark_0 rfl (lv_at hl 0 rfl) ?_
  refine lv_iload_n hx hb d_G_mark_1 rfl (lv_at hl 1 rfl) ?_
  exact hp_tpass (hp_trunV (As := [.int w]) (rest := []) ⟨hx, hb, hml, hown, hg⟩ (t_G_requireNode l hoff D tys de sa (w := w) ht ht1 ht2 hG hbad) (cwV 1 hg (gw_V w251 w253 ws3 w1 w254) rfl rfl rfl (by decide +kernel) ⟨Nat.le_of_ble_eq_true rfl, Nat.le_of_ble_eq_true rfl⟩) (s_ok de sa) hK hX h he rfl rfl rfl hl.1 rfl (Nat.le_of_ble_eq_true rfl) d_G_mark_2 ⟨Nat.le_of_ble_eq_true rfl, Nat.le_of_ble_eq_true rfl⟩) hno hlk

set_option maxHeartbeats 4000000 in
set_option maxRecDepth 100000 in
theorem t_G_message1 (l : Launch) (hoff : th_Off l) (D : va_G) (tys : List (ClassId × FieldType)) (de : Nat) (sa : Nat → Nat) {L : List Nat} {f : Nat → va_E} {w u9 x9 : Int32} {ad τ : Nat → Nat} {E : kE} {S : kS} {cI cO cN : ClassId} (ht : tys[0]? = some (cI, .int)) (ht1 : tys[1]? = some (cO, .object "java/lang/Object")) (ht2 : tys[2]? = some (cN, .object "MergingFragments$Node")) (hG : kG cI cO cN de ad τ L f E S) (hbad : kBad E w) : hp_T l y_G_message (gw_ws y_G_message b_G_message 6 (some .int)) { frames := 8, cells := 1, slots := 6, locals := 140 } D kc tys (s_X de sa) [.ref (ad 0), .int w, .int u9, .int x9] L f "java/lang/IndexOutOfBoundsException" := by
  refine th_ofW (ret := (some .int)) (by decide) rfl (Nat.le_of_ble_eq_true rfl) ?_
  intro p e s m below meth c ls A hx hb hml hno hts hown hlk hl hK hX h
  have hg : ∀ w ∈ gw, w.before _ s = true := fun w hw => hts w (List.mem_cons_of_mem _ hw)
  have hown : s.vm.findClass "MergingFragments" = some m.cls := hown
  have hl : lv_has ls 6 [(0, .ref (ad 0)), (1, .int w), (2, .int u9), (3, .int x9)] := hl
  have he := hG.1
  refine lv_aload_n hx hb d_G_message_0 rfl (lv_at hl 0 rfl) ?_
  refine lv_iload_n hx hb d_G_message_1 rfl (lv_at hl 1 rfl) ?_
  exact hp_tpass (hp_trunV (As := [.int w]) (rest := []) ⟨hx, hb, hml, hown, hg⟩ (t_G_requireNode l hoff D tys de sa (w := w) ht ht1 ht2 hG hbad) (cwV 1 hg (gw_V w251 w253 ws3 w1 w254) rfl rfl rfl (by decide +kernel) ⟨Nat.le_of_ble_eq_true rfl, Nat.le_of_ble_eq_true rfl⟩) (s_ok de sa) hK hX h he rfl rfl rfl hl.1 rfl (Nat.le_of_ble_eq_true rfl) d_G_message_2 ⟨Nat.le_of_ble_eq_true rfl, Nat.le_of_ble_eq_true rfl⟩) hno hlk

set_option maxHeartbeats 4000000 in
set_option maxRecDepth 100000 in
theorem t_G_edge1 (l : Launch) (hoff : th_Off l) (D : va_G) (tys : List (ClassId × FieldType)) (de : Nat) (sa : Nat → Nat) {L : List Nat} {f : Nat → va_E} {w u9 x9 : Int32} {ad τ : Nat → Nat} {E : kE} {S : kS} {cI cO cN : ClassId} (ht : tys[0]? = some (cI, .int)) (ht1 : tys[1]? = some (cO, .object "java/lang/Object")) (ht2 : tys[2]? = some (cN, .object "MergingFragments$Node")) (hG : kG cI cO cN de ad τ L f E S) (hbad : kBad E w) : hp_T l y_G_edge (gw_ws y_G_edge b_G_edge 5 (some .int)) { frames := 8, cells := 1, slots := 6, locals := 140 } D kc tys (s_X de sa) [.ref (ad 0), .int w, .int u9, .int x9] L f "java/lang/IndexOutOfBoundsException" := by
  refine th_ofW (ret := (some .int)) (by decide) rfl (Nat.le_of_ble_eq_true rfl) ?_
  intro p e s m below meth c ls A hx hb hml hno hts hown hlk hl hK hX h
  have hg : ∀ w ∈ gw, w.before _ s = true := fun w hw => hts w (List.mem_cons_of_mem _ hw)
  have hown : s.vm.findClass "MergingFragments" = some m.cls := hown
  have hl : lv_has ls 5 [(0, .ref (ad 0)), (1, .int w), (2, .int u9), (3, .int x9)] := hl
  have he := hG.1
  refine lv_aload_n hx hb d_G_edge_0 rfl (lv_at hl 0 rfl) ?_
  refine lv_iload_n hx hb d_G_edge_1 rfl (lv_at hl 1 rfl) ?_
  exact hp_tpass (hp_trunV (As := [.int w]) (rest := []) ⟨hx, hb, hml, hown, hg⟩ (t_G_requireNode l hoff D tys de sa (w := w) ht ht1 ht2 hG hbad) (cwV 1 hg (gw_V w251 w253 ws3 w1 w254) rfl rfl rfl (by decide +kernel) ⟨Nat.le_of_ble_eq_true rfl, Nat.le_of_ble_eq_true rfl⟩) (s_ok de sa) hK hX h he rfl rfl rfl hl.1 rfl (Nat.le_of_ble_eq_true rfl) d_G_edge_2 ⟨Nat.le_of_ble_eq_true rfl, Nat.le_of_ble_eq_true rfl⟩) hno hlk

set_option maxHeartbeats 4000000 in
set_option maxRecDepth 100000 in
theorem t_G_begin (l : Launch) (hoff : th_Off l) (D : va_G) (tys : List (ClassId × FieldType)) (de : Nat) (sa : Nat → Nat) {L : List Nat} {f : Nat → va_E} {w : Int32} {ad τ : Nat → Nat} {E : kE} {S : kS} {cI cO cN : ClassId} (ht : tys[0]? = some (cI, .int)) (ht1 : tys[1]? = some (cO, .object "java/lang/Object")) (ht2 : tys[2]? = some (cN, .object "MergingFragments$Node")) (hG : kG cI cO cN de ad τ L f E S) (hbad : w < 1 ∨ 7 < w) : hp_T l y_G_begin (gw_ws y_G_begin b_G_begin 3 none) { frames := 8, cells := 1, slots := 6, locals := 140 } D kc tys (s_X de sa) [.ref (ad 0), .int w] L f "java/lang/IllegalArgumentException" := by
  refine th_ofW (ret := none) (by decide) rfl (Nat.le_of_ble_eq_true rfl) ?_
  intro p e s m below meth c ls A hx hb hml hno hts hown hlk hl hK hX h
  have hg : ∀ w ∈ gw, w.before _ s = true := fun w hw => hts w (List.mem_cons_of_mem _ hw)
  have hown : s.vm.findClass "MergingFragments" = some m.cls := hown
  have hl : lv_has ls 3 [(0, .ref (ad 0)), (1, .int w)] := hl
  have he := hG.1
  refine lv_iload_n hx hb d_G_begin_0 rfl (lv_at hl 1 rfl) ?_
  refine lv_iconst (v := 1) hx hb d_G_begin_1 (by decide) ?_
  refine lv_icmp_lt (tgt := 11) hx hb d_G_begin_2 (by decide) (fun hc => ?_) (fun hc => ?_)
  · skip
    exact th_raise (own := "MergingFragments") (C := "java/lang/IllegalArgumentException") (txt := "a network has 1 to 7 nodes") (inew := 38) (ildc := 40) (ic := 42) (st := sa 40) (names := ["java/lang/RuntimeException", "java/lang/Exception"]) hx hb hoff hown hlk (by rw [hml]; exact hl.1) hg hX (hg _ w173) (hg _ w11) (hX.2.2.1 (40, "a network has 1 to 7 nodes") (by decide)) at_IA at_ft.2.1 at_ft.2.2.2 (hno _) d_G_begin_11 d_G_begin_14 d_G_begin_15 d_G_begin_17 d_G_begin_20 (Nat.le_of_ble_eq_true rfl) (Nat.le_of_ble_eq_true rfl) (Nat.le_of_ble_eq_true rfl) (Nat.le_of_ble_eq_true rfl)
  · skip
    refine lv_iload_n hx hb d_G_begin_5 rfl (lv_at hl 1 rfl) ?_
    refine lv_bipush (v := 7) hx hb d_G_begin_6 (by decide) ?_
    refine lv_icmp_le (tgt := 21) hx hb d_G_begin_8 (by decide) (fun hc2 => ?_) (fun hc2 => ?_)
    · skip
      rcases hbad with z | z
      · exact absurd z hc
      · exact absurd hc2 (Int32.not_le.mpr z)
    · skip
      exact th_raise (own := "MergingFragments") (C := "java/lang/IllegalArgumentException") (txt := "a network has 1 to 7 nodes") (inew := 38) (ildc := 40) (ic := 42) (st := sa 40) (names := ["java/lang/RuntimeException", "java/lang/Exception"]) hx hb hoff hown hlk (by rw [hml]; exact hl.1) hg hX (hg _ w173) (hg _ w11) (hX.2.2.1 (40, "a network has 1 to 7 nodes") (by decide)) at_IA at_ft.2.1 at_ft.2.2.2 (hno _) d_G_begin_11 d_G_begin_14 d_G_begin_15 d_G_begin_17 d_G_begin_20 (Nat.le_of_ble_eq_true rfl) (Nat.le_of_ble_eq_true rfl) (Nat.le_of_ble_eq_true rfl) (Nat.le_of_ble_eq_true rfl)

set_option maxHeartbeats 4000000 in
set_option maxRecDepth 100000 in
theorem t_G_run2 (l : Launch) (hoff : th_Off l) (D : va_G) (tys : List (ClassId × FieldType)) (de : Nat) (sa : Nat → Nat) {L : List Nat} {f : Nat → va_E} {v : Nat} {u9 : Int32} {ad τ : Nat → Nat} {E : kE} {S : kS} {cI cO cN : ClassId} (ht : tys[0]? = some (cI, .int)) (ht1 : tys[1]? = some (cO, .object "java/lang/Object")) (ht2 : tys[2]? = some (cN, .object "MergingFragments$Node")) (hG : kG cI cO cN de ad τ L f E S) (hv : v < E.1) (hbad : u9 < 0 ∨ 999 < u9) : hp_T l y_G_run (gw_ws y_G_run b_G_run 7 (some .int)) { frames := 8, cells := 1, slots := 6, locals := 140 } D kc tys (s_X de sa) [.ref (ad 0), .int (nI v), .int u9] L f "java/lang/IllegalArgumentException" := by
  refine th_ofW (ret := (some .int)) (by decide) rfl (Nat.le_of_ble_eq_true rfl) ?_
  intro p e s m below meth c ls A hx hb hml hno hts hown hlk hl hK hX h
  have hg : ∀ w ∈ gw, w.before _ s = true := fun w hw => hts w (List.mem_cons_of_mem _ hw)
  have hown : s.vm.findClass "MergingFragments" = some m.cls := hown
  have hl : lv_has ls 7 [(0, .ref (ad 0)), (1, .int (nI v)), (2, .int u9)] := hl
  have hn7 : E.1 ≤ 7 := hG.2.2.2.2.2.2.2.2.2.2.1
  have he := hG.1
  refine lv_aload_n hx hb d_G_run_0 rfl (lv_at hl 0 rfl) ?_
  refine lv_iload_n hx hb d_G_run_1 rfl (lv_at hl 1 rfl) ?_
  refine hp_callU (hp_runV (As := [.int (nI v)]) (rest := []) ⟨hx, hb, hml, hown, hg⟩ (c_G_requireNode l D tys de sa (v := v) ht ht1 ht2 hG hv) (cwV 1 hg (gw_V w251 w253 ws3 w1 w254) rfl rfl rfl (by decide +kernel) ⟨Nat.le_of_ble_eq_true rfl, Nat.le_of_ble_eq_true rfl⟩) (s_ok de sa) hK hX h he rfl rfl rfl hl.1 rfl (Nat.le_of_ble_eq_true rfl) d_G_run_2 ⟨Nat.zero_le _, Nat.zero_le _⟩) (fun hp => ?_)
  refine lv_iload_n hx hb d_G_run_5 rfl (lv_at hl 2 rfl) ?_
  refine lv_if_lt (tgt := 16) hx hb d_G_run_6 (by decide) (fun hc => ?_) (fun hc => ?_)
  · skip
    exact th_raise (own := "MergingFragments") (C := "java/lang/IllegalArgumentException") (txt := "a run handles 0 to 999 messages at most") (inew := 38) (ildc := 82) (ic := 42) (st := sa 82) (names := ["java/lang/RuntimeException", "java/lang/Exception"]) hx hb hoff hown hlk (by rw [hml]; exact hl.1) hg hX (hg _ w173) (hg _ w11) (hX.2.2.1 (82, "a run handles 0 to 999 messages at most") (by decide)) at_IA at_ft.2.1 at_ft.2.2.2 (hno _) d_G_run_16 d_G_run_19 d_G_run_20 d_G_run_22 d_G_run_25 (Nat.le_of_ble_eq_true rfl) (Nat.le_of_ble_eq_true rfl) (Nat.le_of_ble_eq_true rfl) (Nat.le_of_ble_eq_true rfl)
  · skip
    refine lv_iload_n hx hb d_G_run_9 rfl (lv_at hl 2 rfl) ?_
    refine lv_sipush (v := 999) hx hb d_G_run_10 (by decide) ?_
    refine lv_icmp_le (tgt := 26) hx hb d_G_run_13 (by decide) (fun hc2 => ?_) (fun hc2 => ?_)
    · skip
      rcases hbad with z | z
      · exact absurd z hc
      · exact absurd hc2 (Int32.not_le.mpr z)
    · skip
      exact th_raise (own := "MergingFragments") (C := "java/lang/IllegalArgumentException") (txt := "a run handles 0 to 999 messages at most") (inew := 38) (ildc := 82) (ic := 42) (st := sa 82) (names := ["java/lang/RuntimeException", "java/lang/Exception"]) hx hb hoff hown hlk (by rw [hml]; exact hl.1) hg hX (hg _ w173) (hg _ w11) (hX.2.2.1 (82, "a run handles 0 to 999 messages at most") (by decide)) at_IA at_ft.2.1 at_ft.2.2.2 (hno _) d_G_run_16 d_G_run_19 d_G_run_20 d_G_run_22 d_G_run_25 (Nat.le_of_ble_eq_true rfl) (Nat.le_of_ble_eq_true rfl) (Nat.le_of_ble_eq_true rfl) (Nat.le_of_ble_eq_true rfl)

set_option maxHeartbeats 4000000 in
set_option maxRecDepth 100000 in
theorem t_G_mark2 (l : Launch) (hoff : th_Off l) (D : va_G) (tys : List (ClassId × FieldType)) (de : Nat) (sa : Nat → Nat) {L : List Nat} {f : Nat → va_E} {v : Nat} {u9 : Int32} {ad τ : Nat → Nat} {E : kE} {S : kS} {cI cO cN : ClassId} (ht : tys[0]? = some (cI, .int)) (ht1 : tys[1]? = some (cO, .object "java/lang/Object")) (ht2 : tys[2]? = some (cN, .object "MergingFragments$Node")) (hG : kG cI cO cN de ad τ L f E S) (hv : v < E.1) (hbad : u9 < 0 ∨ nI E.2.1 ≤ u9) : hp_T l y_G_mark (gw_ws y_G_mark b_G_mark 3 (some .int)) { frames := 8, cells := 1, slots := 6, locals := 140 } D kc tys (s_X de sa) [.ref (ad 0), .int (nI v), .int u9] L f "java/lang/IndexOutOfBoundsException" := by
  refine th_ofW (ret := (some .int)) (by decide) rfl (Nat.le_of_ble_eq_true rfl) ?_
  intro p e s m below meth c ls A hx hb hml hno hts hown hlk hl hK hX h
  have hg : ∀ w ∈ gw, w.before _ s = true := fun w hw => hts w (List.mem_cons_of_mem _ hw)
  have hown : s.vm.findClass "MergingFragments" = some m.cls := hown
  have hl : lv_has ls 3 [(0, .ref (ad 0)), (1, .int (nI v)), (2, .int u9)] := hl
  have hn7 : E.1 ≤ 7 := hG.2.2.2.2.2.2.2.2.2.2.1
  have he := hG.1
  refine lv_aload_n hx hb d_G_mark_0 rfl (lv_at hl 0 rfl) ?_
  refine lv_iload_n hx hb d_G_mark_1 rfl (lv_at hl 1 rfl) ?_
  refine hp_callU (hp_runV (As := [.int (nI v)]) (rest := []) ⟨hx, hb, hml, hown, hg⟩ (c_G_requireNode l D tys de sa (v := v) ht ht1 ht2 hG hv) (cwV 1 hg (gw_V w251 w253 ws3 w1 w254) rfl rfl rfl (by decide +kernel) ⟨Nat.le_of_ble_eq_true rfl, Nat.le_of_ble_eq_true rfl⟩) (s_ok de sa) hK hX h he rfl rfl rfl hl.1 rfl (Nat.le_of_ble_eq_true rfl) d_G_mark_2 ⟨Nat.zero_le _, Nat.zero_le _⟩) (fun hp => ?_)
  refine lv_iload_n hx hb d_G_mark_5 rfl (lv_at hl 2 rfl) ?_
  refine lv_if_lt (tgt := 17) hx hb d_G_mark_6 (by decide) (fun hc => ?_) (fun hc => ?_)
  · skip
    exact th_raise (own := "MergingFragments") (C := "java/lang/IndexOutOfBoundsException") (txt := "there is no such edge") (inew := 124) (ildc := 126) (ic := 128) (st := sa 126) (names := ["java/lang/RuntimeException", "java/lang/Exception"]) hx hb hoff hown hlk (by rw [hml]; exact hl.1) hg hX (hg _ w255) (hg _ w12) (hX.2.2.1 (126, "there is no such edge") (by decide)) at_IO at_ft.1 at_ft.2.2.2 (hno _) d_G_mark_17 d_G_mark_20 d_G_mark_21 d_G_mark_23 d_G_mark_26 (Nat.le_of_ble_eq_true rfl) (Nat.le_of_ble_eq_true rfl) (Nat.le_of_ble_eq_true rfl) (Nat.le_of_ble_eq_true rfl)
  · skip
    refine lv_iload_n hx hb d_G_mark_9 rfl (lv_at hl 2 rfl) ?_
    refine lv_aload_n hx hb d_G_mark_10 rfl (lv_at hl 0 rfl) ?_
    refine hp_get (v := .int (nI E.2.1)) hx hb hg in_G hown hK h he rfl 5 (by decide) (hg _ w132) (fun _ z => z) rfl d_G_mark_11 ?_
    refine lv_icmp_lt (tgt := 27) hx hb d_G_mark_14 (by decide) (fun hc2 => ?_) (fun hc2 => ?_)
    · skip
      rcases hbad with z | z
      · exact absurd z hc
      · exact absurd hc2 (Int32.not_lt.mpr z)
    · skip
      exact th_raise (own := "MergingFragments") (C := "java/lang/IndexOutOfBoundsException") (txt := "there is no such edge") (inew := 124) (ildc := 126) (ic := 128) (st := sa 126) (names := ["java/lang/RuntimeException", "java/lang/Exception"]) hx hb hoff hown hlk (by rw [hml]; exact hl.1) hg hX (hg _ w255) (hg _ w12) (hX.2.2.1 (126, "there is no such edge") (by decide)) at_IO at_ft.1 at_ft.2.2.2 (hno _) d_G_mark_17 d_G_mark_20 d_G_mark_21 d_G_mark_23 d_G_mark_26 (Nat.le_of_ble_eq_true rfl) (Nat.le_of_ble_eq_true rfl) (Nat.le_of_ble_eq_true rfl) (Nat.le_of_ble_eq_true rfl)

set_option maxHeartbeats 4000000 in
set_option maxRecDepth 100000 in
theorem t_G_about2 (l : Launch) (hoff : th_Off l) (D : va_G) (tys : List (ClassId × FieldType)) (de : Nat) (sa : Nat → Nat) {L : List Nat} {f : Nat → va_E} {v : Nat} {u9 : Int32} {ad τ : Nat → Nat} {E : kE} {S : kS} {cI cO cN : ClassId} (ht : tys[0]? = some (cI, .int)) (ht1 : tys[1]? = some (cO, .object "java/lang/Object")) (ht2 : tys[2]? = some (cN, .object "MergingFragments$Node")) (hG : kG cI cO cN de ad τ L f E S) (hv : v < E.1) (hbad : u9 < 0 ∨ 9 < u9) : hp_T l y_G_about (gw_ws y_G_about b_G_about 4 (some .int)) { frames := 8, cells := 1, slots := 6, locals := 140 } D kc tys (s_X de sa) [.ref (ad 0), .int (nI v), .int u9] L f "java/lang/IllegalArgumentException" := by
  refine th_ofW (ret := (some .int)) (by decide) rfl (Nat.le_of_ble_eq_true rfl) ?_
  intro p e s m below meth c ls A hx hb hml hno hts hown hlk hl hK hX h
  have hg : ∀ w ∈ gw, w.before _ s = true := fun w hw => hts w (List.mem_cons_of_mem _ hw)
  have hown : s.vm.findClass "MergingFragments" = some m.cls := hown
  have hl : lv_has ls 4 [(0, .ref (ad 0)), (1, .int (nI v)), (2, .int u9)] := hl
  have hn7 : E.1 ≤ 7 := hG.2.2.2.2.2.2.2.2.2.2.1
  have he := hG.1
  refine lv_aload_n hx hb d_G_about_0 rfl (lv_at hl 0 rfl) ?_
  refine lv_iload_n hx hb d_G_about_1 rfl (lv_at hl 1 rfl) ?_
  refine hp_callU (hp_runV (As := [.int (nI v)]) (rest := []) ⟨hx, hb, hml, hown, hg⟩ (c_G_requireNode l D tys de sa (v := v) ht ht1 ht2 hG hv) (cwV 1 hg (gw_V w251 w253 ws3 w1 w254) rfl rfl rfl (by decide +kernel) ⟨Nat.le_of_ble_eq_true rfl, Nat.le_of_ble_eq_true rfl⟩) (s_ok de sa) hK hX h he rfl rfl rfl hl.1 rfl (Nat.le_of_ble_eq_true rfl) d_G_about_2 ⟨Nat.zero_le _, Nat.zero_le _⟩) (fun hp => ?_)
  have he := hG.1
  obtain ⟨gn, hn, hn1⟩ := hG.2.1
  refine lv_aload_n hx hb d_G_about_5 rfl (lv_at hl 0 rfl) ?_
  refine hp_get (v := .ref (ad 1)) hx hb hg in_G hown hK h he rfl 0 (by decide) (hg _ w127) (fun _ z => z) rfl d_G_about_6 ?_
  refine lv_iload_n hx hb d_G_about_9 rfl (lv_at hl 1 rfl) ?_
  refine hp_aald (j := v) hx hb hK h 2 hn ht2 rfl (by omega) (by decide) (hn1 v (by omega)) d_G_about_10 ?_
  refine lv_astore_n (lv' := [(3, .ref (ad (10 + v))), (0, .ref (ad 0)), (1, .int (nI v)), (2, .int u9)]) hx hb d_G_about_11 rfl hl (by decide) rfl (fun ls hl => ?_)
  refine lv_iload_n hx hb d_G_about_12 rfl (lv_at hl 3 rfl) ?_
  refine lv_tableOut (tgt := 129) hx hb d_G_about_13 (by rcases hbad with z | z; exact Or.inl (by have := Int32.lt_iff_toInt_lt.mp z; simpa using this); exact Or.inr (by have := Int32.lt_iff_toInt_lt.mp z; simpa using this)) (by decide) ?_
  exact th_raise (own := "MergingFragments") (C := "java/lang/IllegalArgumentException") (txt := "what is 0 to 9") (inew := 38) (ildc := 122) (ic := 42) (st := sa 122) (names := ["java/lang/RuntimeException", "java/lang/Exception"]) hx hb hoff hown hlk (by rw [hml]; exact hl.1) hg hX (hg _ w173) (hg _ w11) (hX.2.2.1 (122, "what is 0 to 9") (by decide)) at_IA at_ft.2.1 at_ft.2.2.2 (hno _) d_G_about_129 d_G_about_132 d_G_about_133 d_G_about_135 d_G_about_138 (Nat.le_of_ble_eq_true rfl) (Nat.le_of_ble_eq_true rfl) (Nat.le_of_ble_eq_true rfl) (Nat.le_of_ble_eq_true rfl)

set_option maxHeartbeats 4000000 in
set_option maxRecDepth 100000 in
theorem t_G_edge2 (l : Launch) (hoff : th_Off l) (D : va_G) (tys : List (ClassId × FieldType)) (de : Nat) (sa : Nat → Nat) {L : List Nat} {f : Nat → va_E} {a : Nat} {w x9 : Int32} {ad τ : Nat → Nat} {E : kE} {S : kS} {cI cO cN : ClassId} (ht : tys[0]? = some (cI, .int)) (ht1 : tys[1]? = some (cO, .object "java/lang/Object")) (ht2 : tys[2]? = some (cN, .object "MergingFragments$Node")) (hG : kG cI cO cN de ad τ L f E S) (ha : a < E.1) (hbad : kBad E w) : hp_T l y_G_edge (gw_ws y_G_edge b_G_edge 5 (some .int)) { frames := 8, cells := 1, slots := 6, locals := 140 } D kc tys (s_X de sa) [.ref (ad 0), .int (nI a), .int w, .int x9] L f "java/lang/IndexOutOfBoundsException" := by
  refine th_ofW (ret := (some .int)) (by decide) rfl (Nat.le_of_ble_eq_true rfl) ?_
  intro p e s m below meth c ls A hx hb hml hno hts hown hlk hl hK hX h
  have hg : ∀ w ∈ gw, w.before _ s = true := fun w hw => hts w (List.mem_cons_of_mem _ hw)
  have hown : s.vm.findClass "MergingFragments" = some m.cls := hown
  have hl : lv_has ls 5 [(0, .ref (ad 0)), (1, .int (nI a)), (2, .int w), (3, .int x9)] := hl
  have hn7 : E.1 ≤ 7 := hG.2.2.2.2.2.2.2.2.2.2.1
  have he := hG.1
  refine lv_aload_n hx hb d_G_edge_0 rfl (lv_at hl 0 rfl) ?_
  refine lv_iload_n hx hb d_G_edge_1 rfl (lv_at hl 1 rfl) ?_
  refine hp_callU (hp_runV (As := [.int (nI a)]) (rest := []) ⟨hx, hb, hml, hown, hg⟩ (c_G_requireNode l D tys de sa (v := a) ht ht1 ht2 hG ha) (cwV 1 hg (gw_V w251 w253 ws3 w1 w254) rfl rfl rfl (by decide +kernel) ⟨Nat.le_of_ble_eq_true rfl, Nat.le_of_ble_eq_true rfl⟩) (s_ok de sa) hK hX h he rfl rfl rfl hl.1 rfl (Nat.le_of_ble_eq_true rfl) d_G_edge_2 ⟨Nat.zero_le _, Nat.zero_le _⟩) (fun hp => ?_)
  refine lv_aload_n hx hb d_G_edge_5 rfl (lv_at hl 0 rfl) ?_
  refine lv_iload_n hx hb d_G_edge_6 rfl (lv_at hl 2 rfl) ?_
  exact hp_tpass (hp_trunV (As := [.int w]) (rest := []) ⟨hx, hb, hml, hown, hg⟩ (t_G_requireNode l hoff D tys de sa (w := w) ht ht1 ht2 hG hbad) (cwV 1 hg (gw_V w251 w253 ws3 w1 w254) rfl rfl rfl (by decide +kernel) ⟨Nat.le_of_ble_eq_true rfl, Nat.le_of_ble_eq_true rfl⟩) (s_ok de sa) hK hX h he rfl rfl rfl hl.1 rfl (Nat.le_of_ble_eq_true rfl) d_G_edge_7 ⟨Nat.le_of_ble_eq_true rfl, Nat.le_of_ble_eq_true rfl⟩) hno hlk

set_option maxHeartbeats 4000000 in
set_option maxRecDepth 100000 in
theorem t_G_edge3 (l : Launch) (hoff : th_Off l) (D : va_G) (tys : List (ClassId × FieldType)) (de : Nat) (sa : Nat → Nat) {L : List Nat} {f : Nat → va_E} {a b : Nat} {w : Int32} {ad τ : Nat → Nat} {E : kE} {S : kS} {cI cO cN : ClassId} (ht : tys[0]? = some (cI, .int)) (ht1 : tys[1]? = some (cO, .object "java/lang/Object")) (ht2 : tys[2]? = some (cN, .object "MergingFragments$Node")) (hG : kG cI cO cN de ad τ L f E S) (ha : a < E.1) (hb9 : b < E.1) (hbad : a = b ∨ w < 1 ∨ 99 < w ∨ ∃ j, j < E.2.1 ∧ E.2.2.2.2 j = w) : hp_T l y_G_edge (gw_ws y_G_edge b_G_edge 5 (some .int)) { frames := 8, cells := 1, slots := 6, locals := 140 } D kc tys (s_X de sa) [.ref (ad 0), .int (nI a), .int (nI b), .int w] L f "java/lang/IllegalArgumentException" := by
  refine th_ofW (ret := (some .int)) (by decide) rfl (Nat.le_of_ble_eq_true rfl) ?_
  intro p e s m below meth c ls A hx hb hml hno hts hown hlk hl hK hX h
  have hg : ∀ w ∈ gw, w.before _ s = true := fun w hw => hts w (List.mem_cons_of_mem _ hw)
  have hown : s.vm.findClass "MergingFragments" = some m.cls := hown
  have hl : lv_has ls 5 [(0, .ref (ad 0)), (1, .int (nI a)), (2, .int (nI b)), (3, .int w)] := hl
  have hn7 : E.1 ≤ 7 := hG.2.2.2.2.2.2.2.2.2.2.1
  have hm12 : E.2.1 ≤ 12 := hG.2.2.2.2.2.2.2.2.2.2.2.1
  have he := hG.1
  refine lv_aload_n hx hb d_G_edge_0 rfl (lv_at hl 0 rfl) ?_
  refine lv_iload_n hx hb d_G_edge_1 rfl (lv_at hl 1 rfl) ?_
  refine hp_callU (hp_runV (As := [.int (nI a)]) (rest := []) ⟨hx, hb, hml, hown, hg⟩ (c_G_requireNode l D tys de sa (v := a) ht ht1 ht2 hG ha) (cwV 1 hg (gw_V w251 w253 ws3 w1 w254) rfl rfl rfl (by decide +kernel) ⟨Nat.le_of_ble_eq_true rfl, Nat.le_of_ble_eq_true rfl⟩) (s_ok de sa) hK hX h he rfl rfl rfl hl.1 rfl (Nat.le_of_ble_eq_true rfl) d_G_edge_2 ⟨Nat.zero_le _, Nat.zero_le _⟩) (fun hp => ?_)
  refine lv_aload_n hx hb d_G_edge_5 rfl (lv_at hl 0 rfl) ?_
  refine lv_iload_n hx hb d_G_edge_6 rfl (lv_at hl 2 rfl) ?_
  refine hp_callU (hp_runV (As := [.int (nI b)]) (rest := []) ⟨hx, hb, hml, hown, hg⟩ (c_G_requireNode l D tys de sa (v := b) ht ht1 ht2 hG hb9) (cwV 1 hg (gw_V w251 w253 ws3 w1 w254) rfl rfl rfl (by decide +kernel) ⟨Nat.le_of_ble_eq_true rfl, Nat.le_of_ble_eq_true rfl⟩) (s_ok de sa) hK hX h he rfl rfl rfl hl.1 rfl (Nat.le_of_ble_eq_true rfl) d_G_edge_7 ⟨Nat.zero_le _, Nat.zero_le _⟩) (fun hp => ?_)
  refine lv_iload_n hx hb d_G_edge_10 rfl (lv_at hl 1 rfl) ?_
  refine lv_iload_n hx hb d_G_edge_11 rfl (lv_at hl 2 rfl) ?_
  refine lv_icmp_ne (tgt := 25) hx hb d_G_edge_12 (by decide) (fun hc => ?_) (fun hc => ?_)
  · skip
    have hne : a ≠ b := fun z => hc (by rw [z])
    refine lv_iload_n hx hb d_G_edge_25 rfl (lv_at hl 3 rfl) ?_
    refine lv_iconst (v := 1) hx hb d_G_edge_26 (by decide) ?_
    refine lv_icmp_lt (tgt := 44) hx hb d_G_edge_27 (by decide) (fun hc2 => ?_) (fun hc2 => ?_)
    · skip
      exact th_raise (own := "MergingFragments") (C := "java/lang/IllegalArgumentException") (txt := "a weight is 1 to 99, and no other edge has it") (inew := 38) (ildc := 57) (ic := 42) (st := sa 57) (names := ["java/lang/RuntimeException", "java/lang/Exception"]) hx hb hoff hown hlk (by rw [hml]; exact hl.1) hg hX (hg _ w173) (hg _ w11) (hX.2.2.1 (57, "a weight is 1 to 99, and no other edge has it") (by decide)) at_IA at_ft.2.1 at_ft.2.2.2 (hno _) d_G_edge_44 d_G_edge_47 d_G_edge_48 d_G_edge_50 d_G_edge_53 (Nat.le_of_ble_eq_true rfl) (Nat.le_of_ble_eq_true rfl) (Nat.le_of_ble_eq_true rfl) (Nat.le_of_ble_eq_true rfl)
    · skip
      refine lv_iload_n hx hb d_G_edge_30 rfl (lv_at hl 3 rfl) ?_
      refine lv_bipush (v := 99) hx hb d_G_edge_31 (by decide) ?_
      refine lv_icmp_gt (tgt := 44) hx hb d_G_edge_33 (by decide) (fun hc3 => ?_) (fun hc3 => ?_)
      · skip
        exact th_raise (own := "MergingFragments") (C := "java/lang/IllegalArgumentException") (txt := "a weight is 1 to 99, and no other edge has it") (inew := 38) (ildc := 57) (ic := 42) (st := sa 57) (names := ["java/lang/RuntimeException", "java/lang/Exception"]) hx hb hoff hown hlk (by rw [hml]; exact hl.1) hg hX (hg _ w173) (hg _ w11) (hX.2.2.1 (57, "a weight is 1 to 99, and no other edge has it") (by decide)) at_IA at_ft.2.1 at_ft.2.2.2 (hno _) d_G_edge_44 d_G_edge_47 d_G_edge_48 d_G_edge_50 d_G_edge_53 (Nat.le_of_ble_eq_true rfl) (Nat.le_of_ble_eq_true rfl) (Nat.le_of_ble_eq_true rfl) (Nat.le_of_ble_eq_true rfl)
      · skip
        refine lv_aload_n hx hb d_G_edge_36 rfl (lv_at hl 0 rfl) ?_
        refine lv_iload_n hx hb d_G_edge_37 rfl (lv_at hl 3 rfl) ?_
        refine hp_callR (hp_runV (As := [.int w]) (rest := []) ⟨hx, hb, hml, hown, hg⟩ (c_G_isTaken l D tys de sa (w := w) ht ht1 ht2 hG) (cwV 1 hg (gw_V w272 w274 ws4 w1 w275) rfl rfl rfl (by decide +kernel) ⟨Nat.le_of_ble_eq_true rfl, Nat.le_of_ble_eq_true rfl⟩) (s_ok de sa) hK hX h he rfl rfl rfl hl.1 rfl (Nat.le_of_ble_eq_true rfl) d_G_edge_38 ⟨Nat.zero_le _, Nat.zero_le _⟩) (fun r1 hp => ?_)
        rcases hp with ⟨hp, hz⟩ | ⟨hp, hz⟩
        · skip
          subst hp
          refine lv_if_eq (tgt := 54) hx hb d_G_edge_41 (by decide) (fun hc4 => ?_) (fun hc4 => ?_)
          · skip
            exact absurd hc4 (by decide)
          · skip
            exact th_raise (own := "MergingFragments") (C := "java/lang/IllegalArgumentException") (txt := "a weight is 1 to 99, and no other edge has it") (inew := 38) (ildc := 57) (ic := 42) (st := sa 57) (names := ["java/lang/RuntimeException", "java/lang/Exception"]) hx hb hoff hown hlk (by rw [hml]; exact hl.1) hg hX (hg _ w173) (hg _ w11) (hX.2.2.1 (57, "a weight is 1 to 99, and no other edge has it") (by decide)) at_IA at_ft.2.1 at_ft.2.2.2 (hno _) d_G_edge_44 d_G_edge_47 d_G_edge_48 d_G_edge_50 d_G_edge_53 (Nat.le_of_ble_eq_true rfl) (Nat.le_of_ble_eq_true rfl) (Nat.le_of_ble_eq_true rfl) (Nat.le_of_ble_eq_true rfl)
        · skip
          subst hp
          refine lv_if_eq (tgt := 54) hx hb d_G_edge_41 (by decide) (fun hc4 => ?_) (fun hc4 => ?_)
          · skip
            rcases hbad with z | z | z | ⟨j, hj, z⟩
            · exact absurd z hne
            · exact absurd z hc2
            · exact absurd z hc3
            · exact absurd z (hz j hj)
          · skip
            exact absurd rfl hc4
  · skip
    exact th_raise (own := "MergingFragments") (C := "java/lang/IllegalArgumentException") (txt := "an edge is between two different nodes") (inew := 38) (ildc := 51) (ic := 42) (st := sa 51) (names := ["java/lang/RuntimeException", "java/lang/Exception"]) hx hb hoff hown hlk (by rw [hml]; exact hl.1) hg hX (hg _ w173) (hg _ w11) (hX.2.2.1 (51, "an edge is between two different nodes") (by decide)) at_IA at_ft.2.1 at_ft.2.2.2 (hno _) d_G_edge_15 d_G_edge_18 d_G_edge_19 d_G_edge_21 d_G_edge_24 (Nat.le_of_ble_eq_true rfl) (Nat.le_of_ble_eq_true rfl) (Nat.le_of_ble_eq_true rfl) (Nat.le_of_ble_eq_true rfl)

set_option maxHeartbeats 4000000 in
set_option maxRecDepth 100000 in
theorem t_G_edge4 (l : Launch) (hoff : th_Off l) (D : va_G) (tys : List (ClassId × FieldType)) (de : Nat) (sa : Nat → Nat) {L : List Nat} {f : Nat → va_E} {a b : Nat} {w : Int32} {ad τ : Nat → Nat} {E : kE} {S : kS} {cI cO cN : ClassId} (ht : tys[0]? = some (cI, .int)) (ht1 : tys[1]? = some (cO, .object "java/lang/Object")) (ht2 : tys[2]? = some (cN, .object "MergingFragments$Node")) (hG : kG cI cO cN de ad τ L f E S) (ha : a < E.1) (hb9 : b < E.1) (hab : a ≠ b) (hw9 : 1 ≤ w) (hw99 : w ≤ 99) (hnt : ∀ j, j < E.2.1 → ¬ E.2.2.2.2 j = w) (hbad : (∃ i, i < E.1 ∧ ¬ S.1 i 0 = 0) ∨ E.2.1 = 12) : hp_T l y_G_edge (gw_ws y_G_edge b_G_edge 5 (some .int)) { frames := 8, cells := 1, slots := 6, locals := 140 } D kc tys (s_X de sa) [.ref (ad 0), .int (nI a), .int (nI b), .int w] L f "java/lang/IllegalStateException" := by
  refine th_ofW (ret := (some .int)) (by decide) rfl (Nat.le_of_ble_eq_true rfl) ?_
  intro p e s m below meth c ls A hx hb hml hno hts hown hlk hl hK hX h
  have hg : ∀ w ∈ gw, w.before _ s = true := fun w hw => hts w (List.mem_cons_of_mem _ hw)
  have hown : s.vm.findClass "MergingFragments" = some m.cls := hown
  have hl : lv_has ls 5 [(0, .ref (ad 0)), (1, .int (nI a)), (2, .int (nI b)), (3, .int w)] := hl
  have hn7 : E.1 ≤ 7 := hG.2.2.2.2.2.2.2.2.2.2.1
  have hm12 : E.2.1 ≤ 12 := hG.2.2.2.2.2.2.2.2.2.2.2.1
  have he := hG.1
  refine lv_aload_n hx hb d_G_edge_0 rfl (lv_at hl 0 rfl) ?_
  refine lv_iload_n hx hb d_G_edge_1 rfl (lv_at hl 1 rfl) ?_
  refine hp_callU (hp_runV (As := [.int (nI a)]) (rest := []) ⟨hx, hb, hml, hown, hg⟩ (c_G_requireNode l D tys de sa (v := a) ht ht1 ht2 hG ha) (cwV 1 hg (gw_V w251 w253 ws3 w1 w254) rfl rfl rfl (by decide +kernel) ⟨Nat.le_of_ble_eq_true rfl, Nat.le_of_ble_eq_true rfl⟩) (s_ok de sa) hK hX h he rfl rfl rfl hl.1 rfl (Nat.le_of_ble_eq_true rfl) d_G_edge_2 ⟨Nat.zero_le _, Nat.zero_le _⟩) (fun hp => ?_)
  refine lv_aload_n hx hb d_G_edge_5 rfl (lv_at hl 0 rfl) ?_
  refine lv_iload_n hx hb d_G_edge_6 rfl (lv_at hl 2 rfl) ?_
  refine hp_callU (hp_runV (As := [.int (nI b)]) (rest := []) ⟨hx, hb, hml, hown, hg⟩ (c_G_requireNode l D tys de sa (v := b) ht ht1 ht2 hG hb9) (cwV 1 hg (gw_V w251 w253 ws3 w1 w254) rfl rfl rfl (by decide +kernel) ⟨Nat.le_of_ble_eq_true rfl, Nat.le_of_ble_eq_true rfl⟩) (s_ok de sa) hK hX h he rfl rfl rfl hl.1 rfl (Nat.le_of_ble_eq_true rfl) d_G_edge_7 ⟨Nat.zero_le _, Nat.zero_le _⟩) (fun hp => ?_)
  refine lv_iload_n hx hb d_G_edge_10 rfl (lv_at hl 1 rfl) ?_
  refine lv_iload_n hx hb d_G_edge_11 rfl (lv_at hl 2 rfl) ?_
  refine lv_icmp_ne (tgt := 25) hx hb d_G_edge_12 (by decide) (fun hc => ?_) (fun hc => ?_)
  · skip
    have hne : a ≠ b := fun z => hc (by rw [z])
    refine lv_iload_n hx hb d_G_edge_25 rfl (lv_at hl 3 rfl) ?_
    refine lv_iconst (v := 1) hx hb d_G_edge_26 (by decide) ?_
    refine lv_icmp_lt (tgt := 44) hx hb d_G_edge_27 (by decide) (fun hc2 => ?_) (fun hc2 => ?_)
    · skip
      exact absurd hc2 (Int32.not_lt.mpr hw9)
    · skip
      refine lv_iload_n hx hb d_G_edge_30 rfl (lv_at hl 3 rfl) ?_
      refine lv_bipush (v := 99) hx hb d_G_edge_31 (by decide) ?_
      refine lv_icmp_gt (tgt := 44) hx hb d_G_edge_33 (by decide) (fun hc3 => ?_) (fun hc3 => ?_)
      · skip
        exact absurd hc3 (Int32.not_lt.mpr hw99)
      · skip
        refine lv_aload_n hx hb d_G_edge_36 rfl (lv_at hl 0 rfl) ?_
        refine lv_iload_n hx hb d_G_edge_37 rfl (lv_at hl 3 rfl) ?_
        refine hp_callR (hp_runV (As := [.int w]) (rest := []) ⟨hx, hb, hml, hown, hg⟩ (c_G_isTaken l D tys de sa (w := w) ht ht1 ht2 hG) (cwV 1 hg (gw_V w272 w274 ws4 w1 w275) rfl rfl rfl (by decide +kernel) ⟨Nat.le_of_ble_eq_true rfl, Nat.le_of_ble_eq_true rfl⟩) (s_ok de sa) hK hX h he rfl rfl rfl hl.1 rfl (Nat.le_of_ble_eq_true rfl) d_G_edge_38 ⟨Nat.zero_le _, Nat.zero_le _⟩) (fun r1 hp => ?_)
        rcases hp with ⟨hp, hz⟩ | ⟨hp, hz⟩
        · skip
          subst hp
          refine lv_if_eq (tgt := 54) hx hb d_G_edge_41 (by decide) (fun hc4 => ?_) (fun hc4 => ?_)
          · skip
            exact absurd hc4 (by decide)
          · skip
            obtain ⟨j, hj, hjw⟩ := hz
            exact absurd hjw (hnt j hj)
        · skip
          subst hp
          refine lv_if_eq (tgt := 54) hx hb d_G_edge_41 (by decide) (fun hc4 => ?_) (fun hc4 => ?_)
          · skip
            refine lv_aload_n hx hb d_G_edge_54 rfl (lv_at hl 0 rfl) ?_
            refine hp_callR (hp_runV (As := []) (rest := []) ⟨hx, hb, hml, hown, hg⟩ (c_G_isSomeNodeAwake l D tys de sa ht ht1 ht2 hG) (cwV 0 hg (gw_V w277 w279 ws5 w1 w280) rfl rfl rfl (by decide +kernel) ⟨Nat.le_of_ble_eq_true rfl, Nat.le_of_ble_eq_true rfl⟩) (s_ok de sa) hK hX h he rfl rfl rfl hl.1 rfl (Nat.le_of_ble_eq_true rfl) d_G_edge_55 ⟨Nat.zero_le _, Nat.zero_le _⟩) (fun r1 hp => ?_)
            rcases hp with ⟨hp, hy⟩ | ⟨hp, hy⟩
            · skip
              subst hp
              refine lv_if_ne (tgt := 70) hx hb d_G_edge_58 (by decide) (fun hc5 => ?_) (fun hc5 => ?_)
              · skip
                exact th_raise (own := "MergingFragments") (C := "java/lang/IllegalStateException") (txt := "no edge can be added any more") (inew := 63) (ildc := 65) (ic := 67) (st := sa 65) (names := ["java/lang/RuntimeException", "java/lang/Exception"]) hx hb hoff hown hlk (by rw [hml]; exact hl.1) hg hX (hg _ w281) (hg _ w13) (hX.2.2.1 (65, "no edge can be added any more") (by decide)) at_IS at_ft.2.2.1 at_ft.2.2.2 (hno _) d_G_edge_70 d_G_edge_73 d_G_edge_74 d_G_edge_76 d_G_edge_79 (Nat.le_of_ble_eq_true rfl) (Nat.le_of_ble_eq_true rfl) (Nat.le_of_ble_eq_true rfl) (Nat.le_of_ble_eq_true rfl)
              · skip
                exact absurd hc5 (by decide)
            · skip
              subst hp
              refine lv_if_ne (tgt := 70) hx hb d_G_edge_58 (by decide) (fun hc5 => ?_) (fun hc5 => ?_)
              · skip
                exact absurd rfl hc5
              · skip
                have h12 : E.2.1 = 12 := by rcases hbad with ⟨i, hi, z⟩ | z; exact absurd (hy i hi) z; exact z
                refine lv_aload_n hx hb d_G_edge_61 rfl (lv_at hl 0 rfl) ?_
                refine hp_get (v := .int (nI E.2.1)) hx hb hg in_G hown hK h he rfl 5 (by decide) (hg _ w132) (fun _ z => z) rfl d_G_edge_62 ?_
                refine lv_bipush (v := 12) hx hb d_G_edge_65 (by decide) ?_
                refine lv_icmp_ne (tgt := 80) hx hb d_G_edge_67 (by decide) (fun hc6 => ?_) (fun hc6 => ?_)
                · skip
                  exact absurd (show nI E.2.1 = 12 by rw [h12]; rfl) hc6
                · skip
                  exact th_raise (own := "MergingFragments") (C := "java/lang/IllegalStateException") (txt := "no edge can be added any more") (inew := 63) (ildc := 65) (ic := 67) (st := sa 65) (names := ["java/lang/RuntimeException", "java/lang/Exception"]) hx hb hoff hown hlk (by rw [hml]; exact hl.1) hg hX (hg _ w281) (hg _ w13) (hX.2.2.1 (65, "no edge can be added any more") (by decide)) at_IS at_ft.2.2.1 at_ft.2.2.2 (hno _) d_G_edge_70 d_G_edge_73 d_G_edge_74 d_G_edge_76 d_G_edge_79 (Nat.le_of_ble_eq_true rfl) (Nat.le_of_ble_eq_true rfl) (Nat.le_of_ble_eq_true rfl) (Nat.le_of_ble_eq_true rfl)
          · skip
            exact absurd rfl hc4
  · skip
    exact absurd ((nI_eq (by omega) (by omega)).mp hc) hab
