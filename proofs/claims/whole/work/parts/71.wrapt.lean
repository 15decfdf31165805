/-! The law's wrappers where the class throws, by program (wip/mk71.py). -/
set_option maxHeartbeats 4000000 in
set_option maxRecDepth 100000 in
theorem w_begin1 (l : Launch) (hoff : th_Off l) (D : va_G) (tys : List (ClassId × FieldType)) (de : Nat) (sa : Nat → Nat) {L : List Nat} {f : Nat → va_E} {w : Int32} {ad τ : Nat → Nat} {E : kE} {S : kS} {cI cO cN : ClassId}  (ht : tys[0]? = some (cI, .int)) (ht1 : tys[1]? = some (cO, .object "java/lang/Object")) (ht2 : tys[2]? = some (cN, .object "MergingFragments$Node")) (hG : kG cI cO cN de ad τ L f E S) (hbad : w < 1 ∨ 7 < w) : hp_Mi l y_L_begin (gw_wsW y_L_begin b_L_begin 3 (some .int) [(0, 5, 8, 13)]) { frames := 12, cells := 1, slots := 6, locals := 200 } D kc tys (s_X de sa) [.ref (ad 0), .int w] L f (fun r u => r = 1 ∧ u = (L, f)) 1 6 := by
  refine hp_ofWW (Qc := fun A => va_Qi (fun r u => r = 1 ∧ u = (L, f)) (hp_B D kc A) A) (fr := fun A => A) (ret := some .int) (by decide) rfl (Nat.le_of_ble_eq_true rfl) ?_
  intro p e s m below meth c ls A hx hb hml hr htab hts hown hlk hl hK hX h
  have hg : ∀ w ∈ gw, w.before _ s = true := fun w hw => hts w (List.mem_cons_of_mem _ hw)
  have hown : s.vm.findClass "MergingFragmentsLaw" = some m.cls := hown
  have hl : lv_has ls 3 [(0, .ref (ad 0)), (1, .int w)] := hl
  have he := hG.1
  refine lv_aload_n hx hb d_L_begin_0 rfl (lv_at hl 0 rfl) ?_
  refine lv_iload_n hx hb d_L_begin_1 rfl (lv_at hl 1 rfl) ?_
  obtain ⟨x0, l0, el0, fx0, rl0⟩ := List.map_eq_cons_iff.mp htab
  simp only [Prod.mk.injEq] at fx0
  have hnil := List.map_eq_nil_iff.mp rl0
  have hsp : c.exceptionTable.toList = [] ++ x0 :: [] := by rw [el0, hnil]; rfl
  refine hp_tcatch (name := "java/lang/IllegalArgumentException") (hp_trunV (As := [.int w]) (rest := []) ⟨hx, hb, hml, hown, hg⟩ (t_G_begin l hoff D tys de sa ht ht1 ht2 hG hbad) (cwV 1 hg (gw_V w169 w170 w171 w1 w172) rfl rfl rfl (by decide +kernel) ⟨Nat.le_of_ble_eq_true rfl, Nat.le_of_ble_eq_true rfl⟩) (s_ok de sa) hK hX h he rfl rfl rfl hl.1 rfl (Nat.le_of_ble_eq_true rfl) d_L_begin_2 ⟨Nat.le_of_ble_eq_true rfl, Nat.le_of_ble_eq_true rfl⟩) hown hsp (by simp [covers, fx0.1, fx0.2.1]) (by rw [fx0.2.2.2]; decide) (by rw [fx0.2.2.2]; exact hg _ w168) (th_atoms hg hX at_IA _ (by simp [Bundle.ownAtoms])) (fun y hy => by simp at hy) h (fun q9 H L9 h => ?_)
  rw [fx0.2.2.1]
  refine lv_astore_n (lv' := [(2, .ref q9), (0, .ref (ad 0)), (1, .int w)]) hx hb d_L_begin_8 rfl hl (by decide) rfl (fun ls hl => ?_)
  refine lv_iconst (v := 1) hx hb d_L_begin_9 (by decide) ?_
  exact hp_iret hx hb hr hlk h ⟨rfl, rfl⟩ (by omega) (by omega) d_L_begin_10

set_option maxHeartbeats 4000000 in
set_option maxRecDepth 100000 in
theorem w_edge1 (l : Launch) (hoff : th_Off l) (D : va_G) (tys : List (ClassId × FieldType)) (de : Nat) (sa : Nat → Nat) {L : List Nat} {f : Nat → va_E} {o9 : Nat} {w u9 x9 : Int32} {ad τ : Nat → Nat} {E : kE} {S : kS} {cI cO cN : ClassId}  (ht : tys[0]? = some (cI, .int)) (ht1 : tys[1]? = some (cO, .object "java/lang/Object")) (ht2 : tys[2]? = some (cN, .object "MergingFragments$Node")) (hG : kG cI cO cN de ad τ L f E S) (hbad : kBad E w) : hp_Mi l y_L_edge (gw_wsW y_L_edge b_L_edge 6 (some .int) [(0, 12, 15, 19), (0, 12, 19, 13), (0, 12, 23, 21)]) { frames := 12, cells := 1, slots := 6, locals := 200 } D kc tys (s_X de sa) [.ref (ad 0), .int w, .int u9, .int x9, .ref o9] L f (fun r u => r = 1 ∧ u = (L, f)) 1 6 := by
  refine hp_ofWW (Qc := fun A => va_Qi (fun r u => r = 1 ∧ u = (L, f)) (hp_B D kc A) A) (fr := fun A => A) (ret := some .int) (by decide) rfl (Nat.le_of_ble_eq_true rfl) ?_
  intro p e s m below meth c ls A hx hb hml hr htab hts hown hlk hl hK hX h
  have hg : ∀ w ∈ gw, w.before _ s = true := fun w hw => hts w (List.mem_cons_of_mem _ hw)
  have hown : s.vm.findClass "MergingFragmentsLaw" = some m.cls := hown
  have hl : lv_has ls 6 [(0, .ref (ad 0)), (1, .int w), (2, .int u9), (3, .int x9), (4, .ref o9)] := hl
  have he := hG.1
  refine lv_aload hx hb d_L_edge_0 (lv_at hl 4 rfl) ?_
  refine lv_iconst (v := 0) hx hb d_L_edge_2 (by decide) ?_
  refine lv_aload_n hx hb d_L_edge_3 rfl (lv_at hl 0 rfl) ?_
  refine lv_iload_n hx hb d_L_edge_4 rfl (lv_at hl 1 rfl) ?_
  refine lv_iload_n hx hb d_L_edge_5 rfl (lv_at hl 2 rfl) ?_
  refine lv_iload_n hx hb d_L_edge_6 rfl (lv_at hl 3 rfl) ?_
  obtain ⟨x0, l0, el0, fx0, rl0⟩ := List.map_eq_cons_iff.mp htab
  simp only [Prod.mk.injEq] at fx0
  obtain ⟨x1, l1, el1, fx1, rl1⟩ := List.map_eq_cons_iff.mp rl0
  simp only [Prod.mk.injEq] at fx1
  obtain ⟨x2, l2, el2, fx2, rl2⟩ := List.map_eq_cons_iff.mp rl1
  simp only [Prod.mk.injEq] at fx2
  have hnil := List.map_eq_nil_iff.mp rl2
  have hsp : c.exceptionTable.toList = [] ++ x0 :: [x1, x2] := by rw [el0, el1, el2, hnil]; rfl
  refine hp_tcatch (name := "java/lang/IndexOutOfBoundsException") (hp_trunV (As := [.int w, .int u9, .int x9]) (rest := [.int 0, .ref o9]) ⟨hx, hb, hml, hown, hg⟩ (t_G_edge1 l hoff D tys de sa ht ht1 ht2 hG hbad) (cwV 3 hg (gw_V w247 w248 w249 w1 w250) rfl rfl rfl (by decide +kernel) ⟨Nat.le_of_ble_eq_true rfl, Nat.le_of_ble_eq_true rfl⟩) (s_ok de sa) hK hX h he rfl rfl rfl hl.1 rfl (Nat.le_of_ble_eq_true rfl) d_L_edge_7 ⟨Nat.le_of_ble_eq_true rfl, Nat.le_of_ble_eq_true rfl⟩) hown hsp (by simp [covers, fx0.1, fx0.2.1]) (by rw [fx0.2.2.2]; decide) (by rw [fx0.2.2.2]; exact hg _ w245) (th_atoms hg hX at_IO _ (by simp [Bundle.ownAtoms])) (fun y hy => by simp at hy) h (fun q9 H L9 h => ?_)
  rw [fx0.2.2.1]
  refine lv_astore (lv' := [(5, .ref q9), (0, .ref (ad 0)), (1, .int w), (2, .int u9), (3, .int x9), (4, .ref o9)]) hx hb d_L_edge_15 hl (by decide) rfl (fun ls hl => ?_)
  refine lv_iconst (v := 1) hx hb d_L_edge_17 (by decide) ?_
  exact hp_iret hx hb hr hlk h ⟨rfl, rfl⟩ (by omega) (by omega) d_L_edge_18

set_option maxHeartbeats 4000000 in
set_option maxRecDepth 100000 in
theorem w_edge2 (l : Launch) (hoff : th_Off l) (D : va_G) (tys : List (ClassId × FieldType)) (de : Nat) (sa : Nat → Nat) {L : List Nat} {f : Nat → va_E} {o9 : Nat} {a : Nat} {w x9 : Int32} {ad τ : Nat → Nat} {E : kE} {S : kS} {cI cO cN : ClassId}  (ht : tys[0]? = some (cI, .int)) (ht1 : tys[1]? = some (cO, .object "java/lang/Object")) (ht2 : tys[2]? = some (cN, .object "MergingFragments$Node")) (hG : kG cI cO cN de ad τ L f E S) (ha : a < E.1) (hbad : kBad E w) : hp_Mi l y_L_edge (gw_wsW y_L_edge b_L_edge 6 (some .int) [(0, 12, 15, 19), (0, 12, 19, 13), (0, 12, 23, 21)]) { frames := 12, cells := 1, slots := 6, locals := 200 } D kc tys (s_X de sa) [.ref (ad 0), .int (nI a), .int w, .int x9, .ref o9] L f (fun r u => r = 1 ∧ u = (L, f)) 1 6 := by
  refine hp_ofWW (Qc := fun A => va_Qi (fun r u => r = 1 ∧ u = (L, f)) (hp_B D kc A) A) (fr := fun A => A) (ret := some .int) (by decide) rfl (Nat.le_of_ble_eq_true rfl) ?_
  intro p e s m below meth c ls A hx hb hml hr htab hts hown hlk hl hK hX h
  have hg : ∀ w ∈ gw, w.before _ s = true := fun w hw => hts w (List.mem_cons_of_mem _ hw)
  have hown : s.vm.findClass "MergingFragmentsLaw" = some m.cls := hown
  have hl : lv_has ls 6 [(0, .ref (ad 0)), (1, .int (nI a)), (2, .int w), (3, .int x9), (4, .ref o9)] := hl
  have he := hG.1
  refine lv_aload hx hb d_L_edge_0 (lv_at hl 4 rfl) ?_
  refine lv_iconst (v := 0) hx hb d_L_edge_2 (by decide) ?_
  refine lv_aload_n hx hb d_L_edge_3 rfl (lv_at hl 0 rfl) ?_
  refine lv_iload_n hx hb d_L_edge_4 rfl (lv_at hl 1 rfl) ?_
  refine lv_iload_n hx hb d_L_edge_5 rfl (lv_at hl 2 rfl) ?_
  refine lv_iload_n hx hb d_L_edge_6 rfl (lv_at hl 3 rfl) ?_
  obtain ⟨x0, l0, el0, fx0, rl0⟩ := List.map_eq_cons_iff.mp htab
  simp only [Prod.mk.injEq] at fx0
  obtain ⟨x1, l1, el1, fx1, rl1⟩ := List.map_eq_cons_iff.mp rl0
  simp only [Prod.mk.injEq] at fx1
  obtain ⟨x2, l2, el2, fx2, rl2⟩ := List.map_eq_cons_iff.mp rl1
  simp only [Prod.mk.injEq] at fx2
  have hnil := List.map_eq_nil_iff.mp rl2
  have hsp : c.exceptionTable.toList = [] ++ x0 :: [x1, x2] := by rw [el0, el1, el2, hnil]; rfl
  refine hp_tcatch (name := "java/lang/IndexOutOfBoundsException") (hp_trunV (As := [.int (nI a), .int w, .int x9]) (rest := [.int 0, .ref o9]) ⟨hx, hb, hml, hown, hg⟩ (t_G_edge2 l hoff D tys de sa ht ht1 ht2 hG ha hbad) (cwV 3 hg (gw_V w247 w248 w249 w1 w250) rfl rfl rfl (by decide +kernel) ⟨Nat.le_of_ble_eq_true rfl, Nat.le_of_ble_eq_true rfl⟩) (s_ok de sa) hK hX h he rfl rfl rfl hl.1 rfl (Nat.le_of_ble_eq_true rfl) d_L_edge_7 ⟨Nat.le_of_ble_eq_true rfl, Nat.le_of_ble_eq_true rfl⟩) hown hsp (by simp [covers, fx0.1, fx0.2.1]) (by rw [fx0.2.2.2]; decide) (by rw [fx0.2.2.2]; exact hg _ w245) (th_atoms hg hX at_IO _ (by simp [Bundle.ownAtoms])) (fun y hy => by simp at hy) h (fun q9 H L9 h => ?_)
  rw [fx0.2.2.1]
  refine lv_astore (lv' := [(5, .ref q9), (0, .ref (ad 0)), (1, .int (nI a)), (2, .int w), (3, .int x9), (4, .ref o9)]) hx hb d_L_edge_15 hl (by decide) rfl (fun ls hl => ?_)
  refine lv_iconst (v := 1) hx hb d_L_edge_17 (by decide) ?_
  exact hp_iret hx hb hr hlk h ⟨rfl, rfl⟩ (by omega) (by omega) d_L_edge_18

set_option maxHeartbeats 4000000 in
set_option maxRecDepth 100000 in
theorem w_edge3 (l : Launch) (hoff : th_Off l) (D : va_G) (tys : List (ClassId × FieldType)) (de : Nat) (sa : Nat → Nat) {L : List Nat} {f : Nat → va_E} {o9 : Nat} {a b : Nat} {w : Int32} {ad τ : Nat → Nat} {E : kE} {S : kS} {cI cO cN : ClassId}  (ht : tys[0]? = some (cI, .int)) (ht1 : tys[1]? = some (cO, .object "java/lang/Object")) (ht2 : tys[2]? = some (cN, .object "MergingFragments$Node")) (hG : kG cI cO cN de ad τ L f E S) (ha : a < E.1) (hb9 : b < E.1) (hbad : a = b ∨ w < 1 ∨ 99 < w ∨ ∃ j, j < E.2.1 ∧ E.2.2.2.2 j = w) : hp_Mi l y_L_edge (gw_wsW y_L_edge b_L_edge 6 (some .int) [(0, 12, 15, 19), (0, 12, 19, 13), (0, 12, 23, 21)]) { frames := 12, cells := 1, slots := 6, locals := 200 } D kc tys (s_X de sa) [.ref (ad 0), .int (nI a), .int (nI b), .int w, .ref o9] L f (fun r u => r = 2 ∧ u = (L, f)) 1 6 := by
  refine hp_ofWW (Qc := fun A => va_Qi (fun r u => r = 2 ∧ u = (L, f)) (hp_B D kc A) A) (fr := fun A => A) (ret := some .int) (by decide) rfl (Nat.le_of_ble_eq_true rfl) ?_
  intro p e s m below meth c ls A hx hb hml hr htab hts hown hlk hl hK hX h
  have hg : ∀ w ∈ gw, w.before _ s = true := fun w hw => hts w (List.mem_cons_of_mem _ hw)
  have hown : s.vm.findClass "MergingFragmentsLaw" = some m.cls := hown
  have hl : lv_has ls 6 [(0, .ref (ad 0)), (1, .int (nI a)), (2, .int (nI b)), (3, .int w), (4, .ref o9)] := hl
  have he := hG.1
  refine lv_aload hx hb d_L_edge_0 (lv_at hl 4 rfl) ?_
  refine lv_iconst (v := 0) hx hb d_L_edge_2 (by decide) ?_
  refine lv_aload_n hx hb d_L_edge_3 rfl (lv_at hl 0 rfl) ?_
  refine lv_iload_n hx hb d_L_edge_4 rfl (lv_at hl 1 rfl) ?_
  refine lv_iload_n hx hb d_L_edge_5 rfl (lv_at hl 2 rfl) ?_
  refine lv_iload_n hx hb d_L_edge_6 rfl (lv_at hl 3 rfl) ?_
  obtain ⟨x0, l0, el0, fx0, rl0⟩ := List.map_eq_cons_iff.mp htab
  simp only [Prod.mk.injEq] at fx0
  obtain ⟨x1, l1, el1, fx1, rl1⟩ := List.map_eq_cons_iff.mp rl0
  simp only [Prod.mk.injEq] at fx1
  obtain ⟨x2, l2, el2, fx2, rl2⟩ := List.map_eq_cons_iff.mp rl1
  simp only [Prod.mk.injEq] at fx2
  have hnil := List.map_eq_nil_iff.mp rl2
  have hsp : c.exceptionTable.toList = [x0] ++ x1 :: [x2] := by rw [el0, el1, el2, hnil]; rfl
  refine hp_tcatch (name := "java/lang/IllegalArgumentException") (hp_trunV (As := [.int (nI a), .int (nI b), .int w]) (rest := [.int 0, .ref o9]) ⟨hx, hb, hml, hown, hg⟩ (t_G_edge3 l hoff D tys de sa ht ht1 ht2 hG ha hb9 hbad) (cwV 3 hg (gw_V w247 w248 w249 w1 w250) rfl rfl rfl (by decide +kernel) ⟨Nat.le_of_ble_eq_true rfl, Nat.le_of_ble_eq_true rfl⟩) (s_ok de sa) hK hX h he rfl rfl rfl hl.1 rfl (Nat.le_of_ble_eq_true rfl) d_L_edge_7 ⟨Nat.le_of_ble_eq_true rfl, Nat.le_of_ble_eq_true rfl⟩) hown hsp (by simp [covers, fx1.1, fx1.2.1]) (by rw [fx1.2.2.2]; decide) (by rw [fx1.2.2.2]; exact hg _ w168) (th_atoms hg hX at_IA _ (by simp [Bundle.ownAtoms])) (fun y hy => by have hy9 : y = x0 := (by simpa using hy); exact Or.inr ⟨by rw [hy9, fx0.2.2.2]; decide, "java/lang/IndexOutOfBoundsException", by rw [hy9, fx0.2.2.2]; exact hg _ w245, hX.2.1 ("java/lang/IllegalArgumentException", "java/lang/IndexOutOfBoundsException") (by decide)⟩) h (fun q9 H L9 h => ?_)
  rw [fx1.2.2.1]
  refine lv_astore (lv' := [(5, .ref q9), (0, .ref (ad 0)), (1, .int (nI a)), (2, .int (nI b)), (3, .int w), (4, .ref o9)]) hx hb d_L_edge_19 hl (by decide) rfl (fun ls hl => ?_)
  refine lv_iconst (v := 2) hx hb d_L_edge_21 (by decide) ?_
  exact hp_iret hx hb hr hlk h ⟨rfl, rfl⟩ (by omega) (by omega) d_L_edge_22

set_option maxHeartbeats 4000000 in
set_option maxRecDepth 100000 in
theorem w_edge4 (l : Launch) (hoff : th_Off l) (D : va_G) (tys : List (ClassId × FieldType)) (de : Nat) (sa : Nat → Nat) {L : List Nat} {f : Nat → va_E} {o9 : Nat} {a b : Nat} {w : Int32} {ad τ : Nat → Nat} {E : kE} {S : kS} {cI cO cN : ClassId}  (ht : tys[0]? = some (cI, .int)) (ht1 : tys[1]? = some (cO, .object "java/lang/Object")) (ht2 : tys[2]? = some (cN, .object "MergingFragments$Node")) (hG : kG cI cO cN de ad τ L f E S) (ha : a < E.1) (hb9 : b < E.1) (hab : a ≠ b) (hw9 : 1 ≤ w) (hw99 : w ≤ 99) (hnt : ∀ j, j < E.2.1 → ¬ E.2.2.2.2 j = w) (hbad : (∃ i, i < E.1 ∧ ¬ S.1 i 0 = 0) ∨ E.2.1 = 12) : hp_Mi l y_L_edge (gw_wsW y_L_edge b_L_edge 6 (some .int) [(0, 12, 15, 19), (0, 12, 19, 13), (0, 12, 23, 21)]) { frames := 12, cells := 1, slots := 6, locals := 200 } D kc tys (s_X de sa) [.ref (ad 0), .int (nI a), .int (nI b), .int w, .ref o9] L f (fun r u => r = 3 ∧ u = (L, f)) 1 6 := by
  refine hp_ofWW (Qc := fun A => va_Qi (fun r u => r = 3 ∧ u = (L, f)) (hp_B D kc A) A) (fr := fun A => A) (ret := some .int) (by decide) rfl (Nat.le_of_ble_eq_true rfl) ?_
  intro p e s m below meth c ls A hx hb hml hr htab hts hown hlk hl hK hX h
  have hg : ∀ w ∈ gw, w.before _ s = true := fun w hw => hts w (List.mem_cons_of_mem _ hw)
  have hown : s.vm.findClass "MergingFragmentsLaw" = some m.cls := hown
  have hl : lv_has ls 6 [(0, .ref (ad 0)), (1, .int (nI a)), (2, .int (nI b)), (3, .int w), (4, .ref o9)] := hl
  have he := hG.1
  refine lv_aload hx hb d_L_edge_0 (lv_at hl 4 rfl) ?_
  refine lv_iconst (v := 0) hx hb d_L_edge_2 (by decide) ?_
  refine lv_aload_n hx hb d_L_edge_3 rfl (lv_at hl 0 rfl) ?_
  refine lv_iload_n hx hb d_L_edge_4 rfl (lv_at hl 1 rfl) ?_
  refine lv_iload_n hx hb d_L_edge_5 rfl (lv_at hl 2 rfl) ?_
  refine lv_iload_n hx hb d_L_edge_6 rfl (lv_at hl 3 rfl) ?_
  obtain ⟨x0, l0, el0, fx0, rl0⟩ := List.map_eq_cons_iff.mp htab
  simp only [Prod.mk.injEq] at fx0
  obtain ⟨x1, l1, el1, fx1, rl1⟩ := List.map_eq_cons_iff.mp rl0
  simp only [Prod.mk.injEq] at fx1
  obtain ⟨x2, l2, el2, fx2, rl2⟩ := List.map_eq_cons_iff.mp rl1
  simp only [Prod.mk.injEq] at fx2
  have hnil := List.map_eq_nil_iff.mp rl2
  have hsp : c.exceptionTable.toList = [x0, x1] ++ x2 :: [] := by rw [el0, el1, el2, hnil]; rfl
  refine hp_tcatch (name := "java/lang/IllegalStateException") (hp_trunV (As := [.int (nI a), .int (nI b), .int w]) (rest := [.int 0, .ref o9]) ⟨hx, hb, hml, hown, hg⟩ (t_G_edge4 l hoff D tys de sa ht ht1 ht2 hG ha hb9 hab hw9 hw99 hnt hbad) (cwV 3 hg (gw_V w247 w248 w249 w1 w250) rfl rfl rfl (by decide +kernel) ⟨Nat.le_of_ble_eq_true rfl, Nat.le_of_ble_eq_true rfl⟩) (s_ok de sa) hK hX h he rfl rfl rfl hl.1 rfl (Nat.le_of_ble_eq_true rfl) d_L_edge_7 ⟨Nat.le_of_ble_eq_true rfl, Nat.le_of_ble_eq_true rfl⟩) hown hsp (by simp [covers, fx2.1, fx2.2.1]) (by rw [fx2.2.2.2]; decide) (by rw [fx2.2.2.2]; exact hg _ w246) (th_atoms hg hX at_IS _ (by simp [Bundle.ownAtoms])) (fun y hy => by rcases (show y = x0 ∨ y = x1 by simpa using hy) with hy9 | hy9; exact Or.inr ⟨by rw [hy9, fx0.2.2.2]; decide, "java/lang/IndexOutOfBoundsException", by rw [hy9, fx0.2.2.2]; exact hg _ w245, hX.2.1 ("java/lang/IllegalStateException", "java/lang/IndexOutOfBoundsException") (by decide)⟩; exact Or.inr ⟨by rw [hy9, fx1.2.2.2]; decide, "java/lang/IllegalArgumentException", by rw [hy9, fx1.2.2.2]; exact hg _ w168, hX.2.1 ("java/lang/IllegalStateException", "java/lang/IllegalArgumentException") (by decide)⟩) h (fun q9 H L9 h => ?_)
  rw [fx2.2.2.1]
  refine lv_astore (lv' := [(5, .ref q9), (0, .ref (ad 0)), (1, .int (nI a)), (2, .int (nI b)), (3, .int w), (4, .ref o9)]) hx hb d_L_edge_23 hl (by decide) rfl (fun ls hl => ?_)
  refine lv_iconst (v := 3) hx hb d_L_edge_25 (by decide) ?_
  exact hp_iret hx hb hr hlk h ⟨rfl, rfl⟩ (by omega) (by omega) d_L_edge_26

set_option maxHeartbeats 4000000 in
set_option maxRecDepth 100000 in
theorem w_wake1 (l : Launch) (hoff : th_Off l) (D : va_G) (tys : List (ClassId × FieldType)) (de : Nat) (sa : Nat → Nat) {L : List Nat} {f : Nat → va_E} {o9 : Nat} {w : Int32} {ad τ : Nat → Nat} {E : kE} {S : kS} {cI cO cN : ClassId}  (ht : tys[0]? = some (cI, .int)) (ht1 : tys[1]? = some (cO, .object "java/lang/Object")) (ht2 : tys[2]? = some (cN, .object "MergingFragments$Node")) (hG : kG cI cO cN de ad τ L f E S) (hbad : kBad E w) : hp_Mi l y_L_wake (gw_wsW y_L_wake b_L_wake 4 (some .int) [(0, 16, 19, 19)]) { frames := 12, cells := 1, slots := 6, locals := 200 } D kc tys (s_X de sa) [.ref (ad 0), .int w, .ref o9] L f (fun r u => r = 1 ∧ u = (L, f)) 1 6 := by
  refine hp_ofWW (Qc := fun A => va_Qi (fun r u => r = 1 ∧ u = (L, f)) (hp_B D kc A) A) (fr := fun A => A) (ret := some .int) (by decide) rfl (Nat.le_of_ble_eq_true rfl) ?_
  intro p e s m below meth c ls A hx hb hml hr htab hts hown hlk hl hK hX h
  have hg : ∀ w ∈ gw, w.before _ s = true := fun w hw => hts w (List.mem_cons_of_mem _ hw)
  have hown : s.vm.findClass "MergingFragmentsLaw" = some m.cls := hown
  have hl : lv_has ls 4 [(0, .ref (ad 0)), (1, .int w), (2, .ref o9)] := hl
  have he := hG.1
  refine lv_aload_n hx hb d_L_wake_0 rfl (lv_at hl 2 rfl) ?_
  refine lv_iconst (v := 0) hx hb d_L_wake_1 (by decide) ?_
  refine lv_aload_n hx hb d_L_wake_2 rfl (lv_at hl 0 rfl) ?_
  refine lv_iload_n hx hb d_L_wake_3 rfl (lv_at hl 1 rfl) ?_
  obtain ⟨x0, l0, el0, fx0, rl0⟩ := List.map_eq_cons_iff.mp htab
  simp only [Prod.mk.injEq] at fx0
  have hnil := List.map_eq_nil_iff.mp rl0
  have hsp : c.exceptionTable.toList = [] ++ x0 :: [] := by rw [el0, hnil]; rfl
  refine hp_tcatch (name := "java/lang/IndexOutOfBoundsException") (hp_trunV (As := [.int w]) (rest := [.int 0, .ref o9]) ⟨hx, hb, hml, hown, hg⟩ (t_G_wake l hoff D tys de sa ht ht1 ht2 hG hbad) (cwV 1 hg (gw_V w300 w301 w302 w1 w303) rfl rfl rfl (by decide +kernel) ⟨Nat.le_of_ble_eq_true rfl, Nat.le_of_ble_eq_true rfl⟩) (s_ok de sa) hK hX h he rfl rfl rfl hl.1 rfl (Nat.le_of_ble_eq_true rfl) d_L_wake_4 ⟨Nat.le_of_ble_eq_true rfl, Nat.le_of_ble_eq_true rfl⟩) hown hsp (by simp [covers, fx0.1, fx0.2.1]) (by rw [fx0.2.2.2]; decide) (by rw [fx0.2.2.2]; exact hg _ w245) (th_atoms hg hX at_IO _ (by simp [Bundle.ownAtoms])) (fun y hy => by simp at hy) h (fun q9 H L9 h => ?_)
  rw [fx0.2.2.1]
  refine lv_astore_n (lv' := [(3, .ref q9), (0, .ref (ad 0)), (1, .int w), (2, .ref o9)]) hx hb d_L_wake_19 rfl hl (by decide) rfl (fun ls hl => ?_)
  refine lv_iconst (v := 1) hx hb d_L_wake_20 (by decide) ?_
  exact hp_iret hx hb hr hlk h ⟨rfl, rfl⟩ (by omega) (by omega) d_L_wake_21

set_option maxHeartbeats 4000000 in
set_option maxRecDepth 100000 in
theorem w_handle1 (l : Launch) (hoff : th_Off l) (D : va_G) (tys : List (ClassId × FieldType)) (de : Nat) (sa : Nat → Nat) {L : List Nat} {f : Nat → va_E} {o9 : Nat} {w : Int32} {ad τ : Nat → Nat} {E : kE} {S : kS} {cI cO cN : ClassId}  (ht : tys[0]? = some (cI, .int)) (ht1 : tys[1]? = some (cO, .object "java/lang/Object")) (ht2 : tys[2]? = some (cN, .object "MergingFragments$Node")) (hG : kG cI cO cN de ad τ L f E S) (hbad : kBad E w) : hp_Mi l y_L_handle (gw_wsW y_L_handle b_L_handle 4 (some .int) [(0, 9, 12, 19)]) { frames := 12, cells := 1, slots := 6, locals := 200 } D kc tys (s_X de sa) [.ref (ad 0), .int w, .ref o9] L f (fun r u => r = 1 ∧ u = (L, f)) 1 6 := by
  refine hp_ofWW (Qc := fun A => va_Qi (fun r u => r = 1 ∧ u = (L, f)) (hp_B D kc A) A) (fr := fun A => A) (ret := some .int) (by decide) rfl (Nat.le_of_ble_eq_true rfl) ?_
  intro p e s m below meth c ls A hx hb hml hr htab hts hown hlk hl hK hX h
  have hg : ∀ w ∈ gw, w.before _ s = true := fun w hw => hts w (List.mem_cons_of_mem _ hw)
  have hown : s.vm.findClass "MergingFragmentsLaw" = some m.cls := hown
  have hl : lv_has ls 4 [(0, .ref (ad 0)), (1, .int w), (2, .ref o9)] := hl
  have he := hG.1
  refine lv_aload_n hx hb d_L_handle_0 rfl (lv_at hl 2 rfl) ?_
  refine lv_iconst (v := 0) hx hb d_L_handle_1 (by decide) ?_
  refine lv_aload_n hx hb d_L_handle_2 rfl (lv_at hl 0 rfl) ?_
  refine lv_iload_n hx hb d_L_handle_3 rfl (lv_at hl 1 rfl) ?_
  obtain ⟨x0, l0, el0, fx0, rl0⟩ := List.map_eq_cons_iff.mp htab
  simp only [Prod.mk.injEq] at fx0
  have hnil := List.map_eq_nil_iff.mp rl0
  have hsp : c.exceptionTable.toList = [] ++ x0 :: [] := by rw [el0, hnil]; rfl
  refine hp_tcatch (name := "java/lang/IndexOutOfBoundsException") (hp_trunV (As := [.int w]) (rest := [.int 0, .ref o9]) ⟨hx, hb, hml, hown, hg⟩ (t_G_handle l hoff D tys de sa ht ht1 ht2 hG hbad) (cwV 1 hg (gw_V w403 w404 w405 w1 w406) rfl rfl rfl (by decide +kernel) ⟨Nat.le_of_ble_eq_true rfl, Nat.le_of_ble_eq_true rfl⟩) (s_ok de sa) hK hX h he rfl rfl rfl hl.1 rfl (Nat.le_of_ble_eq_true rfl) d_L_handle_4 ⟨Nat.le_of_ble_eq_true rfl, Nat.le_of_ble_eq_true rfl⟩) hown hsp (by simp [covers, fx0.1, fx0.2.1]) (by rw [fx0.2.2.2]; decide) (by rw [fx0.2.2.2]; exact hg _ w245) (th_atoms hg hX at_IO _ (by simp [Bundle.ownAtoms])) (fun y hy => by simp at hy) h (fun q9 H L9 h => ?_)
  rw [fx0.2.2.1]
  refine lv_astore_n (lv' := [(3, .ref q9), (0, .ref (ad 0)), (1, .int w), (2, .ref o9)]) hx hb d_L_handle_12 rfl hl (by decide) rfl (fun ls hl => ?_)
  refine lv_iconst (v := 1) hx hb d_L_handle_13 (by decide) ?_
  exact hp_iret hx hb hr hlk h ⟨rfl, rfl⟩ (by omega) (by omega) d_L_handle_14

set_option maxHeartbeats 4000000 in
set_option maxRecDepth 100000 in
theorem w_run1 (l : Launch) (hoff : th_Off l) (D : va_G) (tys : List (ClassId × FieldType)) (de : Nat) (sa : Nat → Nat) {L : List Nat} {f : Nat → va_E} {o9 : Nat} {w u9 : Int32} {ad τ : Nat → Nat} {E : kE} {S : kS} {cI cO cN : ClassId}  (ht : tys[0]? = some (cI, .int)) (ht1 : tys[1]? = some (cO, .object "java/lang/Object")) (ht2 : tys[2]? = some (cN, .object "MergingFragments$Node")) (hG : kG cI cO cN de ad τ L f E S) (hbad : kBad E w) : hp_Mi l y_L_run (gw_wsW y_L_run b_L_run 5 (some .int) [(0, 10, 13, 19), (0, 10, 17, 13)]) { frames := 12, cells := 1, slots := 6, locals := 200 } D kc tys (s_X de sa) [.ref (ad 0), .int w, .int u9, .ref o9] L f (fun r u => r = 1 ∧ u = (L, f)) 1 6 := by
  refine hp_ofWW (Qc := fun A => va_Qi (fun r u => r = 1 ∧ u = (L, f)) (hp_B D kc A) A) (fr := fun A => A) (ret := some .int) (by decide) rfl (Nat.le_of_ble_eq_true rfl) ?_
  intro p e s m below meth c ls A hx hb hml hr htab hts hown hlk hl hK hX h
  have hg : ∀ w ∈ gw, w.before _ s = true := fun w hw => hts w (List.mem_cons_of_mem _ hw)
  have hown : s.vm.findClass "MergingFragmentsLaw" = some m.cls := hown
  have hl : lv_has ls 5 [(0, .ref (ad 0)), (1, .int w), (2, .int u9), (3, .ref o9)] := hl
  have he := hG.1
  refine lv_aload_n hx hb d_L_run_0 rfl (lv_at hl 3 rfl) ?_
  refine lv_iconst (v := 0) hx hb d_L_run_1 (by decide) ?_
  refine lv_aload_n hx hb d_L_run_2 rfl (lv_at hl 0 rfl) ?_
  refine lv_iload_n hx hb d_L_run_3 rfl (lv_at hl 1 rfl) ?_
  refine lv_iload_n hx hb d_L_run_4 rfl (lv_at hl 2 rfl) ?_
  obtain ⟨x0, l0, el0, fx0, rl0⟩ := List.map_eq_cons_iff.mp htab
  simp only [Prod.mk.injEq] at fx0
  obtain ⟨x1, l1, el1, fx1, rl1⟩ := List.map_eq_cons_iff.mp rl0
  simp only [Prod.mk.injEq] at fx1
  have hnil := List.map_eq_nil_iff.mp rl1
  have hsp : c.exceptionTable.toList = [] ++ x0 :: [x1] := by rw [el0, el1, hnil]; rfl
  refine hp_tcatch (name := "java/lang/IndexOutOfBoundsException") (hp_trunV (As := [.int w, .int u9]) (rest := [.int 0, .ref o9]) ⟨hx, hb, hml, hown, hg⟩ (t_G_run1 l hoff D tys de sa ht ht1 ht2 hG hbad) (cwV 2 hg (gw_V w499 w500 w501 w1 w502) rfl rfl rfl (by decide +kernel) ⟨Nat.le_of_ble_eq_true rfl, Nat.le_of_ble_eq_true rfl⟩) (s_ok de sa) hK hX h he rfl rfl rfl hl.1 rfl (Nat.le_of_ble_eq_true rfl) d_L_run_5 ⟨Nat.le_of_ble_eq_true rfl, Nat.le_of_ble_eq_true rfl⟩) hown hsp (by simp [covers, fx0.1, fx0.2.1]) (by rw [fx0.2.2.2]; decide) (by rw [fx0.2.2.2]; exact hg _ w245) (th_atoms hg hX at_IO _ (by simp [Bundle.ownAtoms])) (fun y hy => by simp at hy) h (fun q9 H L9 h => ?_)
  rw [fx0.2.2.1]
  refine lv_astore (lv' := [(4, .ref q9), (0, .ref (ad 0)), (1, .int w), (2, .int u9), (3, .ref o9)]) hx hb d_L_run_13 hl (by decide) rfl (fun ls hl => ?_)
  refine lv_iconst (v := 1) hx hb d_L_run_15 (by decide) ?_
  exact hp_iret hx hb hr hlk h ⟨rfl, rfl⟩ (by omega) (by omega) d_L_run_16

set_option maxHeartbeats 4000000 in
set_option maxRecDepth 100000 in
theorem w_run2 (l : Launch) (hoff : th_Off l) (D : va_G) (tys : List (ClassId × FieldType)) (de : Nat) (sa : Nat → Nat) {L : List Nat} {f : Nat → va_E} {o9 : Nat} {v : Nat} {u9 : Int32} {ad τ : Nat → Nat} {E : kE} {S : kS} {cI cO cN : ClassId}  (ht : tys[0]? = some (cI, .int)) (ht1 : tys[1]? = some (cO, .object "java/lang/Object")) (ht2 : tys[2]? = some (cN, .object "MergingFragments$Node")) (hG : kG cI cO cN de ad τ L f E S) (hv : v < E.1) (hbad : u9 < 0 ∨ 999 < u9) : hp_Mi l y_L_run (gw_wsW y_L_run b_L_run 5 (some .int) [(0, 10, 13, 19), (0, 10, 17, 13)]) { frames := 12, cells := 1, slots := 6, locals := 200 } D kc tys (s_X de sa) [.ref (ad 0), .int (nI v), .int u9, .ref o9] L f (fun r u => r = 2 ∧ u = (L, f)) 1 6 := by
  refine hp_ofWW (Qc := fun A => va_Qi (fun r u => r = 2 ∧ u = (L, f)) (hp_B D kc A) A) (fr := fun A => A) (ret := some .int) (by decide) rfl (Nat.le_of_ble_eq_true rfl) ?_
  intro p e s m below meth c ls A hx hb hml hr htab hts hown hlk hl hK hX h
  have hg : ∀ w ∈ gw, w.before _ s = true := fun w hw => hts w (List.mem_cons_of_mem _ hw)
  have hown : s.vm.findClass "MergingFragmentsLaw" = some m.cls := hown
  have hl : lv_has ls 5 [(0, .ref (ad 0)), (1, .int (nI v)), (2, .int u9), (3, .ref o9)] := hl
  have he := hG.1
  refine lv_aload_n hx hb d_L_run_0 rfl (lv_at hl 3 rfl) ?_
  refine lv_iconst (v := 0) hx hb d_L_run_1 (by decide) ?_
  refine lv_aload_n hx hb d_L_run_2 rfl (lv_at hl 0 rfl) ?_
  refine lv_iload_n hx hb d_L_run_3 rfl (lv_at hl 1 rfl) ?_
  refine lv_iload_n hx hb d_L_run_4 rfl (lv_at hl 2 rfl) ?_
  obtain ⟨x0, l0, el0, fx0, rl0⟩ := List.map_eq_cons_iff.mp htab
  simp only [Prod.mk.injEq] at fx0
  obtain ⟨x1, l1, el1, fx1, rl1⟩ := List.map_eq_cons_iff.mp rl0
  simp only [Prod.mk.injEq] at fx1
  have hnil := List.map_eq_nil_iff.mp rl1
  have hsp : c.exceptionTable.toList = [x0] ++ x1 :: [] := by rw [el0, el1, hnil]; rfl
  refine hp_tcatch (name := "java/lang/IllegalArgumentException") (hp_trunV (As := [.int (nI v), .int u9]) (rest := [.int 0, .ref o9]) ⟨hx, hb, hml, hown, hg⟩ (t_G_run2 l hoff D tys de sa ht ht1 ht2 hG hv hbad) (cwV 2 hg (gw_V w499 w500 w501 w1 w502) rfl rfl rfl (by decide +kernel) ⟨Nat.le_of_ble_eq_true rfl, Nat.le_of_ble_eq_true rfl⟩) (s_ok de sa) hK hX h he rfl rfl rfl hl.1 rfl (Nat.le_of_ble_eq_true rfl) d_L_run_5 ⟨Nat.le_of_ble_eq_true rfl, Nat.le_of_ble_eq_true rfl⟩) hown hsp (by simp [covers, fx1.1, fx1.2.1]) (by rw [fx1.2.2.2]; decide) (by rw [fx1.2.2.2]; exact hg _ w168) (th_atoms hg hX at_IA _ (by simp [Bundle.ownAtoms])) (fun y hy => by have hy9 : y = x0 := (by simpa using hy); exact Or.inr ⟨by rw [hy9, fx0.2.2.2]; decide, "java/lang/IndexOutOfBoundsException", by rw [hy9, fx0.2.2.2]; exact hg _ w245, hX.2.1 ("java/lang/IllegalArgumentException", "java/lang/IndexOutOfBoundsException") (by decide)⟩) h (fun q9 H L9 h => ?_)
  rw [fx1.2.2.1]
  refine lv_astore (lv' := [(4, .ref q9), (0, .ref (ad 0)), (1, .int (nI v)), (2, .int u9), (3, .ref o9)]) hx hb d_L_run_17 hl (by decide) rfl (fun ls hl => ?_)
  refine lv_iconst (v := 2) hx hb d_L_run_19 (by decide) ?_
  exact hp_iret hx hb hr hlk h ⟨rfl, rfl⟩ (by omega) (by omega) d_L_run_20

set_option maxHeartbeats 4000000 in
set_option maxRecDepth 100000 in
theorem w_about1 (l : Launch) (hoff : th_Off l) (D : va_G) (tys : List (ClassId × FieldType)) (de : Nat) (sa : Nat → Nat) {L : List Nat} {f : Nat → va_E} {o9 : Nat} {w u9 : Int32} {ad τ : Nat → Nat} {E : kE} {S : kS} {cI cO cN : ClassId}  (ht : tys[0]? = some (cI, .int)) (ht1 : tys[1]? = some (cO, .object "java/lang/Object")) (ht2 : tys[2]? = some (cN, .object "MergingFragments$Node")) (hG : kG cI cO cN de ad τ L f E S) (hbad : kBad E w) : hp_Mi l y_L_about (gw_wsW y_L_about b_L_about 5 (some .int) [(0, 10, 13, 19), (0, 10, 17, 13)]) { frames := 12, cells := 1, slots := 6, locals := 200 } D kc tys (s_X de sa) [.ref (ad 0), .int w, .int u9, .ref o9] L f (fun r u => r = 1 ∧ u = (L, f)) 1 6 := by
  refine hp_ofWW (Qc := fun A => va_Qi (fun r u => r = 1 ∧ u = (L, f)) (hp_B D kc A) A) (fr := fun A => A) (ret := some .int) (by decide) rfl (Nat.le_of_ble_eq_true rfl) ?_
  intro p e s m below meth c ls A hx hb hml hr htab hts hown hlk hl hK hX h
  have hg : ∀ w ∈ gw, w.before _ s = true := fun w hw => hts w (List.mem_cons_of_mem _ hw)
  have hown : s.vm.findClass "MergingFragmentsLaw" = some m.cls := hown
  have hl : lv_has ls 5 [(0, .ref (ad 0)), (1, .int w), (2, .int u9), (3, .ref o9)] := hl
  have he := hG.1
  refine lv_aload_n hx hb d_L_about_0 rfl (lv_at hl 3 rfl) ?_
  refine lv_iconst (v := 0) hx hb d_L_about_1 (by decide) ?_
  refine lv_aload_n hx hb d_L_about_2 rfl (lv_at hl 0 rfl) ?_
  refine lv_iload_n hx hb d_L_about_3 rfl (lv_at hl 1 rfl) ?_
  refine lv_iload_n hx hb d_L_about_4 rfl (lv_at hl 2 rfl) ?_
  obtain ⟨x0, l0, el0, fx0, rl0⟩ := List.map_eq_cons_iff.mp htab
  simp only [Prod.mk.injEq] at fx0
  obtain ⟨x1, l1, el1, fx1, rl1⟩ := List.map_eq_cons_iff.mp rl0
  simp only [Prod.mk.injEq] at fx1
  have hnil := List.map_eq_nil_iff.mp rl1
  have hsp : c.exceptionTable.toList = [] ++ x0 :: [x1] := by rw [el0, el1, hnil]; rfl
  refine hp_tcatch (name := "java/lang/IndexOutOfBoundsException") (hp_trunV (As := [.int w, .int u9]) (rest := [.int 0, .ref o9]) ⟨hx, hb, hml, hown, hg⟩ (t_G_about1 l hoff D tys de sa ht ht1 ht2 hG hbad) (cwV 2 hg (gw_V w508 w509 w510 w1 w511) rfl rfl rfl (by decide +kernel) ⟨Nat.le_of_ble_eq_true rfl, Nat.le_of_ble_eq_true rfl⟩) (s_ok de sa) hK hX h he rfl rfl rfl hl.1 rfl (Nat.le_of_ble_eq_true rfl) d_L_about_5 ⟨Nat.le_of_ble_eq_true rfl, Nat.le_of_ble_eq_true rfl⟩) hown hsp (by simp [covers, fx0.1, fx0.2.1]) (by rw [fx0.2.2.2]; decide) (by rw [fx0.2.2.2]; exact hg _ w245) (th_atoms hg hX at_IO _ (by simp [Bundle.ownAtoms])) (fun y hy => by simp at hy) h (fun q9 H L9 h => ?_)
  rw [fx0.2.2.1]
  refine lv_astore (lv' := [(4, .ref q9), (0, .ref (ad 0)), (1, .int w), (2, .int u9), (3, .ref o9)]) hx hb d_L_about_13 hl (by decide) rfl (fun ls hl => ?_)
  refine lv_iconst (v := 1) hx hb d_L_about_15 (by decide) ?_
  exact hp_iret hx hb hr hlk h ⟨rfl, rfl⟩ (by omega) (by omega) d_L_about_16

set_option maxHeartbeats 4000000 in
set_option maxRecDepth 100000 in
theorem w_about2 (l : Launch) (hoff : th_Off l) (D : va_G) (tys : List (ClassId × FieldType)) (de : Nat) (sa : Nat → Nat) {L : List Nat} {f : Nat → va_E} {o9 : Nat} {v : Nat} {u9 : Int32} {ad τ : Nat → Nat} {E : kE} {S : kS} {cI cO cN : ClassId}  (ht : tys[0]? = some (cI, .int)) (ht1 : tys[1]? = some (cO, .object "java/lang/Object")) (ht2 : tys[2]? = some (cN, .object "MergingFragments$Node")) (hG : kG cI cO cN de ad τ L f E S) (hv : v < E.1) (hbad : u9 < 0 ∨ 9 < u9) : hp_Mi l y_L_about (gw_wsW y_L_about b_L_about 5 (some .int) [(0, 10, 13, 19), (0, 10, 17, 13)]) { frames := 12, cells := 1, slots := 6, locals := 200 } D kc tys (s_X de sa) [.ref (ad 0), .int (nI v), .int u9, .ref o9] L f (fun r u => r = 2 ∧ u = (L, f)) 1 6 := by
  refine hp_ofWW (Qc := fun A => va_Qi (fun r u => r = 2 ∧ u = (L, f)) (hp_B D kc A) A) (fr := fun A => A) (ret := some .int) (by decide) rfl (Nat.le_of_ble_eq_true rfl) ?_
  intro p e s m below meth c ls A hx hb hml hr htab hts hown hlk hl hK hX h
  have hg : ∀ w ∈ gw, w.before _ s = true := fun w hw => hts w (List.mem_cons_of_mem _ hw)
  have hown : s.vm.findClass "MergingFragmentsLaw" = some m.cls := hown
  have hl : lv_has ls 5 [(0, .ref (ad 0)), (1, .int (nI v)), (2, .int u9), (3, .ref o9)] := hl
  have he := hG.1
  refine lv_aload_n hx hb d_L_about_0 rfl (lv_at hl 3 rfl) ?_
  refine lv_iconst (v := 0) hx hb d_L_about_1 (by decide) ?_
  refine lv_aload_n hx hb d_L_about_2 rfl (lv_at hl 0 rfl) ?_
  refine lv_iload_n hx hb d_L_about_3 rfl (lv_at hl 1 rfl) ?_
  refine lv_iload_n hx hb d_L_about_4 rfl (lv_at hl 2 rfl) ?_
  obtain ⟨x0, l0, el0, fx0, rl0⟩ := List.map_eq_cons_iff.mp htab
  simp only [Prod.mk.injEq] at fx0
  obtain ⟨x1, l1, el1, fx1, rl1⟩ := List.map_eq_cons_iff.mp rl0
  simp only [Prod.mk.injEq] at fx1
  have hnil := List.map_eq_nil_iff.mp rl1
  have hsp : c.exceptionTable.toList = [x0] ++ x1 :: [] := by rw [el0, el1, hnil]; rfl
  refine hp_tcatch (name := "java/lang/IllegalArgumentException") (hp_trunV (As := [.int (nI v), .int u9]) (rest := [.int 0, .ref o9]) ⟨hx, hb, hml, hown, hg⟩ (t_G_about2 l hoff D tys de sa ht ht1 ht2 hG hv hbad) (cwV 2 hg (gw_V w508 w509 w510 w1 w511) rfl rfl rfl (by decide +kernel) ⟨Nat.le_of_ble_eq_true rfl, Nat.le_of_ble_eq_true rfl⟩) (s_ok de sa) hK hX h he rfl rfl rfl hl.1 rfl (Nat.le_of_ble_eq_true rfl) d_L_about_5 ⟨Nat.le_of_ble_eq_true rfl, Nat.le_of_ble_eq_true rfl⟩) hown hsp (by simp [covers, fx1.1, fx1.2.1]) (by rw [fx1.2.2.2]; decide) (by rw [fx1.2.2.2]; exact hg _ w168) (th_atoms hg hX at_IA _ (by simp [Bundle.ownAtoms])) (fun y hy => by have hy9 : y = x0 := (by simpa using hy); exact Or.inr ⟨by rw [hy9, fx0.2.2.2]; decide, "java/lang/IndexOutOfBoundsException", by rw [hy9, fx0.2.2.2]; exact hg _ w245, hX.2.1 ("java/lang/IllegalArgumentException", "java/lang/IndexOutOfBoundsException") (by decide)⟩) h (fun q9 H L9 h => ?_)
  rw [fx1.2.2.1]
  refine lv_astore (lv' := [(4, .ref q9), (0, .ref (ad 0)), (1, .int (nI v)), (2, .int u9), (3, .ref o9)]) hx hb d_L_about_17 hl (by decide) rfl (fun ls hl => ?_)
  refine lv_iconst (v := 2) hx hb d_L_about_19 (by decide) ?_
  exact hp_iret hx hb hr hlk h ⟨rfl, rfl⟩ (by omega) (by omega) d_L_about_20

set_option maxHeartbeats 4000000 in
set_option maxRecDepth 100000 in
theorem w_mark1 (l : Launch) (hoff : th_Off l) (D : va_G) (tys : List (ClassId × FieldType)) (de : Nat) (sa : Nat → Nat) {L : List Nat} {f : Nat → va_E} {o9 : Nat} {w u9 : Int32} {ad τ : Nat → Nat} {E : kE} {S : kS} {cI cO cN : ClassId}  (ht : tys[0]? = some (cI, .int)) (ht1 : tys[1]? = some (cO, .object "java/lang/Object")) (ht2 : tys[2]? = some (cN, .object "MergingFragments$Node")) (hG : kG cI cO cN de ad τ L f E S) (hbad : kBad E w) : hp_Mi l y_L_mark (gw_wsW y_L_mark b_L_mark 5 (some .int) [(0, 10, 13, 19)]) { frames := 12, cells := 1, slots := 6, locals := 200 } D kc tys (s_X de sa) [.ref (ad 0), .int w, .int u9, .ref o9] L f (fun r u => r = 1 ∧ u = (L, f)) 1 6 := by
  refine hp_ofWW (Qc := fun A => va_Qi (fun r u => r = 1 ∧ u = (L, f)) (hp_B D kc A) A) (fr := fun A => A) (ret := some .int) (by decide) rfl (Nat.le_of_ble_eq_true rfl) ?_
  intro p e s m below meth c ls A hx hb hml hr htab hts hown hlk hl hK hX h
  have hg : ∀ w ∈ gw, w.before _ s = true := fun w hw => hts w (List.mem_cons_of_mem _ hw)
  have hown : s.vm.findClass "MergingFragmentsLaw" = some m.cls := hown
  have hl : lv_has ls 5 [(0, .ref (ad 0)), (1, .int w), (2, .int u9), (3, .ref o9)] := hl
  have he := hG.1
  refine lv_aload_n hx hb d_L_mark_0 rfl (lv_at hl 3 rfl) ?_
  refine lv_iconst (v := 0) hx hb d_L_mark_1 (by decide) ?_
  refine lv_aload_n hx hb d_L_mark_2 rfl (lv_at hl 0 rfl) ?_
  refine lv_iload_n hx hb d_L_mark_3 rfl (lv_at hl 1 rfl) ?_
  refine lv_iload_n hx hb d_L_mark_4 rfl (lv_at hl 2 rfl) ?_
  obtain ⟨x0, l0, el0, fx0, rl0⟩ := List.map_eq_cons_iff.mp htab
  simp only [Prod.mk.injEq] at fx0
  have hnil := List.map_eq_nil_iff.mp rl0
  have hsp : c.exceptionTable.toList = [] ++ x0 :: [] := by rw [el0, hnil]; rfl
  refine hp_tcatch (name := "java/lang/IndexOutOfBoundsException") (hp_trunV (As := [.int w, .int u9]) (rest := [.int 0, .ref o9]) ⟨hx, hb, hml, hown, hg⟩ (t_G_mark1 l hoff D tys de sa ht ht1 ht2 hG hbad) (cwV 2 hg (gw_V w516 w517 w518 w1 w519) rfl rfl rfl (by decide +kernel) ⟨Nat.le_of_ble_eq_true rfl, Nat.le_of_ble_eq_true rfl⟩) (s_ok de sa) hK hX h he rfl rfl rfl hl.1 rfl (Nat.le_of_ble_eq_true rfl) d_L_mark_5 ⟨Nat.le_of_ble_eq_true rfl, Nat.le_of_ble_eq_true rfl⟩) hown hsp (by simp [covers, fx0.1, fx0.2.1]) (by rw [fx0.2.2.2]; decide) (by rw [fx0.2.2.2]; exact hg _ w245) (th_atoms hg hX at_IO _ (by simp [Bundle.ownAtoms])) (fun y hy => by simp at hy) h (fun q9 H L9 h => ?_)
  rw [fx0.2.2.1]
  refine lv_astore (lv' := [(4, .ref q9), (0, .ref (ad 0)), (1, .int w), (2, .int u9), (3, .ref o9)]) hx hb d_L_mark_13 hl (by decide) rfl (fun ls hl => ?_)
  refine lv_iconst (v := 1) hx hb d_L_mark_15 (by decide) ?_
  exact hp_iret hx hb hr hlk h ⟨rfl, rfl⟩ (by omega) (by omega) d_L_mark_16

set_option maxHeartbeats 4000000 in
set_option maxRecDepth 100000 in
theorem w_mark2 (l : Launch) (hoff : th_Off l) (D : va_G) (tys : List (ClassId × FieldType)) (de : Nat) (sa : Nat → Nat) {L : List Nat} {f : Nat → va_E} {o9 : Nat} {v : Nat} {u9 : Int32} {ad τ : Nat → Nat} {E : kE} {S : kS} {cI cO cN : ClassId}  (ht : tys[0]? = some (cI, .int)) (ht1 : tys[1]? = some (cO, .object "java/lang/Object")) (ht2 : tys[2]? = some (cN, .object "MergingFragments$Node")) (hG : kG cI cO cN de ad τ L f E S) (hv : v < E.1) (hbad : u9 < 0 ∨ nI E.2.1 ≤ u9) : hp_Mi l y_L_mark (gw_wsW y_L_mark b_L_mark 5 (some .int) [(0, 10, 13, 19)]) { frames := 12, cells := 1, slots := 6, locals := 200 } D kc tys (s_X de sa) [.ref (ad 0), .int (nI v), .int u9, .ref o9] L f (fun r u => r = 1 ∧ u = (L, f)) 1 6 := by
  refine hp_ofWW (Qc := fun A => va_Qi (fun r u => r = 1 ∧ u = (L, f)) (hp_B D kc A) A) (fr := fun A => A) (ret := some .int) (by decide) rfl (Nat.le_of_ble_eq_true rfl) ?_
  intro p e s m below meth c ls A hx hb hml hr htab hts hown hlk hl hK hX h
  have hg : ∀ w ∈ gw, w.before _ s = true := fun w hw => hts w (List.mem_cons_of_mem _ hw)
  have hown : s.vm.findClass "MergingFragmentsLaw" = some m.cls := hown
  have hl : lv_has ls 5 [(0, .ref (ad 0)), (1, .int (nI v)), (2, .int u9), (3, .ref o9)] := hl
  have he := hG.1
  refine lv_aload_n hx hb d_L_mark_0 rfl (lv_at hl 3 rfl) ?_
  refine lv_iconst (v := 0) hx hb d_L_mark_1 (by decide) ?_
  refine lv_aload_n hx hb d_L_mark_2 rfl (lv_at hl 0 rfl) ?_
  refine lv_iload_n hx hb d_L_mark_3 rfl (lv_at hl 1 rfl) ?_
  refine lv_iload_n hx hb d_L_mark_4 rfl (lv_at hl 2 rfl) ?_
  obtain ⟨x0, l0, el0, fx0, rl0⟩ := List.map_eq_cons_iff.mp htab
  simp only [Prod.mk.injEq] at fx0
  have hnil := List.map_eq_nil_iff.mp rl0
  have hsp : c.exceptionTable.toList = [] ++ x0 :: [] := by rw [el0, hnil]; rfl
  refine hp_tcatch (name := "java/lang/IndexOutOfBoundsException") (hp_trunV (As := [.int (nI v), .int u9]) (rest := [.int 0, .ref o9]) ⟨hx, hb, hml, hown, hg⟩ (t_G_mark2 l hoff D tys de sa ht ht1 ht2 hG hv hbad) (cwV 2 hg (gw_V w516 w517 w518 w1 w519) rfl rfl rfl (by decide +kernel) ⟨Nat.le_of_ble_eq_true rfl, Nat.le_of_ble_eq_true rfl⟩) (s_ok de sa) hK hX h he rfl rfl rfl hl.1 rfl (Nat.le_of_ble_eq_true rfl) d_L_mark_5 ⟨Nat.le_of_ble_eq_true rfl, Nat.le_of_ble_eq_true rfl⟩) hown hsp (by simp [covers, fx0.1, fx0.2.1]) (by rw [fx0.2.2.2]; decide) (by rw [fx0.2.2.2]; exact hg _ w245) (th_atoms hg hX at_IO _ (by simp [Bundle.ownAtoms])) (fun y hy => by simp at hy) h (fun q9 H L9 h => ?_)
  rw [fx0.2.2.1]
  refine lv_astore (lv' := [(4, .ref q9), (0, .ref (ad 0)), (1, .int (nI v)), (2, .int u9), (3, .ref o9)]) hx hb d_L_mark_13 hl (by decide) rfl (fun ls hl => ?_)
  refine lv_iconst (v := 1) hx hb d_L_mark_15 (by decide) ?_
  exact hp_iret hx hb hr hlk h ⟨rfl, rfl⟩ (by omega) (by omega) d_L_mark_16

set_option maxHeartbeats 4000000 in
set_option maxRecDepth 100000 in
theorem w_message1 (l : Launch) (hoff : th_Off l) (D : va_G) (tys : List (ClassId × FieldType)) (de : Nat) (sa : Nat → Nat) {L : List Nat} {f : Nat → va_E} {o9 : Nat} {w u9 x9 : Int32} {ad τ : Nat → Nat} {E : kE} {S : kS} {cI cO cN : ClassId}  (ht : tys[0]? = some (cI, .int)) (ht1 : tys[1]? = some (cO, .object "java/lang/Object")) (ht2 : tys[2]? = some (cN, .object "MergingFragments$Node")) (hG : kG cI cO cN de ad τ L f E S) (hbad : kBad E w) : hp_Mi l y_L_message (gw_wsW y_L_message b_L_message 6 (some .int) [(0, 12, 15, 19), (0, 12, 19, 13)]) { frames := 12, cells := 1, slots := 6, locals := 200 } D kc tys (s_X de sa) [.ref (ad 0), .int w, .int u9, .int x9, .ref o9] L f (fun r u => r = 1 ∧ u = (L, f)) 1 6 := by
  refine hp_ofWW (Qc := fun A => va_Qi (fun r u => r = 1 ∧ u = (L, f)) (hp_B D kc A) A) (fr := fun A => A) (ret := some .int) (by decide) rfl (Nat.le_of_ble_eq_true rfl) ?_
  intro p e s m below meth c ls A hx hb hml hr htab hts hown hlk hl hK hX h
  have hg : ∀ w ∈ gw, w.before _ s = true := fun w hw => hts w (List.mem_cons_of_mem _ hw)
  have hown : s.vm.findClass "MergingFragmentsLaw" = some m.cls := hown
  have hl : lv_has ls 6 [(0, .ref (ad 0)), (1, .int w), (2, .int u9), (3, .int x9), (4, .ref o9)] := hl
  have he := hG.1
  refine lv_aload hx hb d_L_message_0 (lv_at hl 4 rfl) ?_
  refine lv_iconst (v := 0) hx hb d_L_message_2 (by decide) ?_
  refine lv_aload_n hx hb d_L_message_3 rfl (lv_at hl 0 rfl) ?_
  refine lv_iload_n hx hb d_L_message_4 rfl (lv_at hl 1 rfl) ?_
  refine lv_iload_n hx hb d_L_message_5 rfl (lv_at hl 2 rfl) ?_
  refine lv_iload_n hx hb d_L_message_6 rfl (lv_at hl 3 rfl) ?_
  obtain ⟨x0, l0, el0, fx0, rl0⟩ := List.map_eq_cons_iff.mp htab
  simp only [Prod.mk.injEq] at fx0
  obtain ⟨x1, l1, el1, fx1, rl1⟩ := List.map_eq_cons_iff.mp rl0
  simp only [Prod.mk.injEq] at fx1
  have hnil := List.map_eq_nil_iff.mp rl1
  have hsp : c.exceptionTable.toList = [] ++ x0 :: [x1] := by rw [el0, el1, hnil]; rfl
  refine hp_tcatch (name := "java/lang/IndexOutOfBoundsException") (hp_trunV (As := [.int w, .int u9, .int x9]) (rest := [.int 0, .ref o9]) ⟨hx, hb, hml, hown, hg⟩ (t_G_message1 l hoff D tys de sa ht ht1 ht2 hG hbad) (cwV 3 hg (gw_V w524 w525 w526 w1 w527) rfl rfl rfl (by decide +kernel) ⟨Nat.le_of_ble_eq_true rfl, Nat.le_of_ble_eq_true rfl⟩) (s_ok de sa) hK hX h he rfl rfl rfl hl.1 rfl (Nat.le_of_ble_eq_true rfl) d_L_message_7 ⟨Nat.le_of_ble_eq_true rfl, Nat.le_of_ble_eq_true rfl⟩) hown hsp (by simp [covers, fx0.1, fx0.2.1]) (by rw [fx0.2.2.2]; decide) (by rw [fx0.2.2.2]; exact hg _ w245) (th_atoms hg hX at_IO _ (by simp [Bundle.ownAtoms])) (fun y hy => by simp at hy) h (fun q9 H L9 h => ?_)
  rw [fx0.2.2.1]
  refine lv_astore (lv' := [(5, .ref q9), (0, .ref (ad 0)), (1, .int w), (2, .int u9), (3, .int x9), (4, .ref o9)]) hx hb d_L_message_15 hl (by decide) rfl (fun ls hl => ?_)
  refine lv_iconst (v := 1) hx hb d_L_message_17 (by decide) ?_
  exact hp_iret hx hb hr hlk h ⟨rfl, rfl⟩ (by omega) (by omega) d_L_message_18

set_option maxHeartbeats 4000000 in
set_option maxRecDepth 100000 in
theorem w_message2 (l : Launch) (hoff : th_Off l) (D : va_G) (tys : List (ClassId × FieldType)) (de : Nat) (sa : Nat → Nat) {L : List Nat} {f : Nat → va_E} {o9 : Nat} {v : Nat} {u9 x9 : Int32} {ad τ : Nat → Nat} {E : kE} {S : kS} {cI cO cN : ClassId}  (ht : tys[0]? = some (cI, .int)) (ht1 : tys[1]? = some (cO, .object "java/lang/Object")) (ht2 : tys[2]? = some (cN, .object "MergingFragments$Node")) (hG : kG cI cO cN de ad τ L f E S) (hv : v < E.1) (hlen : (S.2.2.1 v).length < 2 ^ 19) (hbad : u9 < 0 ∨ nI (S.2.2.1 v).length ≤ u9) : hp_Mi l y_L_message (gw_wsW y_L_message b_L_message 6 (some .int) [(0, 12, 15, 19), (0, 12, 19, 13)]) { frames := 12, cells := 1, slots := 6, locals := 200 } D kc tys (s_X de sa) [.ref (ad 0), .int (nI v), .int u9, .int x9, .ref o9] L f (fun r u => r = 1 ∧ u = (L, f)) 1 6 := by
  refine hp_ofWW (Qc := fun A => va_Qi (fun r u => r = 1 ∧ u = (L, f)) (hp_B D kc A) A) (fr := fun A => A) (ret := some .int) (by decide) rfl (Nat.le_of_ble_eq_true rfl) ?_
  intro p e s m below meth c ls A hx hb hml hr htab hts hown hlk hl hK hX h
  have hg : ∀ w ∈ gw, w.before _ s = true := fun w hw => hts w (List.mem_cons_of_mem _ hw)
  have hown : s.vm.findClass "MergingFragmentsLaw" = some m.cls := hown
  have hl : lv_has ls 6 [(0, .ref (ad 0)), (1, .int (nI v)), (2, .int u9), (3, .int x9), (4, .ref o9)] := hl
  have he := hG.1
  refine lv_aload hx hb d_L_message_0 (lv_at hl 4 rfl) ?_
  refine lv_iconst (v := 0) hx hb d_L_message_2 (by decide) ?_
  refine lv_aload_n hx hb d_L_message_3 rfl (lv_at hl 0 rfl) ?_
  refine lv_iload_n hx hb d_L_message_4 rfl (lv_at hl 1 rfl) ?_
  refine lv_iload_n hx hb d_L_message_5 rfl (lv_at hl 2 rfl) ?_
  refine lv_iload_n hx hb d_L_message_6 rfl (lv_at hl 3 rfl) ?_
  obtain ⟨x0, l0, el0, fx0, rl0⟩ := List.map_eq_cons_iff.mp htab
  simp only [Prod.mk.injEq] at fx0
  obtain ⟨x1, l1, el1, fx1, rl1⟩ := List.map_eq_cons_iff.mp rl0
  simp only [Prod.mk.injEq] at fx1
  have hnil := List.map_eq_nil_iff.mp rl1
  have hsp : c.exceptionTable.toList = [] ++ x0 :: [x1] := by rw [el0, el1, hnil]; rfl
  refine hp_tcatch (name := "java/lang/IndexOutOfBoundsException") (hp_trunV (As := [.int (nI v), .int u9, .int x9]) (rest := [.int 0, .ref o9]) ⟨hx, hb, hml, hown, hg⟩ (t_G_message2 l hoff D tys de sa ht ht1 ht2 hG hv hlen hbad) (cwV 3 hg (gw_V w524 w525 w526 w1 w527) rfl rfl rfl (by decide +kernel) ⟨Nat.le_of_ble_eq_true rfl, Nat.le_of_ble_eq_true rfl⟩) (s_ok de sa) hK hX h he rfl rfl rfl hl.1 rfl (Nat.le_of_ble_eq_true rfl) d_L_message_7 ⟨Nat.le_of_ble_eq_true rfl, Nat.le_of_ble_eq_true rfl⟩) hown hsp (by simp [covers, fx0.1, fx0.2.1]) (by rw [fx0.2.2.2]; decide) (by rw [fx0.2.2.2]; exact hg _ w245) (th_atoms hg hX at_IO _ (by simp [Bundle.ownAtoms])) (fun y hy => by simp at hy) h (fun q9 H L9 h => ?_)
  rw [fx0.2.2.1]
  refine lv_astore (lv' := [(5, .ref q9), (0, .ref (ad 0)), (1, .int (nI v)), (2, .int u9), (3, .int x9), (4, .ref o9)]) hx hb d_L_message_15 hl (by decide) rfl (fun ls hl => ?_)
  refine lv_iconst (v := 1) hx hb d_L_message_17 (by decide) ?_
  exact hp_iret hx hb hr hlk h ⟨rfl, rfl⟩ (by omega) (by omega) d_L_message_18

set_option maxHeartbeats 4000000 in
set_option maxRecDepth 100000 in
theorem w_message3 (l : Launch) (hoff : th_Off l) (D : va_G) (tys : List (ClassId × FieldType)) (de : Nat) (sa : Nat → Nat) {L : List Nat} {f : Nat → va_E} {o9 : Nat} {v i : Nat} {q : kM} {u9 x9 : Int32} {ad τ : Nat → Nat} {E : kE} {S : kS} {cI cO cN : ClassId}  (ht : tys[0]? = some (cI, .int)) (ht1 : tys[1]? = some (cO, .object "java/lang/Object")) (ht2 : tys[2]? = some (cN, .object "MergingFragments$Node")) (hG : kG cI cO cN de ad τ L f E S) (hv : v < E.1) (hlen : (S.2.2.1 v).length < 2 ^ 19) (hu : u9 = nI i) (hq : (S.2.2.1 v)[i]? = some q) (hbad : x9 < 0 ∨ 4 < x9) : hp_Mi l y_L_message (gw_wsW y_L_message b_L_message 6 (some .int) [(0, 12, 15, 19), (0, 12, 19, 13)]) { frames := 12, cells := 1, slots := 6, locals := 200 } D kc tys (s_X de sa) [.ref (ad 0), .int (nI v), .int u9, .int x9, .ref o9] L f (fun r u => r = 2 ∧ u = (L, f)) 1 6 := by
  refine hp_ofWW (Qc := fun A => va_Qi (fun r u => r = 2 ∧ u = (L, f)) (hp_B D kc A) A) (fr := fun A => A) (ret := some .int) (by decide) rfl (Nat.le_of_ble_eq_true rfl) ?_
  intro p e s m below meth c ls A hx hb hml hr htab hts hown hlk hl hK hX h
  have hg : ∀ w ∈ gw, w.before _ s = true := fun w hw => hts w (List.mem_cons_of_mem _ hw)
  have hown : s.vm.findClass "MergingFragmentsLaw" = some m.cls := hown
  have hl : lv_has ls 6 [(0, .ref (ad 0)), (1, .int (nI v)), (2, .int u9), (3, .int x9), (4, .ref o9)] := hl
  have he := hG.1
  refine lv_aload hx hb d_L_message_0 (lv_at hl 4 rfl) ?_
  refine lv_iconst (v := 0) hx hb d_L_message_2 (by decide) ?_
  refine lv_aload_n hx hb d_L_message_3 rfl (lv_at hl 0 rfl) ?_
  refine lv_iload_n hx hb d_L_message_4 rfl (lv_at hl 1 rfl) ?_
  refine lv_iload_n hx hb d_L_message_5 rfl (lv_at hl 2 rfl) ?_
  refine lv_iload_n hx hb d_L_message_6 rfl (lv_at hl 3 rfl) ?_
  obtain ⟨x0, l0, el0, fx0, rl0⟩ := List.map_eq_cons_iff.mp htab
  simp only [Prod.mk.injEq] at fx0
  obtain ⟨x1, l1, el1, fx1, rl1⟩ := List.map_eq_cons_iff.mp rl0
  simp only [Prod.mk.injEq] at fx1
  have hnil := List.map_eq_nil_iff.mp rl1
  have hsp : c.exceptionTable.toList = [x0] ++ x1 :: [] := by rw [el0, el1, hnil]; rfl
  refine hp_tcatch (name := "java/lang/IllegalArgumentException") (hp_trunV (As := [.int (nI v), .int u9, .int x9]) (rest := [.int 0, .ref o9]) ⟨hx, hb, hml, hown, hg⟩ (t_G_message3 l hoff D tys de sa ht ht1 ht2 hG hv hlen hu hq hbad) (cwV 3 hg (gw_V w524 w525 w526 w1 w527) rfl rfl rfl (by decide +kernel) ⟨Nat.le_of_ble_eq_true rfl, Nat.le_of_ble_eq_true rfl⟩) (s_ok de sa) hK hX h he rfl rfl rfl hl.1 rfl (Nat.le_of_ble_eq_true rfl) d_L_message_7 ⟨Nat.le_of_ble_eq_true rfl, Nat.le_of_ble_eq_true rfl⟩) hown hsp (by simp [covers, fx1.1, fx1.2.1]) (by rw [fx1.2.2.2]; decide) (by rw [fx1.2.2.2]; exact hg _ w168) (th_atoms hg hX at_IA _ (by simp [Bundle.ownAtoms])) (fun y hy => by have hy9 : y = x0 := (by simpa using hy); exact Or.inr ⟨by rw [hy9, fx0.2.2.2]; decide, "java/lang/IndexOutOfBoundsException", by rw [hy9, fx0.2.2.2]; exact hg _ w245, hX.2.1 ("java/lang/IllegalArgumentException", "java/lang/IndexOutOfBoundsException") (by decide)⟩) h (fun q9 H L9 h => ?_)
  rw [fx1.2.2.1]
  refine lv_astore (lv' := [(5, .ref q9), (0, .ref (ad 0)), (1, .int (nI v)), (2, .int u9), (3, .int x9), (4, .ref o9)]) hx hb d_L_message_19 hl (by decide) rfl (fun ls hl => ?_)
  refine lv_iconst (v := 2) hx hb d_L_message_21 (by decide) ?_
  exact hp_iret hx hb hr hlk h ⟨rfl, rfl⟩ (by omega) (by omega) d_L_message_22
