/-! The law's wrappers where nothing is thrown, by program (wip/mk72.py). -/
abbrev kal (c : ClassId) (g : Nat → Int64) : va_E := .inl (c, 1, .inr (.inl g))
/-- behind a wrapper: the class's new state, the answer in the law's row -/
def kLo (cI cO cN cJ : ClassId) (de : Nat) (ad τ : Nat → Nat) (L : List Nat) (f : Nat → va_E) (E : kE) (S : kS) (o9 : Nat) (val : Int64) (u : hp_U) : Prop :=
  ∃ τ' : Nat → Nat, kG cI cO cN de ad τ' u.1 u.2 E S ∧ (∀ b, b ∈ L → b ∈ u.1 ∧ (100 ≤ τ b → τ' b = τ b ∧ (b ≠ o9 → u.2 b = f b))) ∧ ∃ g : Nat → Int64, hp_at u.1 u.2 o9 (kal cJ g) ∧ g 0 = val
theorem kLo.of {cI cO cN cJ : ClassId} {de : Nat} {ad τ τn : Nat → Nat} {L Ln : List Nat} {f fn f1 : Nat → va_E} {E : kE} {S : kS} {o9 : Nat} {val : Int64} {g : Nat → Int64} (hG : kG cI cO cN de ad τn Ln fn E S) (hF : kFr τ L f τn (Ln, fn)) (hto : τ o9 = 200) (hoL : o9 ∈ L) (hf : f1 = va_up fn o9 (kal cJ g)) (ho : hp_at Ln f1 o9 (kal cJ g)) (hv : g 0 = val) : kLo cI cO cN cJ de ad τ L f E S o9 val (Ln, f1) := by
  have hto' : τn o9 = 200 := ((hF o9 hoL).2 (Or.inl (by omega))).2.trans hto
  refine ⟨τn, hG.go (fun a e ha hb => ⟨hb.tag hf hto' (by omega), rfl⟩), fun b hb => ⟨(hF b hb).1, fun h1 => ⟨((hF b hb).2 (Or.inl h1)).2, fun h2 => ?_⟩⟩, g, ho, hv⟩
  dsimp only
  rw [hf, va_up_ne _ _ h2]
  exact ((hF b hb).2 (Or.inl h1)).1
set_option maxHeartbeats 4000000 in
set_option maxRecDepth 100000 in
theorem w_wake0 (l : Launch) (hoff : th_Off l) (D : va_G) (tys : List (ClassId × FieldType)) (de : Nat) (sa : Nat → Nat) {L : List Nat} {f : Nat → va_E} {o9 : Nat} {cJ : ClassId} {v : Nat} {ad τ : Nat → Nat} {E : kE} {S : kS} {cI cO cN : ClassId} (ht : tys[0]? = some (cI, .int)) (ht1 : tys[1]? = some (cO, .object "java/lang/Object")) (ht2 : tys[2]? = some (cN, .object "MergingFragments$Node")) (ht4 : tys[4]? = some (cJ, .long)) (hG : kG cI cO cN de ad τ L f E S) {g0 : Nat → Int64} (ho : hp_at L f o9 (kal cJ g0)) (hto : τ o9 = 200) (hv : v < E.1) (hW : kWE E) (hlen : ∀ i, i < 7 → (S.2.2.1 i).length < 2 ^ 19) : hp_Mi l y_L_wake (gw_wsW y_L_wake b_L_wake 4 (some .int) [(0, 16, 19, 19)]) { frames := 10, cells := (k_cu (k_wake E S v) - k_cu S), slots := (k_su (k_wake E S v) - k_su S), locals := 228 } D kc tys (s_X de sa) [.ref (ad 0), .int (nI v), .ref o9] L f (fun r u => r = 0 ∧ kLo cI cO cN cJ de ad τ L f E (k_wake E S v) o9 (if S.1 v 0 = 0 then 1 else 0) u) (k_cu (k_wake E S v) - k_cu S) (k_su (k_wake E S v) - k_su S) := by
  refine hp_ofWW (Qc := fun A => va_Qi (fun r u => r = 0 ∧ kLo cI cO cN cJ de ad τ L f E (k_wake E S v) o9 (if S.1 v 0 = 0 then 1 else 0) u) (hp_B D kc A) A) (fr := fun A => A) (ret := some .int) (by decide) rfl (Nat.le_of_ble_eq_true rfl) ?_
  intro p e s m below meth c ls A hx hb hml hr htab hts hown hlk hl hK hX h
  have hg : ∀ w ∈ gw, w.before _ s = true := fun w hw => hts w (List.mem_cons_of_mem _ hw)
  have hown : s.vm.findClass "MergingFragmentsLaw" = some m.cls := hown
  have hl : lv_has ls 4 [(0, .ref (ad 0)), (1, .int (nI v)), (2, .ref o9)] := hl
  have he := hG.1
  have hoL := ho.1
  have hF : kFr τ L f τ (L, f) := kFr.rf
  refine lv_aload_n hx hb d_L_wake_0 rfl (lv_at hl 2 rfl) ?_
  refine lv_iconst (v := 0) hx hb d_L_wake_1 (by decide) ?_
  refine lv_aload_n hx hb d_L_wake_2 rfl (lv_at hl 0 rfl) ?_
  refine lv_iload_n hx hb d_L_wake_3 rfl (lv_at hl 1 rfl) ?_
  refine hp_calli (hp_runV (As := [.int (nI v)]) (rest := [.int 0, .ref o9]) ⟨hx, hb, hml, hown, hg⟩ (c_G_wake l D tys de sa ht ht1 ht2 hG hv hW hlen) (cwV 1 hg (gw_V w300 w301 w302 w1 w303) rfl rfl rfl (by decide +kernel) ⟨Nat.le_of_ble_eq_true rfl, Nat.le_of_ble_eq_true rfl⟩) (s_ok de sa) hK hX h he rfl rfl rfl hl.1 rfl (Nat.le_of_ble_eq_true rfl) d_L_wake_4 ⟨by dsimp only; omega, by dsimp only; omega⟩) h (fun r1 Ln fn H locs hp h => ?_)
  obtain ⟨hr9, τn, hG, hFn⟩ := hp
  dsimp only at hG
  obtain ⟨hom, hoe⟩ := hFn o9 hoL
  have ho : hp_at Ln fn o9 (kal cJ g0) := ⟨hom, (hoe (Or.inl (by omega))).1.trans ho.2⟩
  have hF := hFn
  by_cases h0 : S.1 v 0 = 0
  · skip
    rw [if_pos h0] at hr9
    subst hr9
    rw [show (if S.1 v 0 = 0 then (1 : Int64) else 0) = 1 from if_pos h0]
    refine lv_if_eq (tgt := 14) hx hb d_L_wake_7 (by decide) (fun hc => ?_) (fun hc => ?_)
    · skip
      exact absurd hc (by decide)
    · skip
      refine lv_lconst (v := 1) hx hb d_L_wake_10 (by decide) ?_
      refine lv_goto (tgt := 15) hx hb d_L_wake_11 (by decide) ?_
      refine hp_last hx hb hK h 4 ho ht4 (show (0 : Int32) = nI 0 from rfl) (by decide) (by decide) d_L_wake_15 (fun H locs f1 hf1 h => ?_)
      have ho := ho.self' hf1
      refine lv_goto (tgt := 22) hx hb d_L_wake_16 (by decide) ?_
      refine lv_iconst (v := 0) hx hb d_L_wake_22 (by decide) ?_
      exact hp_iret hx hb hr hlk h ⟨rfl, kLo.of hG hF hto hoL hf1 ho (if_pos rfl)⟩ (by omega) (by omega) d_L_wake_23
  · skip
    rw [if_neg h0] at hr9
    subst hr9
    rw [show (if S.1 v 0 = 0 then (1 : Int64) else 0) = 0 from if_neg h0]
    refine lv_if_eq (tgt := 14) hx hb d_L_wake_7 (by decide) (fun hc => ?_) (fun hc => ?_)
    · skip
      refine lv_lconst (v := 0) hx hb d_L_wake_14 (by decide) ?_
      refine hp_last hx hb hK h 4 ho ht4 (show (0 : Int32) = nI 0 from rfl) (by decide) (by decide) d_L_wake_15 (fun H locs f1 hf1 h => ?_)
      have ho := ho.self' hf1
      refine lv_goto (tgt := 22) hx hb d_L_wake_16 (by decide) ?_
      refine lv_iconst (v := 0) hx hb d_L_wake_22 (by decide) ?_
      exact hp_iret hx hb hr hlk h ⟨rfl, kLo.of hG hF hto hoL hf1 ho (if_pos rfl)⟩ (by omega) (by omega) d_L_wake_23
    · skip
      exact absurd rfl hc

set_option maxHeartbeats 4000000 in
set_option maxRecDepth 100000 in
theorem w_handle0 (l : Launch) (hoff : th_Off l) (D : va_G) (tys : List (ClassId × FieldType)) (de : Nat) (sa : Nat → Nat) {L : List Nat} {f : Nat → va_E} {o9 : Nat} {cJ : ClassId} {v : Nat} {ad τ : Nat → Nat} {E : kE} {S : kS} {cI cO cN : ClassId} (ht : tys[0]? = some (cI, .int)) (ht1 : tys[1]? = some (cO, .object "java/lang/Object")) (ht2 : tys[2]? = some (cN, .object "MergingFragments$Node")) (ht4 : tys[4]? = some (cJ, .long)) (hG : kG cI cO cN de ad τ L f E S) {g0 : Nat → Int64} (ho : hp_at L f o9 (kal cJ g0)) (hto : τ o9 = 200) (hv : v < E.1) (hW : kWE E) (hlen : ∀ i, i < 7 → (S.2.2.1 i).length + 41 < 2 ^ 19) (hok : ∀ q l, S.2.2.1 v = q :: l → kOK E S v q) : hp_Mi l y_L_handle (gw_wsW y_L_handle b_L_handle 4 (some .int) [(0, 9, 12, 19)]) { frames := 13, cells := (k_cu (k_first E S v) - k_cu S), slots := (k_su (k_first E S v) - k_su S), locals := 293 } D kc tys (s_X de sa) [.ref (ad 0), .int (nI v), .ref o9] L f (fun r u => r = 0 ∧ kLo cI cO cN cJ de ad τ L f E (k_first E S v) o9 (k_fk S v).toInt64 u) (k_cu (k_first E S v) - k_cu S) (k_su (k_first E S v) - k_su S) := by
  refine hp_ofWW (Qc := fun A => va_Qi (fun r u => r = 0 ∧ kLo cI cO cN cJ de ad τ L f E (k_first E S v) o9 (k_fk S v).toInt64 u) (hp_B D kc A) A) (fr := fun A => A) (ret := some .int) (by decide) rfl (Nat.le_of_ble_eq_true rfl) ?_
  intro p e s m below meth c ls A hx hb hml hr htab hts hown hlk hl hK hX h
  have hg : ∀ w ∈ gw, w.before _ s = true := fun w hw => hts w (List.mem_cons_of_mem _ hw)
  have hown : s.vm.findClass "MergingFragmentsLaw" = some m.cls := hown
  have hl : lv_has ls 4 [(0, .ref (ad 0)), (1, .int (nI v)), (2, .ref o9)] := hl
  have he := hG.1
  have hoL := ho.1
  have hF : kFr τ L f τ (L, f) := kFr.rf
  refine lv_aload_n hx hb d_L_handle_0 rfl (lv_at hl 2 rfl) ?_
  refine lv_iconst (v := 0) hx hb d_L_handle_1 (by decide) ?_
  refine lv_aload_n hx hb d_L_handle_2 rfl (lv_at hl 0 rfl) ?_
  refine lv_iload_n hx hb d_L_handle_3 rfl (lv_at hl 1 rfl) ?_
  refine hp_calli (hp_runV (As := [.int (nI v)]) (rest := [.int 0, .ref o9]) ⟨hx, hb, hml, hown, hg⟩ (c_G_handle l D tys de sa ht ht1 ht2 hG hv hW hlen hok) (cwV 1 hg (gw_V w403 w404 w405 w1 w406) rfl rfl rfl (by decide +kernel) ⟨Nat.le_of_ble_eq_true rfl, Nat.le_of_ble_eq_true rfl⟩) (s_ok de sa) hK hX h he rfl rfl rfl hl.1 rfl (Nat.le_of_ble_eq_true rfl) d_L_handle_4 ⟨by dsimp only; omega, by dsimp only; omega⟩) h (fun r1 Ln fn H locs hp h => ?_)
  obtain ⟨hr9, τn, hG, hFn⟩ := hp
  dsimp only at hG
  obtain ⟨hom, hoe⟩ := hFn o9 hoL
  have ho : hp_at Ln fn o9 (kal cJ g0) := ⟨hom, (hoe (Or.inl (by omega))).1.trans ho.2⟩
  have hF := hFn
  subst hr9
  refine lv_i2l hx hb d_L_handle_7 rfl ?_
  refine hp_last hx hb hK h 4 ho ht4 (show (0 : Int32) = nI 0 from rfl) (by decide) (by decide) d_L_handle_8 (fun H locs f1 hf1 h => ?_)
  have ho := ho.self' hf1
  refine lv_goto (tgt := 15) hx hb d_L_handle_9 (by decide) ?_
  refine lv_iconst (v := 0) hx hb d_L_handle_15 (by decide) ?_
  exact hp_iret hx hb hr hlk h ⟨rfl, kLo.of hG hF hto hoL hf1 ho (if_pos rfl)⟩ (by omega) (by omega) d_L_handle_16

set_option maxHeartbeats 4000000 in
set_option maxRecDepth 100000 in
theorem w_run0 (l : Launch) (hoff : th_Off l) (D : va_G) (tys : List (ClassId × FieldType)) (de : Nat) (sa : Nat → Nat) {L : List Nat} {f : Nat → va_E} {o9 : Nat} {cJ : ClassId} {v most : Nat} {Iv : kS → Prop} {ad τ : Nat → Nat} {E : kE} {S : kS} {cI cO cN : ClassId} (ht : tys[0]? = some (cI, .int)) (ht1 : tys[1]? = some (cO, .object "java/lang/Object")) (ht2 : tys[2]? = some (cN, .object "MergingFragments$Node")) (ht4 : tys[4]? = some (cJ, .long)) (hG : kG cI cO cN de ad τ L f E S) {g0 : Nat → Int64} (ho : hp_at L f o9 (kal cJ g0)) (hto : τ o9 = 200) (hv : v < E.1) (hmost : most ≤ 999) (hW : kWE E) (hI : Iv S) (hIok : ∀ T a, Iv T → a < E.1 → (∀ i, i < 7 → (T.2.2.1 i).length + 41 < 2 ^ 19) ∧ ∀ q l, T.2.2.1 a = q :: l → kOK E T a q) (hIs : ∀ T a, Iv T → a < E.1 → Iv (k_first E T a)) : hp_Mi l y_L_run (gw_wsW y_L_run b_L_run 5 (some .int) [(0, 10, 13, 19), (0, 10, 17, 13)]) { frames := 13, cells := (k_cu (k_run E most (most * E.1) S v 0).1 - k_cu S), slots := (k_su (k_run E most (most * E.1) S v 0).1 - k_su S), locals := 298 } D kc tys (s_X de sa) [.ref (ad 0), .int (nI v), .int (nI most), .ref o9] L f (fun r u => r = 0 ∧ kLo cI cO cN cJ de ad τ L f E (k_run E most (most * E.1) S v 0).1 o9 (nI (k_run E most (most * E.1) S v 0).2).toInt64 u) (k_cu (k_run E most (most * E.1) S v 0).1 - k_cu S) (k_su (k_run E most (most * E.1) S v 0).1 - k_su S) := by
  refine hp_ofWW (Qc := fun A => va_Qi (fun r u => r = 0 ∧ kLo cI cO cN cJ de ad τ L f E (k_run E most (most * E.1) S v 0).1 o9 (nI (k_run E most (most * E.1) S v 0).2).toInt64 u) (hp_B D kc A) A) (fr := fun A => A) (ret := some .int) (by decide) rfl (Nat.le_of_ble_eq_true rfl) ?_
  intro p e s m below meth c ls A hx hb hml hr htab hts hown hlk hl hK hX h
  have hg : ∀ w ∈ gw, w.before _ s = true := fun w hw => hts w (List.mem_cons_of_mem _ hw)
  have hown : s.vm.findClass "MergingFragmentsLaw" = some m.cls := hown
  have hl : lv_has ls 5 [(0, .ref (ad 0)), (1, .int (nI v)), (2, .int (nI most)), (3, .ref o9)] := hl
  have he := hG.1
  have hoL := ho.1
  have hF : kFr τ L f τ (L, f) := kFr.rf
  refine lv_aload_n hx hb d_L_run_0 rfl (lv_at hl 3 rfl) ?_
  refine lv_iconst (v := 0) hx hb d_L_run_1 (by decide) ?_
  refine lv_aload_n hx hb d_L_run_2 rfl (lv_at hl 0 rfl) ?_
  refine lv_iload_n hx hb d_L_run_3 rfl (lv_at hl 1 rfl) ?_
  refine lv_iload_n hx hb d_L_run_4 rfl (lv_at hl 2 rfl) ?_
  refine hp_calli (hp_runV (As := [.int (nI v), .int (nI most)]) (rest := [.int 0, .ref o9]) ⟨hx, hb, hml, hown, hg⟩ (c_G_run l D tys de sa ht ht1 ht2 hG hv hmost hW hI hIok hIs) (cwV 2 hg (gw_V w499 w500 w501 w1 w502) rfl rfl rfl (by decide +kernel) ⟨Nat.le_of_ble_eq_true rfl, Nat.le_of_ble_eq_true rfl⟩) (s_ok de sa) hK hX h he rfl rfl rfl hl.1 rfl (Nat.le_of_ble_eq_true rfl) d_L_run_5 ⟨by dsimp only; omega, by dsimp only; omega⟩) h (fun r1 Ln fn H locs hp h => ?_)
  obtain ⟨hr9, τn, hG, hFn⟩ := hp
  dsimp only at hG
  obtain ⟨hom, hoe⟩ := hFn o9 hoL
  have ho : hp_at Ln fn o9 (kal cJ g0) := ⟨hom, (hoe (Or.inl (by omega))).1.trans ho.2⟩
  have hF := hFn
  subst hr9
  refine lv_i2l hx hb d_L_run_8 rfl ?_
  refine hp_last hx hb hK h 4 ho ht4 (show (0 : Int32) = nI 0 from rfl) (by decide) (by decide) d_L_run_9 (fun H locs f1 hf1 h => ?_)
  have ho := ho.self' hf1
  refine lv_goto (tgt := 21) hx hb d_L_run_10 (by decide) ?_
  refine lv_iconst (v := 0) hx hb d_L_run_21 (by decide) ?_
  exact hp_iret hx hb hr hlk h ⟨rfl, kLo.of hG hF hto hoL hf1 ho (if_pos rfl)⟩ (by omega) (by omega) d_L_run_22

set_option maxHeartbeats 4000000 in
set_option maxRecDepth 100000 in
theorem w_about0 (l : Launch) (hoff : th_Off l) (D : va_G) (tys : List (ClassId × FieldType)) (de : Nat) (sa : Nat → Nat) {L : List Nat} {f : Nat → va_E} {o9 : Nat} {cJ : ClassId} {v w : Nat} {ad τ : Nat → Nat} {E : kE} {S : kS} {cI cO cN : ClassId} (ht : tys[0]? = some (cI, .int)) (ht1 : tys[1]? = some (cO, .object "java/lang/Object")) (ht2 : tys[2]? = some (cN, .object "MergingFragments$Node")) (ht4 : tys[4]? = some (cJ, .long)) (hG : kG cI cO cN de ad τ L f E S) {g0 : Nat → Int64} (ho : hp_at L f o9 (kal cJ g0)) (hto : τ o9 = 200) (hv : v < E.1) (hw : w ≤ 9) : hp_Mi l y_L_about (gw_wsW y_L_about b_L_about 5 (some .int) [(0, 10, 13, 19), (0, 10, 17, 13)]) { frames := 7, cells := 0, slots := 0, locals := 159 } D kc tys (s_X de sa) [.ref (ad 0), .int (nI v), .int (nI w), .ref o9] L f (fun r u => r = 0 ∧ kLo cI cO cN cJ de ad τ L f E S o9 (k_abt S v w).toInt64 u) 0 0 := by
  refine hp_ofWW (Qc := fun A => va_Qi (fun r u => r = 0 ∧ kLo cI cO cN cJ de ad τ L f E S o9 (k_abt S v w).toInt64 u) (hp_B D kc A) A) (fr := fun A => A) (ret := some .int) (by decide) rfl (Nat.le_of_ble_eq_true rfl) ?_
  intro p e s m below meth c ls A hx hb hml hr htab hts hown hlk hl hK hX h
  have hg : ∀ w ∈ gw, w.before _ s = true := fun w hw => hts w (List.mem_cons_of_mem _ hw)
  have hown : s.vm.findClass "MergingFragmentsLaw" = some m.cls := hown
  have hl : lv_has ls 5 [(0, .ref (ad 0)), (1, .int (nI v)), (2, .int (nI w)), (3, .ref o9)] := hl
  have he := hG.1
  have hoL := ho.1
  have hF : kFr τ L f τ (L, f) := kFr.rf
  refine lv_aload_n hx hb d_L_about_0 rfl (lv_at hl 3 rfl) ?_
  refine lv_iconst (v := 0) hx hb d_L_about_1 (by decide) ?_
  refine lv_aload_n hx hb d_L_about_2 rfl (lv_at hl 0 rfl) ?_
  refine lv_iload_n hx hb d_L_about_3 rfl (lv_at hl 1 rfl) ?_
  refine lv_iload_n hx hb d_L_about_4 rfl (lv_at hl 2 rfl) ?_
  refine hp_callR (hp_runV (As := [.int (nI v), .int (nI w)]) (rest := [.int 0, .ref o9]) ⟨hx, hb, hml, hown, hg⟩ (c_G_about l D tys de sa ht ht1 ht2 hG hv hw) (cwV 2 hg (gw_V w508 w509 w510 w1 w511) rfl rfl rfl (by decide +kernel) ⟨Nat.le_of_ble_eq_true rfl, Nat.le_of_ble_eq_true rfl⟩) (s_ok de sa) hK hX h he rfl rfl rfl hl.1 rfl (Nat.le_of_ble_eq_true rfl) d_L_about_5 ⟨Nat.zero_le _, Nat.zero_le _⟩) (fun r1 hp => ?_)
  have hr9 := hp
  subst hr9
  refine lv_i2l hx hb d_L_about_8 rfl ?_
  refine hp_last hx hb hK h 4 ho ht4 (show (0 : Int32) = nI 0 from rfl) (by decide) (by decide) d_L_about_9 (fun H locs f1 hf1 h => ?_)
  have ho := ho.self' hf1
  refine lv_goto (tgt := 21) hx hb d_L_about_10 (by decide) ?_
  refine lv_iconst (v := 0) hx hb d_L_about_21 (by decide) ?_
  exact hp_iret hx hb hr hlk h ⟨rfl, kLo.of hG hF hto hoL hf1 ho (if_pos rfl)⟩ (Nat.le_refl _) (Nat.le_refl _) d_L_about_22

set_option maxHeartbeats 4000000 in
set_option maxRecDepth 100000 in
theorem w_mark0 (l : Launch) (hoff : th_Off l) (D : va_G) (tys : List (ClassId × FieldType)) (de : Nat) (sa : Nat → Nat) {L : List Nat} {f : Nat → va_E} {o9 : Nat} {cJ : ClassId} {v j : Nat} {ad τ : Nat → Nat} {E : kE} {S : kS} {cI cO cN : ClassId} (ht : tys[0]? = some (cI, .int)) (ht1 : tys[1]? = some (cO, .object "java/lang/Object")) (ht2 : tys[2]? = some (cN, .object "MergingFragments$Node")) (ht4 : tys[4]? = some (cJ, .long)) (hG : kG cI cO cN de ad τ L f E S) {g0 : Nat → Int64} (ho : hp_at L f o9 (kal cJ g0)) (hto : τ o9 = 200) (hv : v < E.1) (hj : j < E.2.1) : hp_Mi l y_L_mark (gw_wsW y_L_mark b_L_mark 5 (some .int) [(0, 10, 13, 19)]) { frames := 7, cells := 0, slots := 0, locals := 158 } D kc tys (s_X de sa) [.ref (ad 0), .int (nI v), .int (nI j), .ref o9] L f (fun r u => r = 0 ∧ kLo cI cO cN cJ de ad τ L f E S o9 (S.2.1 v j).toInt64 u) 0 0 := by
  refine hp_ofWW (Qc := fun A => va_Qi (fun r u => r = 0 ∧ kLo cI cO cN cJ de ad τ L f E S o9 (S.2.1 v j).toInt64 u) (hp_B D kc A) A) (fr := fun A => A) (ret := some .int) (by decide) rfl (Nat.le_of_ble_eq_true rfl) ?_
  intro p e s m below meth c ls A hx hb hml hr htab hts hown hlk hl hK hX h
  have hg : ∀ w ∈ gw, w.before _ s = true := fun w hw => hts w (List.mem_cons_of_mem _ hw)
  have hown : s.vm.findClass "MergingFragmentsLaw" = some m.cls := hown
  have hl : lv_has ls 5 [(0, .ref (ad 0)), (1, .int (nI v)), (2, .int (nI j)), (3, .ref o9)] := hl
  have he := hG.1
  have hoL := ho.1
  have hF : kFr τ L f τ (L, f) := kFr.rf
  refine lv_aload_n hx hb d_L_mark_0 rfl (lv_at hl 3 rfl) ?_
  refine lv_iconst (v := 0) hx hb d_L_mark_1 (by decide) ?_
  refine lv_aload_n hx hb d_L_mark_2 rfl (lv_at hl 0 rfl) ?_
  refine lv_iload_n hx hb d_L_mark_3 rfl (lv_at hl 1 rfl) ?_
  refine lv_iload_n hx hb d_L_mark_4 rfl (lv_at hl 2 rfl) ?_
  refine hp_callR (hp_runV (As := [.int (nI v), .int (nI j)]) (rest := [.int 0, .ref o9]) ⟨hx, hb, hml, hown, hg⟩ (c_G_mark l D tys de sa ht ht1 ht2 hG hv hj) (cwV 2 hg (gw_V w516 w517 w518 w1 w519) rfl rfl rfl (by decide +kernel) ⟨Nat.le_of_ble_eq_true rfl, Nat.le_of_ble_eq_true rfl⟩) (s_ok de sa) hK hX h he rfl rfl rfl hl.1 rfl (Nat.le_of_ble_eq_true rfl) d_L_mark_5 ⟨Nat.zero_le _, Nat.zero_le _⟩) (fun r1 hp => ?_)
  have hr9 := hp
  subst hr9
  refine lv_i2l hx hb d_L_mark_8 rfl ?_
  refine hp_last hx hb hK h 4 ho ht4 (show (0 : Int32) = nI 0 from rfl) (by decide) (by decide) d_L_mark_9 (fun H locs f1 hf1 h => ?_)
  have ho := ho.self' hf1
  refine lv_goto (tgt := 17) hx hb d_L_mark_10 (by decide) ?_
  refine lv_iconst (v := 0) hx hb d_L_mark_17 (by decide) ?_
  exact hp_iret hx hb hr hlk h ⟨rfl, kLo.of hG hF hto hoL hf1 ho (if_pos rfl)⟩ (Nat.le_refl _) (Nat.le_refl _) d_L_mark_18

set_option maxHeartbeats 4000000 in
set_option maxRecDepth 100000 in
theorem w_message0 (l : Launch) (hoff : th_Off l) (D : va_G) (tys : List (ClassId × FieldType)) (de : Nat) (sa : Nat → Nat) {L : List Nat} {f : Nat → va_E} {o9 : Nat} {cJ : ClassId} {v i w : Nat} {q : kM} {ad τ : Nat → Nat} {E : kE} {S : kS} {cI cO cN : ClassId} (ht : tys[0]? = some (cI, .int)) (ht1 : tys[1]? = some (cO, .object "java/lang/Object")) (ht2 : tys[2]? = some (cN, .object "MergingFragments$Node")) (ht4 : tys[4]? = some (cJ, .long)) (hG : kG cI cO cN de ad τ L f E S) {g0 : Nat → Int64} (ho : hp_at L f o9 (kal cJ g0)) (hto : τ o9 = 200) (hv : v < E.1) (hlen : (S.2.2.1 v).length < 2 ^ 19) (hq : (S.2.2.1 v)[i]? = some q) (hw : w ≤ 4) : hp_Mi l y_L_message (gw_wsW y_L_message b_L_message 6 (some .int) [(0, 12, 15, 19), (0, 12, 19, 13)]) { frames := 7, cells := 0, slots := 0, locals := 161 } D kc tys (s_X de sa) [.ref (ad 0), .int (nI v), .int (nI i), .int (nI w), .ref o9] L f (fun r u => r = 0 ∧ kLo cI cO cN cJ de ad τ L f E S o9 (kmf q w).toInt64 u) 0 0 := by
  refine hp_ofWW (Qc := fun A => va_Qi (fun r u => r = 0 ∧ kLo cI cO cN cJ de ad τ L f E S o9 (kmf q w).toInt64 u) (hp_B D kc A) A) (fr := fun A => A) (ret := some .int) (by decide) rfl (Nat.le_of_ble_eq_true rfl) ?_
  intro p e s m below meth c ls A hx hb hml hr htab hts hown hlk hl hK hX h
  have hg : ∀ w ∈ gw, w.before _ s = true := fun w hw => hts w (List.mem_cons_of_mem _ hw)
  have hown : s.vm.findClass "MergingFragmentsLaw" = some m.cls := hown
  have hl : lv_has ls 6 [(0, .ref (ad 0)), (1, .int (nI v)), (2, .int (nI i)), (3, .int (nI w)), (4, .ref o9)] := hl
  have he := hG.1
  have hoL := ho.1
  have hF : kFr τ L f τ (L, f) := kFr.rf
  refine lv_aload hx hb d_L_message_0 (lv_at hl 4 rfl) ?_
  refine lv_iconst (v := 0) hx hb d_L_message_2 (by decide) ?_
  refine lv_aload_n hx hb d_L_message_3 rfl (lv_at hl 0 rfl) ?_
  refine lv_iload_n hx hb d_L_message_4 rfl (lv_at hl 1 rfl) ?_
  refine lv_iload_n hx hb d_L_message_5 rfl (lv_at hl 2 rfl) ?_
  refine lv_iload_n hx hb d_L_message_6 rfl (lv_at hl 3 rfl) ?_
  refine hp_callR (hp_runV (As := [.int (nI v), .int (nI i), .int (nI w)]) (rest := [.int 0, .ref o9]) ⟨hx, hb, hml, hown, hg⟩ (c_G_message l D tys de sa ht ht1 ht2 hG hv hlen hq hw) (cwV 3 hg (gw_V w524 w525 w526 w1 w527) rfl rfl rfl (by decide +kernel) ⟨Nat.le_of_ble_eq_true rfl, Nat.le_of_ble_eq_true rfl⟩) (s_ok de sa) hK hX h he rfl rfl rfl hl.1 rfl (Nat.le_of_ble_eq_true rfl) d_L_message_7 ⟨Nat.zero_le _, Nat.zero_le _⟩) (fun r1 hp => ?_)
  have hr9 := hp
  subst hr9
  refine lv_i2l hx hb d_L_message_10 rfl ?_
  refine hp_last hx hb hK h 4 ho ht4 (show (0 : Int32) = nI 0 from rfl) (by decide) (by decide) d_L_message_11 (fun H locs f1 hf1 h => ?_)
  have ho := ho.self' hf1
  refine lv_goto (tgt := 23) hx hb d_L_message_12 (by decide) ?_
  refine lv_iconst (v := 0) hx hb d_L_message_23 (by decide) ?_
  exact hp_iret hx hb hr hlk h ⟨rfl, kLo.of hG hF hto hoL hf1 ho (if_pos rfl)⟩ (Nat.le_refl _) (Nat.le_refl _) d_L_message_24

set_option maxHeartbeats 4000000 in
set_option maxRecDepth 100000 in
theorem w_edge0 (l : Launch) (hoff : th_Off l) (D : va_G) (tys : List (ClassId × FieldType)) (de : Nat) (sa : Nat → Nat) {L : List Nat} {f : Nat → va_E} {o9 : Nat} {cJ : ClassId} {a b : Nat} {w : Int32} {ad τ : Nat → Nat} {E : kE} {S : kS} {cI cO cN : ClassId} (ht : tys[0]? = some (cI, .int)) (ht1 : tys[1]? = some (cO, .object "java/lang/Object")) (ht2 : tys[2]? = some (cN, .object "MergingFragments$Node")) (ht4 : tys[4]? = some (cJ, .long)) (hG : kG cI cO cN de ad τ L f E S) {g0 : Nat → Int64} (ho : hp_at L f o9 (kal cJ g0)) (hto : τ o9 = 200) (ha : a < E.1) (hb9 : b < E.1) (hab : a ≠ b) (hw9 : 1 ≤ w) (hw99 : w ≤ 99) (hnt : ∀ j, j < E.2.1 → ¬ E.2.2.2.2 j = w) (hna : ∀ i, i < E.1 → S.1 i 0 = 0) (hm : E.2.1 < 12) : hp_Mi l y_L_edge (gw_wsW y_L_edge b_L_edge 6 (some .int) [(0, 12, 15, 19), (0, 12, 19, 13), (0, 12, 23, 21)]) { frames := 7, cells := 0, slots := 0, locals := 160 } D kc tys (s_X de sa) [.ref (ad 0), .int (nI a), .int (nI b), .int w, .ref o9] L f (fun r u => r = 0 ∧ kLo cI cO cN cJ de ad τ L f (k_edgeE E a b w) (k_edge E S a b) o9 (nI E.2.1).toInt64 u) 0 0 := by
  refine hp_ofWW (Qc := fun A => va_Qi (fun r u => r = 0 ∧ kLo cI cO cN cJ de ad τ L f (k_edgeE E a b w) (k_edge E S a b) o9 (nI E.2.1).toInt64 u) (hp_B D kc A) A) (fr := fun A => A) (ret := some .int) (by decide) rfl (Nat.le_of_ble_eq_true rfl) ?_
  intro p e s m below meth c ls A hx hb hml hr htab hts hown hlk hl hK hX h
  have hg : ∀ w ∈ gw, w.before _ s = true := fun w hw => hts w (List.mem_cons_of_mem _ hw)
  have hown : s.vm.findClass "MergingFragmentsLaw" = some m.cls := hown
  have hl : lv_has ls 6 [(0, .ref (ad 0)), (1, .int (nI a)), (2, .int (nI b)), (3, .int w), (4, .ref o9)] := hl
  have he := hG.1
  have hoL := ho.1
  have hF : kFr τ L f τ (L, f) := kFr.rf
  refine lv_aload hx hb d_L_edge_0 (lv_at hl 4 rfl) ?_
  refine lv_iconst (v := 0) hx hb d_L_edge_2 (by decide) ?_
  refine lv_aload_n hx hb d_L_edge_3 rfl (lv_at hl 0 rfl) ?_
  refine lv_iload_n hx hb d_L_edge_4 rfl (lv_at hl 1 rfl) ?_
  refine lv_iload_n hx hb d_L_edge_5 rfl (lv_at hl 2 rfl) ?_
  refine lv_iload_n hx hb d_L_edge_6 rfl (lv_at hl 3 rfl) ?_
  refine hp_calli (hp_runV (As := [.int (nI a), .int (nI b), .int w]) (rest := [.int 0, .ref o9]) ⟨hx, hb, hml, hown, hg⟩ (c_G_edge l D tys de sa ht ht1 ht2 hG ha hb9 hab hw9 hw99 hnt hna hm) (cwV 3 hg (gw_V w247 w248 w249 w1 w250) rfl rfl rfl (by decide +kernel) ⟨Nat.le_of_ble_eq_true rfl, Nat.le_of_ble_eq_true rfl⟩) (s_ok de sa) hK hX h he rfl rfl rfl hl.1 rfl (Nat.le_of_ble_eq_true rfl) d_L_edge_7 ⟨Nat.zero_le _, Nat.zero_le _⟩) h (fun r1 Ln fn H locs hp h => ?_)
  obtain ⟨hr9, τn, hG, hFn⟩ := hp
  dsimp only at hG
  obtain ⟨hom, hoe⟩ := hFn o9 hoL
  have ho : hp_at Ln fn o9 (kal cJ g0) := ⟨hom, (hoe (Or.inl (by omega))).1.trans ho.2⟩
  have hF := hFn
  subst hr9
  refine lv_i2l hx hb d_L_edge_10 rfl ?_
  refine hp_last hx hb hK h 4 ho ht4 (show (0 : Int32) = nI 0 from rfl) (by decide) (by decide) d_L_edge_11 (fun H locs f1 hf1 h => ?_)
  have ho := ho.self' hf1
  refine lv_goto (tgt := 27) hx hb d_L_edge_12 (by decide) ?_
  refine lv_iconst (v := 0) hx hb d_L_edge_27 (by decide) ?_
  exact hp_iret hx hb hr hlk h ⟨rfl, kLo.of hG hF hto hoL hf1 ho (if_pos rfl)⟩ (Nat.le_refl _) (Nat.le_refl _) d_L_edge_28

set_option maxHeartbeats 4000000 in
set_option maxRecDepth 100000 in
theorem w_begin0 (l : Launch) (hoff : th_Off l) (D : va_G) (tys : List (ClassId × FieldType)) (de : Nat) (sa : Nat → Nat) {L : List Nat} {f : Nat → va_E} {n : Nat} {ad τ : Nat → Nat} {E : kE} {S : kS} {cI cO cN : ClassId} (ht : tys[0]? = some (cI, .int)) (ht1 : tys[1]? = some (cO, .object "java/lang/Object")) (ht2 : tys[2]? = some (cN, .object "MergingFragments$Node")) (hG : kG cI cO cN de ad τ L f E S) (h1n : 1 ≤ n) (hn7 : n ≤ 7) (hlen : ∀ i, i < 7 → (S.2.2.1 i).length < 2 ^ 19) : hp_Mi l y_L_begin (gw_wsW y_L_begin b_L_begin 3 (some .int) [(0, 5, 8, 13)]) { frames := 6, cells := 0, slots := 0, locals := 137 } D kc tys (s_X de sa) [.ref (ad 0), .int (nI n)] L f (fun r u => r = 0 ∧ kP cI cO cN de ad τ L f (n, 0, E.2.2) (k_begin S) u) 0 0 := by
  refine hp_ofWW (Qc := fun A => va_Qi (fun r u => r = 0 ∧ kP cI cO cN de ad τ L f (n, 0, E.2.2) (k_begin S) u) (hp_B D kc A) A) (fr := fun A => A) (ret := some .int) (by decide) rfl (Nat.le_of_ble_eq_true rfl) ?_
  intro p e s m below meth c ls A hx hb hml hr htab hts hown hlk hl hK hX h
  have hg : ∀ w ∈ gw, w.before _ s = true := fun w hw => hts w (List.mem_cons_of_mem _ hw)
  have hown : s.vm.findClass "MergingFragmentsLaw" = some m.cls := hown
  have hl : lv_has ls 3 [(0, .ref (ad 0)), (1, .int (nI n))] := hl
  have he := hG.1
  refine lv_aload_n hx hb d_L_begin_0 rfl (lv_at hl 0 rfl) ?_
  refine lv_iload_n hx hb d_L_begin_1 rfl (lv_at hl 1 rfl) ?_
  refine hp_callv (hp_runV (As := [.int (nI n)]) (rest := []) ⟨hx, hb, hml, hown, hg⟩ (c_G_begin l D tys de sa ht ht1 ht2 hG h1n hn7 hlen) (cwV 1 hg (gw_V w169 w170 w171 w1 w172) rfl rfl rfl (by decide +kernel) ⟨Nat.le_of_ble_eq_true rfl, Nat.le_of_ble_eq_true rfl⟩) (s_ok de sa) hK hX h he rfl rfl rfl hl.1 rfl (Nat.le_of_ble_eq_true rfl) d_L_begin_2 ⟨Nat.zero_le _, Nat.zero_le _⟩) h (fun Ln fn H locs hp h => ?_)
  refine lv_goto (tgt := 11) hx hb d_L_begin_5 (by decide) ?_
  refine lv_iconst (v := 0) hx hb d_L_begin_11 (by decide) ?_
  exact hp_iret hx hb hr hlk h ⟨rfl, hp⟩ (by omega) (by omega) d_L_begin_12
