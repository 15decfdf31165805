/-! message where it throws, by program (wip/mk69.py). -/
set_option maxHeartbeats 4000000 in
set_option maxRecDepth 100000 in
theorem t_G_message2 (l : Launch) (hoff : th_Off l) (D : va_G) (tys : List (ClassId × FieldType)) (de : Nat) (sa : Nat → Nat) {L : List Nat} {f : Nat → va_E} {v : Nat} {u9 x9 : Int32} {ad τ : Nat → Nat} {E : kE} {S : kS} {cI cO cN : ClassId} (ht : tys[0]? = some (cI, .int)) (ht1 : tys[1]? = some (cO, .object "java/lang/Object")) (ht2 : tys[2]? = some (cN, .object "MergingFragments$Node")) (hG : kG cI cO cN de ad τ L f E S) (hv : v < E.1) (hlen : (S.2.2.1 v).length < 2 ^ 19) (hbad : u9 < 0 ∨ nI (S.2.2.1 v).length ≤ u9) : hp_T l y_G_message (gw_ws y_G_message b_G_message 6 (some .int)) { frames := 8, cells := 1, slots := 6, locals := 140 } D kc tys (s_X de sa) [.ref (ad 0), .int (nI v), .int u9, .int x9] L f "java/lang/IndexOutOfBoundsException" := by
  refine th_ofW (ret := (some .int)) (by decide) rfl (Nat.le_of_ble_eq_true rfl) ?_
  intro p e s m below meth c ls A hx hb hml hno hts hown hlk hl hK hX h
  have hg : ∀ w ∈ gw, w.before _ s = true := fun w hw => hts w (List.mem_cons_of_mem _ hw)
  have hown : s.vm.findClass "MergingFragments" = some m.cls := hown
  have hl : lv_has ls 6 [(0, .ref (ad 0)), (1, .int (nI v)), (2, .int u9), (3, .int x9)] := hl
  have hn7 : E.1 ≤ 7 := hG.2.2.2.2.2.2.2.2.2.2.1
  have he := hG.1
  obtain ⟨gn, hn, hn1⟩ := hG.2.1
  have hnd := hG.2.2.2.2.2.1 v (by omega)
  obtain ⟨gm, hm, hm1⟩ := hG.2.2.2.2.2.2.1 v (by omega)
  obtain ⟨ea, mo, hqa, hQr⟩ := hG.2.2.2.2.2.2.2.1 v (by omega)
  refine lv_aload_n hx hb d_G_message_0 rfl (lv_at hl 0 rfl) ?_
  refine lv_iload_n hx hb d_G_message_1 rfl (lv_at hl 1 rfl) ?_
  refine hp_callU (hp_runV (As := [.int (nI v)]) (rest := []) ⟨hx, hb, hml, hown, hg⟩ (c_G_requireNode l D tys de sa (v := v) ht ht1 ht2 hG hv) (cwV 1 hg (gw_V w251 w253 ws3 w1 w254) rfl rfl rfl (by decide +kernel) ⟨Nat.le_of_ble_eq_true rfl, Nat.le_of_ble_eq_true rfl⟩) (s_ok de sa) hK hX h he rfl rfl rfl hl.1 rfl (Nat.le_of_ble_eq_true rfl) d_G_message_2 ⟨Nat.zero_le _, Nat.zero_le _⟩) (fun hp => ?_)
  refine lv_aload_n hx hb d_G_message_5 rfl (lv_at hl 0 rfl) ?_
  refine hp_get (v := .ref (ad 1)) hx hb hg in_G hown hK h he rfl 0 (by decide) (hg _ w127) (fun _ z => z) rfl d_G_message_6 ?_
  refine lv_iload_n hx hb d_G_message_9 rfl (lv_at hl 1 rfl) ?_
  refine hp_aald (j := v) hx hb hK h 2 hn ht2 rfl (by omega) (by decide) (hn1 v (by omega)) d_G_message_10 ?_
  refine hp_getN (v := .ref (ad (30 + v))) hx hb hg in_N hown hK h hnd rfl 2 (by decide) (s_N hX n83) (fun _ z => z) rfl d_G_message_11 ?_
  refine lv_astore (lv' := [(4, .ref (ad (30 + v))), (0, .ref (ad 0)), (1, .int (nI v)), (2, .int u9), (3, .int x9)]) hx hb d_G_message_14 hl (by decide) rfl (fun ls hl => ?_)
  refine lv_iload_n hx hb d_G_message_16 rfl (lv_at hl 3 rfl) ?_
  refine lv_if_lt (tgt := 29) hx hb d_G_message_17 (by decide) (fun hc => ?_) (fun hc => ?_)
  · skip
    exact th_raise (own := "MergingFragments") (C := "java/lang/IndexOutOfBoundsException") (txt := "there is no such message") (inew := 124) (ildc := 129) (ic := 128) (st := sa 129) (names := ["java/lang/RuntimeException", "java/lang/Exception"]) hx hb hoff hown hlk (by rw [hml]; exact hl.1) hg hX (hg _ w255) (hg _ w12) (hX.2.2.1 (129, "there is no such message") (by decide)) at_IO at_ft.1 at_ft.2.2.2 (hno _) d_G_message_29 d_G_message_32 d_G_message_33 d_G_message_35 d_G_message_38 (Nat.le_of_ble_eq_true rfl) (Nat.le_of_ble_eq_true rfl) (Nat.le_of_ble_eq_true rfl) (Nat.le_of_ble_eq_true rfl)
  · skip
    refine lv_iload_n hx hb d_G_message_20 rfl (lv_at hl 3 rfl) ?_
    refine lv_aload hx hb d_G_message_21 (lv_at hl 0 rfl) ?_
    refine hp_callR (hp_runV (As := []) (rest := [.int u9]) ⟨hx, hb, hml, hown, hg⟩ (c_A_size l D tys de sa hqa) (cwV 0 hg (gw_V w157 w158 w159 w5 w160) rfl rfl rfl (by decide +kernel) ⟨Nat.le_of_ble_eq_true rfl, Nat.le_of_ble_eq_true rfl⟩) (s_ok de sa) hK hX h hqa rfl rfl rfl hl.1 rfl (Nat.le_of_ble_eq_true rfl) d_G_message_23 ⟨Nat.zero_le _, Nat.zero_le _⟩) (fun r1 hp => ?_)
    subst hp
    refine lv_icmp_lt (tgt := 39) hx hb d_G_message_26 (by decide) (fun hc2 => ?_) (fun hc2 => ?_)
    · skip
      rcases hbad with z | z
      · exact absurd z hc
      · exact absurd hc2 (Int32.not_lt.mpr z)
    · skip
      exact th_raise (own := "MergingFragments") (C := "java/lang/IndexOutOfBoundsException") (txt := "there is no such message") (inew := 124) (ildc := 129) (ic := 128) (st := sa 129) (names := ["java/lang/RuntimeException", "java/lang/Exception"]) hx hb hoff hown hlk (by rw [hml]; exact hl.1) hg hX (hg _ w255) (hg _ w12) (hX.2.2.1 (129, "there is no such message") (by decide)) at_IO at_ft.1 at_ft.2.2.2 (hno _) d_G_message_29 d_G_message_32 d_G_message_33 d_G_message_35 d_G_message_38 (Nat.le_of_ble_eq_true rfl) (Nat.le_of_ble_eq_true rfl) (Nat.le_of_ble_eq_true rfl) (Nat.le_of_ble_eq_true rfl)

set_option maxHeartbeats 4000000 in
set_option maxRecDepth 100000 in
theorem t_G_message3 (l : Launch) (hoff : th_Off l) (D : va_G) (tys : List (ClassId × FieldType)) (de : Nat) (sa : Nat → Nat) {L : List Nat} {f : Nat → va_E} {v i : Nat} {q : kM} {u9 x9 : Int32} {ad τ : Nat → Nat} {E : kE} {S : kS} {cI cO cN : ClassId} (ht : tys[0]? = some (cI, .int)) (ht1 : tys[1]? = some (cO, .object "java/lang/Object")) (ht2 : tys[2]? = some (cN, .object "MergingFragments$Node")) (hG : kG cI cO cN de ad τ L f E S) (hv : v < E.1) (hlen : (S.2.2.1 v).length < 2 ^ 19) (hu : u9 = nI i) (hq : (S.2.2.1 v)[i]? = some q) (hbad : x9 < 0 ∨ 4 < x9) : hp_T l y_G_message (gw_ws y_G_message b_G_message 6 (some .int)) { frames := 8, cells := 1, slots := 6, locals := 140 } D kc tys (s_X de sa) [.ref (ad 0), .int (nI v), .int u9, .int x9] L f "java/lang/IllegalArgumentException" := by
  refine th_ofW (ret := (some .int)) (by decide) rfl (Nat.le_of_ble_eq_true rfl) ?_
  intro p e s m below meth c ls A hx hb hml hno hts hown hlk hl hK hX h
  have hg : ∀ w ∈ gw, w.before _ s = true := fun w hw => hts w (List.mem_cons_of_mem _ hw)
  have hown : s.vm.findClass "MergingFragments" = some m.cls := hown
  have hl : lv_has ls 6 [(0, .ref (ad 0)), (1, .int (nI v)), (2, .int u9), (3, .int x9)] := hl
  have hn7 : E.1 ≤ 7 := hG.2.2.2.2.2.2.2.2.2.2.1
  have he := hG.1
  obtain ⟨gn, hn, hn1⟩ := hG.2.1
  have hnd := hG.2.2.2.2.2.1 v (by omega)
  obtain ⟨gm, hm, hm1⟩ := hG.2.2.2.2.2.2.1 v (by omega)
  obtain ⟨ea, mo, hqa, hQr⟩ := hG.2.2.2.2.2.2.2.1 v (by omega)
  have hil : i < (S.2.2.1 v).length := (List.getElem?_eq_some_iff.mp hq).1
  rcases hQr with ⟨-, z2, -⟩ | ⟨hte, hcap, hlc, g, hE, hels⟩
  · rw [z2] at hil; exact absurd hil (Nat.not_lt_zero _)
  obtain ⟨y, hgi, hyt, hy⟩ := hels i q hq
  subst hu
  refine lv_aload_n hx hb d_G_message_0 rfl (lv_at hl 0 rfl) ?_
  refine lv_iload_n hx hb d_G_message_1 rfl (lv_at hl 1 rfl) ?_
  refine hp_callU (hp_runV (As := [.int (nI v)]) (rest := []) ⟨hx, hb, hml, hown, hg⟩ (c_G_requireNode l D tys de sa (v := v) ht ht1 ht2 hG hv) (cwV 1 hg (gw_V w251 w253 ws3 w1 w254) rfl rfl rfl (by decide +kernel) ⟨Nat.le_of_ble_eq_true rfl, Nat.le_of_ble_eq_true rfl⟩) (s_ok de sa) hK hX h he rfl rfl rfl hl.1 rfl (Nat.le_of_ble_eq_true rfl) d_G_message_2 ⟨Nat.zero_le _, Nat.zero_le _⟩) (fun hp => ?_)
  refine lv_aload_n hx hb d_G_message_5 rfl (lv_at hl 0 rfl) ?_
  refine hp_get (v := .ref (ad 1)) hx hb hg in_G hown hK h he rfl 0 (by decide) (hg _ w127) (fun _ z => z) rfl d_G_message_6 ?_
  refine lv_iload_n hx hb d_G_message_9 rfl (lv_at hl 1 rfl) ?_
  refine hp_aald (j := v) hx hb hK h 2 hn ht2 rfl (by omega) (by decide) (hn1 v (by omega)) d_G_message_10 ?_
  refine hp_getN (v := .ref (ad (30 + v))) hx hb hg in_N hown hK h hnd rfl 2 (by decide) (s_N hX n83) (fun _ z => z) rfl d_G_message_11 ?_
  refine lv_astore (lv' := [(4, .ref (ad (30 + v))), (0, .ref (ad 0)), (1, .int (nI v)), (2, .int (nI i)), (3, .int x9)]) hx hb d_G_message_14 hl (by decide) rfl (fun ls hl => ?_)
  refine lv_iload_n hx hb d_G_message_16 rfl (lv_at hl 3 rfl) ?_
  refine lv_if_lt (tgt := 29) hx hb d_G_message_17 (by decide) (fun hc => ?_) (fun hc => ?_)
  · skip
    exact absurd hc (nI_pos (by omega))
  · skip
    refine lv_iload_n hx hb d_G_message_20 rfl (lv_at hl 3 rfl) ?_
    refine lv_aload hx hb d_G_message_21 (lv_at hl 0 rfl) ?_
    refine hp_callR (hp_runV (As := []) (rest := [.int (nI i)]) ⟨hx, hb, hml, hown, hg⟩ (c_A_size l D tys de sa hqa) (cwV 0 hg (gw_V w157 w158 w159 w5 w160) rfl rfl rfl (by decide +kernel) ⟨Nat.le_of_ble_eq_true rfl, Nat.le_of_ble_eq_true rfl⟩) (s_ok de sa) hK hX h hqa rfl rfl rfl hl.1 rfl (Nat.le_of_ble_eq_true rfl) d_G_message_23 ⟨Nat.zero_le _, Nat.zero_le _⟩) (fun r1 hp => ?_)
    subst hp
    refine lv_icmp_lt (tgt := 39) hx hb d_G_message_26 (by decide) (fun hc2 => ?_) (fun hc2 => ?_)
    · skip
      refine lv_aload hx hb d_G_message_39 (lv_at hl 0 rfl) ?_
      refine lv_iload_n hx hb d_G_message_41 rfl (lv_at hl 3 rfl) ?_
      refine hp_callRr (hp_runV (As := [.int (nI i)]) (rest := []) ⟨hx, hb, hml, hown, hg⟩ (c_A_get l D tys de sa ht1 hqa hE hlc (by omega) hil hgi) (cwV 1 hg (gw_V w529 w530 w531 w5 w532) rfl rfl rfl (by decide +kernel) ⟨Nat.le_of_ble_eq_true rfl, Nat.le_of_ble_eq_true rfl⟩) (s_ok de sa) hK hX h hqa rfl rfl rfl hl.1 rfl (Nat.le_of_ble_eq_true rfl) d_G_message_42 ⟨Nat.zero_le _, Nat.zero_le _⟩) (fun r1 hp => ?_)
      have hp := hp.symm
      subst hp
      refine hp_cast (ci := 2) hx hb hown (hg _ w312) hK h rfl (s_Nw hX n737) hy d_G_message_45 ?_
      refine lv_astore (lv' := [(5, .ref y), (4, .ref (ad (30 + v))), (0, .ref (ad 0)), (1, .int (nI v)), (2, .int (nI i)), (3, .int x9)]) hx hb d_G_message_48 hl (by decide) rfl (fun ls hl => ?_)
      refine lv_iload_n hx hb d_G_message_50 rfl (lv_at hl 5 rfl) ?_
      refine lv_tableOut (tgt := 114) hx hb d_G_message_51 (by rcases hbad with z | z; exact Or.inl (by have := Int32.lt_iff_toInt_lt.mp z; simpa using this); exact Or.inr (by have := Int32.lt_iff_toInt_lt.mp z; simpa using this)) (by decide) ?_
      exact th_raise (own := "MergingFragments") (C := "java/lang/IllegalArgumentException") (txt := "what is 0 to 4") (inew := 38) (ildc := 152) (ic := 42) (st := sa 152) (names := ["java/lang/RuntimeException", "java/lang/Exception"]) hx hb hoff hown hlk (by rw [hml]; exact hl.1) hg hX (hg _ w173) (hg _ w11) (hX.2.2.1 (152, "what is 0 to 4") (by decide)) at_IA at_ft.2.1 at_ft.2.2.2 (hno _) d_G_message_114 d_G_message_117 d_G_message_118 d_G_message_120 d_G_message_123 (Nat.le_of_ble_eq_true rfl) (Nat.le_of_ble_eq_true rfl) (Nat.le_of_ble_eq_true rfl) (Nat.le_of_ble_eq_true rfl)
    · skip
      exact absurd (nI_lt hil (by omega)) hc2
