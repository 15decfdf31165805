/-! The reference's test, by program (wip/mk44.py). -/
set_option maxHeartbeats 4000000 in
set_option maxRecDepth 100000 in
theorem c_R_test (l : Launch) (D : va_G) (tys : List (ClassId × FieldType)) (de : Nat) (sa : Nat → Nat) {L : List Nat} {f : Nat → va_E} {v : Nat} {ad τ : Nat → Nat} {E : kE} {S : kS} {code : Int32} {cI cZ : ClassId} (ht : tys[0]? = some (cI, .int)) (ht3 : tys[3]? = some (cZ, .boolean)) (hR : kR cI cZ ad τ L f code E S) (hn7 : E.1 ≤ 7) (hm12 : E.2.1 ≤ 12) (hW : kWE E) (hv : v < E.1) (hwn : ∀ j, j < E.2.1 → E.2.2.1 j < E.1 ∧ E.2.2.2.1 j < E.1) (hlen : ∀ i, i < E.1 → (S.2.2.1 i).length < 200) (hend : ∀ k, k < E.2.1 → S.2.1 v k = 0 → E.2.2.1 k = v ∨ E.2.2.2.1 k = v) (hwi : S.1 v 3 = 0 → k_lb E S v E.2.1 = none → ∃ j, j < E.2.1 ∧ S.1 v 4 = nI j) : hp_Mv l y_R_test (gw_ws y_R_test b_R_test 2 none) { frames := 3, cells := 0, slots := 0, locals := 74 } D kc tys (s_X de sa) [.ref (ad 100), .int (nI v)] L f (kRP cI cZ ad τ L f code E (k_test E S v)) 0 0 := by
  refine hp_ofW (Qc := fun A => va_Qv (kRP cI cZ ad τ L f code E (k_test E S v)) (hp_B D kc A) A) (fr := fun A => A) (ret := none) (by decide) rfl (Nat.le_of_ble_eq_true rfl) ?_
  intro p e s m below meth c ls A hx hb hml hr hts hown hlk hnm hl hK hX h
  have hg : ∀ w ∈ gw, w.before _ s = true := fun w hw => hts w (List.mem_cons_of_mem _ hw)
  have hown : s.vm.findClass "MergingFragmentsModel" = some m.cls := hown
  have hnm : meth.name = "test" := hnm
  have hl : lv_has ls 2 [(0, .ref (ad 100)), (1, .int (nI v))] := hl
  have hT := hR.2.2.2.2.2.2.2
  have he := hR.1
  obtain ⟨gf1, hf1_, hf11⟩ := hR.2.2.2.2.1 1 (by decide)
  obtain ⟨gf2, hf2_, hf21⟩ := hR.2.2.2.2.1 2 (by decide)
  obtain ⟨gf7, hf7_, hf71⟩ := hR.2.2.2.2.1 7 (by decide)
  refine lv_aload_n hx hb d_R_test_0 rfl (lv_at hl 0 rfl) ?_
  refine hp_get (v := .ref (ad 111)) hx hb hg in_R hown hK h he rfl 13 (by decide) (hg _ w557) (fun _ z => z) rfl d_R_test_1 ?_
  refine lv_iload_n hx hb d_R_test_4 rfl (lv_at hl 1 rfl) ?_
  refine lv_aload_n hx hb d_R_test_5 rfl (lv_at hl 0 rfl) ?_
  refine lv_iload_n hx hb d_R_test_6 rfl (lv_at hl 1 rfl) ?_
  refine lv_iconst (v := 1) hx hb d_R_test_7 (by decide) ?_
  refine hp_callR (hp_runV (As := [.int (nI v), .int 1]) (rest := [.int (nI v), .ref (ad 111)]) ⟨hx, hb, hml, hown, hg⟩ (c_R_lightest l D tys de sa (v := v) (bb := 1) ht ht3 hR hn7 hm12 hW (by omega) (fun k hk => ⟨fun z => z.2.resolve_left (by decide), fun z => ⟨hend k hk z, Or.inr z⟩⟩)) (cwV 2 hg (gw_V w639 w641 ws28 w7 w642) rfl rfl rfl (by decide +kernel) ⟨Nat.le_of_ble_eq_true rfl, Nat.le_of_ble_eq_true rfl⟩) (s_ok de sa) hK hX h he rfl rfl rfl hl.1 rfl (Nat.le_of_ble_eq_true rfl) d_R_test_8 ⟨Nat.le_of_ble_eq_true rfl, Nat.le_of_ble_eq_true rfl⟩) (fun r1 hp => ?_)
  cases ho : k_lb E S v E.2.1 with
  | none =>
    rw [ho] at hp
    have hp : r1 = (-1) := hp
    subst hp
    refine hp_iast hx hb hK h 0 hf7_ ht rfl (by omega) (by decide) d_R_test_11 (fun H locs f1 hf1 h => ?_)
    have he := he.ne' hf1 (kne (hT 100 (by omega) (by omega)) (hT 111 (by omega) (by omega)) (by decide))
    have hf1_ := hf1_.ne' hf1 (kne (hT 105 (by omega) (by omega)) (hT 111 (by omega) (by omega)) (by decide))
    have hf2_ := hf2_.ne' hf1 (kne (hT 106 (by omega) (by omega)) (hT 111 (by omega) (by omega)) (by decide))
    have hf7_ := hf7_.self' hf1
    have hR1 := hR.wF (f1 := f1) (k := 7) (x := v) (a := (-1)) (by decide) hf1 (k_col hf71)
    have hF1 : kFq τ L f (L, f1) := kFq.w hf1 (hT 111 (by omega) (by omega)) (by omega) (by omega)
    refine lv_aload_n hx hb d_R_test_12 rfl (lv_at hl 0 rfl) ?_
    refine hp_get (v := .ref (ad 111)) hx hb hg in_R hown hK h he rfl 13 (by decide) (hg _ w557) (fun _ z => z) rfl d_R_test_13 ?_
    refine lv_iload_n hx hb d_R_test_16 rfl (lv_at hl 1 rfl) ?_
    refine hp_iald hx hb hK h 0 hf7_ ht rfl (by omega) (by decide) d_R_test_17 ?_
    rw [show upd gf7 v (-1) v = (-1) from pk_us]
    refine lv_if_lt (tgt := 49) hx hb d_R_test_18 (by decide) (fun hc2 => ?_) (fun hc2 => ?_)
    · skip
      refine lv_aload_n hx hb d_R_test_49 rfl (lv_at hl 0 rfl) ?_
      refine lv_iload_n hx hb d_R_test_50 rfl (lv_at hl 1 rfl) ?_
      refine hp_callv (hp_runV (As := [.int (nI v)]) (rest := []) ⟨hx, hb, hml, hown, hg⟩ (c_R_report l D tys de sa (v := v) ht ht3 hR1 hn7 hm12 hW hv hwn hlen (Or.inl k_fld_self) (fun a1 _ => by obtain ⟨j, hj, hwj⟩ := hwi ((k_fld_ne (by decide)).symm.trans a1) ho; exact ⟨j, hj, (k_fld_ne (by decide)).trans hwj⟩)) (cwV 1 hg (gw_V w679 w681 ws37 w7 w682) rfl rfl rfl (by decide +kernel) ⟨Nat.le_of_ble_eq_true rfl, Nat.le_of_ble_eq_true rfl⟩) (s_ok de sa) hK hX h he rfl rfl rfl hl.1 rfl (Nat.le_of_ble_eq_true rfl) d_R_test_51 ⟨Nat.le_of_ble_eq_true rfl, Nat.le_of_ble_eq_true rfl⟩) h (fun L2 f2 H locs hp h => ?_)
      exact hp_vret hx hb hr hlk h (by rw [k_test0 ho]; exact ⟨hp.1, hF1.trans hp.2⟩) (by omega) (by omega) d_R_test_54
    · skip
      exact absurd (by decide) hc2
  | some j =>
    rw [ho] at hp
    have hp : r1 = (nI j) := hp
    subst hp
    have hj := (k_lb_lt ho).1
    refine hp_iast hx hb hK h 0 hf7_ ht rfl (by omega) (by decide) d_R_test_11 (fun H locs f1 hf1 h => ?_)
    have he := he.ne' hf1 (kne (hT 100 (by omega) (by omega)) (hT 111 (by omega) (by omega)) (by decide))
    have hf1_ := hf1_.ne' hf1 (kne (hT 105 (by omega) (by omega)) (hT 111 (by omega) (by omega)) (by decide))
    have hf2_ := hf2_.ne' hf1 (kne (hT 106 (by omega) (by omega)) (hT 111 (by omega) (by omega)) (by decide))
    have hf7_ := hf7_.self' hf1
    have hR1 := hR.wF (f1 := f1) (k := 7) (x := v) (a := (nI j)) (by decide) hf1 (k_col hf71)
    have hF1 : kFq τ L f (L, f1) := kFq.w hf1 (hT 111 (by omega) (by omega)) (by omega) (by omega)
    refine lv_aload_n hx hb d_R_test_12 rfl (lv_at hl 0 rfl) ?_
    refine hp_get (v := .ref (ad 111)) hx hb hg in_R hown hK h he rfl 13 (by decide) (hg _ w557) (fun _ z => z) rfl d_R_test_13 ?_
    refine lv_iload_n hx hb d_R_test_16 rfl (lv_at hl 1 rfl) ?_
    refine hp_iald hx hb hK h 0 hf7_ ht rfl (by omega) (by decide) d_R_test_17 ?_
    rw [show upd gf7 v (nI j) v = (nI j) from pk_us]
    refine lv_if_lt (tgt := 49) hx hb d_R_test_18 (by decide) (fun hc2 => ?_) (fun hc2 => ?_)
    · skip
      exact absurd hc2 (nI_pos (by omega))
    · skip
      refine lv_aload_n hx hb d_R_test_21 rfl (lv_at hl 0 rfl) ?_
      refine lv_iload_n hx hb d_R_test_22 rfl (lv_at hl 1 rfl) ?_
      refine lv_iconst (v := 2) hx hb d_R_test_23 (by decide) ?_
      refine lv_aload_n hx hb d_R_test_24 rfl (lv_at hl 0 rfl) ?_
      refine hp_get (v := .ref (ad 111)) hx hb hg in_R hown hK h he rfl 13 (by decide) (hg _ w557) (fun _ z => z) rfl d_R_test_25 ?_
      refine lv_iload_n hx hb d_R_test_28 rfl (lv_at hl 1 rfl) ?_
      refine hp_iald hx hb hK h 0 hf7_ ht rfl (by omega) (by decide) d_R_test_29 ?_
      rw [show upd gf7 v (nI j) v = nI j from pk_us]
      refine lv_aload_n hx hb d_R_test_30 rfl (lv_at hl 0 rfl) ?_
      refine hp_get (v := .ref (ad 105)) hx hb hg in_R hown hK h he rfl 7 (by decide) (hg _ w551) (fun _ z => z) rfl d_R_test_31 ?_
      refine lv_iload_n hx hb d_R_test_34 rfl (lv_at hl 1 rfl) ?_
      refine hp_iald hx hb hK h 0 hf1_ ht rfl (by omega) (by decide) d_R_test_35 ?_
      rw [show gf1 v = S.1 v 1 from hf11 v hv]
      refine lv_aload_n hx hb d_R_test_36 rfl (lv_at hl 0 rfl) ?_
      refine hp_get (v := .ref (ad 106)) hx hb hg in_R hown hK h he rfl 8 (by decide) (hg _ w552) (fun _ z => z) rfl d_R_test_37 ?_
      refine lv_iload_n hx hb d_R_test_40 rfl (lv_at hl 1 rfl) ?_
      refine hp_iald hx hb hK h 0 hf2_ ht rfl (by omega) (by decide) d_R_test_41 ?_
      rw [show gf2 v = S.1 v 2 from hf21 v hv]
      refine lv_iconst (v := 0) hx hb d_R_test_42 (by decide) ?_
      refine hp_callv (hp_runV (As := [.int (nI v), .int 2, .int (nI j), .int (S.1 v 1), .int (S.1 v 2), .int 0]) (rest := []) ⟨hx, hb, hml, hown, hg⟩ (c_R_send l D tys de sa (v := v) (j := j) ht ht3 hR1 hn7 hm12 (by omega) hj (hW.1 j hj) (by have := (hW.2 j hj).2; omega) rfl (k_ton hwn hj) (hlen _ (k_ton hwn hj))) (cwV 6 hg (gw_V w647 w649 ws30 w7 w650) rfl rfl rfl (by decide +kernel) ⟨Nat.le_of_ble_eq_true rfl, Nat.le_of_ble_eq_true rfl⟩) (s_ok de sa) hK hX h he rfl rfl rfl hl.1 rfl (Nat.le_of_ble_eq_true rfl) d_R_test_43 ⟨Nat.le_of_ble_eq_true rfl, Nat.le_of_ble_eq_true rfl⟩) h (fun L2 f2 H locs hp h => ?_)
      have hS9 : k_test E S v = k_post E (k_fld S v 7 (nI j)) v (2, nI j, S.1 v 1, S.1 v 2, 0) := by rw [k_test1 ho, k_fld_self, k_fld_ne (by decide), k_fld_ne (by decide)]
      refine lv_goto (tgt := 54) hx hb d_R_test_46 (by decide) ?_
      exact hp_vret hx hb hr hlk h (by rw [hS9]; exact ⟨kR.post hp.1, hF1.trans hp.2⟩) (by omega) (by omega) d_R_test_54
