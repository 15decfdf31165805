/-! The reference's reported, by program (wip/mk48.py). -/
set_option maxHeartbeats 4000000 in
set_option maxRecDepth 100000 in
theorem c_R_reported (l : Launch) (D : va_G) (tys : List (ClassId × FieldType)) (de : Nat) (sa : Nat → Nat) {L : List Nat} {f : Nat → va_E} {v j : Nat} {w : Int32} {ad τ : Nat → Nat} {E : kE} {S : kS} {code : Int32} {cI cZ : ClassId} (ht : tys[0]? = some (cI, .int)) (ht3 : tys[3]? = some (cZ, .boolean)) (hR : kR cI cZ ad τ L f code E S) (hn7 : E.1 ≤ 7) (hm12 : E.2.1 ≤ 12) (hW : kWE E) (hv : v < E.1) (hwn : ∀ j, j < E.2.1 → E.2.2.1 j < E.1 ∧ E.2.2.2.1 j < E.1) (hlen : ∀ i, i < E.1 → (S.2.2.1 i).length < 200) (hne : ∀ j, j < E.2.1 → E.2.2.1 j ≠ E.2.2.2.1 j) (hj : j < E.2.1) (h7 : S.1 v 7 = -1 ∨ 0 ≤ S.1 v 7) (hwi : ¬ nI j = S.1 v 4 → ∃ i, i < E.2.1 ∧ S.1 v 4 = nI i) (hbe : nI j = S.1 v 4 → ¬ S.1 v 0 = 1 → S.1 v 6 < w → ∃ i, i < E.2.1 ∧ S.1 v 5 = nI i ∧ (E.2.2.1 i = v ∨ E.2.2.2.1 i = v)) : hp_Mv l y_R_reported (gw_ws y_R_reported b_R_reported 4 none) { frames := 3, cells := 0, slots := 0, locals := 75 } D kc tys (s_X de sa) [.ref (ad 100), .int (nI v), .int (nI j), .int w] L f (kRP cI cZ ad τ L f code E (k_rep E S v ((5, nI j, w, 0, 0) : kM))) 0 0 := by
  refine hp_ofW (Qc := fun A => va_Qv (kRP cI cZ ad τ L f code E (k_rep E S v ((5, nI j, w, 0, 0) : kM))) (hp_B D kc A) A) (fr := fun A => A) (ret := none) (by decide) rfl (Nat.le_of_ble_eq_true rfl) ?_
  intro p e s m below meth c ls A hx hb hml hr hts hown hlk hnm hl hK hX h
  have hg : ∀ w ∈ gw, w.before _ s = true := fun w hw => hts w (List.mem_cons_of_mem _ hw)
  have hown : s.vm.findClass "MergingFragmentsModel" = some m.cls := hown
  have hnm : meth.name = "reported" := hnm
  have hl : lv_has ls 4 [(0, .ref (ad 100)), (1, .int (nI v)), (2, .int (nI j)), (3, .int w)] := hl
  have hT := hR.2.2.2.2.2.2.2
  have he := hR.1
  obtain ⟨gf0, hf0_, hf01⟩ := hR.2.2.2.2.1 0 (by decide)
  obtain ⟨gf3, hf3_, hf31⟩ := hR.2.2.2.2.1 3 (by decide)
  obtain ⟨gf4, hf4_, hf41⟩ := hR.2.2.2.2.1 4 (by decide)
  obtain ⟨gf6, hf6_, hf61⟩ := hR.2.2.2.2.1 6 (by decide)
  have hF : kFq τ L f (L, f) := kFq.rf
  obtain ⟨gd, hd, hd1⟩ := hR.2.2.2.2.2.1
  refine lv_iload_n hx hb d_R_reported_0 rfl (lv_at hl 2 rfl) ?_
  refine lv_aload_n hx hb d_R_reported_1 rfl (lv_at hl 0 rfl) ?_
  refine hp_get (v := .ref (ad 108)) hx hb hg in_R hown hK h he rfl 10 (by decide) (hg _ w554) (fun _ z => z) rfl d_R_reported_2 ?_
  refine lv_iload_n hx hb d_R_reported_5 rfl (lv_at hl 1 rfl) ?_
  refine hp_iald hx hb hK h 0 hf4_ ht rfl (by omega) (by decide) d_R_reported_6 ?_
  rw [show gf4 v = S.1 v 4 from hf41 v hv]
  refine lv_icmp_eq (tgt := 35) hx hb d_R_reported_7 (by decide) (fun hc => ?_) (fun hc => ?_)
  · skip
    refine lv_aload_n hx hb d_R_reported_35 rfl (lv_at hl 0 rfl) ?_
    refine hp_get (v := .ref (ad 104)) hx hb hg in_R hown hK h he rfl 6 (by decide) (hg _ w550) (fun _ z => z) rfl d_R_reported_36 ?_
    refine lv_iload_n hx hb d_R_reported_39 rfl (lv_at hl 1 rfl) ?_
    refine hp_iald hx hb hK h 0 hf0_ ht rfl (by omega) (by decide) d_R_reported_40 ?_
    rw [show gf0 v = S.1 v 0 from hf01 v hv]
    refine lv_iconst (v := 1) hx hb d_R_reported_41 (by decide) ?_
    refine lv_icmp_ne (tgt := 58) hx hb d_R_reported_42 (by decide) (fun hc2 => ?_) (fun hc2 => ?_)
    · skip
      refine lv_iload_n hx hb d_R_reported_58 rfl (lv_at hl 3 rfl) ?_
      refine lv_aload_n hx hb d_R_reported_59 rfl (lv_at hl 0 rfl) ?_
      refine hp_get (v := .ref (ad 110)) hx hb hg in_R hown hK h he rfl 12 (by decide) (hg _ w556) (fun _ z => z) rfl d_R_reported_60 ?_
      refine lv_iload_n hx hb d_R_reported_63 rfl (lv_at hl 1 rfl) ?_
      refine hp_iald hx hb hK h 0 hf6_ ht rfl (by omega) (by decide) d_R_reported_64 ?_
      rw [show gf6 v = S.1 v 6 from hf61 v hv]
      refine lv_icmp_le (tgt := 76) hx hb d_R_reported_65 (by decide) (fun hc3 => ?_) (fun hc3 => ?_)
      · skip
        refine lv_iload_n hx hb d_R_reported_76 rfl (lv_at hl 3 rfl) ?_
        refine lv_bipush (v := 100) hx hb d_R_reported_77 (by decide) ?_
        refine lv_icmp_ne (tgt := 89) hx hb d_R_reported_79 (by decide) (fun hc4 => ?_) (fun hc4 => ?_)
        · skip
          exact hp_vret hx hb hr hlk h (by rw [show k_rep E S v ((5, nI j, w, 0, 0) : kM) = S from by unfold k_rep; rw [if_pos hc, if_neg hc2, if_neg (Int32.not_lt.mpr hc3), if_neg hc4]]; exact ⟨hR, kFq.rf⟩) (by omega) (by omega) d_R_reported_89
        · skip
          refine lv_aload_n hx hb d_R_reported_82 rfl (lv_at hl 0 rfl) ?_
          refine hp_get (v := .ref (ad 112)) hx hb hg in_R hown hK h he rfl 14 (by decide) (hg _ w558) (fun _ z => z) rfl d_R_reported_83 ?_
          refine lv_iload_n hx hb d_R_reported_86 rfl (lv_at hl 1 rfl) ?_
          refine lv_iconst (v := 1) hx hb d_R_reported_87 (by decide) ?_
          refine hp_zast hx hb hK h 3 hd ht3 rfl (by omega) (by decide) rfl d_R_reported_88 (fun H locs f1 hf1 h => ?_)
          have he := he.ne' hf1 (kne (hT 100 (by omega) (by omega)) (hT 112 (by omega) (by omega)) (by decide))
          have hf0_ := hf0_.ne' hf1 (kne (hT 104 (by omega) (by omega)) (hT 112 (by omega) (by omega)) (by decide))
          have hf3_ := hf3_.ne' hf1 (kne (hT 107 (by omega) (by omega)) (hT 112 (by omega) (by omega)) (by decide))
          have hf4_ := hf4_.ne' hf1 (kne (hT 108 (by omega) (by omega)) (hT 112 (by omega) (by omega)) (by decide))
          have hf6_ := hf6_.ne' hf1 (kne (hT 110 (by omega) (by omega)) (hT 112 (by omega) (by omega)) (by decide))
          have hd := hd.self' hf1
          have hR1 := hR.wD (f1 := f1) (x := v) (a := 1) hf1 (k_col hd1)
          exact hp_vret hx hb hr hlk h (by rw [show k_rep E S v ((5, nI j, w, 0, 0) : kM) = k_fld S v 8 1 from by unfold k_rep; rw [if_pos hc, if_neg hc2, if_neg (Int32.not_lt.mpr hc3), if_pos hc4]]; exact ⟨hR1, kFq.w hf1 (hT 112 (by omega) (by omega)) (by omega) (by omega)⟩) (by omega) (by omega) d_R_reported_89
      · skip
        obtain ⟨i, hi, hbi, hei⟩ := hbe hc hc2 (Int32.not_le.mp hc3)
        refine lv_aload_n hx hb d_R_reported_68 rfl (lv_at hl 0 rfl) ?_
        refine lv_iload_n hx hb d_R_reported_69 rfl (lv_at hl 1 rfl) ?_
        refine hp_callv (hp_runV (As := [.int (nI v)]) (rest := []) ⟨hx, hb, hml, hown, hg⟩ (c_R_moveCore l D tys de sa (v := v) (j := i) ht ht3 hR hn7 hm12 hW hv hwn hlen hne hi hbi hei) (cwV 1 hg (gw_V w699 w701 ws42 w7 w702) rfl rfl rfl (by decide +kernel) ⟨Nat.le_of_ble_eq_true rfl, Nat.le_of_ble_eq_true rfl⟩) (s_ok de sa) hK hX h he rfl rfl rfl hl.1 rfl (Nat.le_of_ble_eq_true rfl) d_R_reported_70 ⟨Nat.le_of_ble_eq_true rfl, Nat.le_of_ble_eq_true rfl⟩) h (fun L2 f2 H locs hp h => ?_)
        refine lv_goto (tgt := 89) hx hb d_R_reported_73 (by decide) ?_
        exact hp_vret hx hb hr hlk h (by rw [show k_rep E S v ((5, nI j, w, 0, 0) : kM) = k_move E S v from by unfold k_rep; rw [if_pos hc, if_neg hc2, if_pos (Int32.not_le.mp hc3)]]; exact hp) (by omega) (by omega) d_R_reported_89
    · skip
      refine lv_aload_n hx hb d_R_reported_45 rfl (lv_at hl 0 rfl) ?_
      refine lv_iload_n hx hb d_R_reported_46 rfl (lv_at hl 1 rfl) ?_
      refine lv_iconst (v := 5) hx hb d_R_reported_47 (by decide) ?_
      refine lv_iload_n hx hb d_R_reported_48 rfl (lv_at hl 2 rfl) ?_
      refine lv_iload_n hx hb d_R_reported_49 rfl (lv_at hl 3 rfl) ?_
      refine lv_iconst (v := 0) hx hb d_R_reported_50 (by decide) ?_
      refine lv_iconst (v := 0) hx hb d_R_reported_51 (by decide) ?_
      refine hp_callv (hp_runV (As := [.int (nI v), .int 5, .int (nI j), .int w, .int 0, .int 0]) (rest := []) ⟨hx, hb, hml, hown, hg⟩ (c_R_put l D tys de sa (v := v) (q := (5, nI j, w, 0, 0)) ht ht3 hR hn7 hm12 hv (hlen v hv)) (cwV 6 hg (gw_V w655 w657 ws32 w7 w658) rfl rfl rfl (by decide +kernel) ⟨Nat.le_of_ble_eq_true rfl, Nat.le_of_ble_eq_true rfl⟩) (s_ok de sa) hK hX h he rfl rfl rfl hl.1 rfl (Nat.le_of_ble_eq_true rfl) d_R_reported_52 ⟨Nat.le_of_ble_eq_true rfl, Nat.le_of_ble_eq_true rfl⟩) h (fun L2 f2 H locs hp h => ?_)
      refine lv_goto (tgt := 89) hx hb d_R_reported_55 (by decide) ?_
      exact hp_vret hx hb hr hlk h (by rw [show k_rep E S v ((5, nI j, w, 0, 0) : kM) = k_add S v ((5, nI j, w, 0, 0) : kM) from by unfold k_rep; rw [if_pos hc, if_pos hc2]]; exact hp) (by omega) (by omega) d_R_reported_89
  · skip
    refine lv_aload_n hx hb d_R_reported_10 rfl (lv_at hl 0 rfl) ?_
    refine hp_get (v := .ref (ad 107)) hx hb hg in_R hown hK h he rfl 9 (by decide) (hg _ w553) (fun _ z => z) rfl d_R_reported_11 ?_
    refine lv_iload_n hx hb d_R_reported_14 rfl (lv_at hl 1 rfl) ?_
    refine lv_dup2_11 hx hb d_R_reported_15 rfl rfl ?_
    refine hp_iald hx hb hK h 0 hf3_ ht rfl (by omega) (by decide) d_R_reported_16 ?_
    rw [show gf3 v = S.1 v 3 from hf31 v hv]
    refine lv_iconst (v := 1) hx hb d_R_reported_17 (by decide) ?_
    refine lv_isub hx hb d_R_reported_18 ?_
    refine hp_iast hx hb hK h 0 hf3_ ht rfl (by omega) (by decide) d_R_reported_19 (fun H locs f1 hf1 h => ?_)
    have he := he.ne' hf1 (kne (hT 100 (by omega) (by omega)) (hT 107 (by omega) (by omega)) (by decide))
    have hf0_ := hf0_.ne' hf1 (kne (hT 104 (by omega) (by omega)) (hT 107 (by omega) (by omega)) (by decide))
    have hf3_ := hf3_.self' hf1
    have hf4_ := hf4_.ne' hf1 (kne (hT 108 (by omega) (by omega)) (hT 107 (by omega) (by omega)) (by decide))
    have hf6_ := hf6_.ne' hf1 (kne (hT 110 (by omega) (by omega)) (hT 107 (by omega) (by omega)) (by decide))
    have hd := hd.ne' hf1 (kne (hT 112 (by omega) (by omega)) (hT 107 (by omega) (by omega)) (by decide))
    have hR : kR cI cZ ad τ L f1 code E (k_fld S v 3 (S.1 v 3 - 1)) := hR.wF (f1 := f1) (k := 3) (x := v) (by decide) hf1 (k_col hf31)
    have hF := hF.trans (kFq.w (L := L) hf1 (hT 107 (by omega) (by omega)) (by omega) (by omega))
    refine lv_aload_n hx hb d_R_reported_20 rfl (lv_at hl 0 rfl) ?_
    refine lv_iload_n hx hb d_R_reported_21 rfl (lv_at hl 1 rfl) ?_
    refine lv_iload_n hx hb d_R_reported_22 rfl (lv_at hl 2 rfl) ?_
    refine lv_iload_n hx hb d_R_reported_23 rfl (lv_at hl 3 rfl) ?_
    refine hp_callv (hp_runV (As := [.int (nI v), .int (nI j), .int w]) (rest := []) ⟨hx, hb, hml, hown, hg⟩ (c_R_offer l D tys de sa (v := v) (e9 := nI j) (w := w) ht ht3 hR hn7 hm12 hv) (cwV 3 hg (gw_V w691 w693 ws40 w7 w694) rfl rfl rfl (by decide +kernel) ⟨Nat.le_of_ble_eq_true rfl, Nat.le_of_ble_eq_true rfl⟩) (s_ok de sa) hK hX h he rfl rfl rfl hl.1 rfl (Nat.le_of_ble_eq_true rfl) d_R_reported_24 ⟨Nat.le_of_ble_eq_true rfl, Nat.le_of_ble_eq_true rfl⟩) h (fun L2 f2 H locs hp h => ?_)
    obtain ⟨hR, hF1⟩ := hp
    have hL2 := hF1.1
    dsimp only at hR hL2
    have hL2 := hL2.symm
    subst hL2
    have hF := hF.trans hF1
    have he := hR.1
    refine lv_aload_n hx hb d_R_reported_27 rfl (lv_at hl 0 rfl) ?_
    refine lv_iload_n hx hb d_R_reported_28 rfl (lv_at hl 1 rfl) ?_
    refine hp_callv (hp_runV (As := [.int (nI v)]) (rest := []) ⟨hx, hb, hml, hown, hg⟩ (c_R_report l D tys de sa (v := v) ht ht3 hR hn7 hm12 hW hv hwn hlen (by rw [k_best_ne (by decide) (by decide), k_fld_ne (by decide)]; exact h7) (fun _ _ => by obtain ⟨i, hi, hwj⟩ := hwi hc; exact ⟨i, hi, (k_best_ne (by decide) (by decide)).trans ((k_fld_ne (by decide)).trans hwj)⟩)) (cwV 1 hg (gw_V w679 w681 ws37 w7 w682) rfl rfl rfl (by decide +kernel) ⟨Nat.le_of_ble_eq_true rfl, Nat.le_of_ble_eq_true rfl⟩) (s_ok de sa) hK hX h he rfl rfl rfl hl.1 rfl (Nat.le_of_ble_eq_true rfl) d_R_reported_29 ⟨Nat.le_of_ble_eq_true rfl, Nat.le_of_ble_eq_true rfl⟩) h (fun L3 f3 H locs hp h => ?_)
    refine lv_goto (tgt := 89) hx hb d_R_reported_32 (by decide) ?_
    exact hp_vret hx hb hr hlk h (by rw [show k_rep E S v ((5, nI j, w, 0, 0) : kM) = k_report E (k_best (k_fld S v 3 (S.1 v 3 - 1)) v (nI j) w) v from if_neg hc]; exact ⟨hp.1, hF.trans hp.2⟩) (by omega) (by omega) d_R_reported_89
