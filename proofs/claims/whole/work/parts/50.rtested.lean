/-! The reference's isTested, by program (wip/mk50.py). -/
theorem k_wake_mk0 {E : kE} {S : kS} {x k : Nat} (h : (k_wake E S x).2.1 x k = 0) : S.2.1 x k = 0 := by
  unfold k_wake at h
  split at h
  · split at h
    · exact h
    · rename_i j _
      have h2 : kup S.2.1 x (upd (S.2.1 x) j 1) x k = 0 := h
      rw [kup_self] at h2
      by_cases e : k = j
      · subst e; rw [pk_us] at h2; exact absurd h2 (by decide)
      · rw [pk_un e] at h2; exact h2
  · exact h
theorem k_rej_mk0 {S : kS} {x j k : Nat} (h : (k_rej S x j).2.1 x k = 0) : S.2.1 x k = 0 := by
  have h2 : kup S.2.1 x (if S.2.1 x j = 0 then upd (S.2.1 x) j 2 else S.2.1 x) x k = 0 := h
  rw [kup_self] at h2
  split at h2
  · rename_i h0
    by_cases e : k = j
    · subst e; exact h0
    · rw [pk_un e] at h2; exact h2
  · exact h2
set_option maxHeartbeats 4000000 in
set_option maxRecDepth 100000 in
theorem c_R_isTested (l : Launch) (D : va_G) (tys : List (ClassId × FieldType)) (de : Nat) (sa : Nat → Nat) {L : List Nat} {f : Nat → va_E} {v j : Nat} {w fg : Int32} {ad τ : Nat → Nat} {E : kE} {S : kS} {code : Int32} {cI cZ : ClassId} (ht : tys[0]? = some (cI, .int)) (ht3 : tys[3]? = some (cZ, .boolean)) (hR : kR cI cZ ad τ L f code E S) (hn7 : E.1 ≤ 7) (hm12 : E.2.1 ≤ 12) (hW : kWE E) (hv : v < E.1) (hwn : ∀ j, j < E.2.1 → E.2.2.1 j < E.1 ∧ E.2.2.2.1 j < E.1) (hlen : ∀ i, i < E.1 → (S.2.2.1 i).length + 2 < 200) (hne : ∀ j, j < E.2.1 → E.2.2.1 j ≠ E.2.2.2.1 j) (hst : S.1 v 0 = 0 ∨ 0 < S.1 v 0) (hendA : ∀ k, k < E.2.1 → S.2.1 v k = 0 → E.2.2.1 k = v ∨ E.2.2.2.1 k = v) (hasl : S.1 v 0 = 0 → ∀ k, k < E.2.1 → (E.2.2.1 k = v ∨ E.2.2.2.1 k = v) → S.2.1 v k = 0) (hj : j < E.2.1) (hend1 : E.2.2.1 j = v ∨ E.2.2.2.1 j = v) (hwi : S.1 v 7 = nI j → ∃ i, i < E.2.1 ∧ S.1 v 4 = nI i) : hp_Mv l y_R_isTested (gw_ws y_R_isTested b_R_isTested 5 none) { frames := 4, cells := 0, slots := 0, locals := 95 } D kc tys (s_X de sa) [.ref (ad 100), .int (nI v), .int (nI j), .int w, .int fg] L f (kRP cI cZ ad τ L f code E (k_tst E S v ((2, nI j, w, fg, 0) : kM))) 0 0 := by
  refine hp_ofW (Qc := fun A => va_Qv (kRP cI cZ ad τ L f code E (k_tst E S v ((2, nI j, w, fg, 0) : kM))) (hp_B D kc A) A) (fr := fun A => A) (ret := none) (by decide) rfl (Nat.le_of_ble_eq_true rfl) ?_
  intro p e s m below meth c ls A hx hb hml hr hts hown hlk hnm hl hK hX h
  have hg : ∀ w ∈ gw, w.before _ s = true := fun w hw => hts w (List.mem_cons_of_mem _ hw)
  have hown : s.vm.findClass "MergingFragmentsModel" = some m.cls := hown
  have hnm : meth.name = "isTested" := hnm
  have hl : lv_has ls 5 [(0, .ref (ad 100)), (1, .int (nI v)), (2, .int (nI j)), (3, .int w), (4, .int fg)] := hl
  have hT := hR.2.2.2.2.2.2.2
  have he := hR.1
  have hF : kFq τ L f (L, f) := kFq.rf
  have hee := hW.2 j hj
  have hkx : kx ((2, nI j, w, fg, 0) : kM).2.1 = j := kx_nI (by omega)
  have hlen1 : ∀ i, i < E.1 → ((k_wake E S v).2.2.1 i).length + 1 < 200 := fun i hi => by have z1 := hlen i hi; have z2 := k_wake_len (E := E) (S := S) (x := v) i; omega
  refine lv_aload_n hx hb d_R_isTested_0 rfl (lv_at hl 0 rfl) ?_
  refine lv_iload_n hx hb d_R_isTested_1 rfl (lv_at hl 1 rfl) ?_
  refine hp_callv (hp_runV (As := [.int (nI v)]) (rest := []) ⟨hx, hb, hml, hown, hg⟩ (c_R_awake l D tys de sa (v := v) ht ht3 hR hn7 hm12 hW hv hwn (fun i hi => Nat.lt_of_le_of_lt (Nat.le_add_right _ 2) (hlen i hi)) hne hst hendA hasl) (cwV 1 hg (gw_V w635 w637 ws27 w7 w638) rfl rfl rfl (by decide +kernel) ⟨Nat.le_of_ble_eq_true rfl, Nat.le_of_ble_eq_true rfl⟩) (s_ok de sa) hK hX h he rfl rfl rfl hl.1 rfl (Nat.le_of_ble_eq_true rfl) d_R_isTested_2 ⟨Nat.le_of_ble_eq_true rfl, Nat.le_of_ble_eq_true rfl⟩) h (fun L2 f2 H locs hp h => ?_)
  obtain ⟨hR, hF1⟩ := hp
  have hL2 := hF1.1
  dsimp only at hR hL2
  have hL2 := hL2.symm
  subst hL2
  have hF := hF.trans hF1
  have he := hR.1
  obtain ⟨gf1, hf1_, hf11⟩ := hR.2.2.2.2.1 1 (by decide)
  obtain ⟨gf2, hf2_, hf21⟩ := hR.2.2.2.2.1 2 (by decide)
  refine lv_iload_n hx hb d_R_isTested_5 rfl (lv_at hl 3 rfl) ?_
  refine lv_aload_n hx hb d_R_isTested_6 rfl (lv_at hl 0 rfl) ?_
  refine hp_get (v := .ref (ad 105)) hx hb hg in_R hown hK h he rfl 7 (by decide) (hg _ w551) (fun _ z => z) rfl d_R_isTested_7 ?_
  refine lv_iload_n hx hb d_R_isTested_10 rfl (lv_at hl 1 rfl) ?_
  refine hp_iald hx hb hK h 0 hf1_ ht rfl (by omega) (by decide) d_R_isTested_11 ?_
  rw [show gf1 v = (k_wake E S v).1 v 1 from hf11 v hv]
  refine lv_icmp_le (tgt := 29) hx hb d_R_isTested_12 (by decide) (fun hc => ?_) (fun hc => ?_)
  · skip
    refine lv_iload hx hb d_R_isTested_29 (lv_at hl 4 rfl) ?_
    refine lv_aload_n hx hb d_R_isTested_31 rfl (lv_at hl 0 rfl) ?_
    refine hp_get (v := .ref (ad 106)) hx hb hg in_R hown hK h he rfl 8 (by decide) (hg _ w552) (fun _ z => z) rfl d_R_isTested_32 ?_
    refine lv_iload_n hx hb d_R_isTested_35 rfl (lv_at hl 1 rfl) ?_
    refine hp_iald hx hb hK h 0 hf2_ ht rfl (by omega) (by decide) d_R_isTested_36 ?_
    rw [show gf2 v = (k_wake E S v).1 v 2 from hf21 v hv]
    refine lv_icmp_eq (tgt := 53) hx hb d_R_isTested_37 (by decide) (fun hc2 => ?_) (fun hc2 => ?_)
    · skip
      refine lv_aload_n hx hb d_R_isTested_53 rfl (lv_at hl 0 rfl) ?_
      refine lv_iload_n hx hb d_R_isTested_54 rfl (lv_at hl 1 rfl) ?_
      refine lv_iload_n hx hb d_R_isTested_55 rfl (lv_at hl 2 rfl) ?_
      refine hp_callv (hp_runV (As := [.int (nI v), .int (nI j)]) (rest := []) ⟨hx, hb, hml, hown, hg⟩ (c_R_reject l D tys de sa (v := v) (j := j) ht ht3 hR hn7 hm12 hW (by omega) hj hne hend1) (cwV 2 hg (gw_V w687 w689 ws39 w7 w690) rfl rfl rfl (by decide +kernel) ⟨Nat.le_of_ble_eq_true rfl, Nat.le_of_ble_eq_true rfl⟩) (s_ok de sa) hK hX h he rfl rfl rfl hl.1 rfl (Nat.le_of_ble_eq_true rfl) d_R_isTested_56 ⟨Nat.le_of_ble_eq_true rfl, Nat.le_of_ble_eq_true rfl⟩) h (fun L3 f3 H locs hp h => ?_)
      obtain ⟨hR, hF1⟩ := hp
      have hL2 := hF1.1
      dsimp only at hR hL2
      have hL2 := hL2.symm
      subst hL2
      have hF := hF.trans hF1
      have he := hR.1
      obtain ⟨gf7, hf7_, hf71⟩ := hR.2.2.2.2.1 7 (by decide)
      refine lv_aload_n hx hb d_R_isTested_59 rfl (lv_at hl 0 rfl) ?_
      refine hp_get (v := .ref (ad 111)) hx hb hg in_R hown hK h he rfl 13 (by decide) (hg _ w557) (fun _ z => z) rfl d_R_isTested_60 ?_
      refine lv_iload_n hx hb d_R_isTested_63 rfl (lv_at hl 1 rfl) ?_
      refine hp_iald hx hb hK h 0 hf7_ ht rfl (by omega) (by decide) d_R_isTested_64 ?_
      rw [show gf7 v = (k_rej (k_wake E S v) v j).1 v 7 from hf71 v hv]
      refine lv_iload_n hx hb d_R_isTested_65 rfl (lv_at hl 2 rfl) ?_
      refine lv_icmp_eq (tgt := 82) hx hb d_R_isTested_66 (by decide) (fun hc3 => ?_) (fun hc3 => ?_)
      · skip
        have hw4 : (k_wake E S v).1 v 7 = nI j := hc3
        refine lv_aload_n hx hb d_R_isTested_82 rfl (lv_at hl 0 rfl) ?_
        refine lv_iload_n hx hb d_R_isTested_83 rfl (lv_at hl 1 rfl) ?_
        refine hp_callv (hp_runV (As := [.int (nI v)]) (rest := []) ⟨hx, hb, hml, hown, hg⟩ (c_R_test l D tys de sa (v := v) ht ht3 hR hn7 hm12 hW hv hwn (fun i hi => Nat.lt_of_le_of_lt (Nat.le_add_right _ 1) (hlen1 i hi)) (fun k hk hz => hendA k hk (k_wake_mk0 (k_rej_mk0 hz))) (fun _ _ => by obtain ⟨i, hi, hwj⟩ := hwi ((k_wake_fld (by decide)).symm.trans hw4); exact ⟨i, hi, (k_wake_fld (E := E) (S := S) (x := v) (k := 4) (by decide)).trans hwj⟩)) (cwV 1 hg (gw_V w675 w677 ws36 w7 w678) rfl rfl rfl (by decide +kernel) ⟨Nat.le_of_ble_eq_true rfl, Nat.le_of_ble_eq_true rfl⟩) (s_ok de sa) hK hX h he rfl rfl rfl hl.1 rfl (Nat.le_of_ble_eq_true rfl) d_R_isTested_84 ⟨Nat.le_of_ble_eq_true rfl, Nat.le_of_ble_eq_true rfl⟩) h (fun L4 f4 H locs hp h => ?_)
        exact hp_vret hx hb hr hlk h (by rw [show k_tst E S v ((2, nI j, w, fg, 0) : kM) = k_test E (k_rej (k_wake E S v) v j) v from by unfold k_tst; rw [if_neg (Int32.not_lt.mpr hc), if_pos hc2, hkx, if_pos hc3]]; exact ⟨hp.1, hF.trans hp.2⟩) (by omega) (by omega) d_R_isTested_87
      · skip
        refine lv_aload_n hx hb d_R_isTested_69 rfl (lv_at hl 0 rfl) ?_
        refine lv_iload_n hx hb d_R_isTested_70 rfl (lv_at hl 1 rfl) ?_
        refine lv_iconst (v := 4) hx hb d_R_isTested_71 (by decide) ?_
        refine lv_iload_n hx hb d_R_isTested_72 rfl (lv_at hl 2 rfl) ?_
        refine lv_iconst (v := 0) hx hb d_R_isTested_73 (by decide) ?_
        refine lv_iconst (v := 0) hx hb d_R_isTested_74 (by decide) ?_
        refine lv_iconst (v := 0) hx hb d_R_isTested_75 (by decide) ?_
        refine hp_callv (hp_runV (As := [.int (nI v), .int 4, .int (nI j), .int 0, .int 0, .int 0]) (rest := []) ⟨hx, hb, hml, hown, hg⟩ (c_R_send l D tys de sa (v := v) (j := j) ht ht3 hR hn7 hm12 (by omega) hj (hW.1 j hj) (by omega) rfl (k_ton hwn hj) (Nat.lt_of_le_of_lt (Nat.le_add_right _ 1) (hlen1 _ (k_ton hwn hj)))) (cwV 6 hg (gw_V w647 w649 ws30 w7 w650) rfl rfl rfl (by decide +kernel) ⟨Nat.le_of_ble_eq_true rfl, Nat.le_of_ble_eq_true rfl⟩) (s_ok de sa) hK hX h he rfl rfl rfl hl.1 rfl (Nat.le_of_ble_eq_true rfl) d_R_isTested_76 ⟨Nat.le_of_ble_eq_true rfl, Nat.le_of_ble_eq_true rfl⟩) h (fun L4 f4 H locs hp h => ?_)
        refine lv_goto (tgt := 87) hx hb d_R_isTested_79 (by decide) ?_
        exact hp_vret hx hb hr hlk h (by rw [show k_tst E S v ((2, nI j, w, fg, 0) : kM) = k_post E (k_rej (k_wake E S v) v j) v (4, nI j, 0, 0, 0) from by unfold k_tst; rw [if_neg (Int32.not_lt.mpr hc), if_pos hc2, hkx, if_neg hc3]]; exact ⟨kR.post hp.1, hF.trans hp.2⟩) (by omega) (by omega) d_R_isTested_87
    · skip
      refine lv_aload_n hx hb d_R_isTested_40 rfl (lv_at hl 0 rfl) ?_
      refine lv_iload_n hx hb d_R_isTested_41 rfl (lv_at hl 1 rfl) ?_
      refine lv_iconst (v := 3) hx hb d_R_isTested_42 (by decide) ?_
      refine lv_iload_n hx hb d_R_isTested_43 rfl (lv_at hl 2 rfl) ?_
      refine lv_iconst (v := 0) hx hb d_R_isTested_44 (by decide) ?_
      refine lv_iconst (v := 0) hx hb d_R_isTested_45 (by decide) ?_
      refine lv_iconst (v := 0) hx hb d_R_isTested_46 (by decide) ?_
      refine hp_callv (hp_runV (As := [.int (nI v), .int 3, .int (nI j), .int 0, .int 0, .int 0]) (rest := []) ⟨hx, hb, hml, hown, hg⟩ (c_R_send l D tys de sa (v := v) (j := j) ht ht3 hR hn7 hm12 (by omega) hj (hW.1 j hj) (by omega) rfl (k_ton hwn hj) (Nat.lt_of_le_of_lt (Nat.le_add_right _ 1) (hlen1 _ (k_ton hwn hj)))) (cwV 6 hg (gw_V w647 w649 ws30 w7 w650) rfl rfl rfl (by decide +kernel) ⟨Nat.le_of_ble_eq_true rfl, Nat.le_of_ble_eq_true rfl⟩) (s_ok de sa) hK hX h he rfl rfl rfl hl.1 rfl (Nat.le_of_ble_eq_true rfl) d_R_isTested_47 ⟨Nat.le_of_ble_eq_true rfl, Nat.le_of_ble_eq_true rfl⟩) h (fun L4 f4 H locs hp h => ?_)
      refine lv_goto (tgt := 87) hx hb d_R_isTested_50 (by decide) ?_
      exact hp_vret hx hb hr hlk h (by rw [show k_tst E S v ((2, nI j, w, fg, 0) : kM) = k_post E (k_wake E S v) v (3, nI j, 0, 0, 0) from by unfold k_tst; rw [if_neg (Int32.not_lt.mpr hc), if_neg hc2, hkx]]; exact ⟨kR.post hp.1, hF.trans hp.2⟩) (by omega) (by omega) d_R_isTested_87
  · skip
    refine lv_aload_n hx hb d_R_isTested_15 rfl (lv_at hl 0 rfl) ?_
    refine lv_iload_n hx hb d_R_isTested_16 rfl (lv_at hl 1 rfl) ?_
    refine lv_iconst (v := 2) hx hb d_R_isTested_17 (by decide) ?_
    refine lv_iload_n hx hb d_R_isTested_18 rfl (lv_at hl 2 rfl) ?_
    refine lv_iload_n hx hb d_R_isTested_19 rfl (lv_at hl 3 rfl) ?_
    refine lv_iload hx hb d_R_isTested_20 (lv_at hl 4 rfl) ?_
    refine lv_iconst (v := 0) hx hb d_R_isTested_22 (by decide) ?_
    refine hp_callv (hp_runV (As := [.int (nI v), .int 2, .int (nI j), .int w, .int fg, .int 0]) (rest := []) ⟨hx, hb, hml, hown, hg⟩ (c_R_put l D tys de sa (v := v) (q := (2, nI j, w, fg, 0)) ht ht3 hR hn7 hm12 hv (Nat.lt_of_le_of_lt (Nat.le_add_right _ 1) (hlen1 v hv))) (cwV 6 hg (gw_V w655 w657 ws32 w7 w658) rfl rfl rfl (by decide +kernel) ⟨Nat.le_of_ble_eq_true rfl, Nat.le_of_ble_eq_true rfl⟩) (s_ok de sa) hK hX h he rfl rfl rfl hl.1 rfl (Nat.le_of_ble_eq_true rfl) d_R_isTested_23 ⟨Nat.le_of_ble_eq_true rfl, Nat.le_of_ble_eq_true rfl⟩) h (fun L3 f3 H locs hp h => ?_)
    refine lv_goto (tgt := 87) hx hb d_R_isTested_26 (by decide) ?_
    exact hp_vret hx hb hr hlk h (by rw [show k_tst E S v ((2, nI j, w, fg, 0) : kM) = k_add (k_wake E S v) v ((2, nI j, w, fg, 0) : kM) from by unfold k_tst; rw [if_pos (Int32.not_le.mp hc)]]; exact ⟨hp.1, hF.trans hp.2⟩) (by omega) (by omega) d_R_isTested_87
