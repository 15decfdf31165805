/-! The reference's connect, by program (wip/mk49.py). -/
set_option maxHeartbeats 4000000 in
set_option maxRecDepth 100000 in
theorem c_R_connect (l : Launch) (D : va_G) (tys : List (ClassId × FieldType)) (de : Nat) (sa : Nat → Nat) {L : List Nat} {f : Nat → va_E} {v j : Nat} {w : Int32} {ad τ : Nat → Nat} {E : kE} {S : kS} {code : Int32} {cI cZ : ClassId} (ht : tys[0]? = some (cI, .int)) (ht3 : tys[3]? = some (cZ, .boolean)) (hR : kR cI cZ ad τ L f code E S) (hn7 : E.1 ≤ 7) (hm12 : E.2.1 ≤ 12) (hW : kWE E) (hv : v < E.1) (hwn : ∀ j, j < E.2.1 → E.2.2.1 j < E.1 ∧ E.2.2.2.1 j < E.1) (hlen : ∀ i, i < E.1 → (S.2.2.1 i).length + 2 < 200) (hne : ∀ j, j < E.2.1 → E.2.2.1 j ≠ E.2.2.2.1 j) (hst : S.1 v 0 = 0 ∨ 0 < S.1 v 0) (hendA : ∀ k, k < E.2.1 → S.2.1 v k = 0 → E.2.2.1 k = v ∨ E.2.2.2.1 k = v) (hasl : S.1 v 0 = 0 → ∀ k, k < E.2.1 → (E.2.2.1 k = v ∨ E.2.2.2.1 k = v) → S.2.1 v k = 0) (hj : j < E.2.1) (hend1 : E.2.2.1 j = v ∨ E.2.2.2.1 j = v) : hp_Mv l y_R_connect (gw_ws y_R_connect b_R_connect 5 none) { frames := 3, cells := 0, slots := 0, locals := 75 } D kc tys (s_X de sa) [.ref (ad 100), .int (nI v), .int (nI j), .int w] L f (kRP cI cZ ad τ L f code E (k_conn E S v ((0, nI j, w, 0, 0) : kM))) 0 0 := by
  refine hp_ofW (Qc := fun A => va_Qv (kRP cI cZ ad τ L f code E (k_conn E S v ((0, nI j, w, 0, 0) : kM))) (hp_B D kc A) A) (fr := fun A => A) (ret := none) (by decide) rfl (Nat.le_of_ble_eq_true rfl) ?_
  intro p e s m below meth c ls A hx hb hml hr hts hown hlk hnm hl hK hX h
  have hg : ∀ w ∈ gw, w.before _ s = true := fun w hw => hts w (List.mem_cons_of_mem _ hw)
  have hown : s.vm.findClass "MergingFragmentsModel" = some m.cls := hown
  have hnm : meth.name = "connect" := hnm
  have hl : lv_has ls 5 [(0, .ref (ad 100)), (1, .int (nI v)), (2, .int (nI j)), (3, .int w)] := hl
  have hT := hR.2.2.2.2.2.2.2
  have he := hR.1
  have hF : kFq τ L f (L, f) := kFq.rf
  have hee := hW.2 j hj
  have hkx : kx ((0, nI j, w, 0, 0) : kM).2.1 = j := kx_nI (by omega)
  obtain ⟨at9, hat⟩ : ∃ at9, (E.2.2.1 j = v ∧ at9 = 2 * j) ∨ (E.2.2.2.1 j = v ∧ at9 = 2 * j + 1) := by rcases hend1 with z | z; exact ⟨_, Or.inl ⟨z, rfl⟩⟩; exact ⟨_, Or.inr ⟨z, rfl⟩⟩
  have ha24 : at9 < 24 := by omega
  have heo : k_eo E v j = nI at9 := by unfold k_eo; rcases hat with ⟨z1, z2⟩ | ⟨z1, z2⟩; rw [if_pos z1, z2]; rw [if_neg (by rw [← z1]; exact hne j hj), if_pos z1, z2]
  have hlen1 : ∀ i, i < E.1 → ((k_wake E S v).2.2.1 i).length + 1 < 200 := fun i hi => by have z1 := hlen i hi; have z2 := k_wake_len (E := E) (S := S) (x := v) i; omega
  refine lv_aload_n hx hb d_R_connect_0 rfl (lv_at hl 0 rfl) ?_
  refine lv_iload_n hx hb d_R_connect_1 rfl (lv_at hl 1 rfl) ?_
  refine hp_callv (hp_runV (As := [.int (nI v)]) (rest := []) ⟨hx, hb, hml, hown, hg⟩ (c_R_awake l D tys de sa (v := v) ht ht3 hR hn7 hm12 hW hv hwn (fun i hi => Nat.lt_of_le_of_lt (Nat.le_add_right _ 2) (hlen i hi)) hne hst hendA hasl) (cwV 1 hg (gw_V w635 w637 ws27 w7 w638) rfl rfl rfl (by decide +kernel) ⟨Nat.le_of_ble_eq_true rfl, Nat.le_of_ble_eq_true rfl⟩) (s_ok de sa) hK hX h he rfl rfl rfl hl.1 rfl (Nat.le_of_ble_eq_true rfl) d_R_connect_2 ⟨Nat.le_of_ble_eq_true rfl, Nat.le_of_ble_eq_true rfl⟩) h (fun L2 f2 H locs hp h => ?_)
  obtain ⟨hR, hF1⟩ := hp
  have hL2 := hF1.1
  dsimp only at hR hL2
  have hL2 := hL2.symm
  subst hL2
  have hF := hF.trans hF1
  have he := hR.1
  obtain ⟨gw, hw, hw1⟩ := hR.2.2.1
  obtain ⟨gk, hk, hk1⟩ := hR.2.2.2.1
  obtain ⟨gf0, hf0_, hf01⟩ := hR.2.2.2.2.1 0 (by decide)
  obtain ⟨gf1, hf1_, hf11⟩ := hR.2.2.2.2.1 1 (by decide)
  obtain ⟨gf2, hf2_, hf21⟩ := hR.2.2.2.2.1 2 (by decide)
  obtain ⟨gf3, hf3_, hf31⟩ := hR.2.2.2.2.1 3 (by decide)
  have hgk : gk at9 = (k_wake E S v).2.1 v j := by rcases hat with ⟨z1, z2⟩ | ⟨z1, z2⟩; rw [z2, (hk1 j hj).1, ← z1]; rw [z2, (hk1 j hj).2, ← z1]
  refine lv_aload_n hx hb d_R_connect_5 rfl (lv_at hl 0 rfl) ?_
  refine lv_iload_n hx hb d_R_connect_6 rfl (lv_at hl 1 rfl) ?_
  refine lv_iload_n hx hb d_R_connect_7 rfl (lv_at hl 2 rfl) ?_
  refine hp_callR (hp_runV (As := [.int (nI v), .int (nI j)]) (rest := []) ⟨hx, hb, hml, hown, hg⟩ (c_R_endOf l D tys de sa (v := v) (j := j) ht ht3 hR hn7 hm12 (by omega) hj (by omega) (by omega)) (cwV 2 hg (gw_V w643 w645 ws29 w7 w646) rfl rfl rfl (by decide +kernel) ⟨Nat.le_of_ble_eq_true rfl, Nat.le_of_ble_eq_true rfl⟩) (s_ok de sa) hK hX h he rfl rfl rfl hl.1 rfl (Nat.le_of_ble_eq_true rfl) d_R_connect_8 ⟨Nat.le_of_ble_eq_true rfl, Nat.le_of_ble_eq_true rfl⟩) (fun r1 hp => ?_)
  rw [heo] at hp
  subst hp
  refine lv_istore (lv' := [(4, .int (nI at9)), (0, .ref (ad 100)), (1, .int (nI v)), (2, .int (nI j)), (3, .int w)]) hx hb d_R_connect_11 hl (by decide) rfl (fun ls hl => ?_)
  refine lv_iload_n hx hb d_R_connect_13 rfl (lv_at hl 4 rfl) ?_
  refine lv_aload_n hx hb d_R_connect_14 rfl (lv_at hl 1 rfl) ?_
  refine hp_get (v := .ref (ad 105)) hx hb hg in_R hown hK h he rfl 7 (by decide) (hg _ w551) (fun _ z => z) rfl d_R_connect_15 ?_
  refine lv_iload_n hx hb d_R_connect_18 rfl (lv_at hl 2 rfl) ?_
  refine hp_iald hx hb hK h 0 hf1_ ht rfl (by omega) (by decide) d_R_connect_19 ?_
  rw [show gf1 v = (k_wake E S v).1 v 1 from hf11 v hv]
  refine lv_icmp_ge (tgt := 79) hx hb d_R_connect_20 (by decide) (fun hc => ?_) (fun hc => ?_)
  · skip
    refine lv_aload_n hx hb d_R_connect_79 rfl (lv_at hl 1 rfl) ?_
    refine hp_get (v := .ref (ad 103)) hx hb hg in_R hown hK h he rfl 5 (by decide) (hg _ w549) (fun _ z => z) rfl d_R_connect_80 ?_
    refine lv_iload hx hb d_R_connect_83 (lv_at hl 0 rfl) ?_
    refine hp_iald hx hb hK h 0 hk ht rfl (by omega) (by decide) d_R_connect_85 ?_
    rw [hgk]
    refine lv_if_ne (tgt := 102) hx hb d_R_connect_86 (by decide) (fun hc2 => ?_) (fun hc2 => ?_)
    · skip
      refine lv_aload_n hx hb d_R_connect_102 rfl (lv_at hl 1 rfl) ?_
      refine lv_iload_n hx hb d_R_connect_103 rfl (lv_at hl 2 rfl) ?_
      refine lv_iconst (v := 1) hx hb d_R_connect_104 (by decide) ?_
      refine lv_iload_n hx hb d_R_connect_105 rfl (lv_at hl 3 rfl) ?_
      refine lv_aload_n hx hb d_R_connect_106 rfl (lv_at hl 1 rfl) ?_
      refine hp_get (v := .ref (ad 105)) hx hb hg in_R hown hK h he rfl 7 (by decide) (hg _ w551) (fun _ z => z) rfl d_R_connect_107 ?_
      refine lv_iload_n hx hb d_R_connect_110 rfl (lv_at hl 2 rfl) ?_
      refine hp_iald hx hb hK h 0 hf1_ ht rfl (by omega) (by decide) d_R_connect_111 ?_
      rw [show gf1 v = (k_wake E S v).1 v 1 from hf11 v hv]
      refine lv_iconst (v := 1) hx hb d_R_connect_112 (by decide) ?_
      refine lv_iadd hx hb d_R_connect_113 ?_
      refine lv_aload_n hx hb d_R_connect_114 rfl (lv_at hl 1 rfl) ?_
      refine hp_get (v := .ref (ad 102)) hx hb hg in_R hown hK h he rfl 4 (by decide) (hg _ w548) (fun _ z => z) rfl d_R_connect_115 ?_
      refine lv_iload_n hx hb d_R_connect_118 rfl (lv_at hl 3 rfl) ?_
      refine hp_iald hx hb hK h 0 hw ht rfl (by omega) (by decide) d_R_connect_119 ?_
      rw [show gw j = E.2.2.2.2 j from hw1 j hj]
      refine lv_iconst (v := 1) hx hb d_R_connect_120 (by decide) ?_
      refine hp_callv (hp_runV (As := [.int (nI v), .int 1, .int (nI j), .int (((k_wake E S v).1 v 1) + 1), .int (E.2.2.2.2 j), .int 1]) (rest := []) ⟨hx, hb, hml, hown, hg⟩ (c_R_send l D tys de sa (v := v) (j := j) ht ht3 hR hn7 hm12 (by omega) hj (hW.1 j hj) (by omega) rfl (k_ton hwn hj) (Nat.lt_of_le_of_lt (Nat.le_add_right _ 1) (hlen1 _ (k_ton hwn hj)))) (cwV 6 hg (gw_V w647 w649 ws30 w7 w650) rfl rfl rfl (by decide +kernel) ⟨Nat.le_of_ble_eq_true rfl, Nat.le_of_ble_eq_true rfl⟩) (s_ok de sa) hK hX h he rfl rfl rfl hl.1 rfl (Nat.le_of_ble_eq_true rfl) d_R_connect_121 ⟨Nat.le_of_ble_eq_true rfl, Nat.le_of_ble_eq_true rfl⟩) h (fun L3 f3 H locs hp h => ?_)
      exact hp_vret hx hb hr hlk h (by rw [show k_conn E S v ((0, nI j, w, 0, 0) : kM) = k_post E (k_wake E S v) v (1, nI j, (k_wake E S v).1 v 1 + 1, E.2.2.2.2 j, 1) from by unfold k_conn; rw [if_neg (Int32.not_lt.mpr hc), if_neg (by rw [hkx]; exact hc2), hkx]]; exact ⟨kR.post hp.1, hF.trans hp.2⟩) (by omega) (by omega) d_R_connect_124
    · skip
      refine lv_aload_n hx hb d_R_connect_89 rfl (lv_at hl 1 rfl) ?_
      refine lv_iload_n hx hb d_R_connect_90 rfl (lv_at hl 2 rfl) ?_
      refine lv_iconst (v := 0) hx hb d_R_connect_91 (by decide) ?_
      refine lv_iload_n hx hb d_R_connect_92 rfl (lv_at hl 3 rfl) ?_
      refine lv_iload_n hx hb d_R_connect_93 rfl (lv_at hl 4 rfl) ?_
      refine lv_iconst (v := 0) hx hb d_R_connect_94 (by decide) ?_
      refine lv_iconst (v := 0) hx hb d_R_connect_95 (by decide) ?_
      refine hp_callv (hp_runV (As := [.int (nI v), .int 0, .int (nI j), .int w, .int 0, .int 0]) (rest := []) ⟨hx, hb, hml, hown, hg⟩ (c_R_put l D tys de sa (v := v) (q := (0, nI j, w, 0, 0)) ht ht3 hR hn7 hm12 hv (Nat.lt_of_le_of_lt (Nat.le_add_right _ 1) (hlen1 v hv))) (cwV 6 hg (gw_V w655 w657 ws32 w7 w658) rfl rfl rfl (by decide +kernel) ⟨Nat.le_of_ble_eq_true rfl, Nat.le_of_ble_eq_true rfl⟩) (s_ok de sa) hK hX h he rfl rfl rfl hl.1 rfl (Nat.le_of_ble_eq_true rfl) d_R_connect_96 ⟨Nat.le_of_ble_eq_true rfl, Nat.le_of_ble_eq_true rfl⟩) h (fun L3 f3 H locs hp h => ?_)
      refine lv_goto (tgt := 124) hx hb d_R_connect_99 (by decide) ?_
      exact hp_vret hx hb hr hlk h (by rw [show k_conn E S v ((0, nI j, w, 0, 0) : kM) = k_add (k_wake E S v) v ((0, nI j, w, 0, 0) : kM) from by unfold k_conn; rw [if_neg (Int32.not_lt.mpr hc), if_pos (by rw [hkx]; exact hc2)]]; exact ⟨hp.1, hF.trans hp.2⟩) (by omega) (by omega) d_R_connect_124
  · skip
    refine lv_aload_n hx hb d_R_connect_23 rfl (lv_at hl 1 rfl) ?_
    refine hp_get (v := .ref (ad 103)) hx hb hg in_R hown hK h he rfl 5 (by decide) (hg _ w549) (fun _ z => z) rfl d_R_connect_24 ?_
    refine lv_iload hx hb d_R_connect_27 (lv_at hl 0 rfl) ?_
    refine lv_iconst (v := 1) hx hb d_R_connect_29 (by decide) ?_
    refine hp_iast hx hb hK h 0 hk ht rfl (by omega) (by decide) d_R_connect_30 (fun H locs f3 hf3 h => ?_)
    have he := he.ne' hf3 (kne (hT 100 (by omega) (by omega)) (hT 103 (by omega) (by omega)) (by decide))
    have hw := hw.ne' hf3 (kne (hT 102 (by omega) (by omega)) (hT 103 (by omega) (by omega)) (by decide))
    have hk := hk.self' hf3
    have hf0_ := hf0_.ne' hf3 (kne (hT 104 (by omega) (by omega)) (hT 103 (by omega) (by omega)) (by decide))
    have hf1_ := hf1_.ne' hf3 (kne (hT 105 (by omega) (by omega)) (hT 103 (by omega) (by omega)) (by decide))
    have hf2_ := hf2_.ne' hf3 (kne (hT 106 (by omega) (by omega)) (hT 103 (by omega) (by omega)) (by decide))
    have hf3_ := hf3_.ne' hf3 (kne (hT 107 (by omega) (by omega)) (hT 103 (by omega) (by omega)) (by decide))
    have hR : kR cI cZ ad τ L f3 code E (k_mark (k_wake E S v) v j 1) := hR.wK (f1 := f3) (z := kup (k_wake E S v).2.1 v (upd ((k_wake E S v).2.1 v) j 1)) hf3 (k_mkw hk1 hne hj hat)
    have hF := hF.trans (kFq.w (L := L) hf3 (hT 103 (by omega) (by omega)) (by omega) (by omega))
    refine lv_aload_n hx hb d_R_connect_31 rfl (lv_at hl 1 rfl) ?_
    refine lv_iload_n hx hb d_R_connect_32 rfl (lv_at hl 2 rfl) ?_
    refine lv_iconst (v := 1) hx hb d_R_connect_33 (by decide) ?_
    refine lv_iload_n hx hb d_R_connect_34 rfl (lv_at hl 3 rfl) ?_
    refine lv_aload_n hx hb d_R_connect_35 rfl (lv_at hl 1 rfl) ?_
    refine hp_get (v := .ref (ad 105)) hx hb hg in_R hown hK h he rfl 7 (by decide) (hg _ w551) (fun _ z => z) rfl d_R_connect_36 ?_
    refine lv_iload_n hx hb d_R_connect_39 rfl (lv_at hl 2 rfl) ?_
    refine hp_iald hx hb hK h 0 hf1_ ht rfl (by omega) (by decide) d_R_connect_40 ?_
    rw [show gf1 v = (k_mark (k_wake E S v) v j 1).1 v 1 from hf11 v hv]
    refine lv_aload_n hx hb d_R_connect_41 rfl (lv_at hl 1 rfl) ?_
    refine hp_get (v := .ref (ad 106)) hx hb hg in_R hown hK h he rfl 8 (by decide) (hg _ w552) (fun _ z => z) rfl d_R_connect_42 ?_
    refine lv_iload_n hx hb d_R_connect_45 rfl (lv_at hl 2 rfl) ?_
    refine hp_iald hx hb hK h 0 hf2_ ht rfl (by omega) (by decide) d_R_connect_46 ?_
    rw [show gf2 v = (k_mark (k_wake E S v) v j 1).1 v 2 from hf21 v hv]
    refine lv_aload_n hx hb d_R_connect_47 rfl (lv_at hl 1 rfl) ?_
    refine hp_get (v := .ref (ad 104)) hx hb hg in_R hown hK h he rfl 6 (by decide) (hg _ w550) (fun _ z => z) rfl d_R_connect_48 ?_
    refine lv_iload_n hx hb d_R_connect_51 rfl (lv_at hl 2 rfl) ?_
    refine hp_iald hx hb hK h 0 hf0_ ht rfl (by omega) (by decide) d_R_connect_52 ?_
    rw [show gf0 v = (k_mark (k_wake E S v) v j 1).1 v 0 from hf01 v hv]
    have hcn : k_conn E S v ((0, nI j, w, 0, 0) : kM) = k_ini1 E (k_mark (k_wake E S v) v j 1) v j := by unfold k_conn; rw [if_pos (Int32.not_le.mp hc), hkx]
    refine hp_callv (hp_runV (As := [.int (nI v), .int 1, .int (nI j), .int ((k_mark (k_wake E S v) v j 1).1 v 1), .int ((k_mark (k_wake E S v) v j 1).1 v 2), .int ((k_mark (k_wake E S v) v j 1).1 v 0)]) (rest := []) ⟨hx, hb, hml, hown, hg⟩ (c_R_send l D tys de sa (v := v) (j := j) ht ht3 hR hn7 hm12 (by omega) hj (hW.1 j hj) (by omega) rfl (k_ton hwn hj) (Nat.lt_of_le_of_lt (Nat.le_add_right _ 1) (hlen1 _ (k_ton hwn hj)))) (cwV 6 hg (gw_V w647 w649 ws30 w7 w650) rfl rfl rfl (by decide +kernel) ⟨Nat.le_of_ble_eq_true rfl, Nat.le_of_ble_eq_true rfl⟩) (s_ok de sa) hK hX h he rfl rfl rfl hl.1 rfl (Nat.le_of_ble_eq_true rfl) d_R_connect_53 ⟨Nat.le_of_ble_eq_true rfl, Nat.le_of_ble_eq_true rfl⟩) h (fun L3 f4 H locs hp h => ?_)
    obtain ⟨hR, hF1⟩ := hp
    have hL2 := hF1.1
    dsimp only at hR hL2
    have hL2 := hL2.symm
    subst hL2
    have hF := hF.trans hF1
    have he := hR.1
    obtain ⟨gf0, hf0_, hf01⟩ := hR.2.2.2.2.1 0 (by decide)
    obtain ⟨gf3, hf3_, hf31⟩ := hR.2.2.2.2.1 3 (by decide)
    refine lv_aload_n hx hb d_R_connect_56 rfl (lv_at hl 1 rfl) ?_
    refine hp_get (v := .ref (ad 104)) hx hb hg in_R hown hK h he rfl 6 (by decide) (hg _ w550) (fun _ z => z) rfl d_R_connect_57 ?_
    refine lv_iload_n hx hb d_R_connect_60 rfl (lv_at hl 2 rfl) ?_
    refine hp_iald hx hb hK h 0 hf0_ ht rfl (by omega) (by decide) d_R_connect_61 ?_
    rw [show gf0 v = (k_post E (k_mark (k_wake E S v) v j 1) v (1, nI j, (k_mark (k_wake E S v) v j 1).1 v 1, (k_mark (k_wake E S v) v j 1).1 v 2, (k_mark (k_wake E S v) v j 1).1 v 0)).1 v 0 from hf01 v hv]
    refine lv_iconst (v := 1) hx hb d_R_connect_62 (by decide) ?_
    refine lv_icmp_ne (tgt := 124) hx hb d_R_connect_63 (by decide) (fun hc3 => ?_) (fun hc3 => ?_)
    · skip
      exact hp_vret hx hb hr hlk h (by rw [hcn, show k_ini1 E (k_mark (k_wake E S v) v j 1) v j = (k_post E (k_mark (k_wake E S v) v j 1) v (1, nI j, (k_mark (k_wake E S v) v j 1).1 v 1, (k_mark (k_wake E S v) v j 1).1 v 2, (k_mark (k_wake E S v) v j 1).1 v 0)) from if_neg hc3]; exact ⟨kR.post hR, hF⟩) (by omega) (by omega) d_R_connect_124
    · skip
      refine lv_aload_n hx hb d_R_connect_66 rfl (lv_at hl 1 rfl) ?_
      refine hp_get (v := .ref (ad 107)) hx hb hg in_R hown hK h he rfl 9 (by decide) (hg _ w553) (fun _ z => z) rfl d_R_connect_67 ?_
      refine lv_iload_n hx hb d_R_connect_70 rfl (lv_at hl 2 rfl) ?_
      refine lv_dup2_11 hx hb d_R_connect_71 rfl rfl ?_
      refine hp_iald hx hb hK h 0 hf3_ ht rfl (by omega) (by decide) d_R_connect_72 ?_
      rw [show gf3 v = (k_post E (k_mark (k_wake E S v) v j 1) v (1, nI j, (k_mark (k_wake E S v) v j 1).1 v 1, (k_mark (k_wake E S v) v j 1).1 v 2, (k_mark (k_wake E S v) v j 1).1 v 0)).1 v 3 from hf31 v hv]
      refine lv_iconst (v := 1) hx hb d_R_connect_73 (by decide) ?_
      refine lv_iadd hx hb d_R_connect_74 ?_
      refine hp_iast hx hb hK h 0 hf3_ ht rfl (by omega) (by decide) d_R_connect_75 (fun H locs f5 hf5 h => ?_)
      have he := he.ne' hf5 (kne (hT 100 (by omega) (by omega)) (hT 107 (by omega) (by omega)) (by decide))
      have hf0_ := hf0_.ne' hf5 (kne (hT 104 (by omega) (by omega)) (hT 107 (by omega) (by omega)) (by decide))
      have hf3_ := hf3_.self' hf5
      have hR := (kR.post hR).wF (f1 := f5) (k := 3) (x := v) (a := (k_post E (k_mark (k_wake E S v) v j 1) v (1, nI j, (k_mark (k_wake E S v) v j 1).1 v 1, (k_mark (k_wake E S v) v j 1).1 v 2, (k_mark (k_wake E S v) v j 1).1 v 0)).1 v 3 + 1) (by decide) hf5 (k_col hf31)
      have hF := hF.trans (kFq.w (L := L) hf5 (hT 107 (by omega) (by omega)) (by omega) (by omega))
      refine lv_goto (tgt := 124) hx hb d_R_connect_76 (by decide) ?_
      exact hp_vret hx hb hr hlk h (by rw [hcn, show k_ini1 E (k_mark (k_wake E S v) v j 1) v j = k_fld (k_post E (k_mark (k_wake E S v) v j 1) v (1, nI j, (k_mark (k_wake E S v) v j 1).1 v 1, (k_mark (k_wake E S v) v j 1).1 v 2, (k_mark (k_wake E S v) v j 1).1 v 0)) v 3 ((k_post E (k_mark (k_wake E S v) v j 1) v (1, nI j, (k_mark (k_wake E S v) v j 1).1 v 1, (k_mark (k_wake E S v) v j 1).1 v 2, (k_mark (k_wake E S v) v j 1).1 v 0)).1 v 3 + 1) from if_pos hc3]; exact ⟨hR, hF⟩) (by omega) (by omega) d_R_connect_124
