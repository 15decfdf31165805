/-! The reference's awake, by program (wip/mk46.py). -/
set_option maxHeartbeats 4000000 in
set_option maxRecDepth 100000 in
theorem c_R_awake (l : Launch) (D : va_G) (tys : List (ClassId × FieldType)) (de : Nat) (sa : Nat → Nat) {L : List Nat} {f : Nat → va_E} {v : Nat} {ad τ : Nat → Nat} {E : kE} {S : kS} {code : Int32} {cI cZ : ClassId} (ht : tys[0]? = some (cI, .int)) (ht3 : tys[3]? = some (cZ, .boolean)) (hR : kR cI cZ ad τ L f code E S) (hn7 : E.1 ≤ 7) (hm12 : E.2.1 ≤ 12) (hW : kWE E) (hv : v < E.1) (hwn : ∀ j, j < E.2.1 → E.2.2.1 j < E.1 ∧ E.2.2.2.1 j < E.1) (hlen : ∀ i, i < E.1 → (S.2.2.1 i).length < 200) (hne : ∀ j, j < E.2.1 → E.2.2.1 j ≠ E.2.2.2.1 j) (hst : S.1 v 0 = 0 ∨ 0 < S.1 v 0) (hend : ∀ k, k < E.2.1 → S.2.1 v k = 0 → E.2.2.1 k = v ∨ E.2.2.2.1 k = v) (hasl : S.1 v 0 = 0 → ∀ k, k < E.2.1 → (E.2.2.1 k = v ∨ E.2.2.2.1 k = v) → S.2.1 v k = 0) : hp_Mv l y_R_awake (gw_ws y_R_awake b_R_awake 3 none) { frames := 2, cells := 0, slots := 0, locals := 53 } D kc tys (s_X de sa) [.ref (ad 100), .int (nI v)] L f (kRP cI cZ ad τ L f code E (k_wake E S v)) 0 0 := by
  refine hp_ofW (Qc := fun A => va_Qv (kRP cI cZ ad τ L f code E (k_wake E S v)) (hp_B D kc A) A) (fr := fun A => A) (ret := none) (by decide) rfl (Nat.le_of_ble_eq_true rfl) ?_
  intro p e s m below meth c ls A hx hb hml hr hts hown hlk hnm hl hK hX h
  have hg : ∀ w ∈ gw, w.before _ s = true := fun w hw => hts w (List.mem_cons_of_mem _ hw)
  have hown : s.vm.findClass "MergingFragmentsModel" = some m.cls := hown
  have hnm : meth.name = "awake" := hnm
  have hl : lv_has ls 3 [(0, .ref (ad 100)), (1, .int (nI v))] := hl
  have hT := hR.2.2.2.2.2.2.2
  have he := hR.1
  obtain ⟨gk, hk, hk1⟩ := hR.2.2.2.1
  obtain ⟨gf0, hf0_, hf01⟩ := hR.2.2.2.2.1 0 (by decide)
  refine lv_aload_n hx hb d_R_awake_0 rfl (lv_at hl 0 rfl) ?_
  refine hp_get (v := .ref (ad 104)) hx hb hg in_R hown hK h he rfl 6 (by decide) (hg _ w550) (fun _ z => z) rfl d_R_awake_1 ?_
  refine lv_iload_n hx hb d_R_awake_4 rfl (lv_at hl 1 rfl) ?_
  refine hp_iald hx hb hK h 0 hf0_ ht rfl (by omega) (by decide) d_R_awake_5 ?_
  rw [show gf0 v = S.1 v 0 from hf01 v hv]
  refine lv_if_le (tgt := 10) hx hb d_R_awake_6 (by decide) (fun hc => ?_) (fun hc => ?_)
  · skip
    have h0 : S.1 v 0 = 0 := hst.resolve_right (Int32.not_lt.mpr hc)
    refine lv_aload_n hx hb d_R_awake_10 rfl (lv_at hl 0 rfl) ?_
    refine hp_get (v := .ref (ad 104)) hx hb hg in_R hown hK h he rfl 6 (by decide) (hg _ w550) (fun _ z => z) rfl d_R_awake_11 ?_
    refine lv_iload_n hx hb d_R_awake_14 rfl (lv_at hl 1 rfl) ?_
    refine lv_iconst (v := 2) hx hb d_R_awake_15 (by decide) ?_
    refine hp_iast hx hb hK h 0 hf0_ ht rfl (by omega) (by decide) d_R_awake_16 (fun H locs f1 hf1 h => ?_)
    have he := he.ne' hf1 (kne (hT 100 (by omega) (by omega)) (hT 104 (by omega) (by omega)) (by decide))
    have hk := hk.ne' hf1 (kne (hT 103 (by omega) (by omega)) (hT 104 (by omega) (by omega)) (by decide))
    have hf0_ := hf0_.self' hf1
    have hR1 := hR.wF (f1 := f1) (k := 0) (x := v) (a := 2) (by decide) hf1 (k_col hf01)
    have hF1 : kFq τ L f (L, f1) := kFq.w hf1 (hT 104 (by omega) (by omega)) (by omega) (by omega)
    refine lv_aload_n hx hb d_R_awake_17 rfl (lv_at hl 0 rfl) ?_
    refine lv_iload_n hx hb d_R_awake_18 rfl (lv_at hl 1 rfl) ?_
    refine lv_iconst (v := 0) hx hb d_R_awake_19 (by decide) ?_
    refine hp_callR (hp_runV (As := [.int (nI v), .int 0]) (rest := []) ⟨hx, hb, hml, hown, hg⟩ (c_R_lightest l D tys de sa (v := v) (bb := 0) ht ht3 hR1 hn7 hm12 hW (by omega) (fun k hk => ⟨fun z => hasl h0 k hk z.1, fun z => ⟨hend k hk z, Or.inl rfl⟩⟩)) (cwV 2 hg (gw_V w639 w641 ws28 w7 w642) rfl rfl rfl (by decide +kernel) ⟨Nat.le_of_ble_eq_true rfl, Nat.le_of_ble_eq_true rfl⟩) (s_ok de sa) hK hX h he rfl rfl rfl hl.1 rfl (Nat.le_of_ble_eq_true rfl) d_R_awake_20 ⟨Nat.le_of_ble_eq_true rfl, Nat.le_of_ble_eq_true rfl⟩) (fun r1 hp => ?_)
    cases ho : k_lb E (k_fld S v 0 2) v E.2.1 with
    | none =>
      rw [ho] at hp
      have hp : r1 = -1 := hp
      subst hp
      refine lv_istore_n (lv' := [(2, .int (-1)), (0, .ref (ad 100)), (1, .int (nI v))]) hx hb d_R_awake_23 rfl hl (by decide) rfl (fun ls hl => ?_)
      refine lv_iload_n hx hb d_R_awake_24 rfl (lv_at hl 0 rfl) ?_
      refine lv_if_lt (tgt := 50) hx hb d_R_awake_25 (by decide) (fun hc2 => ?_) (fun hc2 => ?_)
      · skip
        exact hp_vret hx hb hr hlk h (by rw [k_wake1 h0 ho]; exact ⟨hR1, hF1⟩) (by omega) (by omega) d_R_awake_50
      · skip
        exact absurd (by decide) hc2
    | some j =>
      have hj := (k_lb_lt ho).1
      have hmj : S.2.1 v j = 0 := (k_lb_lt ho).2
      rw [ho] at hp
      have hp : r1 = nI j := hp
      subst hp
      refine lv_istore_n (lv' := [(2, .int (nI j)), (0, .ref (ad 100)), (1, .int (nI v))]) hx hb d_R_awake_23 rfl hl (by decide) rfl (fun ls hl => ?_)
      refine lv_iload_n hx hb d_R_awake_24 rfl (lv_at hl 0 rfl) ?_
      refine lv_if_lt (tgt := 50) hx hb d_R_awake_25 (by decide) (fun hc2 => ?_) (fun hc2 => ?_)
      · skip
        exact absurd hc2 (nI_pos (by omega))
      · skip
        have hee := hW.2 j hj
        have hend1 := hend j hj hmj
        obtain ⟨at9, hat⟩ : ∃ at9, (E.2.2.1 j = v ∧ at9 = 2 * j) ∨ (E.2.2.2.1 j = v ∧ at9 = 2 * j + 1) := by rcases hend1 with z | z; exact ⟨_, Or.inl ⟨z, rfl⟩⟩; exact ⟨_, Or.inr ⟨z, rfl⟩⟩
        have ha24 : at9 < 24 := by omega
        have heo : k_eo E v j = nI at9 := by unfold k_eo; rcases hat with ⟨z1, z2⟩ | ⟨z1, z2⟩; rw [if_pos z1, z2]; rw [if_neg (by rw [← z1]; exact hne j hj), if_pos z1, z2]
        refine lv_aload_n hx hb d_R_awake_28 rfl (lv_at hl 1 rfl) ?_
        refine hp_get (v := .ref (ad 103)) hx hb hg in_R hown hK h he rfl 5 (by decide) (hg _ w549) (fun _ z => z) rfl d_R_awake_29 ?_
        refine lv_aload_n hx hb d_R_awake_32 rfl (lv_at hl 1 rfl) ?_
        refine lv_iload_n hx hb d_R_awake_33 rfl (lv_at hl 2 rfl) ?_
        refine lv_iload_n hx hb d_R_awake_34 rfl (lv_at hl 0 rfl) ?_
        refine hp_callR (hp_runV (As := [.int (nI v), .int (nI j)]) (rest := [.ref (ad 103)]) ⟨hx, hb, hml, hown, hg⟩ (c_R_endOf l D tys de sa (v := v) (j := j) ht ht3 hR1 hn7 hm12 (by omega) hj (by omega) (by omega)) (cwV 2 hg (gw_V w643 w645 ws29 w7 w646) rfl rfl rfl (by decide +kernel) ⟨Nat.le_of_ble_eq_true rfl, Nat.le_of_ble_eq_true rfl⟩) (s_ok de sa) hK hX h he rfl rfl rfl hl.1 rfl (Nat.le_of_ble_eq_true rfl) d_R_awake_35 ⟨Nat.le_of_ble_eq_true rfl, Nat.le_of_ble_eq_true rfl⟩) (fun r1 hp => ?_)
        rw [heo] at hp
        subst hp
        refine lv_iconst (v := 1) hx hb d_R_awake_38 (by decide) ?_
        refine hp_iast hx hb hK h 0 hk ht rfl (by omega) (by decide) d_R_awake_39 (fun H locs f2 hf2 h => ?_)
        have he := he.ne' hf2 (kne (hT 100 (by omega) (by omega)) (hT 103 (by omega) (by omega)) (by decide))
        have hk := hk.self' hf2
        have hf0_ := hf0_.ne' hf2 (kne (hT 104 (by omega) (by omega)) (hT 103 (by omega) (by omega)) (by decide))
        have hR2 : kR cI cZ ad τ L f2 code E (k_mark (k_fld S v 0 2) v j 1) := hR1.wK (f1 := f2) (z := kup S.2.1 v (upd (S.2.1 v) j 1)) hf2 (k_mkw hk1 hne hj hat)
        have hF2 : kFq τ L f (L, f2) := hF1.trans (kFq.w hf2 (hT 103 (by omega) (by omega)) (by omega) (by omega))
        refine lv_aload_n hx hb d_R_awake_40 rfl (lv_at hl 1 rfl) ?_
        refine lv_iload_n hx hb d_R_awake_41 rfl (lv_at hl 2 rfl) ?_
        refine lv_iconst (v := 0) hx hb d_R_awake_42 (by decide) ?_
        refine lv_iload_n hx hb d_R_awake_43 rfl (lv_at hl 0 rfl) ?_
        refine lv_iconst (v := 0) hx hb d_R_awake_44 (by decide) ?_
        refine lv_iconst (v := 0) hx hb d_R_awake_45 (by decide) ?_
        refine lv_iconst (v := 0) hx hb d_R_awake_46 (by decide) ?_
        refine hp_callv (hp_runV (As := [.int (nI v), .int 0, .int (nI j), .int 0, .int 0, .int 0]) (rest := []) ⟨hx, hb, hml, hown, hg⟩ (c_R_send l D tys de sa (v := v) (j := j) ht ht3 hR2 hn7 hm12 (by omega) hj (hW.1 j hj) (by omega) rfl (k_ton hwn hj) (hlen _ (k_ton hwn hj))) (cwV 6 hg (gw_V w647 w649 ws30 w7 w650) rfl rfl rfl (by decide +kernel) ⟨Nat.le_of_ble_eq_true rfl, Nat.le_of_ble_eq_true rfl⟩) (s_ok de sa) hK hX h he rfl rfl rfl hl.1 rfl (Nat.le_of_ble_eq_true rfl) d_R_awake_47 ⟨Nat.le_of_ble_eq_true rfl, Nat.le_of_ble_eq_true rfl⟩) h (fun L2 f3 H locs hp h => ?_)
        exact hp_vret hx hb hr hlk h (by rw [k_wake2 h0 ho]; exact ⟨kR.post hp.1, hF2.trans hp.2⟩) (by omega) (by omega) d_R_awake_50
  · skip
    exact hp_vret hx hb hr hlk h (by rw [k_wake0 (fun z => hc (by rw [z]; decide))]; exact ⟨hR, kFq.rf⟩) (by omega) (by omega) d_R_awake_9
