/-! The reference's moveCore, by program (wip/mk47.py). -/
set_option maxHeartbeats 4000000 in
set_option maxRecDepth 100000 in
theorem c_R_moveCore (l : Launch) (D : va_G) (tys : List (ClassId × FieldType)) (de : Nat) (sa : Nat → Nat) {L : List Nat} {f : Nat → va_E} {v j : Nat} {ad τ : Nat → Nat} {E : kE} {S : kS} {code : Int32} {cI cZ : ClassId} (ht : tys[0]? = some (cI, .int)) (ht3 : tys[3]? = some (cZ, .boolean)) (hR : kR cI cZ ad τ L f code E S) (hn7 : E.1 ≤ 7) (hm12 : E.2.1 ≤ 12) (hW : kWE E) (hv : v < E.1) (hwn : ∀ j, j < E.2.1 → E.2.2.1 j < E.1 ∧ E.2.2.2.1 j < E.1) (hlen : ∀ i, i < E.1 → (S.2.2.1 i).length < 200) (hne : ∀ j, j < E.2.1 → E.2.2.1 j ≠ E.2.2.2.1 j) (hj : j < E.2.1) (hbj : S.1 v 5 = nI j) (hend1 : E.2.2.1 j = v ∨ E.2.2.2.1 j = v) : hp_Mv l y_R_moveCore (gw_ws y_R_moveCore b_R_moveCore 3 none) { frames := 2, cells := 0, slots := 0, locals := 53 } D kc tys (s_X de sa) [.ref (ad 100), .int (nI v)] L f (kRP cI cZ ad τ L f code E (k_move E S v)) 0 0 := by
  refine hp_ofW (Qc := fun A => va_Qv (kRP cI cZ ad τ L f code E (k_move E S v)) (hp_B D kc A) A) (fr := fun A => A) (ret := none) (by decide) rfl (Nat.le_of_ble_eq_true rfl) ?_
  intro p e s m below meth c ls A hx hb hml hr hts hown hlk hnm hl hK hX h
  have hg : ∀ w ∈ gw, w.before _ s = true := fun w hw => hts w (List.mem_cons_of_mem _ hw)
  have hown : s.vm.findClass "MergingFragmentsModel" = some m.cls := hown
  have hnm : meth.name = "moveCore" := hnm
  have hl : lv_has ls 3 [(0, .ref (ad 100)), (1, .int (nI v))] := hl
  have hT := hR.2.2.2.2.2.2.2
  have he := hR.1
  obtain ⟨gk, hk, hk1⟩ := hR.2.2.2.1
  obtain ⟨gf1, hf1_, hf11⟩ := hR.2.2.2.2.1 1 (by decide)
  obtain ⟨gf5, hf5_, hf51⟩ := hR.2.2.2.2.1 5 (by decide)
  have hee := hW.2 j hj
  have hkx : kx (S.1 v 5) = j := by rw [hbj]; exact kx_nI (by omega)
  obtain ⟨at9, hat⟩ : ∃ at9, (E.2.2.1 j = v ∧ at9 = 2 * j) ∨ (E.2.2.2.1 j = v ∧ at9 = 2 * j + 1) := by rcases hend1 with z | z; exact ⟨_, Or.inl ⟨z, rfl⟩⟩; exact ⟨_, Or.inr ⟨z, rfl⟩⟩
  have ha24 : at9 < 24 := by omega
  have heo : k_eo E v j = nI at9 := by unfold k_eo; rcases hat with ⟨z1, z2⟩ | ⟨z1, z2⟩; rw [if_pos z1, z2]; rw [if_neg (by rw [← z1]; exact hne j hj), if_pos z1, z2]
  have hgk : gk at9 = S.2.1 v j := by rcases hat with ⟨z1, z2⟩ | ⟨z1, z2⟩; rw [z2, (hk1 j hj).1, ← z1]; rw [z2, (hk1 j hj).2, ← z1]
  refine lv_aload_n hx hb d_R_moveCore_0 rfl (lv_at hl 0 rfl) ?_
  refine lv_iload_n hx hb d_R_moveCore_1 rfl (lv_at hl 1 rfl) ?_
  refine lv_aload_n hx hb d_R_moveCore_2 rfl (lv_at hl 0 rfl) ?_
  refine hp_get (v := .ref (ad 109)) hx hb hg in_R hown hK h he rfl 11 (by decide) (hg _ w555) (fun _ z => z) rfl d_R_moveCore_3 ?_
  refine lv_iload_n hx hb d_R_moveCore_6 rfl (lv_at hl 1 rfl) ?_
  refine hp_iald hx hb hK h 0 hf5_ ht rfl (by omega) (by decide) d_R_moveCore_7 ?_
  rw [show gf5 v = nI j from (hf51 v hv).trans hbj]
  refine hp_callR (hp_runV (As := [.int (nI v), .int (nI j)]) (rest := []) ⟨hx, hb, hml, hown, hg⟩ (c_R_endOf l D tys de sa (v := v) (j := j) ht ht3 hR hn7 hm12 (by omega) hj (by omega) (by omega)) (cwV 2 hg (gw_V w643 w645 ws29 w7 w646) rfl rfl rfl (by decide +kernel) ⟨Nat.le_of_ble_eq_true rfl, Nat.le_of_ble_eq_true rfl⟩) (s_ok de sa) hK hX h he rfl rfl rfl hl.1 rfl (Nat.le_of_ble_eq_true rfl) d_R_moveCore_8 ⟨Nat.le_of_ble_eq_true rfl, Nat.le_of_ble_eq_true rfl⟩) (fun r1 hp => ?_)
  rw [heo] at hp
  subst hp
  refine lv_istore_n (lv' := [(2, .int (nI at9)), (0, .ref (ad 100)), (1, .int (nI v))]) hx hb d_R_moveCore_11 rfl hl (by decide) rfl (fun ls hl => ?_)
  refine lv_aload_n hx hb d_R_moveCore_12 rfl (lv_at hl 1 rfl) ?_
  refine hp_get (v := .ref (ad 103)) hx hb hg in_R hown hK h he rfl 5 (by decide) (hg _ w549) (fun _ z => z) rfl d_R_moveCore_13 ?_
  refine lv_iload_n hx hb d_R_moveCore_16 rfl (lv_at hl 0 rfl) ?_
  refine hp_iald hx hb hK h 0 hk ht rfl (by omega) (by decide) d_R_moveCore_17 ?_
  rw [hgk]
  refine lv_iconst (v := 1) hx hb d_R_moveCore_18 (by decide) ?_
  refine lv_icmp_ne (tgt := 41) hx hb d_R_moveCore_19 (by decide) (fun hc => ?_) (fun hc => ?_)
  · skip
    have hS9 : k_move E S v = k_mark (k_post E S v (0, nI j, S.1 v 1, 0, 0)) v j 1 := by unfold k_move; rw [if_neg (by rw [hkx]; exact hc), hkx, hbj]
    refine lv_aload_n hx hb d_R_moveCore_41 rfl (lv_at hl 1 rfl) ?_
    refine lv_iload_n hx hb d_R_moveCore_42 rfl (lv_at hl 2 rfl) ?_
    refine lv_iconst (v := 0) hx hb d_R_moveCore_43 (by decide) ?_
    refine lv_aload_n hx hb d_R_moveCore_44 rfl (lv_at hl 1 rfl) ?_
    refine hp_get (v := .ref (ad 109)) hx hb hg in_R hown hK h he rfl 11 (by decide) (hg _ w555) (fun _ z => z) rfl d_R_moveCore_45 ?_
    refine lv_iload_n hx hb d_R_moveCore_48 rfl (lv_at hl 2 rfl) ?_
    refine hp_iald hx hb hK h 0 hf5_ ht rfl (by omega) (by decide) d_R_moveCore_49 ?_
    rw [show gf5 v = nI j from (hf51 v hv).trans hbj]
    refine lv_aload_n hx hb d_R_moveCore_50 rfl (lv_at hl 1 rfl) ?_
    refine hp_get (v := .ref (ad 105)) hx hb hg in_R hown hK h he rfl 7 (by decide) (hg _ w551) (fun _ z => z) rfl d_R_moveCore_51 ?_
    refine lv_iload_n hx hb d_R_moveCore_54 rfl (lv_at hl 2 rfl) ?_
    refine hp_iald hx hb hK h 0 hf1_ ht rfl (by omega) (by decide) d_R_moveCore_55 ?_
    rw [show gf1 v = S.1 v 1 from hf11 v hv]
    refine lv_iconst (v := 0) hx hb d_R_moveCore_56 (by decide) ?_
    refine lv_iconst (v := 0) hx hb d_R_moveCore_57 (by decide) ?_
    refine hp_callv (hp_runV (As := [.int (nI v), .int 0, .int (nI j), .int (S.1 v 1), .int 0, .int 0]) (rest := []) ⟨hx, hb, hml, hown, hg⟩ (c_R_send l D tys de sa (v := v) (j := j) ht ht3 hR hn7 hm12 (by omega) hj (hW.1 j hj) (by omega) rfl (k_ton hwn hj) (hlen _ (k_ton hwn hj))) (cwV 6 hg (gw_V w647 w649 ws30 w7 w650) rfl rfl rfl (by decide +kernel) ⟨Nat.le_of_ble_eq_true rfl, Nat.le_of_ble_eq_true rfl⟩) (s_ok de sa) hK hX h he rfl rfl rfl hl.1 rfl (Nat.le_of_ble_eq_true rfl) d_R_moveCore_58 ⟨Nat.le_of_ble_eq_true rfl, Nat.le_of_ble_eq_true rfl⟩) h (fun L2 f2 H locs hp h => ?_)
    obtain ⟨hR2, hF2⟩ := hp
    have hL2 := hF2.1
    dsimp only at hR2 hL2
    have hL2 := hL2.symm
    subst hL2
    have hR2 := kR.post hR2
    have he := hR2.1
    obtain ⟨gk, hk, hk1⟩ := hR2.2.2.2.1
    refine lv_aload_n hx hb d_R_moveCore_61 rfl (lv_at hl 1 rfl) ?_
    refine hp_get (v := .ref (ad 103)) hx hb hg in_R hown hK h he rfl 5 (by decide) (hg _ w549) (fun _ z => z) rfl d_R_moveCore_62 ?_
    refine lv_iload_n hx hb d_R_moveCore_65 rfl (lv_at hl 0 rfl) ?_
    refine lv_iconst (v := 1) hx hb d_R_moveCore_66 (by decide) ?_
    refine hp_iast hx hb hK h 0 hk ht rfl (by omega) (by decide) d_R_moveCore_67 (fun H locs f3 hf3 h => ?_)
    have he := he.ne' hf3 (kne (hT 100 (by omega) (by omega)) (hT 103 (by omega) (by omega)) (by decide))
    have hk := hk.self' hf3
    have hR3 : kR cI cZ ad τ L f3 code E (k_mark (k_post E S v (0, nI j, S.1 v 1, 0, 0)) v j 1) := hR2.wK (f1 := f3) (z := kup S.2.1 v (upd (S.2.1 v) j 1)) hf3 (k_mkw hk1 hne hj hat)
    exact hp_vret hx hb hr hlk h (by rw [hS9]; exact ⟨hR3, hF2.trans (kFq.w hf3 (hT 103 (by omega) (by omega)) (by omega) (by omega))⟩) (by omega) (by omega) d_R_moveCore_68
  · skip
    have hS9 : k_move E S v = k_post E S v (6, nI j, 0, 0, 0) := by unfold k_move; rw [if_pos (by rw [hkx]; exact hc), hbj]
    refine lv_aload_n hx hb d_R_moveCore_22 rfl (lv_at hl 1 rfl) ?_
    refine lv_iload_n hx hb d_R_moveCore_23 rfl (lv_at hl 2 rfl) ?_
    refine lv_bipush (v := 6) hx hb d_R_moveCore_24 (by decide) ?_
    refine lv_aload_n hx hb d_R_moveCore_26 rfl (lv_at hl 1 rfl) ?_
    refine hp_get (v := .ref (ad 109)) hx hb hg in_R hown hK h he rfl 11 (by decide) (hg _ w555) (fun _ z => z) rfl d_R_moveCore_27 ?_
    refine lv_iload_n hx hb d_R_moveCore_30 rfl (lv_at hl 2 rfl) ?_
    refine hp_iald hx hb hK h 0 hf5_ ht rfl (by omega) (by decide) d_R_moveCore_31 ?_
    rw [show gf5 v = nI j from (hf51 v hv).trans hbj]
    refine lv_iconst (v := 0) hx hb d_R_moveCore_32 (by decide) ?_
    refine lv_iconst (v := 0) hx hb d_R_moveCore_33 (by decide) ?_
    refine lv_iconst (v := 0) hx hb d_R_moveCore_34 (by decide) ?_
    refine hp_callv (hp_runV (As := [.int (nI v), .int 6, .int (nI j), .int 0, .int 0, .int 0]) (rest := []) ⟨hx, hb, hml, hown, hg⟩ (c_R_send l D tys de sa (v := v) (j := j) ht ht3 hR hn7 hm12 (by omega) hj (hW.1 j hj) (by omega) rfl (k_ton hwn hj) (hlen _ (k_ton hwn hj))) (cwV 6 hg (gw_V w647 w649 ws30 w7 w650) rfl rfl rfl (by decide +kernel) ⟨Nat.le_of_ble_eq_true rfl, Nat.le_of_ble_eq_true rfl⟩) (s_ok de sa) hK hX h he rfl rfl rfl hl.1 rfl (Nat.le_of_ble_eq_true rfl) d_R_moveCore_35 ⟨Nat.le_of_ble_eq_true rfl, Nat.le_of_ble_eq_true rfl⟩) h (fun L2 f2 H locs hp h => ?_)
    refine lv_goto (tgt := 68) hx hb d_R_moveCore_38 (by decide) ?_
    exact hp_vret hx hb hr hlk h (by rw [hS9]; exact ⟨kR.post hp.1, hp.2⟩) (by omega) (by omega) d_R_moveCore_68
