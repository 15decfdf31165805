/-! MergingFragments.send, by program (wip/mk23.py). -/
theorem nI_ne1 {n : Nat} (h : n < 2 ^ 31) : ¬ nI n = -1 := fun z => nI_pos h (by rw [z]; decide)
set_option maxHeartbeats 4000000 in
set_option maxRecDepth 100000 in
theorem c_G_send (l : Launch) (D : va_G) (tys : List (ClassId × FieldType)) (de : Nat) (sa : Nat → Nat) {L : List Nat} {f : Nat → va_E} {x y j t : Nat} {q : kM} {ad τ : Nat → Nat} {E : kE} {S : kS} {cI cO cN : ClassId} (ht : tys[0]? = some (cI, .int)) (ht1 : tys[1]? = some (cO, .object "java/lang/Object")) (ht2 : tys[2]? = some (cN, .object "MergingFragments$Node")) (hG : kG cI cO cN de ad τ L f E S) (hx7 : x < 7) (hy : hp_at L f y (km q)) (hty : τ y = 5) (hqj : q.2.1 = nI j) (hj : j < E.2.1) (ht9 : t = k_to E x j) (ht7 : t < 7) (he1 : E.2.2.1 j < 2 ^ 31) (hlen : (S.2.2.1 t).length < 2 ^ 19) : hp_Mv l y_G_send (gw_ws y_G_send b_G_send 5 none) { frames := 7, cells := k_qc S t, slots := k_qs S t, locals := 161 } D kc tys (s_X de sa) [.ref (ad 0), .ref (ad (10 + x)), .ref y] L f (kP cI cO cN de ad τ L f E (k_send E S x q)) (k_qc S t) (k_qs S t) := by
  refine hp_ofW (Qc := fun A => va_Qv (kP cI cO cN de ad τ L f E (k_send E S x q)) (hp_B D kc A) A) (fr := fun A => A) (ret := none) (by decide) rfl (Nat.le_of_ble_eq_true rfl) ?_
  intro p e s m below meth c ls A hx hb hml hr hts hown hlk hnm hl hK hX h
  have hg : ∀ w ∈ gw, w.before _ s = true := fun w hw => hts w (List.mem_cons_of_mem _ hw)
  have hown : s.vm.findClass "MergingFragments" = some m.cls := hown
  have hnm : meth.name = "send" := hnm
  have hl : lv_has ls 5 [(0, .ref (ad 0)), (1, .ref (ad (10 + x))), (2, .ref y)] := hl
  have hm12 : E.2.1 ≤ 12 := hG.2.2.2.2.2.2.2.2.2.2.2.1
  have hdeL : de ∉ L := fun z => s_de hX (h.inA ⟨z, rfl⟩)
  have he := hG.1
  obtain ⟨gn, hn, hn1⟩ := hG.2.1
  obtain ⟨go, ho, ho1⟩ := hG.2.2.1
  obtain ⟨gtw, htw, htw1⟩ := hG.2.2.2.1
  obtain ⟨gw, hw, hw1⟩ := hG.2.2.2.2.1
  have hnd := hG.2.2.2.2.2.1 x hx7
  obtain ⟨gm, hm, hm1⟩ := hG.2.2.2.2.2.2.1 x hx7
  refine lv_aload_n hx hb d_G_send_0 rfl (lv_at hl 2 rfl) ?_
  refine hp_callR (hp_runV (As := []) (rest := []) ⟨hx, hb, hml, hown, hg⟩ (c_M_over l D tys de sa hy) (cwV 0 hg (gw_V w341 w342 w343 w15 w344) rfl rfl rfl (by decide +kernel) ⟨Nat.le_of_ble_eq_true rfl, Nat.le_of_ble_eq_true rfl⟩) (s_ok de sa) hK hX h hy rfl rfl rfl hl.1 rfl (Nat.le_of_ble_eq_true rfl) d_G_send_1 ⟨Nat.le_of_ble_eq_true rfl, Nat.le_of_ble_eq_true rfl⟩) (fun r1 hp => ?_)
  subst hp
  rw [hqj]
  refine lv_istore_n (lv' := [(3, .int (nI j)), (0, .ref (ad 0)), (1, .ref (ad (10 + x))), (2, .ref y)]) hx hb d_G_send_4 rfl hl (by decide) rfl (fun ls hl => ?_)
  refine lv_iload_n hx hb d_G_send_5 rfl (lv_at hl 0 rfl) ?_
  refine lv_iconst (v := (-1)) hx hb d_G_send_6 (by decide) ?_
  refine lv_icmp_ne (tgt := 11) hx hb d_G_send_7 (by decide) (fun hc => ?_) (fun hc => ?_)
  · skip
    refine lv_aload_n hx hb d_G_send_11 rfl (lv_at hl 1 rfl) ?_
    refine hp_get (v := .ref (ad 2)) hx hb hg in_G hown hK h he rfl 1 (by decide) (hg _ w128) (fun _ z => z) rfl d_G_send_12 ?_
    refine lv_iload_n hx hb d_G_send_15 rfl (lv_at hl 0 rfl) ?_
    refine hp_iald hx hb hK h 0 ho ht rfl (by omega) (by decide) d_G_send_16 ?_
    rw [show go j = nI (E.2.2.1 j) from ho1 j hj]
    refine lv_aload_n hx hb d_G_send_17 rfl (lv_at hl 2 rfl) ?_
    refine hp_getN (v := .int (nI x)) hx hb hg in_N hown hK h hnd rfl 0 (by decide) (s_N hX n79) (fun _ z => z) rfl d_G_send_18 ?_
    refine lv_icmp_ne (tgt := 33) hx hb d_G_send_21 (by decide) (fun hc2 => ?_) (fun hc2 => ?_)
    · skip
      refine lv_aload_n hx hb d_G_send_33 rfl (lv_at hl 1 rfl) ?_
      refine hp_get (v := .ref (ad 2)) hx hb hg in_G hown hK h he rfl 1 (by decide) (hg _ w128) (fun _ z => z) rfl d_G_send_34 ?_
      refine lv_iload_n hx hb d_G_send_37 rfl (lv_at hl 0 rfl) ?_
      refine hp_iald hx hb hK h 0 ho ht rfl (by omega) (by decide) d_G_send_38 ?_
      rw [show go j = nI t by rw [show go j = nI (E.2.2.1 j) from ho1 j hj, ht9]; unfold k_to; rw [if_neg (fun z => hc2 (by rw [z]))]]
      have hnt := hG.2.2.2.2.2.1 t ht7
      refine lv_istore (lv' := [(4, .int (nI t)), (3, .int (nI j)), (0, .ref (ad 0)), (1, .ref (ad (10 + x))), (2, .ref y)]) hx hb d_G_send_39 hl (by decide) rfl (fun ls hl => ?_)
      refine lv_aload_n hx hb d_G_send_41 rfl (lv_at hl 2 rfl) ?_
      refine hp_get (v := .ref (ad 1)) hx hb hg in_G hown hK h he rfl 0 (by decide) (hg _ w127) (fun _ z => z) rfl d_G_send_42 ?_
      refine lv_iload hx hb d_G_send_45 (lv_at hl 0 rfl) ?_
      refine hp_aald (j := t) hx hb hK h 2 hn ht2 rfl (by omega) (by decide) (hn1 t ht7) d_G_send_47 ?_
      refine hp_getN (v := .ref (ad (30 + t))) hx hb hg in_N hown hK h hnt rfl 2 (by decide) (s_N hX n83) (fun _ z => z) rfl d_G_send_48 ?_
      refine lv_aload_n hx hb d_G_send_51 rfl (lv_at hl 4 rfl) ?_
      obtain ⟨ea, mo, hqa, hQr⟩ := hG.2.2.2.2.2.2.2.1 t ht7
      obtain ⟨g, hE, hel, htea⟩ := hQr.e
      refine hp_calli (hp_runV (As := [.ref y]) (rest := []) ⟨hx, hb, hml, hown, hg⟩ (c_A_add0 l D tys de sa (cap := S.2.2.2.1 t) (k := (S.2.2.1 t).length) ht1 hqa hy hE) (cwV 1 hg (gw_V w345 w346 w347 w5 w348) rfl rfl rfl (by decide +kernel) ⟨Nat.le_of_ble_eq_true rfl, Nat.le_of_ble_eq_true rfl⟩) (s_ok de sa) hK hX h hqa rfl rfl rfl hl.1 rfl (Nat.le_of_ble_eq_true rfl) d_G_send_52 ⟨by show _ ≤ k_qc S t; unfold k_qc; omega, by show _ ≤ k_qs S t; unfold k_qs; omega⟩) h (fun r1 L1 f1 H locs hp h => ?_)
      obtain ⟨τ1, hG1, hF1⟩ := kH.qadd (u := (L1, f1)) hqa hQr hG hdeL ht7 hlen hy hty hel htea hp.2
      dsimp only at hG1
      have he := hG1.1
      refine lv_pop hx hb d_G_send_55 rfl ?_
      refine lv_aload_n hx hb d_G_send_56 rfl (lv_at hl 2 rfl) ?_
      refine lv_dup hx hb d_G_send_57 rfl ?_
      refine hp_get (v := .int (k_add S t q).2.2.2.2.1) hx hb hg in_G hown hK h he rfl 6 (by decide) (hg _ w133) (fun _ z => z) rfl d_G_send_58 ?_
      refine lv_iconst (v := 1) hx hb d_G_send_61 (by decide) ?_
      refine lv_iadd hx hb d_G_send_62 ?_
      refine hp_put (ty := .int) (v := .int ((k_add S t q).2.2.2.2.1 + 1)) (fs' := [.ref (ad 1), .ref (ad 2), .ref (ad 3), .ref (ad 4), .int (nI E.1), .int (nI E.2.1), .int ((k_add S t q).2.2.2.2.1 + 1)]) hx hb hg in_G t_G t_G_ok n_G hown hK h he rfl 6 (by decide) (hg _ w133) (fun _ z => z) rfl (by decide +kernel) rfl rfl (Nat.le_of_ble_eq_true rfl) rfl d_G_send_63 (fun H locs f2 hf2 h => ?_)
      have hG2 := hG1.wO (f1 := f2) (n := E.1) (m := E.2.1) (sc := (k_add S t q).2.2.2.2.1 + 1) hG1.2.2.2.2.2.2.2.2.2.2.1 (Nat.le_refl _) hf2
      have hk9 : k_send E S x q = k_sent (k_add S t q) := by unfold k_send; rw [hqj, kx_nI (by omega), ← ht9]
      exact hp_vret hx hb hr hlk h (by rw [hk9]; exact ⟨τ1, hG2, hF1.trans (kFr.w hf2 (t := 0) hG1.2.2.2.2.2.2.2.2.1.1 (by decide) (by decide))⟩) (by show _ ≤ k_qc S t; unfold k_qc; omega) (by show _ ≤ k_qs S t; unfold k_qs; omega) d_G_send_66
    · skip
      have hxe : E.2.2.1 j = x := (nI_eq he1 (by omega)).mp hc2
      refine lv_aload_n hx hb d_G_send_24 rfl (lv_at hl 1 rfl) ?_
      refine hp_get (v := .ref (ad 3)) hx hb hg in_G hown hK h he rfl 2 (by decide) (hg _ w129) (fun _ z => z) rfl d_G_send_25 ?_
      refine lv_iload_n hx hb d_G_send_28 rfl (lv_at hl 0 rfl) ?_
      refine hp_iald hx hb hK h 0 htw ht rfl (by omega) (by decide) d_G_send_29 ?_
      refine lv_goto (tgt := 39) hx hb d_G_send_30 (by decide) ?_
      rw [show gtw j = nI t by rw [show gtw j = nI (E.2.2.2.1 j) from htw1 j hj, ht9]; unfold k_to; rw [if_pos hxe]]
      have hnt := hG.2.2.2.2.2.1 t ht7
      refine lv_istore (lv' := [(4, .int (nI t)), (3, .int (nI j)), (0, .ref (ad 0)), (1, .ref (ad (10 + x))), (2, .ref y)]) hx hb d_G_send_39 hl (by decide) rfl (fun ls hl => ?_)
      refine lv_aload_n hx hb d_G_send_41 rfl (lv_at hl 2 rfl) ?_
      refine hp_get (v := .ref (ad 1)) hx hb hg in_G hown hK h he rfl 0 (by decide) (hg _ w127) (fun _ z => z) rfl d_G_send_42 ?_
      refine lv_iload hx hb d_G_send_45 (lv_at hl 0 rfl) ?_
      refine hp_aald (j := t) hx hb hK h 2 hn ht2 rfl (by omega) (by decide) (hn1 t ht7) d_G_send_47 ?_
      refine hp_getN (v := .ref (ad (30 + t))) hx hb hg in_N hown hK h hnt rfl 2 (by decide) (s_N hX n83) (fun _ z => z) rfl d_G_send_48 ?_
      refine lv_aload_n hx hb d_G_send_51 rfl (lv_at hl 4 rfl) ?_
      obtain ⟨ea, mo, hqa, hQr⟩ := hG.2.2.2.2.2.2.2.1 t ht7
      obtain ⟨g, hE, hel, htea⟩ := hQr.e
      refine hp_calli (hp_runV (As := [.ref y]) (rest := []) ⟨hx, hb, hml, hown, hg⟩ (c_A_add0 l D tys de sa (cap := S.2.2.2.1 t) (k := (S.2.2.1 t).length) ht1 hqa hy hE) (cwV 1 hg (gw_V w345 w346 w347 w5 w348) rfl rfl rfl (by decide +kernel) ⟨Nat.le_of_ble_eq_true rfl, Nat.le_of_ble_eq_true rfl⟩) (s_ok de sa) hK hX h hqa rfl rfl rfl hl.1 rfl (Nat.le_of_ble_eq_true rfl) d_G_send_52 ⟨by show _ ≤ k_qc S t; unfold k_qc; omega, by show _ ≤ k_qs S t; unfold k_qs; omega⟩) h (fun r1 L1 f1 H locs hp h => ?_)
      obtain ⟨τ1, hG1, hF1⟩ := kH.qadd (u := (L1, f1)) hqa hQr hG hdeL ht7 hlen hy hty hel htea hp.2
      dsimp only at hG1
      have he := hG1.1
      refine lv_pop hx hb d_G_send_55 rfl ?_
      refine lv_aload_n hx hb d_G_send_56 rfl (lv_at hl 2 rfl) ?_
      refine lv_dup hx hb d_G_send_57 rfl ?_
      refine hp_get (v := .int (k_add S t q).2.2.2.2.1) hx hb hg in_G hown hK h he rfl 6 (by decide) (hg _ w133) (fun _ z => z) rfl d_G_send_58 ?_
      refine lv_iconst (v := 1) hx hb d_G_send_61 (by decide) ?_
      refine lv_iadd hx hb d_G_send_62 ?_
      refine hp_put (ty := .int) (v := .int ((k_add S t q).2.2.2.2.1 + 1)) (fs' := [.ref (ad 1), .ref (ad 2), .ref (ad 3), .ref (ad 4), .int (nI E.1), .int (nI E.2.1), .int ((k_add S t q).2.2.2.2.1 + 1)]) hx hb hg in_G t_G t_G_ok n_G hown hK h he rfl 6 (by decide) (hg _ w133) (fun _ z => z) rfl (by decide +kernel) rfl rfl (Nat.le_of_ble_eq_true rfl) rfl d_G_send_63 (fun H locs f2 hf2 h => ?_)
      have hG2 := hG1.wO (f1 := f2) (n := E.1) (m := E.2.1) (sc := (k_add S t q).2.2.2.2.1 + 1) hG1.2.2.2.2.2.2.2.2.2.2.1 (Nat.le_refl _) hf2
      have hk9 : k_send E S x q = k_sent (k_add S t q) := by unfold k_send; rw [hqj, kx_nI (by omega), ← ht9]
      exact hp_vret hx hb hr hlk h (by rw [hk9]; exact ⟨τ1, hG2, hF1.trans (kFr.w hf2 (t := 0) hG1.2.2.2.2.2.2.2.2.1.1 (by decide) (by decide))⟩) (by show _ ≤ k_qc S t; unfold k_qc; omega) (by show _ ≤ k_qs S t; unfold k_qs; omega) d_G_send_66
  · skip
    exact absurd hc (nI_ne1 (by omega))
