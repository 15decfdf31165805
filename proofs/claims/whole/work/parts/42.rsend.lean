/-! The reference's send, by program (wip/mk42.py). -/
set_option maxHeartbeats 4000000 in
set_option maxRecDepth 100000 in
theorem c_R_send (l : Launch) (D : va_G) (tys : List (ClassId × FieldType)) (de : Nat) (sa : Nat → Nat) {L : List Nat} {f : Nat → va_E} {v j t : Nat} {k0 a0 b0 c0 : Int32} {ad τ : Nat → Nat} {E : kE} {S : kS} {code : Int32} {cI cZ : ClassId} (ht : tys[0]? = some (cI, .int)) (ht3 : tys[3]? = some (cZ, .boolean)) (hR : kR cI cZ ad τ L f code E S) (hn7 : E.1 ≤ 7) (hm12 : E.2.1 ≤ 12) (hv : v < 2 ^ 31) (hj : j < E.2.1) (he1 : E.2.2.1 j < 2 ^ 31) (he2 : E.2.2.2.1 j < 2 ^ 31) (ht9 : t = k_to E v j) (htn : t < E.1) (hlen : (S.2.2.1 t).length < 200) : hp_Mv l y_R_send (gw_ws y_R_send b_R_send 7 none) { frames := 1, cells := 0, slots := 0, locals := 27 } D kc tys (s_X de sa) [.ref (ad 100), .int (nI v), .int k0, .int (nI j), .int a0, .int b0, .int c0] L f (kRP cI cZ ad τ L f code E (k_send E S v (k0, nI j, a0, b0, c0))) 0 0 := by
  refine hp_ofW (Qc := fun A => va_Qv (kRP cI cZ ad τ L f code E (k_send E S v (k0, nI j, a0, b0, c0))) (hp_B D kc A) A) (fr := fun A => A) (ret := none) (by decide) rfl (Nat.le_of_ble_eq_true rfl) ?_
  intro p e s m below meth c ls A hx hb hml hr hts hown hlk hnm hl hK hX h
  have hg : ∀ w ∈ gw, w.before _ s = true := fun w hw => hts w (List.mem_cons_of_mem _ hw)
  have hown : s.vm.findClass "MergingFragmentsModel" = some m.cls := hown
  have hnm : meth.name = "send" := hnm
  have hl : lv_has ls 7 [(0, .ref (ad 100)), (1, .int (nI v)), (2, .int k0), (3, .int (nI j)), (4, .int a0), (5, .int b0), (6, .int c0)] := hl
  have hT := hR.2.2.2.2.2.2.2
  have he := hR.1
  refine lv_aload_n hx hb d_R_send_0 rfl (lv_at hl 0 rfl) ?_
  refine lv_dup hx hb d_R_send_1 rfl ?_
  refine hp_get (v := .int S.2.2.2.2.1) hx hb hg in_R hown hK h he rfl 22 (by decide) (hg _ w566) (fun _ z => z) rfl d_R_send_2 ?_
  refine lv_iconst (v := 1) hx hb d_R_send_5 (by decide) ?_
  refine lv_iadd hx hb d_R_send_6 ?_
  refine hp_put (ty := .int) (v := .int (S.2.2.2.2.1 + 1)) (fs' := [.int code, .int (nI E.1), .int (nI E.2.1), .ref (ad 101), .ref (ad 102), .ref (ad 103), .ref (ad 104), .ref (ad 105), .ref (ad 106), .ref (ad 107), .ref (ad 108), .ref (ad 109), .ref (ad 110), .ref (ad 111), .ref (ad 112), .ref (ad 113), .ref (ad 114), .ref (ad 115), .ref (ad 116), .ref (ad 117), .ref (ad 118), .ref (ad 119), .int (S.2.2.2.2.1 + 1)]) hx hb hg in_R t_R t_R_ok n_R hown hK h he rfl 22 (by decide) (hg _ w566) (fun _ z => z) rfl (by decide +kernel) rfl rfl (Nat.le_of_ble_eq_true rfl) rfl d_R_send_7 (fun H locs f1 hf1 h => ?_)
  have he := he.self' hf1
  refine lv_aload_n hx hb d_R_send_10 rfl (lv_at hl 0 rfl) ?_
  refine lv_aload_n hx hb d_R_send_11 rfl (lv_at hl 0 rfl) ?_
  refine lv_iload_n hx hb d_R_send_12 rfl (lv_at hl 1 rfl) ?_
  refine lv_iload_n hx hb d_R_send_13 rfl (lv_at hl 3 rfl) ?_
  have hR1 := hR.wO (f1 := f1) (code' := code) (sc := S.2.2.2.2.1 + 1) hf1
  have hF1 : kFq τ L f (L, f1) := kFq.w hf1 (hT 100 (by omega) (by omega)) (by omega) (by omega)
  refine hp_callR (hp_runV (As := [.int (nI v), .int (nI j)]) (rest := [.ref (ad 100)]) ⟨hx, hb, hml, hown, hg⟩ (c_R_otherEnd l D tys de sa (v := v) (j := j) ht ht3 hR1 hn7 hm12 hv hj he1 he2) (cwV 2 hg (gw_V w651 w653 ws31 w7 w654) rfl rfl rfl (by decide +kernel) ⟨Nat.le_of_ble_eq_true rfl, Nat.le_of_ble_eq_true rfl⟩) (s_ok de sa) hK hX h he rfl rfl rfl hl.1 rfl (Nat.le_of_ble_eq_true rfl) d_R_send_14 ⟨Nat.le_of_ble_eq_true rfl, Nat.le_of_ble_eq_true rfl⟩) (fun r1 hp => ?_)
  rw [← ht9] at hp
  subst hp
  refine lv_iload_n hx hb d_R_send_17 rfl (lv_at hl 2 rfl) ?_
  refine lv_iload_n hx hb d_R_send_18 rfl (lv_at hl 3 rfl) ?_
  refine lv_iload hx hb d_R_send_19 (lv_at hl 4 rfl) ?_
  refine lv_iload hx hb d_R_send_21 (lv_at hl 5 rfl) ?_
  refine lv_iload hx hb d_R_send_23 (lv_at hl 6 rfl) ?_
  refine hp_callv (hp_runV (As := [.int (nI t), .int k0, .int (nI j), .int a0, .int b0, .int c0]) (rest := []) ⟨hx, hb, hml, hown, hg⟩ (c_R_put l D tys de sa (v := t) (q := (k0, nI j, a0, b0, c0)) ht ht3 hR1 hn7 hm12 htn hlen) (cwV 6 hg (gw_V w655 w657 ws32 w7 w658) rfl rfl rfl (by decide +kernel) ⟨Nat.le_of_ble_eq_true rfl, Nat.le_of_ble_eq_true rfl⟩) (s_ok de sa) hK hX h he rfl rfl rfl hl.1 rfl (Nat.le_of_ble_eq_true rfl) d_R_send_25 ⟨Nat.le_of_ble_eq_true rfl, Nat.le_of_ble_eq_true rfl⟩) h (fun L2 f2 H locs hp h => ?_)
  have hk9 : k_send E S v (k0, nI j, a0, b0, c0) = k_sent (k_add S t (k0, nI j, a0, b0, c0)) := by unfold k_send; rw [show kx ((k0, nI j, a0, b0, c0) : kM).2.1 = j from kx_nI (by omega), ← ht9]
  exact hp_vret hx hb hr hlk h (by rw [hk9]; exact ⟨hp.1.ghost rfl rfl rfl rfl, hF1.trans hp.2⟩) (by omega) (by omega) d_R_send_28
