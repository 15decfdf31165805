/-! The reference's readers: thrown, noNode, endOf, otherEnd, all, by program (wip/mk38.py). -/
def k_eo (E : kE) (v j : Nat) : Int32 := if E.2.2.1 j = v then nI (2 * j) else if E.2.2.2.1 j = v then nI (2 * j + 1) else -1
set_option maxHeartbeats 4000000 in
set_option maxRecDepth 100000 in
theorem c_R_thrown (l : Launch) (D : va_G) (tys : List (ClassId × FieldType)) (de : Nat) (sa : Nat → Nat) {L : List Nat} {f : Nat → va_E} {ad τ : Nat → Nat} {E : kE} {S : kS} {code : Int32} {cI cZ : ClassId} (ht : tys[0]? = some (cI, .int)) (ht3 : tys[3]? = some (cZ, .boolean)) (hR : kR cI cZ ad τ L f code E S) (hn7 : E.1 ≤ 7) (hm12 : E.2.1 ≤ 12) : hp_Ri l y_R_thrown (gw_ws y_R_thrown b_R_thrown 1 (some .int)) { frames := 0, cells := 0, slots := 0, locals := 0 } D kc tys (s_X de sa) [.ref (ad 100)] L f (fun r => r = code) := by
  refine hp_ofW (Qc := fun A => hp_QR (fun r => r = code)) (fr := fun A => (fun _ => False)) (ret := (some .int)) (by decide) rfl (Nat.le_of_ble_eq_true rfl) ?_
  intro p e s m below meth c ls A hx hb hml hr hts hown hlk hnm hl hK hX h
  have hg : ∀ w ∈ gw, w.before _ s = true := fun w hw => hts w (List.mem_cons_of_mem _ hw)
  have hown : s.vm.findClass "MergingFragmentsModel" = some m.cls := hown
  have hnm : meth.name = "thrown" := hnm
  have hl : lv_has ls 1 [(0, .ref (ad 100))] := hl
  have he := hR.1
  refine lv_aload_n hx hb d_R_thrown_0 rfl (lv_at hl 0 rfl) ?_
  refine hp_get (v := .int code) hx hb hg in_R hown hK h he rfl 0 (by decide) (hg _ w544) (fun _ z => z) rfl d_R_thrown_1 ?_
  exact hp_riret hx hb hr hlk rfl d_R_thrown_4

set_option maxHeartbeats 4000000 in
set_option maxRecDepth 100000 in
theorem c_R_noNode (l : Launch) (D : va_G) (tys : List (ClassId × FieldType)) (de : Nat) (sa : Nat → Nat) {L : List Nat} {f : Nat → va_E} {w : Int32} {ad τ : Nat → Nat} {E : kE} {S : kS} {code : Int32} {cI cZ : ClassId} (ht : tys[0]? = some (cI, .int)) (ht3 : tys[3]? = some (cZ, .boolean)) (hR : kR cI cZ ad τ L f code E S) (hn7 : E.1 ≤ 7) (hm12 : E.2.1 ≤ 12) : hp_Ri l y_R_noNode (gw_ws y_R_noNode b_R_noNode 2 (some .boolean)) { frames := 0, cells := 0, slots := 0, locals := 0 } D kc tys (s_X de sa) [.ref (ad 100), .int w] L f (fun r => (r = 0 ∧ ∃ v, v < E.1 ∧ w = nI v) ∨ (r = 1 ∧ (w < 0 ∨ nI E.1 ≤ w))) := by
  refine hp_ofW (Qc := fun A => hp_QR (fun r => (r = 0 ∧ ∃ v, v < E.1 ∧ w = nI v) ∨ (r = 1 ∧ (w < 0 ∨ nI E.1 ≤ w)))) (fr := fun A => (fun _ => False)) (ret := (some .boolean)) (by decide) rfl (Nat.le_of_ble_eq_true rfl) ?_
  intro p e s m below meth c ls A hx hb hml hr hts hown hlk hnm hl hK hX h
  have hg : ∀ w ∈ gw, w.before _ s = true := fun w hw => hts w (List.mem_cons_of_mem _ hw)
  have hown : s.vm.findClass "MergingFragmentsModel" = some m.cls := hown
  have hnm : meth.name = "noNode" := hnm
  have hl : lv_has ls 2 [(0, .ref (ad 100)), (1, .int w)] := hl
  have he := hR.1
  refine lv_iload_n hx hb d_R_noNode_0 rfl (lv_at hl 1 rfl) ?_
  refine lv_if_lt (tgt := 12) hx hb d_R_noNode_1 (by decide) (fun hc => ?_) (fun hc => ?_)
  · skip
    refine lv_iconst (v := 1) hx hb d_R_noNode_12 (by decide) ?_
    refine lv_goto (tgt := 17) hx hb d_R_noNode_13 (by decide) ?_
    exact hp_rzret hx hb hr hlk rfl (Or.inr ⟨rfl, Or.inl hc⟩) d_R_noNode_17
  · skip
    refine lv_iload_n hx hb d_R_noNode_4 rfl (lv_at hl 1 rfl) ?_
    refine lv_aload_n hx hb d_R_noNode_5 rfl (lv_at hl 0 rfl) ?_
    refine hp_get (v := .int (nI E.1)) hx hb hg in_R hown hK h he rfl 1 (by decide) (hg _ w545) (fun _ z => z) rfl d_R_noNode_6 ?_
    refine lv_icmp_lt (tgt := 16) hx hb d_R_noNode_9 (by decide) (fun hc2 => ?_) (fun hc2 => ?_)
    · skip
      refine lv_iconst (v := 0) hx hb d_R_noNode_16 (by decide) ?_
      exact hp_rzret hx hb hr hlk rfl (Or.inl ⟨rfl, by obtain ⟨v, hv, hw⟩ := nI_of hc; subst hw; exact ⟨v, (nI_ltI hv (by omega)).mp hc2, rfl⟩⟩) d_R_noNode_17
    · skip
      refine lv_iconst (v := 1) hx hb d_R_noNode_12 (by decide) ?_
      refine lv_goto (tgt := 17) hx hb d_R_noNode_13 (by decide) ?_
      exact hp_rzret hx hb hr hlk rfl (Or.inr ⟨rfl, Or.inr (Int32.not_lt.mp hc2)⟩) d_R_noNode_17

set_option maxHeartbeats 4000000 in
set_option maxRecDepth 100000 in
theorem c_R_endOf (l : Launch) (D : va_G) (tys : List (ClassId × FieldType)) (de : Nat) (sa : Nat → Nat) {L : List Nat} {f : Nat → va_E} {v j : Nat} {ad τ : Nat → Nat} {E : kE} {S : kS} {code : Int32} {cI cZ : ClassId} (ht : tys[0]? = some (cI, .int)) (ht3 : tys[3]? = some (cZ, .boolean)) (hR : kR cI cZ ad τ L f code E S) (hn7 : E.1 ≤ 7) (hm12 : E.2.1 ≤ 12) (hv : v < 2 ^ 31) (hj : j < E.2.1) (he1 : E.2.2.1 j < 2 ^ 31) (he2 : E.2.2.2.1 j < 2 ^ 31) : hp_Ri l y_R_endOf (gw_ws y_R_endOf b_R_endOf 3 (some .int)) { frames := 0, cells := 0, slots := 0, locals := 0 } D kc tys (s_X de sa) [.ref (ad 100), .int (nI v), .int (nI j)] L f (fun r => r = k_eo E v j) := by
  refine hp_ofW (Qc := fun A => hp_QR (fun r => r = k_eo E v j)) (fr := fun A => (fun _ => False)) (ret := (some .int)) (by decide) rfl (Nat.le_of_ble_eq_true rfl) ?_
  intro p e s m below meth c ls A hx hb hml hr hts hown hlk hnm hl hK hX h
  have hg : ∀ w ∈ gw, w.before _ s = true := fun w hw => hts w (List.mem_cons_of_mem _ hw)
  have hown : s.vm.findClass "MergingFragmentsModel" = some m.cls := hown
  have hnm : meth.name = "endOf" := hnm
  have hl : lv_has ls 3 [(0, .ref (ad 100)), (1, .int (nI v)), (2, .int (nI j))] := hl
  have he := hR.1
  obtain ⟨ge, hE, hE1⟩ := hR.2.1
  refine lv_aload_n hx hb d_R_endOf_0 rfl (lv_at hl 0 rfl) ?_
  refine hp_get (v := .ref (ad 101)) hx hb hg in_R hown hK h he rfl 3 (by decide) (hg _ w547) (fun _ z => z) rfl d_R_endOf_1 ?_
  refine lv_iconst (v := 2) hx hb d_R_endOf_4 (by decide) ?_
  refine lv_iload_n hx hb d_R_endOf_5 rfl (lv_at hl 2 rfl) ?_
  refine lv_imul hx hb d_R_endOf_6 ?_
  rw [show (2 : Int32) * nI j = nI (2 * j) from pk_mul 2 j]
  refine hp_iald hx hb hK h 0 hE ht rfl (by omega) (by decide) d_R_endOf_7 ?_
  rw [show ge (2 * j) = nI (E.2.2.1 j) from (hE1 j hj).1]
  refine lv_iload_n hx hb d_R_endOf_8 rfl (lv_at hl 1 rfl) ?_
  refine lv_icmp_ne (tgt := 18) hx hb d_R_endOf_9 (by decide) (fun hc => ?_) (fun hc => ?_)
  · skip
    have hn1 : ¬ E.2.2.1 j = v := fun z => hc (by rw [z])
    refine lv_aload_n hx hb d_R_endOf_18 rfl (lv_at hl 0 rfl) ?_
    refine hp_get (v := .ref (ad 101)) hx hb hg in_R hown hK h he rfl 3 (by decide) (hg _ w547) (fun _ z => z) rfl d_R_endOf_19 ?_
    refine lv_iconst (v := 2) hx hb d_R_endOf_22 (by decide) ?_
    refine lv_iload_n hx hb d_R_endOf_23 rfl (lv_at hl 2 rfl) ?_
    refine lv_imul hx hb d_R_endOf_24 ?_
    rw [show (2 : Int32) * nI j = nI (2 * j) from pk_mul 2 j]
    refine lv_iconst (v := 1) hx hb d_R_endOf_25 (by decide) ?_
    refine lv_iadd hx hb d_R_endOf_26 ?_
    rw [nI_1]
    refine hp_iald hx hb hK h 0 hE ht rfl (by omega) (by decide) d_R_endOf_27 ?_
    rw [show ge (2 * j + 1) = nI (E.2.2.2.1 j) from (hE1 j hj).2]
    refine lv_iload_n hx hb d_R_endOf_28 rfl (lv_at hl 1 rfl) ?_
    refine lv_icmp_ne (tgt := 40) hx hb d_R_endOf_29 (by decide) (fun hc2 => ?_) (fun hc2 => ?_)
    · skip
      refine lv_iconst (v := (-1)) hx hb d_R_endOf_40 (by decide) ?_
      exact hp_riret hx hb hr hlk (by unfold k_eo; rw [if_neg hn1, if_neg (fun z => hc2 (by rw [z]))]) d_R_endOf_41
    · skip
      refine lv_iconst (v := 2) hx hb d_R_endOf_32 (by decide) ?_
      refine lv_iload_n hx hb d_R_endOf_33 rfl (lv_at hl 2 rfl) ?_
      refine lv_imul hx hb d_R_endOf_34 ?_
      rw [show (2 : Int32) * nI j = nI (2 * j) from pk_mul 2 j]
      refine lv_iconst (v := 1) hx hb d_R_endOf_35 (by decide) ?_
      refine lv_iadd hx hb d_R_endOf_36 ?_
      rw [nI_1]
      refine lv_goto (tgt := 41) hx hb d_R_endOf_37 (by decide) ?_
      exact hp_riret hx hb hr hlk (by unfold k_eo; rw [if_neg hn1, if_pos ((nI_eq he2 hv).mp hc2)]) d_R_endOf_41
  · skip
    refine lv_iconst (v := 2) hx hb d_R_endOf_12 (by decide) ?_
    refine lv_iload_n hx hb d_R_endOf_13 rfl (lv_at hl 2 rfl) ?_
    refine lv_imul hx hb d_R_endOf_14 ?_
    rw [show (2 : Int32) * nI j = nI (2 * j) from pk_mul 2 j]
    refine lv_goto (tgt := 41) hx hb d_R_endOf_15 (by decide) ?_
    exact hp_riret hx hb hr hlk (by unfold k_eo; rw [if_pos ((nI_eq he1 hv).mp hc)]) d_R_endOf_41

set_option maxHeartbeats 4000000 in
set_option maxRecDepth 100000 in
theorem c_R_otherEnd (l : Launch) (D : va_G) (tys : List (ClassId × FieldType)) (de : Nat) (sa : Nat → Nat) {L : List Nat} {f : Nat → va_E} {v j : Nat} {ad τ : Nat → Nat} {E : kE} {S : kS} {code : Int32} {cI cZ : ClassId} (ht : tys[0]? = some (cI, .int)) (ht3 : tys[3]? = some (cZ, .boolean)) (hR : kR cI cZ ad τ L f code E S) (hn7 : E.1 ≤ 7) (hm12 : E.2.1 ≤ 12) (hv : v < 2 ^ 31) (hj : j < E.2.1) (he1 : E.2.2.1 j < 2 ^ 31) (he2 : E.2.2.2.1 j < 2 ^ 31) : hp_Ri l y_R_otherEnd (gw_ws y_R_otherEnd b_R_otherEnd 3 (some .int)) { frames := 0, cells := 0, slots := 0, locals := 0 } D kc tys (s_X de sa) [.ref (ad 100), .int (nI v), .int (nI j)] L f (fun r => r = nI (k_to E v j)) := by
  refine hp_ofW (Qc := fun A => hp_QR (fun r => r = nI (k_to E v j))) (fr := fun A => (fun _ => False)) (ret := (some .int)) (by decide) rfl (Nat.le_of_ble_eq_true rfl) ?_
  intro p e s m below meth c ls A hx hb hml hr hts hown hlk hnm hl hK hX h
  have hg : ∀ w ∈ gw, w.before _ s = true := fun w hw => hts w (List.mem_cons_of_mem _ hw)
  have hown : s.vm.findClass "MergingFragmentsModel" = some m.cls := hown
  have hnm : meth.name = "otherEnd" := hnm
  have hl : lv_has ls 3 [(0, .ref (ad 100)), (1, .int (nI v)), (2, .int (nI j))] := hl
  have he := hR.1
  obtain ⟨ge, hE, hE1⟩ := hR.2.1
  refine lv_aload_n hx hb d_R_otherEnd_0 rfl (lv_at hl 0 rfl) ?_
  refine hp_get (v := .ref (ad 101)) hx hb hg in_R hown hK h he rfl 3 (by decide) (hg _ w547) (fun _ z => z) rfl d_R_otherEnd_1 ?_
  refine lv_iconst (v := 2) hx hb d_R_otherEnd_4 (by decide) ?_
  refine lv_iload_n hx hb d_R_otherEnd_5 rfl (lv_at hl 2 rfl) ?_
  refine lv_imul hx hb d_R_otherEnd_6 ?_
  rw [show (2 : Int32) * nI j = nI (2 * j) from pk_mul 2 j]
  refine hp_iald hx hb hK h 0 hE ht rfl (by omega) (by decide) d_R_otherEnd_7 ?_
  rw [show ge (2 * j) = nI (E.2.2.1 j) from (hE1 j hj).1]
  refine lv_iload_n hx hb d_R_otherEnd_8 rfl (lv_at hl 1 rfl) ?_
  refine lv_icmp_ne (tgt := 25) hx hb d_R_otherEnd_9 (by decide) (fun hc => ?_) (fun hc => ?_)
  · skip
    refine lv_aload_n hx hb d_R_otherEnd_25 rfl (lv_at hl 0 rfl) ?_
    refine hp_get (v := .ref (ad 101)) hx hb hg in_R hown hK h he rfl 3 (by decide) (hg _ w547) (fun _ z => z) rfl d_R_otherEnd_26 ?_
    refine lv_iconst (v := 2) hx hb d_R_otherEnd_29 (by decide) ?_
    refine lv_iload_n hx hb d_R_otherEnd_30 rfl (lv_at hl 2 rfl) ?_
    refine lv_imul hx hb d_R_otherEnd_31 ?_
    rw [show (2 : Int32) * nI j = nI (2 * j) from pk_mul 2 j]
    refine hp_iald hx hb hK h 0 hE ht rfl (by omega) (by decide) d_R_otherEnd_32 ?_
    exact hp_riret hx hb hr hlk (by unfold k_to; rw [if_neg (fun z => hc (by rw [z]))]; exact (hE1 j hj).1) d_R_otherEnd_33
  · skip
    refine lv_aload_n hx hb d_R_otherEnd_12 rfl (lv_at hl 0 rfl) ?_
    refine hp_get (v := .ref (ad 101)) hx hb hg in_R hown hK h he rfl 3 (by decide) (hg _ w547) (fun _ z => z) rfl d_R_otherEnd_13 ?_
    refine lv_iconst (v := 2) hx hb d_R_otherEnd_16 (by decide) ?_
    refine lv_iload_n hx hb d_R_otherEnd_17 rfl (lv_at hl 2 rfl) ?_
    refine lv_imul hx hb d_R_otherEnd_18 ?_
    rw [show (2 : Int32) * nI j = nI (2 * j) from pk_mul 2 j]
    refine lv_iconst (v := 1) hx hb d_R_otherEnd_19 (by decide) ?_
    refine lv_iadd hx hb d_R_otherEnd_20 ?_
    rw [nI_1]
    refine hp_iald hx hb hK h 0 hE ht rfl (by omega) (by decide) d_R_otherEnd_21 ?_
    refine lv_goto (tgt := 33) hx hb d_R_otherEnd_22 (by decide) ?_
    exact hp_riret hx hb hr hlk (by unfold k_to; rw [if_pos ((nI_eq he1 hv).mp hc)]; exact (hE1 j hj).2) d_R_otherEnd_33

set_option maxHeartbeats 4000000 in
set_option maxRecDepth 100000 in
theorem c_R_all (l : Launch) (D : va_G) (tys : List (ClassId × FieldType)) (de : Nat) (sa : Nat → Nat) {L : List Nat} {f : Nat → va_E} {ad τ : Nat → Nat} {E : kE} {S : kS} {code : Int32} {cI cZ : ClassId} (ht : tys[0]? = some (cI, .int)) (ht3 : tys[3]? = some (cZ, .boolean)) (hR : kR cI cZ ad τ L f code E S) (hn7 : E.1 ≤ 7) (hm12 : E.2.1 ≤ 12) : hp_Ri l y_R_all (gw_ws y_R_all b_R_all 3 (some .int)) { frames := 0, cells := 0, slots := 0, locals := 0 } D kc tys (s_X de sa) [.ref (ad 100)] L f (fun r => r = nI (k_left S E.1)) := by
  refine hp_ofW (Qc := fun A => hp_QR (fun r => r = nI (k_left S E.1))) (fr := fun A => (fun _ => False)) (ret := (some .int)) (by decide) rfl (Nat.le_of_ble_eq_true rfl) ?_
  intro p e s m below meth c ls A hx hb hml hr hts hown hlk hnm hl hK hX h
  have hg : ∀ w ∈ gw, w.before _ s = true := fun w hw => hts w (List.mem_cons_of_mem _ hw)
  have hown : s.vm.findClass "MergingFragmentsModel" = some m.cls := hown
  have hnm : meth.name = "all" := hnm
  have hl : lv_has ls 3 [(0, .ref (ad 100))] := hl
  have he := hR.1
  obtain ⟨fr, hfr, ⟨gy, hy, hy1⟩, hb9, hrg⟩ := hR.2.2.2.2.2.2.1
  refine lv_iconst (v := 0) hx hb d_R_all_0 (by decide) ?_
  refine lv_istore_n (lv' := [(1, .int 0), (0, .ref (ad 100))]) hx hb d_R_all_1 rfl hl (by decide) rfl (fun ls hl => ?_)
  refine lv_iconst (v := 0) hx hb d_R_all_2 (by decide) ?_
  refine lv_istore_n (lv' := [(2, .int 0), (1, .int 0), (0, .ref (ad 100))]) hx hb d_R_all_3 rfl hl (by decide) rfl (fun ls hl => ?_)
  have key : ∀ (d k : Nat) (ls : Array Slot), k + d = E.1 → lv_has ls 3 [(2, .int (nI k)), (1, .int (nI (k_left S k))), (0, .ref (ad 100))] → W p l e { frames := 0, cells := 0, slots := 0, locals := 0 } s m ([.ref (ad 100)] : List Value).toArray below meth c s.heap [] 0 0 (MQ below (hp_QR (fun r => r = nI (k_left S E.1))) ([.ref (ad 100)] : List Value).toArray s 0 0 (fun _ => False)) (F0 m 4 ls []) := by
    intro d
    induction d with
    | zero =>
      intro k ls hkd hl
      refine lv_iload_n hx hb d_R_all_4 rfl (lv_at hl 0 rfl) ?_
      refine lv_aload_n hx hb d_R_all_5 rfl (lv_at hl 2 rfl) ?_
      refine hp_get (v := .int (nI E.1)) hx hb hg in_R hown hK h he rfl 1 (by decide) (hg _ w545) (fun _ z => z) rfl d_R_all_6 ?_
      refine lv_icmp_ge (tgt := 27) hx hb d_R_all_9 (by decide) (fun hc => ?_) (fun hc => ?_)
      · skip
        have hkm : k = E.1 := by omega
        refine lv_iload_n hx hb d_R_all_27 rfl (lv_at hl 1 rfl) ?_
        exact hp_riret hx hb hr hlk (by rw [hkm]) d_R_all_28
      · skip
        exact absurd (nI_le (by omega) (by omega)) hc
    | succ d ih =>
      intro k ls hkd hl
      refine lv_iload_n hx hb d_R_all_4 rfl (lv_at hl 0 rfl) ?_
      refine lv_aload_n hx hb d_R_all_5 rfl (lv_at hl 2 rfl) ?_
      refine hp_get (v := .int (nI E.1)) hx hb hg in_R hown hK h he rfl 1 (by decide) (hg _ w545) (fun _ z => z) rfl d_R_all_6 ?_
      refine lv_icmp_ge (tgt := 27) hx hb d_R_all_9 (by decide) (fun hc => ?_) (fun hc => ?_)
      · skip
        exact absurd hc (nI_ge (by omega) (by omega))
      · skip
        refine lv_iload_n hx hb d_R_all_12 rfl (lv_at hl 1 rfl) ?_
        refine lv_aload_n hx hb d_R_all_13 rfl (lv_at hl 2 rfl) ?_
        refine hp_get (v := .ref (ad 114)) hx hb hg in_R hown hK h he rfl 16 (by decide) (hg _ w560) (fun _ z => z) rfl d_R_all_14 ?_
        refine lv_iload_n hx hb d_R_all_17 rfl (lv_at hl 0 rfl) ?_
        refine hp_iald hx hb hK h 0 hy ht rfl (by omega) (by decide) d_R_all_18 ?_
        rw [show gy k = nI (S.2.2.1 k).length from hy1 k (by omega)]
        refine lv_iadd hx hb d_R_all_19 ?_
        rw [nI_add]
        refine lv_istore_n (lv' := [(1, .int (nI (k_left S (k + 1)))), (2, .int (nI k)), (0, .ref (ad 100))]) hx hb d_R_all_20 rfl hl (by decide) rfl (fun ls hl => ?_)
        refine lv_iinc (k := 1) (v := (nI (k + 1))) (lv' := [(2, .int (nI (k + 1))), (1, .int (nI (k_left S (k + 1)))), (0, .ref (ad 100))]) hx hb d_R_all_21 hl rfl (hp_inc k 1) (by decide) rfl (fun ls hl => ?_)
        refine lv_goto (tgt := 4) hx hb d_R_all_24 (by decide) ?_
        exact ih (k + 1) ls (by omega) (lv_sub hl [0, 1, 2] rfl)
  have hl0 : lv_has ls 3 [(2, .int (nI 0)), (1, .int (nI (k_left S 0))), (0, .ref (ad 100))] := by rw [nI_0]; exact lv_sub hl [0, 1, 2] rfl
  exact key E.1 0 ls (by omega) hl0
