/-! The reference's lightest, by program (wip/mk39.py). -/
set_option maxHeartbeats 4000000 in
set_option maxRecDepth 100000 in
theorem c_R_lightest (l : Launch) (D : va_G) (tys : List (ClassId × FieldType)) (de : Nat) (sa : Nat → Nat) {L : List Nat} {f : Nat → va_E} {v : Nat} {bb : Int32} {ad τ : Nat → Nat} {E : kE} {S : kS} {code : Int32} {cI cZ : ClassId} (ht : tys[0]? = some (cI, .int)) (ht3 : tys[3]? = some (cZ, .boolean)) (hR : kR cI cZ ad τ L f code E S) (hn7 : E.1 ≤ 7) (hm12 : E.2.1 ≤ 12) (hW : kWE E) (hv : v < 7) (hcond : ∀ k, k < E.2.1 → (((E.2.2.1 k = v ∨ E.2.2.2.1 k = v) ∧ (bb = 0 ∨ S.2.1 v k = 0)) ↔ S.2.1 v k = 0)) : hp_Ri l y_R_lightest (gw_ws y_R_lightest b_R_lightest 6 (some .int)) { frames := 1, cells := 0, slots := 0, locals := 22 } D kc tys (s_X de sa) [.ref (ad 100), .int (nI v), .int bb] L f (fun r => r = ko (k_lb E S v E.2.1)) := by
  refine hp_ofW (Qc := fun A => hp_QR (fun r => r = ko (k_lb E S v E.2.1))) (fr := fun A => (fun _ => False)) (ret := (some .int)) (by decide) rfl (Nat.le_of_ble_eq_true rfl) ?_
  intro p e s m below meth c ls A hx hb hml hr hts hown hlk hnm hl hK hX h
  have hg : ∀ w ∈ gw, w.before _ s = true := fun w hw => hts w (List.mem_cons_of_mem _ hw)
  have hown : s.vm.findClass "MergingFragmentsModel" = some m.cls := hown
  have hnm : meth.name = "lightest" := hnm
  have hl : lv_has ls 6 [(0, .ref (ad 100)), (1, .int (nI v)), (2, .int bb)] := hl
  have he := hR.1
  obtain ⟨gw, hw, hw1⟩ := hR.2.2.1
  obtain ⟨gk, hk, hk1⟩ := hR.2.2.2.1
  refine lv_iconst (v := (-1)) hx hb d_R_lightest_0 (by decide) ?_
  refine lv_istore_n (lv' := [(3, .int (-1)), (0, .ref (ad 100)), (1, .int (nI v)), (2, .int bb)]) hx hb d_R_lightest_1 rfl hl (by decide) rfl (fun ls hl => ?_)
  refine lv_iconst (v := 0) hx hb d_R_lightest_2 (by decide) ?_
  refine lv_istore (lv' := [(4, .int 0), (3, .int (-1)), (0, .ref (ad 100)), (1, .int (nI v)), (2, .int bb)]) hx hb d_R_lightest_3 hl (by decide) rfl (fun ls hl => ?_)
  have key : ∀ (d k : Nat) (o : Option Nat) (ls : Array Slot), k + d = E.2.1 → o = k_lb E S v k → lv_has ls 6 [(4, .int (nI k)), (3, .int (ko o)), (0, .ref (ad 100)), (1, .int (nI v)), (2, .int bb)] → W p l e { frames := 1, cells := 0, slots := 0, locals := 22 } s m ([.ref (ad 100), .int (nI v), .int bb] : List Value).toArray below meth c s.heap [] 0 0 (MQ below (hp_QR (fun r => r = ko (k_lb E S v E.2.1))) ([.ref (ad 100), .int (nI v), .int bb] : List Value).toArray s 0 0 (fun _ => False)) (F0 m 5 ls []) := by
    intro d
    induction d with
    | zero =>
      intro k o ls hkd ho hl
      refine lv_iload hx hb d_R_lightest_5 (lv_at hl 0 rfl) ?_
      refine lv_aload_n hx hb d_R_lightest_7 rfl (lv_at hl 2 rfl) ?_
      refine hp_get (v := .int (nI E.2.1)) hx hb hg in_R hown hK h he rfl 2 (by decide) (hg _ w546) (fun _ z => z) rfl d_R_lightest_8 ?_
      refine lv_icmp_ge (tgt := 71) hx hb d_R_lightest_11 (by decide) (fun hc => ?_) (fun hc => ?_)
      · skip
        have hkm : k = E.2.1 := by omega
        refine lv_iload_n hx hb d_R_lightest_71 rfl (lv_at hl 1 rfl) ?_
        exact hp_riret hx hb hr hlk (by rw [ho, hkm]) d_R_lightest_72
      · skip
        exact absurd (nI_le (by omega) (by omega)) hc
    | succ d ih =>
      intro k o ls hkd ho hl
      refine lv_iload hx hb d_R_lightest_5 (lv_at hl 0 rfl) ?_
      refine lv_aload_n hx hb d_R_lightest_7 rfl (lv_at hl 2 rfl) ?_
      refine hp_get (v := .int (nI E.2.1)) hx hb hg in_R hown hK h he rfl 2 (by decide) (hg _ w546) (fun _ z => z) rfl d_R_lightest_8 ?_
      refine lv_icmp_ge (tgt := 71) hx hb d_R_lightest_11 (by decide) (fun hc => ?_) (fun hc => ?_)
      · skip
        exact absurd hc (nI_ge (by omega) (by omega))
      · skip
        have hk9 : k < E.2.1 := by omega
        have hee := hW.2 k hk9
        refine lv_aload_n hx hb d_R_lightest_14 rfl (lv_at hl 2 rfl) ?_
        refine lv_iload_n hx hb d_R_lightest_15 rfl (lv_at hl 3 rfl) ?_
        refine lv_iload hx hb d_R_lightest_16 (lv_at hl 0 rfl) ?_
        refine hp_callR (hp_runV (As := [.int (nI v), .int (nI k)]) (rest := []) ⟨hx, hb, hml, hown, hg⟩ (c_R_endOf l D tys de sa (v := v) (j := k) ht ht3 hR hn7 hm12 (by omega) hk9 (by omega) (by omega)) (cwV 2 hg (gw_V w643 w645 ws29 w7 w646) rfl rfl rfl (by decide +kernel) ⟨Nat.le_of_ble_eq_true rfl, Nat.le_of_ble_eq_true rfl⟩) (s_ok de sa) hK hX h he rfl rfl rfl hl.1 rfl (Nat.le_of_ble_eq_true rfl) d_R_lightest_18 ⟨Nat.le_of_ble_eq_true rfl, Nat.le_of_ble_eq_true rfl⟩) (fun r1 hp => ?_)
        subst hp
        by_cases h1 : E.2.2.1 k = v
        · skip
          rw [show k_eo E v k = nI (2 * k) from if_pos h1]
          refine lv_istore (lv' := [(5, .int (nI (2 * k))), (4, .int (nI k)), (3, .int (ko o)), (0, .ref (ad 100)), (1, .int (nI v)), (2, .int bb)]) hx hb d_R_lightest_21 hl (by decide) rfl (fun ls hl => ?_)
          refine lv_iload hx hb d_R_lightest_23 (lv_at hl 0 rfl) ?_
          refine lv_if_lt (tgt := 65) hx hb d_R_lightest_25 (by decide) (fun hc2 => ?_) (fun hc2 => ?_)
          · skip
            exact absurd hc2 (nI_pos (by omega))
          · skip
            refine lv_iload_n hx hb d_R_lightest_28 rfl (lv_at hl 5 rfl) ?_
            refine lv_if_eq (tgt := 42) hx hb d_R_lightest_29 (by decide) (fun hc3 => ?_) (fun hc3 => ?_)
            · skip
              have hz : S.2.1 v k = 0 := (hcond k hk9).mp ⟨Or.inl h1, Or.inl hc3⟩
              cases o with
              | none =>
                have hl : lv_has ls 6 [(5, .int (nI (2 * k))), (4, .int (nI k)), (3, .int (-1)), (0, .ref (ad 100)), (1, .int (nI v)), (2, .int bb)] := hl
                refine lv_iload_n hx hb d_R_lightest_42 rfl (lv_at hl 2 rfl) ?_
                refine lv_if_lt (tgt := 62) hx hb d_R_lightest_43 (by decide) (fun hc7 => ?_) (fun hc7 => ?_)
                · skip
                  refine lv_iload hx hb d_R_lightest_62 (lv_at hl 1 rfl) ?_
                  refine lv_istore_n (lv' := [(3, .int (nI k)), (5, .int (nI (2 * k))), (4, .int (nI k)), (0, .ref (ad 100)), (1, .int (nI v)), (2, .int bb)]) hx hb d_R_lightest_64 rfl hl (by decide) rfl (fun ls hl => ?_)
                  refine lv_iinc (k := 2) (v := (nI (k + 1))) (lv' := [(4, .int (nI (k + 1))), (3, .int (nI k)), (5, .int (nI (2 * k))), (0, .ref (ad 100)), (1, .int (nI v)), (2, .int bb)]) hx hb d_R_lightest_65 hl rfl (hp_inc k 1) (by decide) rfl (fun ls hl => ?_)
                  refine lv_goto (tgt := 5) hx hb d_R_lightest_68 (by decide) ?_
                  exact ih (k + 1) (some k) ls (by omega) (k_lb2 hz ho.symm).symm (lv_sub hl [0, 1, 3, 4, 5] rfl)
                · skip
                  exact absurd (by decide) hc7
              | some j =>
                have hl : lv_has ls 6 [(5, .int (nI (2 * k))), (4, .int (nI k)), (3, .int (nI j)), (0, .ref (ad 100)), (1, .int (nI v)), (2, .int bb)] := hl
                have hjk := k_lb_lt ho.symm
                refine lv_iload_n hx hb d_R_lightest_42 rfl (lv_at hl 2 rfl) ?_
                refine lv_if_lt (tgt := 62) hx hb d_R_lightest_43 (by decide) (fun hc7 => ?_) (fun hc7 => ?_)
                · skip
                  exact absurd hc7 (nI_pos (by omega))
                · skip
                  refine lv_aload_n hx hb d_R_lightest_46 rfl (lv_at hl 3 rfl) ?_
                  refine hp_get (v := .ref (ad 102)) hx hb hg in_R hown hK h he rfl 4 (by decide) (hg _ w548) (fun _ z => z) rfl d_R_lightest_47 ?_
                  refine lv_iload hx hb d_R_lightest_50 (lv_at hl 1 rfl) ?_
                  refine hp_iald hx hb hK h 0 hw ht rfl (by omega) (by decide) d_R_lightest_52 ?_
                  refine lv_aload_n hx hb d_R_lightest_53 rfl (lv_at hl 3 rfl) ?_
                  refine hp_get (v := .ref (ad 102)) hx hb hg in_R hown hK h he rfl 4 (by decide) (hg _ w548) (fun _ z => z) rfl d_R_lightest_54 ?_
                  refine lv_iload_n hx hb d_R_lightest_57 rfl (lv_at hl 2 rfl) ?_
                  refine hp_iald hx hb hK h 0 hw ht rfl (by omega) (by decide) d_R_lightest_58 ?_
                  rw [show gw k = E.2.2.2.2 k from hw1 k hk9, show gw j = E.2.2.2.2 j from hw1 j (by omega)]
                  refine lv_icmp_ge (tgt := 65) hx hb d_R_lightest_59 (by decide) (fun hc8 => ?_) (fun hc8 => ?_)
                  · skip
                    refine lv_iinc (k := 1) (v := (nI (k + 1))) (lv' := [(4, .int (nI (k + 1))), (5, .int (nI (2 * k))), (3, .int (nI j)), (0, .ref (ad 100)), (1, .int (nI v)), (2, .int bb)]) hx hb d_R_lightest_65 hl rfl (hp_inc k 1) (by decide) rfl (fun ls hl => ?_)
                    refine lv_goto (tgt := 5) hx hb d_R_lightest_68 (by decide) ?_
                    exact ih (k + 1) (some j) ls (by omega) (by rw [k_lb3 hz ho.symm, if_neg (Int32.not_lt.mpr hc8)]) (lv_sub hl [0, 2, 3, 4, 5] rfl)
                  · skip
                    refine lv_iload hx hb d_R_lightest_62 (lv_at hl 1 rfl) ?_
                    refine lv_istore_n (lv' := [(3, .int (nI k)), (5, .int (nI (2 * k))), (4, .int (nI k)), (0, .ref (ad 100)), (1, .int (nI v)), (2, .int bb)]) hx hb d_R_lightest_64 rfl hl (by decide) rfl (fun ls hl => ?_)
                    refine lv_iinc (k := 2) (v := (nI (k + 1))) (lv' := [(4, .int (nI (k + 1))), (3, .int (nI k)), (5, .int (nI (2 * k))), (0, .ref (ad 100)), (1, .int (nI v)), (2, .int bb)]) hx hb d_R_lightest_65 hl rfl (hp_inc k 1) (by decide) rfl (fun ls hl => ?_)
                    refine lv_goto (tgt := 5) hx hb d_R_lightest_68 (by decide) ?_
                    exact ih (k + 1) (some k) ls (by omega) (by rw [k_lb3 hz ho.symm, if_pos (Int32.not_le.mp hc8)]) (lv_sub hl [0, 1, 3, 4, 5] rfl)
            · skip
              refine lv_aload_n hx hb d_R_lightest_32 rfl (lv_at hl 3 rfl) ?_
              refine hp_get (v := .ref (ad 103)) hx hb hg in_R hown hK h he rfl 5 (by decide) (hg _ w549) (fun _ z => z) rfl d_R_lightest_33 ?_
              refine lv_iload hx hb d_R_lightest_36 (lv_at hl 0 rfl) ?_
              refine hp_iald hx hb hK h 0 hk ht rfl (by omega) (by decide) d_R_lightest_38 ?_
              rw [show gk (2 * k) = S.2.1 v k from by rw [(hk1 k hk9).1]; dsimp only; rw [h1]]
              refine lv_if_ne (tgt := 65) hx hb d_R_lightest_39 (by decide) (fun hc4 => ?_) (fun hc4 => ?_)
              · skip
                refine lv_iinc (k := 1) (v := (nI (k + 1))) (lv' := [(4, .int (nI (k + 1))), (5, .int (nI (2 * k))), (3, .int (ko o)), (0, .ref (ad 100)), (1, .int (nI v)), (2, .int bb)]) hx hb d_R_lightest_65 hl rfl (hp_inc k 1) (by decide) rfl (fun ls hl => ?_)
                refine lv_goto (tgt := 5) hx hb d_R_lightest_68 (by decide) ?_
                exact ih (k + 1) o ls (by omega) (by rw [k_lb1 hc4]; exact ho) (lv_sub hl [0, 2, 3, 4, 5] rfl)
              · skip
                have hz : S.2.1 v k = 0 := hc4
                cases o with
                | none =>
                  have hl : lv_has ls 6 [(5, .int (nI (2 * k))), (4, .int (nI k)), (3, .int (-1)), (0, .ref (ad 100)), (1, .int (nI v)), (2, .int bb)] := hl
                  refine lv_iload_n hx hb d_R_lightest_42 rfl (lv_at hl 2 rfl) ?_
                  refine lv_if_lt (tgt := 62) hx hb d_R_lightest_43 (by decide) (fun hc7 => ?_) (fun hc7 => ?_)
                  · skip
                    refine lv_iload hx hb d_R_lightest_62 (lv_at hl 1 rfl) ?_
                    refine lv_istore_n (lv' := [(3, .int (nI k)), (5, .int (nI (2 * k))), (4, .int (nI k)), (0, .ref (ad 100)), (1, .int (nI v)), (2, .int bb)]) hx hb d_R_lightest_64 rfl hl (by decide) rfl (fun ls hl => ?_)
                    refine lv_iinc (k := 2) (v := (nI (k + 1))) (lv' := [(4, .int (nI (k + 1))), (3, .int (nI k)), (5, .int (nI (2 * k))), (0, .ref (ad 100)), (1, .int (nI v)), (2, .int bb)]) hx hb d_R_lightest_65 hl rfl (hp_inc k 1) (by decide) rfl (fun ls hl => ?_)
                    refine lv_goto (tgt := 5) hx hb d_R_lightest_68 (by decide) ?_
                    exact ih (k + 1) (some k) ls (by omega) (k_lb2 hz ho.symm).symm (lv_sub hl [0, 1, 3, 4, 5] rfl)
                  · skip
                    exact absurd (by decide) hc7
                | some j =>
                  have hl : lv_has ls 6 [(5, .int (nI (2 * k))), (4, .int (nI k)), (3, .int (nI j)), (0, .ref (ad 100)), (1, .int (nI v)), (2, .int bb)] := hl
                  have hjk := k_lb_lt ho.symm
                  refine lv_iload_n hx hb d_R_lightest_42 rfl (lv_at hl 2 rfl) ?_
                  refine lv_if_lt (tgt := 62) hx hb d_R_lightest_43 (by decide) (fun hc7 => ?_) (fun hc7 => ?_)
                  · skip
                    exact absurd hc7 (nI_pos (by omega))
                  · skip
                    refine lv_aload_n hx hb d_R_lightest_46 rfl (lv_at hl 3 rfl) ?_
                    refine hp_get (v := .ref (ad 102)) hx hb hg in_R hown hK h he rfl 4 (by decide) (hg _ w548) (fun _ z => z) rfl d_R_lightest_47 ?_
                    refine lv_iload hx hb d_R_lightest_50 (lv_at hl 1 rfl) ?_
                    refine hp_iald hx hb hK h 0 hw ht rfl (by omega) (by decide) d_R_lightest_52 ?_
                    refine lv_aload_n hx hb d_R_lightest_53 rfl (lv_at hl 3 rfl) ?_
                    refine hp_get (v := .ref (ad 102)) hx hb hg in_R hown hK h he rfl 4 (by decide) (hg _ w548) (fun _ z => z) rfl d_R_lightest_54 ?_
                    refine lv_iload_n hx hb d_R_lightest_57 rfl (lv_at hl 2 rfl) ?_
                    refine hp_iald hx hb hK h 0 hw ht rfl (by omega) (by decide) d_R_lightest_58 ?_
                    rw [show gw k = E.2.2.2.2 k from hw1 k hk9, show gw j = E.2.2.2.2 j from hw1 j (by omega)]
                    refine lv_icmp_ge (tgt := 65) hx hb d_R_lightest_59 (by decide) (fun hc8 => ?_) (fun hc8 => ?_)
                    · skip
                      refine lv_iinc (k := 1) (v := (nI (k + 1))) (lv' := [(4, .int (nI (k + 1))), (5, .int (nI (2 * k))), (3, .int (nI j)), (0, .ref (ad 100)), (1, .int (nI v)), (2, .int bb)]) hx hb d_R_lightest_65 hl rfl (hp_inc k 1) (by decide) rfl (fun ls hl => ?_)
                      refine lv_goto (tgt := 5) hx hb d_R_lightest_68 (by decide) ?_
                      exact ih (k + 1) (some j) ls (by omega) (by rw [k_lb3 hz ho.symm, if_neg (Int32.not_lt.mpr hc8)]) (lv_sub hl [0, 2, 3, 4, 5] rfl)
                    · skip
                      refine lv_iload hx hb d_R_lightest_62 (lv_at hl 1 rfl) ?_
                      refine lv_istore_n (lv' := [(3, .int (nI k)), (5, .int (nI (2 * k))), (4, .int (nI k)), (0, .ref (ad 100)), (1, .int (nI v)), (2, .int bb)]) hx hb d_R_lightest_64 rfl hl (by decide) rfl (fun ls hl => ?_)
                      refine lv_iinc (k := 2) (v := (nI (k + 1))) (lv' := [(4, .int (nI (k + 1))), (3, .int (nI k)), (5, .int (nI (2 * k))), (0, .ref (ad 100)), (1, .int (nI v)), (2, .int bb)]) hx hb d_R_lightest_65 hl rfl (hp_inc k 1) (by decide) rfl (fun ls hl => ?_)
                      refine lv_goto (tgt := 5) hx hb d_R_lightest_68 (by decide) ?_
                      exact ih (k + 1) (some k) ls (by omega) (by rw [k_lb3 hz ho.symm, if_pos (Int32.not_le.mp hc8)]) (lv_sub hl [0, 1, 3, 4, 5] rfl)
        by_cases h2 : E.2.2.2.1 k = v
        · skip
          rw [show k_eo E v k = nI (2 * k + 1) from (if_neg h1).trans (if_pos h2)]
          refine lv_istore (lv' := [(5, .int (nI (2 * k + 1))), (4, .int (nI k)), (3, .int (ko o)), (0, .ref (ad 100)), (1, .int (nI v)), (2, .int bb)]) hx hb d_R_lightest_21 hl (by decide) rfl (fun ls hl => ?_)
          refine lv_iload hx hb d_R_lightest_23 (lv_at hl 0 rfl) ?_
          refine lv_if_lt (tgt := 65) hx hb d_R_lightest_25 (by decide) (fun hc2 => ?_) (fun hc2 => ?_)
          · skip
            exact absurd hc2 (nI_pos (by omega))
          · skip
            refine lv_iload_n hx hb d_R_lightest_28 rfl (lv_at hl 5 rfl) ?_
            refine lv_if_eq (tgt := 42) hx hb d_R_lightest_29 (by decide) (fun hc3 => ?_) (fun hc3 => ?_)
            · skip
              have hz : S.2.1 v k = 0 := (hcond k hk9).mp ⟨Or.inr h2, Or.inl hc3⟩
              cases o with
              | none =>
                have hl : lv_has ls 6 [(5, .int (nI (2 * k + 1))), (4, .int (nI k)), (3, .int (-1)), (0, .ref (ad 100)), (1, .int (nI v)), (2, .int bb)] := hl
                refine lv_iload_n hx hb d_R_lightest_42 rfl (lv_at hl 2 rfl) ?_
                refine lv_if_lt (tgt := 62) hx hb d_R_lightest_43 (by decide) (fun hc7 => ?_) (fun hc7 => ?_)
                · skip
                  refine lv_iload hx hb d_R_lightest_62 (lv_at hl 1 rfl) ?_
                  refine lv_istore_n (lv' := [(3, .int (nI k)), (5, .int (nI (2 * k + 1))), (4, .int (nI k)), (0, .ref (ad 100)), (1, .int (nI v)), (2, .int bb)]) hx hb d_R_lightest_64 rfl hl (by decide) rfl (fun ls hl => ?_)
                  refine lv_iinc (k := 2) (v := (nI (k + 1))) (lv' := [(4, .int (nI (k + 1))), (3, .int (nI k)), (5, .int (nI (2 * k + 1))), (0, .ref (ad 100)), (1, .int (nI v)), (2, .int bb)]) hx hb d_R_lightest_65 hl rfl (hp_inc k 1) (by decide) rfl (fun ls hl => ?_)
                  refine lv_goto (tgt := 5) hx hb d_R_lightest_68 (by decide) ?_
                  exact ih (k + 1) (some k) ls (by omega) (k_lb2 hz ho.symm).symm (lv_sub hl [0, 1, 3, 4, 5] rfl)
                · skip
                  exact absurd (by decide) hc7
              | some j =>
                have hl : lv_has ls 6 [(5, .int (nI (2 * k + 1))), (4, .int (nI k)), (3, .int (nI j)), (0, .ref (ad 100)), (1, .int (nI v)), (2, .int bb)] := hl
                have hjk := k_lb_lt ho.symm
                refine lv_iload_n hx hb d_R_lightest_42 rfl (lv_at hl 2 rfl) ?_
                refine lv_if_lt (tgt := 62) hx hb d_R_lightest_43 (by decide) (fun hc7 => ?_) (fun hc7 => ?_)
                · skip
                  exact absurd hc7 (nI_pos (by omega))
                · skip
                  refine lv_aload_n hx hb d_R_lightest_46 rfl (lv_at hl 3 rfl) ?_
                  refine hp_get (v := .ref (ad 102)) hx hb hg in_R hown hK h he rfl 4 (by decide) (hg _ w548) (fun _ z => z) rfl d_R_lightest_47 ?_
                  refine lv_iload hx hb d_R_lightest_50 (lv_at hl 1 rfl) ?_
                  refine hp_iald hx hb hK h 0 hw ht rfl (by omega) (by decide) d_R_lightest_52 ?_
                  refine lv_aload_n hx hb d_R_lightest_53 rfl (lv_at hl 3 rfl) ?_
                  refine hp_get (v := .ref (ad 102)) hx hb hg in_R hown hK h he rfl 4 (by decide) (hg _ w548) (fun _ z => z) rfl d_R_lightest_54 ?_
                  refine lv_iload_n hx hb d_R_lightest_57 rfl (lv_at hl 2 rfl) ?_
                  refine hp_iald hx hb hK h 0 hw ht rfl (by omega) (by decide) d_R_lightest_58 ?_
                  rw [show gw k = E.2.2.2.2 k from hw1 k hk9, show gw j = E.2.2.2.2 j from hw1 j (by omega)]
                  refine lv_icmp_ge (tgt := 65) hx hb d_R_lightest_59 (by decide) (fun hc8 => ?_) (fun hc8 => ?_)
                  · skip
                    refine lv_iinc (k := 1) (v := (nI (k + 1))) (lv' := [(4, .int (nI (k + 1))), (5, .int (nI (2 * k + 1))), (3, .int (nI j)), (0, .ref (ad 100)), (1, .int (nI v)), (2, .int bb)]) hx hb d_R_lightest_65 hl rfl (hp_inc k 1) (by decide) rfl (fun ls hl => ?_)
                    refine lv_goto (tgt := 5) hx hb d_R_lightest_68 (by decide) ?_
                    exact ih (k + 1) (some j) ls (by omega) (by rw [k_lb3 hz ho.symm, if_neg (Int32.not_lt.mpr hc8)]) (lv_sub hl [0, 2, 3, 4, 5] rfl)
                  · skip
                    refine lv_iload hx hb d_R_lightest_62 (lv_at hl 1 rfl) ?_
                    refine lv_istore_n (lv' := [(3, .int (nI k)), (5, .int (nI (2 * k + 1))), (4, .int (nI k)), (0, .ref (ad 100)), (1, .int (nI v)), (2, .int bb)]) hx hb d_R_lightest_64 rfl hl (by decide) rfl (fun ls hl => ?_)
                    refine lv_iinc (k := 2) (v := (nI (k + 1))) (lv' := [(4, .int (nI (k + 1))), (3, .int (nI k)), (5, .int (nI (2 * k + 1))), (0, .ref (ad 100)), (1, .int (nI v)), (2, .int bb)]) hx hb d_R_lightest_65 hl rfl (hp_inc k 1) (by decide) rfl (fun ls hl => ?_)
                    refine lv_goto (tgt := 5) hx hb d_R_lightest_68 (by decide) ?_
                    exact ih (k + 1) (some k) ls (by omega) (by rw [k_lb3 hz ho.symm, if_pos (Int32.not_le.mp hc8)]) (lv_sub hl [0, 1, 3, 4, 5] rfl)
            · skip
              refine lv_aload_n hx hb d_R_lightest_32 rfl (lv_at hl 3 rfl) ?_
              refine hp_get (v := .ref (ad 103)) hx hb hg in_R hown hK h he rfl 5 (by decide) (hg _ w549) (fun _ z => z) rfl d_R_lightest_33 ?_
              refine lv_iload hx hb d_R_lightest_36 (lv_at hl 0 rfl) ?_
              refine hp_iald hx hb hK h 0 hk ht rfl (by omega) (by decide) d_R_lightest_38 ?_
              rw [show gk (2 * k + 1) = S.2.1 v k from by rw [(hk1 k hk9).2]; dsimp only; rw [h2]]
              refine lv_if_ne (tgt := 65) hx hb d_R_lightest_39 (by decide) (fun hc4 => ?_) (fun hc4 => ?_)
              · skip
                refine lv_iinc (k := 1) (v := (nI (k + 1))) (lv' := [(4, .int (nI (k + 1))), (5, .int (nI (2 * k + 1))), (3, .int (ko o)), (0, .ref (ad 100)), (1, .int (nI v)), (2, .int bb)]) hx hb d_R_lightest_65 hl rfl (hp_inc k 1) (by decide) rfl (fun ls hl => ?_)
                refine lv_goto (tgt := 5) hx hb d_R_lightest_68 (by decide) ?_
                exact ih (k + 1) o ls (by omega) (by rw [k_lb1 hc4]; exact ho) (lv_sub hl [0, 2, 3, 4, 5] rfl)
              · skip
                have hz : S.2.1 v k = 0 := hc4
                cases o with
                | none =>
                  have hl : lv_has ls 6 [(5, .int (nI (2 * k + 1))), (4, .int (nI k)), (3, .int (-1)), (0, .ref (ad 100)), (1, .int (nI v)), (2, .int bb)] := hl
                  refine lv_iload_n hx hb d_R_lightest_42 rfl (lv_at hl 2 rfl) ?_
                  refine lv_if_lt (tgt := 62) hx hb d_R_lightest_43 (by decide) (fun hc7 => ?_) (fun hc7 => ?_)
                  · skip
                    refine lv_iload hx hb d_R_lightest_62 (lv_at hl 1 rfl) ?_
                    refine lv_istore_n (lv' := [(3, .int (nI k)), (5, .int (nI (2 * k + 1))), (4, .int (nI k)), (0, .ref (ad 100)), (1, .int (nI v)), (2, .int bb)]) hx hb d_R_lightest_64 rfl hl (by decide) rfl (fun ls hl => ?_)
                    refine lv_iinc (k := 2) (v := (nI (k + 1))) (lv' := [(4, .int (nI (k + 1))), (3, .int (nI k)), (5, .int (nI (2 * k + 1))), (0, .ref (ad 100)), (1, .int (nI v)), (2, .int bb)]) hx hb d_R_lightest_65 hl rfl (hp_inc k 1) (by decide) rfl (fun ls hl => ?_)
                    refine lv_goto (tgt := 5) hx hb d_R_lightest_68 (by decide) ?_
                    exact ih (k + 1) (some k) ls (by omega) (k_lb2 hz ho.symm).symm (lv_sub hl [0, 1, 3, 4, 5] rfl)
                  · skip
                    exact absurd (by decide) hc7
                | some j =>
                  have hl : lv_has ls 6 [(5, .int (nI (2 * k + 1))), (4, .int (nI k)), (3, .int (nI j)), (0, .ref (ad 100)), (1, .int (nI v)), (2, .int bb)] := hl
                  have hjk := k_lb_lt ho.symm
                  refine lv_iload_n hx hb d_R_lightest_42 rfl (lv_at hl 2 rfl) ?_
                  refine lv_if_lt (tgt := 62) hx hb d_R_lightest_43 (by decide) (fun hc7 => ?_) (fun hc7 => ?_)
                  · skip
                    exact absurd hc7 (nI_pos (by omega))
                  · skip
                    refine lv_aload_n hx hb d_R_lightest_46 rfl (lv_at hl 3 rfl) ?_
                    refine hp_get (v := .ref (ad 102)) hx hb hg in_R hown hK h he rfl 4 (by decide) (hg _ w548) (fun _ z => z) rfl d_R_lightest_47 ?_
                    refine lv_iload hx hb d_R_lightest_50 (lv_at hl 1 rfl) ?_
                    refine hp_iald hx hb hK h 0 hw ht rfl (by omega) (by decide) d_R_lightest_52 ?_
                    refine lv_aload_n hx hb d_R_lightest_53 rfl (lv_at hl 3 rfl) ?_
                    refine hp_get (v := .ref (ad 102)) hx hb hg in_R hown hK h he rfl 4 (by decide) (hg _ w548) (fun _ z => z) rfl d_R_lightest_54 ?_
                    refine lv_iload_n hx hb d_R_lightest_57 rfl (lv_at hl 2 rfl) ?_
                    refine hp_iald hx hb hK h 0 hw ht rfl (by omega) (by decide) d_R_lightest_58 ?_
                    rw [show gw k = E.2.2.2.2 k from hw1 k hk9, show gw j = E.2.2.2.2 j from hw1 j (by omega)]
                    refine lv_icmp_ge (tgt := 65) hx hb d_R_lightest_59 (by decide) (fun hc8 => ?_) (fun hc8 => ?_)
                    · skip
                      refine lv_iinc (k := 1) (v := (nI (k + 1))) (lv' := [(4, .int (nI (k + 1))), (5, .int (nI (2 * k + 1))), (3, .int (nI j)), (0, .ref (ad 100)), (1, .int (nI v)), (2, .int bb)]) hx hb d_R_lightest_65 hl rfl (hp_inc k 1) (by decide) rfl (fun ls hl => ?_)
                      refine lv_goto (tgt := 5) hx hb d_R_lightest_68 (by decide) ?_
                      exact ih (k + 1) (some j) ls (by omega) (by rw [k_lb3 hz ho.symm, if_neg (Int32.not_lt.mpr hc8)]) (lv_sub hl [0, 2, 3, 4, 5] rfl)
                    · skip
                      refine lv_iload hx hb d_R_lightest_62 (lv_at hl 1 rfl) ?_
                      refine lv_istore_n (lv' := [(3, .int (nI k)), (5, .int (nI (2 * k + 1))), (4, .int (nI k)), (0, .ref (ad 100)), (1, .int (nI v)), (2, .int bb)]) hx hb d_R_lightest_64 rfl hl (by decide) rfl (fun ls hl => ?_)
                      refine lv_iinc (k := 2) (v := (nI (k + 1))) (lv' := [(4, .int (nI (k + 1))), (3, .int (nI k)), (5, .int (nI (2 * k + 1))), (0, .ref (ad 100)), (1, .int (nI v)), (2, .int bb)]) hx hb d_R_lightest_65 hl rfl (hp_inc k 1) (by decide) rfl (fun ls hl => ?_)
                      refine lv_goto (tgt := 5) hx hb d_R_lightest_68 (by decide) ?_
                      exact ih (k + 1) (some k) ls (by omega) (by rw [k_lb3 hz ho.symm, if_pos (Int32.not_le.mp hc8)]) (lv_sub hl [0, 1, 3, 4, 5] rfl)
        rw [show k_eo E v k = -1 from (if_neg h1).trans (if_neg h2)]
        refine lv_istore (lv' := [(5, .int (-1)), (4, .int (nI k)), (3, .int (ko o)), (0, .ref (ad 100)), (1, .int (nI v)), (2, .int bb)]) hx hb d_R_lightest_21 hl (by decide) rfl (fun ls hl => ?_)
        refine lv_iload hx hb d_R_lightest_23 (lv_at hl 0 rfl) ?_
        refine lv_if_lt (tgt := 65) hx hb d_R_lightest_25 (by decide) (fun hc2 => ?_) (fun hc2 => ?_)
        · skip
          refine lv_iinc (k := 1) (v := (nI (k + 1))) (lv' := [(4, .int (nI (k + 1))), (5, .int (-1)), (3, .int (ko o)), (0, .ref (ad 100)), (1, .int (nI v)), (2, .int bb)]) hx hb d_R_lightest_65 hl rfl (hp_inc k 1) (by decide) rfl (fun ls hl => ?_)
          refine lv_goto (tgt := 5) hx hb d_R_lightest_68 (by decide) ?_
          exact ih (k + 1) o ls (by omega) (by rw [k_lb1 (fun z => by rcases ((hcond k hk9).mpr z).1 with w | w; exact h1 w; exact h2 w)]; exact ho) (lv_sub hl [0, 2, 3, 4, 5] rfl)
        · skip
          exact absurd (by decide) hc2
  have hl0 : lv_has ls 6 [(4, .int (nI 0)), (3, .int (ko none)), (0, .ref (ad 100)), (1, .int (nI v)), (2, .int bb)] := by rw [nI_0]; exact lv_sub hl [0, 1, 2, 3, 4] rfl
  exact key E.2.1 0 none ls (by omega) rfl hl0
