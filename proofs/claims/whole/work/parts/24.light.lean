/-! MergingFragments.lightestBasic, by program (wip/mk24.py). -/
/-- the lightest BASIC edge of x among the first k -/
def k_lb (E : kE) (S : kS) (x : Nat) : Nat → Option Nat
  | 0 => none
  | k + 1 => if S.2.1 x k = 0 then (match k_lb E S x k with
    | none => some k
    | some j => if E.2.2.2.2 k < E.2.2.2.2 j then some k else some j) else k_lb E S x k
def ko : Option Nat → Int32
  | none => -1
  | some j => nI j
theorem k_lb1 {E : kE} {S : kS} {x k : Nat} (h : ¬ S.2.1 x k = 0) : k_lb E S x (k + 1) = k_lb E S x k := if_neg h
theorem k_lb2 {E : kE} {S : kS} {x k : Nat} (h : S.2.1 x k = 0) (h1 : k_lb E S x k = none) : k_lb E S x (k + 1) = some k := by
  show (if S.2.1 x k = 0 then _ else _) = _
  rw [if_pos h, h1]
theorem k_lb3 {E : kE} {S : kS} {x k j : Nat} (h : S.2.1 x k = 0) (h1 : k_lb E S x k = some j) : k_lb E S x (k + 1) = if E.2.2.2.2 k < E.2.2.2.2 j then some k else some j := by
  show (if S.2.1 x k = 0 then _ else _) = _
  rw [if_pos h, h1]
theorem k_lb_lt {E : kE} {S : kS} {x : Nat} : ∀ {k j : Nat}, k_lb E S x k = some j → j < k ∧ S.2.1 x j = 0
  | 0, j, h => by cases h
  | k + 1, j, h => by
    by_cases h0 : S.2.1 x k = 0
    · cases h1 : k_lb E S x k with
      | none => rw [k_lb2 h0 h1] at h; cases h; exact ⟨Nat.lt_succ_self _, h0⟩
      | some i =>
        rw [k_lb3 h0 h1] at h
        split at h
        · cases h; exact ⟨Nat.lt_succ_self _, h0⟩
        · cases h
          have := k_lb_lt h1
          exact ⟨by omega, this.2⟩
    · rw [k_lb1 h0] at h
      have := k_lb_lt h
      exact ⟨by omega, this.2⟩
set_option maxHeartbeats 4000000 in
set_option maxRecDepth 100000 in
theorem c_G_lightestBasic (l : Launch) (D : va_G) (tys : List (ClassId × FieldType)) (de : Nat) (sa : Nat → Nat) {L : List Nat} {f : Nat → va_E} {x : Nat} {ad τ : Nat → Nat} {E : kE} {S : kS} {cI cO cN : ClassId} (ht : tys[0]? = some (cI, .int)) (ht1 : tys[1]? = some (cO, .object "java/lang/Object")) (ht2 : tys[2]? = some (cN, .object "MergingFragments$Node")) (hG : kG cI cO cN de ad τ L f E S) (hx7 : x < 7) : hp_Ri l y_G_lightestBasic (gw_ws y_G_lightestBasic b_G_lightestBasic 4 (some .int)) { frames := 0, cells := 0, slots := 0, locals := 0 } D kc tys (s_X de sa) [.ref (ad 0), .ref (ad (10 + x))] L f (fun r => r = ko (k_lb E S x E.2.1)) := by
  refine hp_ofW (Qc := fun A => hp_QR (fun r => r = ko (k_lb E S x E.2.1))) (fr := fun A => (fun _ => False)) (ret := (some .int)) (by decide) rfl (Nat.le_of_ble_eq_true rfl) ?_
  intro p e s m below meth c ls A hx hb hml hr hts hown hlk hnm hl hK hX h
  have hg : ∀ w ∈ gw, w.before _ s = true := fun w hw => hts w (List.mem_cons_of_mem _ hw)
  have hown : s.vm.findClass "MergingFragments" = some m.cls := hown
  have hnm : meth.name = "lightestBasic" := hnm
  have hl : lv_has ls 4 [(0, .ref (ad 0)), (1, .ref (ad (10 + x)))] := hl
  have hm12 : E.2.1 ≤ 12 := hG.2.2.2.2.2.2.2.2.2.2.2.1
  have he := hG.1
  obtain ⟨go, ho, ho1⟩ := hG.2.2.1
  obtain ⟨gtw, htw, htw1⟩ := hG.2.2.2.1
  obtain ⟨gw, hw, hw1⟩ := hG.2.2.2.2.1
  have hnd := hG.2.2.2.2.2.1 x hx7
  obtain ⟨gm, hm, hm1⟩ := hG.2.2.2.2.2.2.1 x hx7
  refine lv_iconst (v := (-1)) hx hb d_G_lightestBasic_0 (by decide) ?_
  refine lv_istore_n (lv' := [(2, .int (-1)), (0, .ref (ad 0)), (1, .ref (ad (10 + x)))]) hx hb d_G_lightestBasic_1 rfl hl (by decide) rfl (fun ls hl => ?_)
  refine lv_iconst (v := 0) hx hb d_G_lightestBasic_2 (by decide) ?_
  refine lv_istore_n (lv' := [(3, .int 0), (2, .int (-1)), (0, .ref (ad 0)), (1, .ref (ad (10 + x)))]) hx hb d_G_lightestBasic_3 rfl hl (by decide) rfl (fun ls hl => ?_)
  have key : ∀ (d k : Nat) (o : Option Nat) (ls : Array Slot), k + d = E.2.1 → o = k_lb E S x k → lv_has ls 4 [(3, .int (nI k)), (2, .int (ko o)), (0, .ref (ad 0)), (1, .ref (ad (10 + x)))] → W p l e { frames := 0, cells := 0, slots := 0, locals := 0 } s m ([.ref (ad 0), .ref (ad (10 + x))] : List Value).toArray below meth c s.heap [] 0 0 (MQ below (hp_QR (fun r => r = ko (k_lb E S x E.2.1))) ([.ref (ad 0), .ref (ad (10 + x))] : List Value).toArray s 0 0 (fun _ => False)) (F0 m 4 ls []) := by
    intro d
    induction d with
    | zero =>
      intro k o ls hkd ho hl
      refine lv_iload_n hx hb d_G_lightestBasic_4 rfl (lv_at hl 0 rfl) ?_
      refine lv_aload_n hx hb d_G_lightestBasic_5 rfl (lv_at hl 2 rfl) ?_
      refine hp_get (v := .int (nI E.2.1)) hx hb hg in_G hown hK h he rfl 5 (by decide) (hg _ w132) (fun _ z => z) rfl d_G_lightestBasic_6 ?_
      refine lv_icmp_ge (tgt := 49) hx hb d_G_lightestBasic_9 (by decide) (fun hc => ?_) (fun hc => ?_)
      · skip
        have hkm : k = E.2.1 := by omega
        refine lv_iload_n hx hb d_G_lightestBasic_49 rfl (lv_at hl 1 rfl) ?_
        exact hp_riret hx hb hr hlk (by rw [ho, hkm]) d_G_lightestBasic_50
      · skip
        exact absurd (nI_le (by omega) (by omega)) hc
    | succ d ih =>
      intro k o ls hkd ho hl
      refine lv_iload_n hx hb d_G_lightestBasic_4 rfl (lv_at hl 0 rfl) ?_
      refine lv_aload_n hx hb d_G_lightestBasic_5 rfl (lv_at hl 2 rfl) ?_
      refine hp_get (v := .int (nI E.2.1)) hx hb hg in_G hown hK h he rfl 5 (by decide) (hg _ w132) (fun _ z => z) rfl d_G_lightestBasic_6 ?_
      refine lv_icmp_ge (tgt := 49) hx hb d_G_lightestBasic_9 (by decide) (fun hc => ?_) (fun hc => ?_)
      · skip
        exact absurd hc (nI_ge (by omega) (by omega))
      · skip
        refine lv_aload_n hx hb d_G_lightestBasic_12 rfl (lv_at hl 3 rfl) ?_
        refine hp_getN (v := .ref (ad (20 + x))) hx hb hg in_N hown hK h hnd rfl 1 (by decide) (s_N hX n81) (fun _ z => z) rfl d_G_lightestBasic_13 ?_
        refine lv_iload_n hx hb d_G_lightestBasic_16 rfl (lv_at hl 0 rfl) ?_
        refine hp_iald hx hb hK h 0 hm ht rfl (by omega) (by decide) d_G_lightestBasic_17 ?_
        rw [show gm k = S.2.1 x k from hm1 k (by omega)]
        refine lv_if_ne (tgt := 43) hx hb d_G_lightestBasic_18 (by decide) (fun hc2 => ?_) (fun hc2 => ?_)
        · skip
          refine lv_iinc (k := 0) (v := (nI (k + 1))) (lv' := [(3, .int (nI (k + 1))), (2, .int (ko o)), (0, .ref (ad 0)), (1, .ref (ad (10 + x)))]) hx hb d_G_lightestBasic_43 hl rfl (hp_inc k 1) (by decide) rfl (fun ls hl => ?_)
          refine lv_goto (tgt := 4) hx hb d_G_lightestBasic_46 (by decide) ?_
          exact ih (k + 1) o ls (by omega) (by rw [k_lb1 hc2]; exact ho) (lv_sub hl [0, 1, 2, 3] rfl)
        · skip
          cases o with
          | none =>
            have hl : lv_has ls 4 [(3, .int (nI k)), (2, .int (-1)), (0, .ref (ad 0)), (1, .ref (ad (10 + x)))] := hl
            refine lv_iload_n hx hb d_G_lightestBasic_21 rfl (lv_at hl 1 rfl) ?_
            refine lv_iconst (v := (-1)) hx hb d_G_lightestBasic_22 (by decide) ?_
            refine lv_icmp_eq (tgt := 41) hx hb d_G_lightestBasic_23 (by decide) (fun hc3 => ?_) (fun hc3 => ?_)
            · skip
              refine lv_iload_n hx hb d_G_lightestBasic_41 rfl (lv_at hl 0 rfl) ?_
              refine lv_istore_n (lv' := [(2, .int (nI k)), (3, .int (nI k)), (0, .ref (ad 0)), (1, .ref (ad (10 + x)))]) hx hb d_G_lightestBasic_42 rfl hl (by decide) rfl (fun ls hl => ?_)
              refine lv_iinc (k := 1) (v := (nI (k + 1))) (lv' := [(3, .int (nI (k + 1))), (2, .int (nI k)), (0, .ref (ad 0)), (1, .ref (ad (10 + x)))]) hx hb d_G_lightestBasic_43 hl rfl (hp_inc k 1) (by decide) rfl (fun ls hl => ?_)
              refine lv_goto (tgt := 4) hx hb d_G_lightestBasic_46 (by decide) ?_
              exact ih (k + 1) (some k) ls (by omega) (k_lb2 hc2 ho.symm).symm (lv_sub hl [0, 1, 2, 3] rfl)
            · skip
              exact absurd rfl hc3
          | some j =>
            have hl : lv_has ls 4 [(3, .int (nI k)), (2, .int (nI j)), (0, .ref (ad 0)), (1, .ref (ad (10 + x)))] := hl
            have hjk := k_lb_lt ho.symm
            refine lv_iload_n hx hb d_G_lightestBasic_21 rfl (lv_at hl 1 rfl) ?_
            refine lv_iconst (v := (-1)) hx hb d_G_lightestBasic_22 (by decide) ?_
            refine lv_icmp_eq (tgt := 41) hx hb d_G_lightestBasic_23 (by decide) (fun hc3 => ?_) (fun hc3 => ?_)
            · skip
              exact absurd hc3 (nI_ne1 (by omega))
            · skip
              refine lv_aload_n hx hb d_G_lightestBasic_26 rfl (lv_at hl 2 rfl) ?_
              refine hp_get (v := .ref (ad 4)) hx hb hg in_G hown hK h he rfl 3 (by decide) (hg _ w130) (fun _ z => z) rfl d_G_lightestBasic_27 ?_
              refine lv_iload_n hx hb d_G_lightestBasic_30 rfl (lv_at hl 0 rfl) ?_
              refine hp_iald hx hb hK h 0 hw ht rfl (by omega) (by decide) d_G_lightestBasic_31 ?_
              refine lv_aload_n hx hb d_G_lightestBasic_32 rfl (lv_at hl 2 rfl) ?_
              refine hp_get (v := .ref (ad 4)) hx hb hg in_G hown hK h he rfl 3 (by decide) (hg _ w130) (fun _ z => z) rfl d_G_lightestBasic_33 ?_
              refine lv_iload_n hx hb d_G_lightestBasic_36 rfl (lv_at hl 1 rfl) ?_
              refine hp_iald hx hb hK h 0 hw ht rfl (by omega) (by decide) d_G_lightestBasic_37 ?_
              rw [show gw k = E.2.2.2.2 k from hw1 k (by omega), show gw j = E.2.2.2.2 j from hw1 j (by omega)]
              refine lv_icmp_ge (tgt := 43) hx hb d_G_lightestBasic_38 (by decide) (fun hc4 => ?_) (fun hc4 => ?_)
              · skip
                refine lv_iinc (k := 0) (v := (nI (k + 1))) (lv' := [(3, .int (nI (k + 1))), (2, .int (nI j)), (0, .ref (ad 0)), (1, .ref (ad (10 + x)))]) hx hb d_G_lightestBasic_43 hl rfl (hp_inc k 1) (by decide) rfl (fun ls hl => ?_)
                refine lv_goto (tgt := 4) hx hb d_G_lightestBasic_46 (by decide) ?_
                exact ih (k + 1) (some j) ls (by omega) (by rw [k_lb3 hc2 ho.symm, if_neg (Int32.not_lt.mpr hc4)]) (lv_sub hl [0, 1, 2, 3] rfl)
              · skip
                refine lv_iload_n hx hb d_G_lightestBasic_41 rfl (lv_at hl 0 rfl) ?_
                refine lv_istore_n (lv' := [(2, .int (nI k)), (3, .int (nI k)), (0, .ref (ad 0)), (1, .ref (ad (10 + x)))]) hx hb d_G_lightestBasic_42 rfl hl (by decide) rfl (fun ls hl => ?_)
                refine lv_iinc (k := 1) (v := (nI (k + 1))) (lv' := [(3, .int (nI (k + 1))), (2, .int (nI k)), (0, .ref (ad 0)), (1, .ref (ad (10 + x)))]) hx hb d_G_lightestBasic_43 hl rfl (hp_inc k 1) (by decide) rfl (fun ls hl => ?_)
                refine lv_goto (tgt := 4) hx hb d_G_lightestBasic_46 (by decide) ?_
                exact ih (k + 1) (some k) ls (by omega) (by rw [k_lb3 hc2 ho.symm, if_pos (Int32.not_le.mp hc4)]) (lv_sub hl [0, 1, 2, 3] rfl)
  have hl0 : lv_has ls 4 [(3, .int (nI 0)), (2, .int (ko none)), (0, .ref (ad 0)), (1, .ref (ad (10 + x)))] := by rw [nI_0]; exact lv_sub hl [0, 1, 2, 3] rfl
  exact key E.2.1 0 none ls (by omega) rfl hl0
