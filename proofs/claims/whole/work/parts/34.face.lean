/-! weight, wake, handle, mark of a node, by program (wip/mk34.py). -/
set_option maxHeartbeats 4000000 in
set_option maxRecDepth 100000 in
theorem c_G_weight (l : Launch) (D : va_G) (tys : List (ClassId × FieldType)) (de : Nat) (sa : Nat → Nat) {L : List Nat} {f : Nat → va_E} {ad τ : Nat → Nat} {E : kE} {S : kS} {cI cO cN : ClassId} (ht : tys[0]? = some (cI, .int)) (ht1 : tys[1]? = some (cO, .object "java/lang/Object")) (ht2 : tys[2]? = some (cN, .object "MergingFragments$Node")) (hG : kG cI cO cN de ad τ L f E S) (hW : kWE E) : hp_Ri l y_G_weight (gw_ws y_G_weight b_G_weight 3 (some .int)) { frames := 0, cells := 0, slots := 0, locals := 0 } D kc tys (s_X de sa) [.ref (ad 0)] L f (fun r => r = k_wt E S E.2.1) := by
  refine hp_ofW (Qc := fun A => hp_QR (fun r => r = k_wt E S E.2.1)) (fr := fun A => (fun _ => False)) (ret := (some .int)) (by decide) rfl (Nat.le_of_ble_eq_true rfl) ?_
  intro p e s m below meth c ls A hx hb hml hr hts hown hlk hnm hl hK hX h
  have hg : ∀ w ∈ gw, w.before _ s = true := fun w hw => hts w (List.mem_cons_of_mem _ hw)
  have hown : s.vm.findClass "MergingFragments" = some m.cls := hown
  have hnm : meth.name = "weight" := hnm
  have hl : lv_has ls 3 [(0, .ref (ad 0))] := hl
  have hn7 : E.1 ≤ 7 := hG.2.2.2.2.2.2.2.2.2.2.1
  have hm12 : E.2.1 ≤ 12 := hG.2.2.2.2.2.2.2.2.2.2.2.1
  have he := hG.1
  obtain ⟨gn, hn, hn1⟩ := hG.2.1
  obtain ⟨go, ho, ho1⟩ := hG.2.2.1
  obtain ⟨gtw, htw, htw1⟩ := hG.2.2.2.1
  obtain ⟨gw, hw, hw1⟩ := hG.2.2.2.2.1
  refine lv_iconst (v := 0) hx hb d_G_weight_0 (by decide) ?_
  refine lv_istore_n (lv' := [(1, .int 0), (0, .ref (ad 0))]) hx hb d_G_weight_1 rfl hl (by decide) rfl (fun ls hl => ?_)
  refine lv_iconst (v := 0) hx hb d_G_weight_2 (by decide) ?_
  refine lv_istore_n (lv' := [(2, .int 0), (1, .int 0), (0, .ref (ad 0))]) hx hb d_G_weight_3 rfl hl (by decide) rfl (fun ls hl => ?_)
  have key : ∀ (d k : Nat)  (ls : Array Slot), k + d = E.2.1 → lv_has ls 3 [(2, .int (nI k)), (1, .int (k_wt E S k)), (0, .ref (ad 0))] → W p l e { frames := 0, cells := 0, slots := 0, locals := 0 } s m ([.ref (ad 0)] : List Value).toArray below meth c s.heap [] 0 0 (MQ below (hp_QR (fun r => r = k_wt E S E.2.1)) ([.ref (ad 0)] : List Value).toArray s 0 0 (fun _ => False)) (F0 m 4 ls []) := by
    intro d
    induction d with
    | zero =>
      intro k  ls hkd  hl
      refine lv_iload_n hx hb d_G_weight_4 rfl (lv_at hl 0 rfl) ?_
      refine lv_aload_n hx hb d_G_weight_5 rfl (lv_at hl 2 rfl) ?_
      refine hp_get (v := .int (nI E.2.1)) hx hb hg in_G hown hK h he rfl 5 (by decide) (hg _ w132) (fun _ z => z) rfl d_G_weight_6 ?_
      refine lv_icmp_ge (tgt := 67) hx hb d_G_weight_9 (by decide) (fun hc => ?_) (fun hc => ?_)
      · skip
        have hkm : k = E.2.1 := by omega
        refine lv_iload_n hx hb d_G_weight_67 rfl (lv_at hl 1 rfl) ?_
        exact hp_riret hx hb hr hlk (by rw [hkm]) d_G_weight_68
      · skip
        exact absurd (nI_le (by omega) (by omega)) hc
    | succ d ih =>
      intro k  ls hkd  hl
      refine lv_iload_n hx hb d_G_weight_4 rfl (lv_at hl 0 rfl) ?_
      refine lv_aload_n hx hb d_G_weight_5 rfl (lv_at hl 2 rfl) ?_
      refine hp_get (v := .int (nI E.2.1)) hx hb hg in_G hown hK h he rfl 5 (by decide) (hg _ w132) (fun _ z => z) rfl d_G_weight_6 ?_
      refine lv_icmp_ge (tgt := 67) hx hb d_G_weight_9 (by decide) (fun hc => ?_) (fun hc => ?_)
      · skip
        exact absurd hc (nI_ge (by omega) (by omega))
      · skip
        have hk : k < E.2.1 := by omega
        have hna := hG.2.2.2.2.2.1 (E.2.2.1 k) (hW.2 k hk).1
        obtain ⟨gma, hma, hma1⟩ := hG.2.2.2.2.2.2.1 (E.2.2.1 k) (hW.2 k hk).1
        have hnb := hG.2.2.2.2.2.1 (E.2.2.2.1 k) (hW.2 k hk).2
        obtain ⟨gmb, hmb, hmb1⟩ := hG.2.2.2.2.2.2.1 (E.2.2.2.1 k) (hW.2 k hk).2
        refine lv_aload_n hx hb d_G_weight_12 rfl (lv_at hl 2 rfl) ?_
        refine hp_get (v := .ref (ad 1)) hx hb hg in_G hown hK h he rfl 0 (by decide) (hg _ w127) (fun _ z => z) rfl d_G_weight_13 ?_
        refine lv_aload_n hx hb d_G_weight_16 rfl (lv_at hl 2 rfl) ?_
        refine hp_get (v := .ref (ad 2)) hx hb hg in_G hown hK h he rfl 1 (by decide) (hg _ w128) (fun _ z => z) rfl d_G_weight_17 ?_
        refine lv_iload_n hx hb d_G_weight_20 rfl (lv_at hl 0 rfl) ?_
        refine hp_iald hx hb hK h 0 ho ht rfl (by omega) (by decide) d_G_weight_21 ?_
        rw [show go k = nI (E.2.2.1 k) from ho1 k hk]
        refine hp_aald (j := (E.2.2.1 k)) hx hb hK h 2 hn ht2 rfl (hW.2 k hk).1 (by decide) (hn1 (E.2.2.1 k) (hW.2 k hk).1) d_G_weight_22 ?_
        refine hp_getN (v := .ref (ad (20 + (E.2.2.1 k)))) hx hb hg in_N hown hK h hna rfl 1 (by decide) (s_N hX n81) (fun _ z => z) rfl d_G_weight_23 ?_
        refine lv_iload_n hx hb d_G_weight_26 rfl (lv_at hl 0 rfl) ?_
        refine hp_iald hx hb hK h 0 hma ht rfl (by omega) (by decide) d_G_weight_27 ?_
        rw [show gma k = S.2.1 (E.2.2.1 k) k from hma1 k (by omega)]
        refine lv_iconst (v := 1) hx hb d_G_weight_28 (by decide) ?_
        refine lv_icmp_ne (tgt := 61) hx hb d_G_weight_29 (by decide) (fun hc2 => ?_) (fun hc2 => ?_)
        · skip
          refine lv_iinc (k := 0) (v := (nI (k + 1))) (lv' := [(2, .int (nI (k + 1))), (1, .int (k_wt E S k)), (0, .ref (ad 0))]) hx hb d_G_weight_61 hl rfl (hp_inc k 1) (by decide) rfl (fun ls hl => ?_)
          refine lv_goto (tgt := 4) hx hb d_G_weight_64 (by decide) ?_
          have hw9 : k_wt E S (k + 1) = k_wt E S k := if_neg (fun z => hc2 z.1)
          exact ih (k + 1) ls (by omega) (by rw [hw9]; exact lv_sub hl [0, 1, 2] rfl)
        · skip
          refine lv_aload_n hx hb d_G_weight_32 rfl (lv_at hl 2 rfl) ?_
          refine hp_get (v := .ref (ad 1)) hx hb hg in_G hown hK h he rfl 0 (by decide) (hg _ w127) (fun _ z => z) rfl d_G_weight_33 ?_
          refine lv_aload_n hx hb d_G_weight_36 rfl (lv_at hl 2 rfl) ?_
          refine hp_get (v := .ref (ad 3)) hx hb hg in_G hown hK h he rfl 2 (by decide) (hg _ w129) (fun _ z => z) rfl d_G_weight_37 ?_
          refine lv_iload_n hx hb d_G_weight_40 rfl (lv_at hl 0 rfl) ?_
          refine hp_iald hx hb hK h 0 htw ht rfl (by omega) (by decide) d_G_weight_41 ?_
          rw [show gtw k = nI (E.2.2.2.1 k) from htw1 k hk]
          refine hp_aald (j := (E.2.2.2.1 k)) hx hb hK h 2 hn ht2 rfl (hW.2 k hk).2 (by decide) (hn1 (E.2.2.2.1 k) (hW.2 k hk).2) d_G_weight_42 ?_
          refine hp_getN (v := .ref (ad (20 + (E.2.2.2.1 k)))) hx hb hg in_N hown hK h hnb rfl 1 (by decide) (s_N hX n81) (fun _ z => z) rfl d_G_weight_43 ?_
          refine lv_iload_n hx hb d_G_weight_46 rfl (lv_at hl 0 rfl) ?_
          refine hp_iald hx hb hK h 0 hmb ht rfl (by omega) (by decide) d_G_weight_47 ?_
          rw [show gmb k = S.2.1 (E.2.2.2.1 k) k from hmb1 k (by omega)]
          refine lv_iconst (v := 1) hx hb d_G_weight_48 (by decide) ?_
          refine lv_icmp_ne (tgt := 61) hx hb d_G_weight_49 (by decide) (fun hc3 => ?_) (fun hc3 => ?_)
          · skip
            refine lv_iinc (k := 0) (v := (nI (k + 1))) (lv' := [(2, .int (nI (k + 1))), (1, .int (k_wt E S k)), (0, .ref (ad 0))]) hx hb d_G_weight_61 hl rfl (hp_inc k 1) (by decide) rfl (fun ls hl => ?_)
            refine lv_goto (tgt := 4) hx hb d_G_weight_64 (by decide) ?_
            have hw9 : k_wt E S (k + 1) = k_wt E S k := if_neg (fun z => hc3 z.2)
            exact ih (k + 1) ls (by omega) (by rw [hw9]; exact lv_sub hl [0, 1, 2] rfl)
          · skip
            refine lv_iload_n hx hb d_G_weight_52 rfl (lv_at hl 1 rfl) ?_
            refine lv_aload_n hx hb d_G_weight_53 rfl (lv_at hl 2 rfl) ?_
            refine hp_get (v := .ref (ad 4)) hx hb hg in_G hown hK h he rfl 3 (by decide) (hg _ w130) (fun _ z => z) rfl d_G_weight_54 ?_
            refine lv_iload_n hx hb d_G_weight_57 rfl (lv_at hl 0 rfl) ?_
            refine hp_iald hx hb hK h 0 hw ht rfl (by omega) (by decide) d_G_weight_58 ?_
            rw [show gw k = E.2.2.2.2 k from hw1 k hk]
            refine lv_iadd hx hb d_G_weight_59 ?_
            refine lv_istore_n (lv' := [(1, .int ((k_wt E S k) + (E.2.2.2.2 k))), (2, .int (nI k)), (0, .ref (ad 0))]) hx hb d_G_weight_60 rfl hl (by decide) rfl (fun ls hl => ?_)
            refine lv_iinc (k := 1) (v := (nI (k + 1))) (lv' := [(2, .int (nI (k + 1))), (1, .int ((k_wt E S k) + (E.2.2.2.2 k))), (0, .ref (ad 0))]) hx hb d_G_weight_61 hl rfl (hp_inc k 1) (by decide) rfl (fun ls hl => ?_)
            refine lv_goto (tgt := 4) hx hb d_G_weight_64 (by decide) ?_
            have hw9 : k_wt E S (k + 1) = k_wt E S k + E.2.2.2.2 k := if_pos ⟨hc2, hc3⟩
            exact ih (k + 1) ls (by omega) (by rw [hw9]; exact lv_sub hl [0, 1, 2] rfl)
  have hl0 : lv_has ls 3 [(2, .int (nI 0)), (1, .int (k_wt E S 0)), (0, .ref (ad 0))] := by rw [nI_0]; exact lv_sub hl [0, 1, 2] rfl
  exact key E.2.1 0  ls (by omega)  hl0

set_option maxHeartbeats 4000000 in
set_option maxRecDepth 100000 in
theorem c_G_wake (l : Launch) (D : va_G) (tys : List (ClassId × FieldType)) (de : Nat) (sa : Nat → Nat) {L : List Nat} {f : Nat → va_E} {v : Nat} {ad τ : Nat → Nat} {E : kE} {S : kS} {cI cO cN : ClassId} (ht : tys[0]? = some (cI, .int)) (ht1 : tys[1]? = some (cO, .object "java/lang/Object")) (ht2 : tys[2]? = some (cN, .object "MergingFragments$Node")) (hG : kG cI cO cN de ad τ L f E S) (hv : v < E.1) (hW : kWE E) (hlen : ∀ i, i < 7 → (S.2.2.1 i).length < 2 ^ 19) : hp_Mi l y_G_wake (gw_ws y_G_wake b_G_wake 2 (some .boolean)) { frames := 9, cells := k_cu (k_wake E S v) - k_cu S, slots := k_su (k_wake E S v) - k_su S, locals := 207 } D kc tys (s_X de sa) [.ref (ad 0), .int (nI v)] L f (fun r u => r = (if S.1 v 0 = 0 then 1 else 0) ∧ kP cI cO cN de ad τ L f E (k_wake E S v) u) (k_cu (k_wake E S v) - k_cu S) (k_su (k_wake E S v) - k_su S) := by
  refine hp_ofW (Qc := fun A => va_Qi (fun r u => r = (if S.1 v 0 = 0 then 1 else 0) ∧ kP cI cO cN de ad τ L f E (k_wake E S v) u) (hp_B D kc A) A) (fr := fun A => A) (ret := (some .boolean)) (by decide) rfl (Nat.le_of_ble_eq_true rfl) ?_
  intro p e s m below meth c ls A hx hb hml hr hts hown hlk hnm hl hK hX h
  have hg : ∀ w ∈ gw, w.before _ s = true := fun w hw => hts w (List.mem_cons_of_mem _ hw)
  have hown : s.vm.findClass "MergingFragments" = some m.cls := hown
  have hnm : meth.name = "wake" := hnm
  have hl : lv_has ls 2 [(0, .ref (ad 0)), (1, .int (nI v))] := hl
  have hn7 : E.1 ≤ 7 := hG.2.2.2.2.2.2.2.2.2.2.1
  have hm12 : E.2.1 ≤ 12 := hG.2.2.2.2.2.2.2.2.2.2.2.1
  have hF : kFr τ L f τ (L, f) := kFr.rf
  have he := hG.1
  obtain ⟨gn, hn, hn1⟩ := hG.2.1
  have hnd := hG.2.2.2.2.2.1 v (by omega)
  obtain ⟨gm, hm, hm1⟩ := hG.2.2.2.2.2.2.1 v (by omega)
  refine lv_aload_n hx hb d_G_wake_0 rfl (lv_at hl 0 rfl) ?_
  refine lv_iload_n hx hb d_G_wake_1 rfl (lv_at hl 1 rfl) ?_
  refine hp_callU (hp_runV (As := [.int (nI v)]) (rest := []) ⟨hx, hb, hml, hown, hg⟩ (c_G_requireNode l D tys de sa ht ht1 ht2 hG hv) (cwV 1 hg (gw_V w251 w253 ws3 w1 w254) rfl rfl rfl (by decide +kernel) ⟨Nat.le_of_ble_eq_true rfl, Nat.le_of_ble_eq_true rfl⟩) (s_ok de sa) hK hX h he rfl rfl rfl hl.1 rfl (Nat.le_of_ble_eq_true rfl) d_G_wake_2 ⟨Nat.zero_le _, Nat.zero_le _⟩) (fun hp => ?_)
  refine lv_aload_n hx hb d_G_wake_5 rfl (lv_at hl 0 rfl) ?_
  refine hp_get (v := .ref (ad 1)) hx hb hg in_G hown hK h he rfl 0 (by decide) (hg _ w127) (fun _ z => z) rfl d_G_wake_6 ?_
  refine lv_iload_n hx hb d_G_wake_9 rfl (lv_at hl 1 rfl) ?_
  refine hp_aald (j := v) hx hb hK h 2 hn ht2 rfl (by omega) (by decide) (hn1 v (by omega)) d_G_wake_10 ?_
  refine hp_getN (v := .int (S.1 v 0)) hx hb hg in_N hown hK h hnd rfl 3 (by decide) (s_N hX n85) (fun _ z => z) rfl d_G_wake_11 ?_
  refine lv_if_eq (tgt := 19) hx hb d_G_wake_14 (by decide) (fun hc => ?_) (fun hc => ?_)
  · skip
    refine lv_aload_n hx hb d_G_wake_19 rfl (lv_at hl 0 rfl) ?_
    refine lv_aload_n hx hb d_G_wake_20 rfl (lv_at hl 0 rfl) ?_
    refine hp_get (v := .ref (ad 1)) hx hb hg in_G hown hK h he rfl 0 (by decide) (hg _ w127) (fun _ z => z) rfl d_G_wake_21 ?_
    refine lv_iload_n hx hb d_G_wake_24 rfl (lv_at hl 1 rfl) ?_
    refine hp_aald (j := v) hx hb hK h 2 hn ht2 rfl (by omega) (by decide) (hn1 v (by omega)) d_G_wake_25 ?_
    refine hp_callv (hp_runV (As := [.ref (ad (10 + v))]) (rest := []) ⟨hx, hb, hml, hown, hg⟩ (c_G_wakeIfAsleep l D tys de sa ht ht1 ht2 hG (by omega) hW hlen) (cwV 1 hg (gw_V w304 w306 ws6 w1 w307) rfl rfl rfl (by decide +kernel) ⟨Nat.le_of_ble_eq_true rfl, Nat.le_of_ble_eq_true rfl⟩) (s_ok de sa) hK hX h he rfl rfl rfl hl.1 rfl (Nat.le_of_ble_eq_true rfl) d_G_wake_26 ⟨by dsimp only; omega, by dsimp only; omega⟩) h (fun L1 f1 H locs hp h => ?_)
    obtain ⟨τn, hG, hFn⟩ := hp
    refine lv_iconst (v := 1) hx hb d_G_wake_29 (by decide) ?_
    exact hp_zret hx hb hr hlk h rfl ⟨(if_pos hc).symm, _, hG, hFn⟩ (by omega) (by omega) d_G_wake_30
  · skip
    refine lv_iconst (v := 0) hx hb d_G_wake_17 (by decide) ?_
    exact hp_zret hx hb hr hlk h rfl ⟨(if_neg hc).symm, by rw [k_wake0 hc]; exact ⟨_, hG, hF⟩⟩ (Nat.zero_le _) (Nat.zero_le _) d_G_wake_18

set_option maxHeartbeats 4000000 in
set_option maxRecDepth 100000 in
theorem c_G_handle (l : Launch) (D : va_G) (tys : List (ClassId × FieldType)) (de : Nat) (sa : Nat → Nat) {L : List Nat} {f : Nat → va_E} {v : Nat} {ad τ : Nat → Nat} {E : kE} {S : kS} {cI cO cN : ClassId} (ht : tys[0]? = some (cI, .int)) (ht1 : tys[1]? = some (cO, .object "java/lang/Object")) (ht2 : tys[2]? = some (cN, .object "MergingFragments$Node")) (hG : kG cI cO cN de ad τ L f E S) (hv : v < E.1) (hW : kWE E) (hlen : ∀ i, i < 7 → (S.2.2.1 i).length + 41 < 2 ^ 19) (hok : ∀ q l, S.2.2.1 v = q :: l → kOK E S v q) : hp_Mi l y_G_handle (gw_ws y_G_handle b_G_handle 2 (some .int)) { frames := 12, cells := k_cu (k_first E S v) - k_cu S, slots := k_su (k_first E S v) - k_su S, locals := 272 } D kc tys (s_X de sa) [.ref (ad 0), .int (nI v)] L f (fun r u => r = k_fk S v ∧ kP cI cO cN de ad τ L f E (k_first E S v) u) (k_cu (k_first E S v) - k_cu S) (k_su (k_first E S v) - k_su S) := by
  refine hp_ofW (Qc := fun A => va_Qi (fun r u => r = k_fk S v ∧ kP cI cO cN de ad τ L f E (k_first E S v) u) (hp_B D kc A) A) (fr := fun A => A) (ret := (some .int)) (by decide) rfl (Nat.le_of_ble_eq_true rfl) ?_
  intro p e s m below meth c ls A hx hb hml hr hts hown hlk hnm hl hK hX h
  have hg : ∀ w ∈ gw, w.before _ s = true := fun w hw => hts w (List.mem_cons_of_mem _ hw)
  have hown : s.vm.findClass "MergingFragments" = some m.cls := hown
  have hnm : meth.name = "handle" := hnm
  have hl : lv_has ls 2 [(0, .ref (ad 0)), (1, .int (nI v))] := hl
  have hn7 : E.1 ≤ 7 := hG.2.2.2.2.2.2.2.2.2.2.1
  have hm12 : E.2.1 ≤ 12 := hG.2.2.2.2.2.2.2.2.2.2.2.1
  have hF : kFr τ L f τ (L, f) := kFr.rf
  have he := hG.1
  obtain ⟨gn, hn, hn1⟩ := hG.2.1
  have hnd := hG.2.2.2.2.2.1 v (by omega)
  obtain ⟨gm, hm, hm1⟩ := hG.2.2.2.2.2.2.1 v (by omega)
  refine lv_aload_n hx hb d_G_handle_0 rfl (lv_at hl 0 rfl) ?_
  refine lv_iload_n hx hb d_G_handle_1 rfl (lv_at hl 1 rfl) ?_
  refine hp_callU (hp_runV (As := [.int (nI v)]) (rest := []) ⟨hx, hb, hml, hown, hg⟩ (c_G_requireNode l D tys de sa ht ht1 ht2 hG hv) (cwV 1 hg (gw_V w251 w253 ws3 w1 w254) rfl rfl rfl (by decide +kernel) ⟨Nat.le_of_ble_eq_true rfl, Nat.le_of_ble_eq_true rfl⟩) (s_ok de sa) hK hX h he rfl rfl rfl hl.1 rfl (Nat.le_of_ble_eq_true rfl) d_G_handle_2 ⟨Nat.zero_le _, Nat.zero_le _⟩) (fun hp => ?_)
  refine lv_aload_n hx hb d_G_handle_5 rfl (lv_at hl 0 rfl) ?_
  refine lv_aload_n hx hb d_G_handle_6 rfl (lv_at hl 0 rfl) ?_
  refine hp_get (v := .ref (ad 1)) hx hb hg in_G hown hK h he rfl 0 (by decide) (hg _ w127) (fun _ z => z) rfl d_G_handle_7 ?_
  refine lv_iload_n hx hb d_G_handle_10 rfl (lv_at hl 1 rfl) ?_
  refine hp_aald (j := v) hx hb hK h 2 hn ht2 rfl (by omega) (by decide) (hn1 v (by omega)) d_G_handle_11 ?_
  refine hp_calli (hp_runV (As := [.ref (ad (10 + v))]) (rest := []) ⟨hx, hb, hml, hown, hg⟩ (c_G_handleFirst l D tys de sa ht ht1 ht2 hG (by omega) hW hlen hok) (cwV 1 hg (gw_V w407 w409 ws12 w1 w410) rfl rfl rfl (by decide +kernel) ⟨Nat.le_of_ble_eq_true rfl, Nat.le_of_ble_eq_true rfl⟩) (s_ok de sa) hK hX h he rfl rfl rfl hl.1 rfl (Nat.le_of_ble_eq_true rfl) d_G_handle_12 ⟨by dsimp only; omega, by dsimp only; omega⟩) h (fun r1 L1 f1 H locs hp h => ?_)
  exact hp_iret hx hb hr hlk h hp (by omega) (by omega) d_G_handle_15

set_option maxHeartbeats 4000000 in
set_option maxRecDepth 100000 in
theorem c_G_mark (l : Launch) (D : va_G) (tys : List (ClassId × FieldType)) (de : Nat) (sa : Nat → Nat) {L : List Nat} {f : Nat → va_E} {v : Nat} {j : Nat} {ad τ : Nat → Nat} {E : kE} {S : kS} {cI cO cN : ClassId} (ht : tys[0]? = some (cI, .int)) (ht1 : tys[1]? = some (cO, .object "java/lang/Object")) (ht2 : tys[2]? = some (cN, .object "MergingFragments$Node")) (hG : kG cI cO cN de ad τ L f E S) (hv : v < E.1) (hj : j < E.2.1) : hp_Ri l y_G_mark (gw_ws y_G_mark b_G_mark 3 (some .int)) { frames := 6, cells := 0, slots := 0, locals := 136 } D kc tys (s_X de sa) [.ref (ad 0), .int (nI v), .int (nI j)] L f (fun r => r = S.2.1 v j) := by
  refine hp_ofW (Qc := fun A => hp_QR (fun r => r = S.2.1 v j)) (fr := fun A => (fun _ => False)) (ret := (some .int)) (by decide) rfl (Nat.le_of_ble_eq_true rfl) ?_
  intro p e s m below meth c ls A hx hb hml hr hts hown hlk hnm hl hK hX h
  have hg : ∀ w ∈ gw, w.before _ s = true := fun w hw => hts w (List.mem_cons_of_mem _ hw)
  have hown : s.vm.findClass "MergingFragments" = some m.cls := hown
  have hnm : meth.name = "mark" := hnm
  have hl : lv_has ls 3 [(0, .ref (ad 0)), (1, .int (nI v)), (2, .int (nI j))] := hl
  have hn7 : E.1 ≤ 7 := hG.2.2.2.2.2.2.2.2.2.2.1
  have hm12 : E.2.1 ≤ 12 := hG.2.2.2.2.2.2.2.2.2.2.2.1
  have he := hG.1
  obtain ⟨gn, hn, hn1⟩ := hG.2.1
  have hnd := hG.2.2.2.2.2.1 v (by omega)
  obtain ⟨gm, hm, hm1⟩ := hG.2.2.2.2.2.2.1 v (by omega)
  refine lv_aload_n hx hb d_G_mark_0 rfl (lv_at hl 0 rfl) ?_
  refine lv_iload_n hx hb d_G_mark_1 rfl (lv_at hl 1 rfl) ?_
  refine hp_callU (hp_runV (As := [.int (nI v)]) (rest := []) ⟨hx, hb, hml, hown, hg⟩ (c_G_requireNode l D tys de sa ht ht1 ht2 hG hv) (cwV 1 hg (gw_V w251 w253 ws3 w1 w254) rfl rfl rfl (by decide +kernel) ⟨Nat.le_of_ble_eq_true rfl, Nat.le_of_ble_eq_true rfl⟩) (s_ok de sa) hK hX h he rfl rfl rfl hl.1 rfl (Nat.le_of_ble_eq_true rfl) d_G_mark_2 ⟨Nat.zero_le _, Nat.zero_le _⟩) (fun hp => ?_)
  refine lv_iload_n hx hb d_G_mark_5 rfl (lv_at hl 2 rfl) ?_
  refine lv_if_lt (tgt := 17) hx hb d_G_mark_6 (by decide) (fun hc => ?_) (fun hc => ?_)
  · skip
    exact absurd hc (nI_pos (by omega))
  · skip
    refine lv_iload_n hx hb d_G_mark_9 rfl (lv_at hl 2 rfl) ?_
    refine lv_aload_n hx hb d_G_mark_10 rfl (lv_at hl 0 rfl) ?_
    refine hp_get (v := .int (nI E.2.1)) hx hb hg in_G hown hK h he rfl 5 (by decide) (hg _ w132) (fun _ z => z) rfl d_G_mark_11 ?_
    refine lv_icmp_lt (tgt := 27) hx hb d_G_mark_14 (by decide) (fun hc2 => ?_) (fun hc2 => ?_)
    · skip
      refine lv_aload_n hx hb d_G_mark_27 rfl (lv_at hl 0 rfl) ?_
      refine hp_get (v := .ref (ad 1)) hx hb hg in_G hown hK h he rfl 0 (by decide) (hg _ w127) (fun _ z => z) rfl d_G_mark_28 ?_
      refine lv_iload_n hx hb d_G_mark_31 rfl (lv_at hl 1 rfl) ?_
      refine hp_aald (j := v) hx hb hK h 2 hn ht2 rfl (by omega) (by decide) (hn1 v (by omega)) d_G_mark_32 ?_
      refine hp_getN (v := .ref (ad (20 + v))) hx hb hg in_N hown hK h hnd rfl 1 (by decide) (s_N hX n81) (fun _ z => z) rfl d_G_mark_33 ?_
      refine lv_iload_n hx hb d_G_mark_36 rfl (lv_at hl 2 rfl) ?_
      refine hp_iald hx hb hK h 0 hm ht rfl (by omega) (by decide) d_G_mark_37 ?_
      exact hp_riret hx hb hr hlk (hm1 j (by omega)) d_G_mark_38
    · skip
      exact absurd (nI_lt hj (by omega)) hc2
