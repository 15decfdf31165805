/-! about, message, by program (wip/mk35.py). -/
def k_abt (S : kS) (v : Nat) : Nat → Int32 := fun w => match w with
  | 0 => S.1 v 0
  | 1 => S.1 v 1
  | 2 => S.1 v 2
  | 3 => S.1 v 3
  | 4 => S.1 v 4
  | 5 => S.1 v 5
  | 6 => S.1 v 7
  | 7 => S.1 v 6
  | 8 => nI (S.2.2.1 v).length
  | _ => if S.1 v 8 = 0 then 0 else 1
set_option maxHeartbeats 4000000 in
set_option maxRecDepth 100000 in
theorem c_G_about (l : Launch) (D : va_G) (tys : List (ClassId × FieldType)) (de : Nat) (sa : Nat → Nat) {L : List Nat} {f : Nat → va_E} {v : Nat} {w : Nat} {ad τ : Nat → Nat} {E : kE} {S : kS} {cI cO cN : ClassId} (ht : tys[0]? = some (cI, .int)) (ht1 : tys[1]? = some (cO, .object "java/lang/Object")) (ht2 : tys[2]? = some (cN, .object "MergingFragments$Node")) (hG : kG cI cO cN de ad τ L f E S) (hv : v < E.1) (hw : w ≤ 9) : hp_Ri l y_G_about (gw_ws y_G_about b_G_about 4 (some .int)) { frames := 6, cells := 0, slots := 0, locals := 136 } D kc tys (s_X de sa) [.ref (ad 0), .int (nI v), .int (nI w)] L f (fun r => r = k_abt S v w) := by
  refine hp_ofW (Qc := fun A => hp_QR (fun r => r = k_abt S v w)) (fr := fun A => (fun _ => False)) (ret := (some .int)) (by decide) rfl (Nat.le_of_ble_eq_true rfl) ?_
  intro p e s m below meth c ls A hx hb hml hr hts hown hlk hnm hl hK hX h
  have hg : ∀ w ∈ gw, w.before _ s = true := fun w hw => hts w (List.mem_cons_of_mem _ hw)
  have hown : s.vm.findClass "MergingFragments" = some m.cls := hown
  have hnm : meth.name = "about" := hnm
  have hl : lv_has ls 4 [(0, .ref (ad 0)), (1, .int (nI v)), (2, .int (nI w))] := hl
  have hn7 : E.1 ≤ 7 := hG.2.2.2.2.2.2.2.2.2.2.1
  have hm12 : E.2.1 ≤ 12 := hG.2.2.2.2.2.2.2.2.2.2.2.1
  have he := hG.1
  obtain ⟨gn, hn, hn1⟩ := hG.2.1
  have hnd := hG.2.2.2.2.2.1 v (by omega)
  obtain ⟨gm, hm, hm1⟩ := hG.2.2.2.2.2.2.1 v (by omega)
  obtain ⟨ea, mo, hqa, hQr⟩ := hG.2.2.2.2.2.2.2.1 v (by omega)
  refine lv_aload_n hx hb d_G_about_0 rfl (lv_at hl 0 rfl) ?_
  refine lv_iload_n hx hb d_G_about_1 rfl (lv_at hl 1 rfl) ?_
  refine hp_callU (hp_runV (As := [.int (nI v)]) (rest := []) ⟨hx, hb, hml, hown, hg⟩ (c_G_requireNode l D tys de sa ht ht1 ht2 hG hv) (cwV 1 hg (gw_V w251 w253 ws3 w1 w254) rfl rfl rfl (by decide +kernel) ⟨Nat.le_of_ble_eq_true rfl, Nat.le_of_ble_eq_true rfl⟩) (s_ok de sa) hK hX h he rfl rfl rfl hl.1 rfl (Nat.le_of_ble_eq_true rfl) d_G_about_2 ⟨Nat.zero_le _, Nat.zero_le _⟩) (fun hp => ?_)
  refine lv_aload_n hx hb d_G_about_5 rfl (lv_at hl 0 rfl) ?_
  refine hp_get (v := .ref (ad 1)) hx hb hg in_G hown hK h he rfl 0 (by decide) (hg _ w127) (fun _ z => z) rfl d_G_about_6 ?_
  refine lv_iload_n hx hb d_G_about_9 rfl (lv_at hl 1 rfl) ?_
  refine hp_aald (j := v) hx hb hK h 2 hn ht2 rfl (by omega) (by decide) (hn1 v (by omega)) d_G_about_10 ?_
  refine lv_astore_n (lv' := [(3, .ref (ad (10 + v))), (0, .ref (ad 0)), (1, .int (nI v)), (2, .int (nI w))]) hx hb d_G_about_11 rfl hl (by decide) rfl (fun ls hl => ?_)
  refine lv_iload_n hx hb d_G_about_12 rfl (lv_at hl 3 rfl) ?_
  rcases (show w = 0 ∨ w = 1 ∨ w = 2 ∨ w = 3 ∨ w = 4 ∨ w = 5 ∨ w = 6 ∨ w = 7 ∨ w = 8 ∨ w = 9 by omega) with h9 | h9 | h9 | h9 | h9 | h9 | h9 | h9 | h9 | h9
  · skip
    subst h9
    refine lv_tableIn (off := 55) (tgt := 68) hx hb d_G_about_13 (by decide) (by decide) (by decide) (by decide) ?_
    refine lv_aload_n hx hb d_G_about_68 rfl (lv_at hl 0 rfl) ?_
    refine hp_getN (v := .int (S.1 v 0)) hx hb hg in_N hown hK h hnd rfl 3 (by decide) (s_N hX n85) (fun _ z => z) rfl d_G_about_69 ?_
    exact hp_riret hx hb hr hlk rfl d_G_about_72
  · skip
    subst h9
    refine lv_tableIn (off := 60) (tgt := 73) hx hb d_G_about_13 (by decide) (by decide) (by decide) (by decide) ?_
    refine lv_aload_n hx hb d_G_about_73 rfl (lv_at hl 0 rfl) ?_
    refine hp_getN (v := .int (S.1 v 1)) hx hb hg in_N hown hK h hnd rfl 4 (by decide) (s_N hX n87) (fun _ z => z) rfl d_G_about_74 ?_
    exact hp_riret hx hb hr hlk rfl d_G_about_77
  · skip
    subst h9
    refine lv_tableIn (off := 65) (tgt := 78) hx hb d_G_about_13 (by decide) (by decide) (by decide) (by decide) ?_
    refine lv_aload_n hx hb d_G_about_78 rfl (lv_at hl 0 rfl) ?_
    refine hp_getN (v := .int (S.1 v 2)) hx hb hg in_N hown hK h hnd rfl 5 (by decide) (s_N hX n89) (fun _ z => z) rfl d_G_about_79 ?_
    exact hp_riret hx hb hr hlk rfl d_G_about_82
  · skip
    subst h9
    refine lv_tableIn (off := 70) (tgt := 83) hx hb d_G_about_13 (by decide) (by decide) (by decide) (by decide) ?_
    refine lv_aload_n hx hb d_G_about_83 rfl (lv_at hl 0 rfl) ?_
    refine hp_getN (v := .int (S.1 v 3)) hx hb hg in_N hown hK h hnd rfl 6 (by decide) (s_N hX n91) (fun _ z => z) rfl d_G_about_84 ?_
    exact hp_riret hx hb hr hlk rfl d_G_about_87
  · skip
    subst h9
    refine lv_tableIn (off := 75) (tgt := 88) hx hb d_G_about_13 (by decide) (by decide) (by decide) (by decide) ?_
    refine lv_aload_n hx hb d_G_about_88 rfl (lv_at hl 0 rfl) ?_
    refine hp_getN (v := .int (S.1 v 4)) hx hb hg in_N hown hK h hnd rfl 7 (by decide) (s_N hX n93) (fun _ z => z) rfl d_G_about_89 ?_
    exact hp_riret hx hb hr hlk rfl d_G_about_92
  · skip
    subst h9
    refine lv_tableIn (off := 80) (tgt := 93) hx hb d_G_about_13 (by decide) (by decide) (by decide) (by decide) ?_
    refine lv_aload_n hx hb d_G_about_93 rfl (lv_at hl 0 rfl) ?_
    refine hp_getN (v := .int (S.1 v 5)) hx hb hg in_N hown hK h hnd rfl 8 (by decide) (s_N hX n95) (fun _ z => z) rfl d_G_about_94 ?_
    exact hp_riret hx hb hr hlk rfl d_G_about_97
  · skip
    subst h9
    refine lv_tableIn (off := 85) (tgt := 98) hx hb d_G_about_13 (by decide) (by decide) (by decide) (by decide) ?_
    refine lv_aload_n hx hb d_G_about_98 rfl (lv_at hl 0 rfl) ?_
    refine hp_getN (v := .int (S.1 v 7)) hx hb hg in_N hown hK h hnd rfl 10 (by decide) (s_N hX n99) (fun _ z => z) rfl d_G_about_99 ?_
    exact hp_riret hx hb hr hlk rfl d_G_about_102
  · skip
    subst h9
    refine lv_tableIn (off := 90) (tgt := 103) hx hb d_G_about_13 (by decide) (by decide) (by decide) (by decide) ?_
    refine lv_aload_n hx hb d_G_about_103 rfl (lv_at hl 0 rfl) ?_
    refine hp_getN (v := .int (S.1 v 6)) hx hb hg in_N hown hK h hnd rfl 9 (by decide) (s_N hX n97) (fun _ z => z) rfl d_G_about_104 ?_
    exact hp_riret hx hb hr hlk rfl d_G_about_107
  · skip
    subst h9
    refine lv_tableIn (off := 95) (tgt := 108) hx hb d_G_about_13 (by decide) (by decide) (by decide) (by decide) ?_
    refine lv_aload_n hx hb d_G_about_108 rfl (lv_at hl 0 rfl) ?_
    refine hp_getN (v := .ref (ad (30 + v))) hx hb hg in_N hown hK h hnd rfl 2 (by decide) (s_N hX n83) (fun _ z => z) rfl d_G_about_109 ?_
    refine hp_callR (hp_runV (As := []) (rest := []) ⟨hx, hb, hml, hown, hg⟩ (c_A_size l D tys de sa hqa) (cwV 0 hg (gw_V w157 w158 w159 w5 w160) rfl rfl rfl (by decide +kernel) ⟨Nat.le_of_ble_eq_true rfl, Nat.le_of_ble_eq_true rfl⟩) (s_ok de sa) hK hX h hqa rfl rfl rfl hl.1 rfl (Nat.le_of_ble_eq_true rfl) d_G_about_112 ⟨Nat.le_of_ble_eq_true rfl, Nat.le_of_ble_eq_true rfl⟩) (fun r1 hp => ?_)
    exact hp_riret hx hb hr hlk hp d_G_about_115
  · skip
    subst h9
    refine lv_tableIn (off := 103) (tgt := 116) hx hb d_G_about_13 (by decide) (by decide) (by decide) (by decide) ?_
    refine lv_aload_n hx hb d_G_about_116 rfl (lv_at hl 0 rfl) ?_
    refine hp_getN (v := .int (S.1 v 8)) hx hb hg in_N hown hK h hnd rfl 11 (by decide) (s_N hX n101) (fun _ z => z) rfl d_G_about_117 ?_
    refine lv_if_eq (tgt := 127) hx hb d_G_about_120 (by decide) (fun hc => ?_) (fun hc => ?_)
    · skip
      refine lv_iconst (v := 0) hx hb d_G_about_127 (by decide) ?_
      exact hp_riret hx hb hr hlk (show (0 : Int32) = if S.1 v 8 = 0 then 0 else 1 from (if_pos hc).symm) d_G_about_128
    · skip
      refine lv_iconst (v := 1) hx hb d_G_about_123 (by decide) ?_
      refine lv_goto (tgt := 128) hx hb d_G_about_124 (by decide) ?_
      exact hp_riret hx hb hr hlk (show (1 : Int32) = if S.1 v 8 = 0 then 0 else 1 from (if_neg hc).symm) d_G_about_128

set_option maxHeartbeats 4000000 in
set_option maxRecDepth 100000 in
theorem c_G_message (l : Launch) (D : va_G) (tys : List (ClassId × FieldType)) (de : Nat) (sa : Nat → Nat) {L : List Nat} {f : Nat → va_E} {v : Nat} {i w : Nat} {q : kM} {ad τ : Nat → Nat} {E : kE} {S : kS} {cI cO cN : ClassId} (ht : tys[0]? = some (cI, .int)) (ht1 : tys[1]? = some (cO, .object "java/lang/Object")) (ht2 : tys[2]? = some (cN, .object "MergingFragments$Node")) (hG : kG cI cO cN de ad τ L f E S) (hv : v < E.1) (hlen : (S.2.2.1 v).length < 2 ^ 19) (hq : (S.2.2.1 v)[i]? = some q) (hw : w ≤ 4) : hp_Ri l y_G_message (gw_ws y_G_message b_G_message 6 (some .int)) { frames := 6, cells := 0, slots := 0, locals := 136 } D kc tys (s_X de sa) [.ref (ad 0), .int (nI v), .int (nI i), .int (nI w)] L f (fun r => r = kmf q w) := by
  refine hp_ofW (Qc := fun A => hp_QR (fun r => r = kmf q w)) (fr := fun A => (fun _ => False)) (ret := (some .int)) (by decide) rfl (Nat.le_of_ble_eq_true rfl) ?_
  intro p e s m below meth c ls A hx hb hml hr hts hown hlk hnm hl hK hX h
  have hg : ∀ w ∈ gw, w.before _ s = true := fun w hw => hts w (List.mem_cons_of_mem _ hw)
  have hown : s.vm.findClass "MergingFragments" = some m.cls := hown
  have hnm : meth.name = "message" := hnm
  have hl : lv_has ls 6 [(0, .ref (ad 0)), (1, .int (nI v)), (2, .int (nI i)), (3, .int (nI w))] := hl
  have hn7 : E.1 ≤ 7 := hG.2.2.2.2.2.2.2.2.2.2.1
  have hm12 : E.2.1 ≤ 12 := hG.2.2.2.2.2.2.2.2.2.2.2.1
  have he := hG.1
  obtain ⟨gn, hn, hn1⟩ := hG.2.1
  have hnd := hG.2.2.2.2.2.1 v (by omega)
  obtain ⟨gm, hm, hm1⟩ := hG.2.2.2.2.2.2.1 v (by omega)
  obtain ⟨ea, mo, hqa, hQr⟩ := hG.2.2.2.2.2.2.2.1 v (by omega)
  have hil : i < (S.2.2.1 v).length := (List.getElem?_eq_some_iff.mp hq).1
  rcases hQr with ⟨-, z2, -⟩ | ⟨hte, hcap, hlc, g, hE, hels⟩
  · rw [z2] at hil; exact absurd hil (Nat.not_lt_zero _)
  obtain ⟨y, hgi, hyt, hy⟩ := hels i q hq
  refine lv_aload_n hx hb d_G_message_0 rfl (lv_at hl 0 rfl) ?_
  refine lv_iload_n hx hb d_G_message_1 rfl (lv_at hl 1 rfl) ?_
  refine hp_callU (hp_runV (As := [.int (nI v)]) (rest := []) ⟨hx, hb, hml, hown, hg⟩ (c_G_requireNode l D tys de sa ht ht1 ht2 hG hv) (cwV 1 hg (gw_V w251 w253 ws3 w1 w254) rfl rfl rfl (by decide +kernel) ⟨Nat.le_of_ble_eq_true rfl, Nat.le_of_ble_eq_true rfl⟩) (s_ok de sa) hK hX h he rfl rfl rfl hl.1 rfl (Nat.le_of_ble_eq_true rfl) d_G_message_2 ⟨Nat.zero_le _, Nat.zero_le _⟩) (fun hp => ?_)
  refine lv_aload_n hx hb d_G_message_5 rfl (lv_at hl 0 rfl) ?_
  refine hp_get (v := .ref (ad 1)) hx hb hg in_G hown hK h he rfl 0 (by decide) (hg _ w127) (fun _ z => z) rfl d_G_message_6 ?_
  refine lv_iload_n hx hb d_G_message_9 rfl (lv_at hl 1 rfl) ?_
  refine hp_aald (j := v) hx hb hK h 2 hn ht2 rfl (by omega) (by decide) (hn1 v (by omega)) d_G_message_10 ?_
  refine hp_getN (v := .ref (ad (30 + v))) hx hb hg in_N hown hK h hnd rfl 2 (by decide) (s_N hX n83) (fun _ z => z) rfl d_G_message_11 ?_
  refine lv_astore (lv' := [(4, .ref (ad (30 + v))), (0, .ref (ad 0)), (1, .int (nI v)), (2, .int (nI i)), (3, .int (nI w))]) hx hb d_G_message_14 hl (by decide) rfl (fun ls hl => ?_)
  refine lv_iload_n hx hb d_G_message_16 rfl (lv_at hl 3 rfl) ?_
  refine lv_if_lt (tgt := 29) hx hb d_G_message_17 (by decide) (fun hc => ?_) (fun hc => ?_)
  · skip
    exact absurd hc (nI_pos (by omega))
  · skip
    refine lv_iload_n hx hb d_G_message_20 rfl (lv_at hl 3 rfl) ?_
    refine lv_aload hx hb d_G_message_21 (lv_at hl 0 rfl) ?_
    refine hp_callR (hp_runV (As := []) (rest := [.int (nI i)]) ⟨hx, hb, hml, hown, hg⟩ (c_A_size l D tys de sa hqa) (cwV 0 hg (gw_V w157 w158 w159 w5 w160) rfl rfl rfl (by decide +kernel) ⟨Nat.le_of_ble_eq_true rfl, Nat.le_of_ble_eq_true rfl⟩) (s_ok de sa) hK hX h hqa rfl rfl rfl hl.1 rfl (Nat.le_of_ble_eq_true rfl) d_G_message_23 ⟨Nat.le_of_ble_eq_true rfl, Nat.le_of_ble_eq_true rfl⟩) (fun r1 hp => ?_)
    subst hp
    refine lv_icmp_lt (tgt := 39) hx hb d_G_message_26 (by decide) (fun hc2 => ?_) (fun hc2 => ?_)
    · skip
      refine lv_aload hx hb d_G_message_39 (lv_at hl 0 rfl) ?_
      refine lv_iload_n hx hb d_G_message_41 rfl (lv_at hl 3 rfl) ?_
      refine hp_callRr (hp_runV (As := [.int (nI i)]) (rest := []) ⟨hx, hb, hml, hown, hg⟩ (c_A_get l D tys de sa ht1 hqa hE hlc (by omega) hil hgi) (cwV 1 hg (gw_V w529 w530 w531 w5 w532) rfl rfl rfl (by decide +kernel) ⟨Nat.le_of_ble_eq_true rfl, Nat.le_of_ble_eq_true rfl⟩) (s_ok de sa) hK hX h hqa rfl rfl rfl hl.1 rfl (Nat.le_of_ble_eq_true rfl) d_G_message_42 ⟨Nat.le_of_ble_eq_true rfl, Nat.le_of_ble_eq_true rfl⟩) (fun r1 hp => ?_)
      have hp := hp.symm
      subst hp
      refine hp_cast (ci := 2) hx hb hown (hg _ w312) hK h rfl (s_Nw hX n737) hy d_G_message_45 ?_
      refine lv_astore (lv' := [(5, .ref y), (4, .ref (ad (30 + v))), (0, .ref (ad 0)), (1, .int (nI v)), (2, .int (nI i)), (3, .int (nI w))]) hx hb d_G_message_48 hl (by decide) rfl (fun ls hl => ?_)
      refine lv_iload_n hx hb d_G_message_50 rfl (lv_at hl 5 rfl) ?_
      rcases (show w = 0 ∨ w = 1 ∨ w = 2 ∨ w = 3 ∨ w = 4 by omega) with h9 | h9 | h9 | h9 | h9
      · skip
        subst h9
        refine lv_tableIn (off := 33) (tgt := 84) hx hb d_G_message_51 (by decide) (by decide) (by decide) (by decide) ?_
        refine lv_aload hx hb d_G_message_84 (lv_at hl 0 rfl) ?_
        refine hp_callR (hp_runV (As := []) (rest := []) ⟨hx, hb, hml, hown, hg⟩ (c_M_kind l D tys de sa hy) (cwV 0 hg (gw_V w430 w431 w432 w15 w433) rfl rfl rfl (by decide +kernel) ⟨Nat.le_of_ble_eq_true rfl, Nat.le_of_ble_eq_true rfl⟩) (s_ok de sa) hK hX h hy rfl rfl rfl hl.1 rfl (Nat.le_of_ble_eq_true rfl) d_G_message_86 ⟨Nat.le_of_ble_eq_true rfl, Nat.le_of_ble_eq_true rfl⟩) (fun r1 hp => ?_)
        exact hp_riret hx hb hr hlk hp d_G_message_89
      · skip
        subst h9
        refine lv_tableIn (off := 39) (tgt := 90) hx hb d_G_message_51 (by decide) (by decide) (by decide) (by decide) ?_
        refine lv_aload hx hb d_G_message_90 (lv_at hl 0 rfl) ?_
        refine hp_callR (hp_runV (As := []) (rest := []) ⟨hx, hb, hml, hown, hg⟩ (c_M_over l D tys de sa hy) (cwV 0 hg (gw_V w341 w342 w343 w15 w344) rfl rfl rfl (by decide +kernel) ⟨Nat.le_of_ble_eq_true rfl, Nat.le_of_ble_eq_true rfl⟩) (s_ok de sa) hK hX h hy rfl rfl rfl hl.1 rfl (Nat.le_of_ble_eq_true rfl) d_G_message_92 ⟨Nat.le_of_ble_eq_true rfl, Nat.le_of_ble_eq_true rfl⟩) (fun r1 hp => ?_)
        exact hp_riret hx hb hr hlk hp d_G_message_95
      · skip
        subst h9
        refine lv_tableIn (off := 45) (tgt := 96) hx hb d_G_message_51 (by decide) (by decide) (by decide) (by decide) ?_
        refine lv_aload hx hb d_G_message_96 (lv_at hl 0 rfl) ?_
        refine hp_callR (hp_runV (As := []) (rest := []) ⟨hx, hb, hml, hown, hg⟩ (c_M_first l D tys de sa hy) (cwV 0 hg (gw_V w438 w439 w440 w15 w441) rfl rfl rfl (by decide +kernel) ⟨Nat.le_of_ble_eq_true rfl, Nat.le_of_ble_eq_true rfl⟩) (s_ok de sa) hK hX h hy rfl rfl rfl hl.1 rfl (Nat.le_of_ble_eq_true rfl) d_G_message_98 ⟨Nat.le_of_ble_eq_true rfl, Nat.le_of_ble_eq_true rfl⟩) (fun r1 hp => ?_)
        exact hp_riret hx hb hr hlk hp d_G_message_101
      · skip
        subst h9
        refine lv_tableIn (off := 51) (tgt := 102) hx hb d_G_message_51 (by decide) (by decide) (by decide) (by decide) ?_
        refine lv_aload hx hb d_G_message_102 (lv_at hl 0 rfl) ?_
        refine hp_callR (hp_runV (As := []) (rest := []) ⟨hx, hb, hml, hown, hg⟩ (c_M_second l D tys de sa hy) (cwV 0 hg (gw_V w451 w452 w453 w15 w454) rfl rfl rfl (by decide +kernel) ⟨Nat.le_of_ble_eq_true rfl, Nat.le_of_ble_eq_true rfl⟩) (s_ok de sa) hK hX h hy rfl rfl rfl hl.1 rfl (Nat.le_of_ble_eq_true rfl) d_G_message_104 ⟨Nat.le_of_ble_eq_true rfl, Nat.le_of_ble_eq_true rfl⟩) (fun r1 hp => ?_)
        exact hp_riret hx hb hr hlk hp d_G_message_107
      · skip
        subst h9
        refine lv_tableIn (off := 57) (tgt := 108) hx hb d_G_message_51 (by decide) (by decide) (by decide) (by decide) ?_
        refine lv_aload hx hb d_G_message_108 (lv_at hl 0 rfl) ?_
        refine hp_callR (hp_runV (As := []) (rest := []) ⟨hx, hb, hml, hown, hg⟩ (c_M_third l D tys de sa hy) (cwV 0 hg (gw_V w455 w456 w457 w15 w458) rfl rfl rfl (by decide +kernel) ⟨Nat.le_of_ble_eq_true rfl, Nat.le_of_ble_eq_true rfl⟩) (s_ok de sa) hK hX h hy rfl rfl rfl hl.1 rfl (Nat.le_of_ble_eq_true rfl) d_G_message_110 ⟨Nat.le_of_ble_eq_true rfl, Nat.le_of_ble_eq_true rfl⟩) (fun r1 hp => ?_)
        exact hp_riret hx hb hr hlk hp d_G_message_113
    · skip
      exact absurd (nI_lt hil (by omega)) hc2
