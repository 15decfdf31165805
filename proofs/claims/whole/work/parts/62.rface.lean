/-! The reference's sent, left, wake, handle, mark, by program (wip/mk62.py). -/
/-- what the reference's steps find -/
def kPr (E : kE) (S : kS) : Prop := (kWE E ∧ (∀ j, j < E.2.1 → E.2.2.1 j < E.1 ∧ E.2.2.2.1 j < E.1) ∧ (∀ j, j < E.2.1 → E.2.2.1 j ≠ E.2.2.2.1 j)) ∧ (∀ i, i < E.1 → (S.2.2.1 i).length + 15 < 200) ∧ ∀ v, v < E.1 → (S.1 v 0 = 0 ∨ 0 < S.1 v 0) ∧ (∀ k, k < E.2.1 → S.2.1 v k = 0 ∨ S.2.1 v k = 1 → E.2.2.1 k = v ∨ E.2.2.2.1 k = v) ∧ (S.1 v 0 = 0 → ∀ k, k < E.2.1 → (E.2.2.1 k = v ∨ E.2.2.2.1 k = v) → S.2.1 v k = 0) ∧ (S.1 v 7 = -1 ∨ 0 ≤ S.1 v 7) ∧ (∀ q l, S.2.2.1 v = q :: l → kOR E S v q) ∧ (k_fk S v = -1 ∨ 0 ≤ k_fk S v)
def kBad (E : kE) (w : Int32) : Prop := w < 0 ∨ nI E.1 ≤ w
set_option maxHeartbeats 4000000 in
set_option maxRecDepth 100000 in
theorem c_R_sent (l : Launch) (D : va_G) (tys : List (ClassId × FieldType)) (de : Nat) (sa : Nat → Nat) {L : List Nat} {f : Nat → va_E} {ad τ : Nat → Nat} {E : kE} {S : kS} {code : Int32} {cI cZ : ClassId} (ht : tys[0]? = some (cI, .int)) (ht3 : tys[3]? = some (cZ, .boolean)) (hR : kR cI cZ ad τ L f code E S) (hn7 : E.1 ≤ 7) (hm12 : E.2.1 ≤ 12) : hp_Mi l y_R_sent (gw_ws y_R_sent b_R_sent 1 (some .int)) { frames := 0, cells := 0, slots := 0, locals := 0 } D kc tys (s_X de sa) [.ref (ad 100)] L f (fun r u => r = S.2.2.2.2.1 ∧ kRP cI cZ ad τ L f 0 E S u) 0 0 := by
  refine hp_ofW (Qc := fun A => va_Qi (fun r u => r = S.2.2.2.2.1 ∧ kRP cI cZ ad τ L f 0 E S u) (hp_B D kc A) A) (fr := fun A => A) (ret := (some .int)) (by decide) rfl (Nat.le_of_ble_eq_true rfl) ?_
  intro p e s m below meth c ls A hx hb hml hr hts hown hlk hnm hl hK hX h
  have hg : ∀ w ∈ gw, w.before _ s = true := fun w hw => hts w (List.mem_cons_of_mem _ hw)
  have hown : s.vm.findClass "MergingFragmentsModel" = some m.cls := hown
  have hnm : meth.name = "sent" := hnm
  have hl : lv_has ls 1 [(0, .ref (ad 100))] := hl
  have hT := hR.2.2.2.2.2.2.2
  have he := hR.1
  refine lv_aload_n hx hb d_R_sent_0 rfl (lv_at hl 0 rfl) ?_
  refine lv_iconst (v := 0) hx hb d_R_sent_1 (by decide) ?_
  refine hp_put (ty := .int) (v := .int 0) (fs' := [.int 0, .int (nI E.1), .int (nI E.2.1), .ref (ad 101), .ref (ad 102), .ref (ad 103), .ref (ad 104), .ref (ad 105), .ref (ad 106), .ref (ad 107), .ref (ad 108), .ref (ad 109), .ref (ad 110), .ref (ad 111), .ref (ad 112), .ref (ad 113), .ref (ad 114), .ref (ad 115), .ref (ad 116), .ref (ad 117), .ref (ad 118), .ref (ad 119), .int S.2.2.2.2.1]) hx hb hg in_R t_R t_R_ok n_R hown hK h he rfl 0 (by decide) (hg _ w544) (fun _ z => z) rfl (by decide +kernel) rfl rfl (Nat.le_of_ble_eq_true rfl) rfl d_R_sent_2 (fun H locs f1 hf1 h => ?_)
  have he := he.self' hf1
  refine lv_aload_n hx hb d_R_sent_5 rfl (lv_at hl 0 rfl) ?_
  refine hp_get (v := .int S.2.2.2.2.1) hx hb hg in_R hown hK h he rfl 22 (by decide) (hg _ w566) (fun _ z => z) rfl d_R_sent_6 ?_
  have hR : kR cI cZ ad τ L f1 0 E S := hR.wO (f1 := f1) (code' := 0) (sc := S.2.2.2.2.1) hf1
  have hF : kFq τ L f (L, f1) := kFq.w hf1 (hT 100 (by omega) (by omega)) (by omega) (by omega)
  exact hp_iret hx hb hr hlk h ⟨rfl, hR, hF⟩ (by omega) (by omega) d_R_sent_9

set_option maxHeartbeats 4000000 in
set_option maxRecDepth 100000 in
theorem c_R_left (l : Launch) (D : va_G) (tys : List (ClassId × FieldType)) (de : Nat) (sa : Nat → Nat) {L : List Nat} {f : Nat → va_E} {ad τ : Nat → Nat} {E : kE} {S : kS} {code : Int32} {cI cZ : ClassId} (ht : tys[0]? = some (cI, .int)) (ht3 : tys[3]? = some (cZ, .boolean)) (hR : kR cI cZ ad τ L f code E S) (hn7 : E.1 ≤ 7) (hm12 : E.2.1 ≤ 12) : hp_Mi l y_R_left (gw_ws y_R_left b_R_left 1 (some .int)) { frames := 1, cells := 0, slots := 0, locals := 22 } D kc tys (s_X de sa) [.ref (ad 100)] L f (fun r u => r = nI (k_left S E.1) ∧ kRP cI cZ ad τ L f 0 E S u) 0 0 := by
  refine hp_ofW (Qc := fun A => va_Qi (fun r u => r = nI (k_left S E.1) ∧ kRP cI cZ ad τ L f 0 E S u) (hp_B D kc A) A) (fr := fun A => A) (ret := (some .int)) (by decide) rfl (Nat.le_of_ble_eq_true rfl) ?_
  intro p e s m below meth c ls A hx hb hml hr hts hown hlk hnm hl hK hX h
  have hg : ∀ w ∈ gw, w.before _ s = true := fun w hw => hts w (List.mem_cons_of_mem _ hw)
  have hown : s.vm.findClass "MergingFragmentsModel" = some m.cls := hown
  have hnm : meth.name = "left" := hnm
  have hl : lv_has ls 1 [(0, .ref (ad 100))] := hl
  have hT := hR.2.2.2.2.2.2.2
  have he := hR.1
  refine lv_aload_n hx hb d_R_left_0 rfl (lv_at hl 0 rfl) ?_
  refine lv_iconst (v := 0) hx hb d_R_left_1 (by decide) ?_
  refine hp_put (ty := .int) (v := .int 0) (fs' := [.int 0, .int (nI E.1), .int (nI E.2.1), .ref (ad 101), .ref (ad 102), .ref (ad 103), .ref (ad 104), .ref (ad 105), .ref (ad 106), .ref (ad 107), .ref (ad 108), .ref (ad 109), .ref (ad 110), .ref (ad 111), .ref (ad 112), .ref (ad 113), .ref (ad 114), .ref (ad 115), .ref (ad 116), .ref (ad 117), .ref (ad 118), .ref (ad 119), .int S.2.2.2.2.1]) hx hb hg in_R t_R t_R_ok n_R hown hK h he rfl 0 (by decide) (hg _ w544) (fun _ z => z) rfl (by decide +kernel) rfl rfl (Nat.le_of_ble_eq_true rfl) rfl d_R_left_2 (fun H locs f1 hf1 h => ?_)
  have he := he.self' hf1
  refine lv_aload_n hx hb d_R_left_5 rfl (lv_at hl 0 rfl) ?_
  have hR : kR cI cZ ad τ L f1 0 E S := hR.wO (f1 := f1) (code' := 0) (sc := S.2.2.2.2.1) hf1
  have hF : kFq τ L f (L, f1) := kFq.w hf1 (hT 100 (by omega) (by omega)) (by omega) (by omega)
  refine hp_callR (hp_runV (As := []) (rest := []) ⟨hx, hb, hml, hown, hg⟩ (c_R_all l D tys de sa ht ht3 hR hn7 hm12) (cwV 0 hg (gw_V w707 w709 ws43 w7 w710) rfl rfl rfl (by decide +kernel) ⟨Nat.le_of_ble_eq_true rfl, Nat.le_of_ble_eq_true rfl⟩) (s_ok de sa) hK hX h he rfl rfl rfl hl.1 rfl (Nat.le_of_ble_eq_true rfl) d_R_left_6 ⟨Nat.le_of_ble_eq_true rfl, Nat.le_of_ble_eq_true rfl⟩) (fun r1 hp => ?_)
  subst hp
  exact hp_iret hx hb hr hlk h ⟨rfl, hR, hF⟩ (by omega) (by omega) d_R_left_9

set_option maxHeartbeats 4000000 in
set_option maxRecDepth 100000 in
theorem c_R_wake (l : Launch) (D : va_G) (tys : List (ClassId × FieldType)) (de : Nat) (sa : Nat → Nat) {L : List Nat} {f : Nat → va_E} {w : Int32} {ad τ : Nat → Nat} {E : kE} {S : kS} {code : Int32} {cI cZ : ClassId} (ht : tys[0]? = some (cI, .int)) (ht3 : tys[3]? = some (cZ, .boolean)) (hR : kR cI cZ ad τ L f code E S) (hn7 : E.1 ≤ 7) (hm12 : E.2.1 ≤ 12) (hP : kPr E S) : hp_Mi l y_R_wake (gw_ws y_R_wake b_R_wake 2 (some .boolean)) { frames := 3, cells := 0, slots := 0, locals := 75 } D kc tys (s_X de sa) [.ref (ad 100), .int w] L f (fun r u => (∃ v, v < E.1 ∧ w = nI v ∧ r = (if S.1 v 0 = 0 then 1 else 0) ∧ kRP cI cZ ad τ L f 0 E (k_wake E S v) u) ∨ (kBad E w ∧ kRP cI cZ ad τ L f 1 E S u)) 0 0 := by
  refine hp_ofW (Qc := fun A => va_Qi (fun r u => (∃ v, v < E.1 ∧ w = nI v ∧ r = (if S.1 v 0 = 0 then 1 else 0) ∧ kRP cI cZ ad τ L f 0 E (k_wake E S v) u) ∨ (kBad E w ∧ kRP cI cZ ad τ L f 1 E S u)) (hp_B D kc A) A) (fr := fun A => A) (ret := (some .boolean)) (by decide) rfl (Nat.le_of_ble_eq_true rfl) ?_
  intro p e s m below meth c ls A hx hb hml hr hts hown hlk hnm hl hK hX h
  have hg : ∀ w ∈ gw, w.before _ s = true := fun w hw => hts w (List.mem_cons_of_mem _ hw)
  have hown : s.vm.findClass "MergingFragmentsModel" = some m.cls := hown
  have hnm : meth.name = "wake" := hnm
  have hl : lv_has ls 2 [(0, .ref (ad 100)), (1, .int w)] := hl
  have hT := hR.2.2.2.2.2.2.2
  have he := hR.1
  obtain ⟨gf0, hf0_, hf01⟩ := hR.2.2.2.2.1 0 (by decide)
  refine lv_aload_n hx hb d_R_wake_0 rfl (lv_at hl 0 rfl) ?_
  refine lv_aload_n hx hb d_R_wake_1 rfl (lv_at hl 0 rfl) ?_
  refine lv_iload_n hx hb d_R_wake_2 rfl (lv_at hl 1 rfl) ?_
  refine hp_callR (hp_runV (As := [.int w]) (rest := [.ref (ad 100)]) ⟨hx, hb, hml, hown, hg⟩ (c_R_noNode l D tys de sa (w := w) ht ht3 hR hn7 hm12) (cwV 1 hg (gw_V w627 w629 ws26 w7 w630) rfl rfl rfl (by decide +kernel) ⟨Nat.le_of_ble_eq_true rfl, Nat.le_of_ble_eq_true rfl⟩) (s_ok de sa) hK hX h he rfl rfl rfl hl.1 rfl (Nat.le_of_ble_eq_true rfl) d_R_wake_3 ⟨Nat.le_of_ble_eq_true rfl, Nat.le_of_ble_eq_true rfl⟩) (fun r1 hp => ?_)
  rcases hp with ⟨hp, v, hv, hw⟩ | ⟨hp, hbad⟩
  · skip
    subst hp
    subst hw
    obtain ⟨hst, hendA, hasl, h7, hok, hfk⟩ := hP.2.2 v hv
    refine lv_if_eq (tgt := 13) hx hb d_R_wake_6 (by decide) (fun hc => ?_) (fun hc => ?_)
    · skip
      refine lv_iconst (v := 0) hx hb d_R_wake_13 (by decide) ?_
      refine hp_put (ty := .int) (v := .int 0) (fs' := [.int 0, .int (nI E.1), .int (nI E.2.1), .ref (ad 101), .ref (ad 102), .ref (ad 103), .ref (ad 104), .ref (ad 105), .ref (ad 106), .ref (ad 107), .ref (ad 108), .ref (ad 109), .ref (ad 110), .ref (ad 111), .ref (ad 112), .ref (ad 113), .ref (ad 114), .ref (ad 115), .ref (ad 116), .ref (ad 117), .ref (ad 118), .ref (ad 119), .int S.2.2.2.2.1]) hx hb hg in_R t_R t_R_ok n_R hown hK h he rfl 0 (by decide) (hg _ w544) (fun _ z => z) rfl (by decide +kernel) rfl rfl (Nat.le_of_ble_eq_true rfl) rfl d_R_wake_14 (fun H locs f1 hf1 h => ?_)
      have he := he.self' hf1
      have hf0_ := hf0_.ne' hf1 (kne (hT 104 (by omega) (by omega)) (hT 100 (by omega) (by omega)) (by decide))
      refine lv_aload_n hx hb d_R_wake_17 rfl (lv_at hl 0 rfl) ?_
      refine hp_get (v := .int 0) hx hb hg in_R hown hK h he rfl 0 (by decide) (hg _ w544) (fun _ z => z) rfl d_R_wake_18 ?_
      have hR : kR cI cZ ad τ L f1 0 E S := hR.wO (f1 := f1) (code' := 0) (sc := S.2.2.2.2.1) hf1
      have hF : kFq τ L f (L, f1) := kFq.w hf1 (hT 100 (by omega) (by omega)) (by omega) (by omega)
      refine lv_if_gt (tgt := 33) hx hb d_R_wake_21 (by decide) (fun hc2 => ?_) (fun hc2 => ?_)
      · skip
        exact absurd hc2 (by decide)
      · skip
        refine lv_aload_n hx hb d_R_wake_24 rfl (lv_at hl 0 rfl) ?_
        refine hp_get (v := .ref (ad 104)) hx hb hg in_R hown hK h he rfl 6 (by decide) (hg _ w550) (fun _ z => z) rfl d_R_wake_25 ?_
        refine lv_iload_n hx hb d_R_wake_28 rfl (lv_at hl 1 rfl) ?_
        refine hp_iald hx hb hK h 0 hf0_ ht rfl (by omega) (by decide) d_R_wake_29 ?_
        rw [show gf0 v = S.1 v 0 from hf01 v hv]
        refine lv_if_le (tgt := 35) hx hb d_R_wake_30 (by decide) (fun hc3 => ?_) (fun hc3 => ?_)
        · skip
          have h0 : S.1 v 0 = 0 := hst.resolve_right (Int32.not_lt.mpr hc3)
          refine lv_aload_n hx hb d_R_wake_35 rfl (lv_at hl 0 rfl) ?_
          refine lv_iload_n hx hb d_R_wake_36 rfl (lv_at hl 1 rfl) ?_
          refine hp_callv (hp_runV (As := [.int (nI v)]) (rest := []) ⟨hx, hb, hml, hown, hg⟩ (c_R_awake l D tys de sa (v := v) ht ht3 hR hn7 hm12 hP.1.1 hv hP.1.2.1 (fun i hi => Nat.lt_of_le_of_lt (Nat.le_add_right _ 15) (hP.2.1 i hi)) hP.1.2.2 hst (fun k hk hz => hendA k hk (Or.inl hz)) hasl) (cwV 1 hg (gw_V w635 w637 ws27 w7 w638) rfl rfl rfl (by decide +kernel) ⟨Nat.le_of_ble_eq_true rfl, Nat.le_of_ble_eq_true rfl⟩) (s_ok de sa) hK hX h he rfl rfl rfl hl.1 rfl (Nat.le_of_ble_eq_true rfl) d_R_wake_37 ⟨Nat.le_of_ble_eq_true rfl, Nat.le_of_ble_eq_true rfl⟩) h (fun L2 f9 H locs hp h => ?_)
          refine lv_iconst (v := 1) hx hb d_R_wake_40 (by decide) ?_
          exact hp_zret hx hb hr hlk h rfl (Or.inl ⟨v, hv, rfl, (if_pos h0).symm, hp.1, hF.trans hp.2⟩) (by omega) (by omega) d_R_wake_41
        · skip
          have h0 : ¬ S.1 v 0 = 0 := fun z => hc3 (by rw [z]; decide)
          refine lv_iconst (v := 0) hx hb d_R_wake_33 (by decide) ?_
          exact hp_zret hx hb hr hlk h rfl (Or.inl ⟨v, hv, rfl, (if_neg h0).symm, by rw [k_wake0 h0]; exact ⟨hR, hF⟩⟩) (by omega) (by omega) d_R_wake_34
    · skip
      exact absurd rfl hc
  · skip
    subst hp
    refine lv_if_eq (tgt := 13) hx hb d_R_wake_6 (by decide) (fun hc => ?_) (fun hc => ?_)
    · skip
      exact absurd hc (by decide)
    · skip
      refine lv_iconst (v := 1) hx hb d_R_wake_9 (by decide) ?_
      refine lv_goto (tgt := 14) hx hb d_R_wake_10 (by decide) ?_
      refine hp_put (ty := .int) (v := .int 1) (fs' := [.int 1, .int (nI E.1), .int (nI E.2.1), .ref (ad 101), .ref (ad 102), .ref (ad 103), .ref (ad 104), .ref (ad 105), .ref (ad 106), .ref (ad 107), .ref (ad 108), .ref (ad 109), .ref (ad 110), .ref (ad 111), .ref (ad 112), .ref (ad 113), .ref (ad 114), .ref (ad 115), .ref (ad 116), .ref (ad 117), .ref (ad 118), .ref (ad 119), .int S.2.2.2.2.1]) hx hb hg in_R t_R t_R_ok n_R hown hK h he rfl 0 (by decide) (hg _ w544) (fun _ z => z) rfl (by decide +kernel) rfl rfl (Nat.le_of_ble_eq_true rfl) rfl d_R_wake_14 (fun H locs f1 hf1 h => ?_)
      have he := he.self' hf1
      have hf0_ := hf0_.ne' hf1 (kne (hT 104 (by omega) (by omega)) (hT 100 (by omega) (by omega)) (by decide))
      refine lv_aload_n hx hb d_R_wake_17 rfl (lv_at hl 0 rfl) ?_
      refine hp_get (v := .int 1) hx hb hg in_R hown hK h he rfl 0 (by decide) (hg _ w544) (fun _ z => z) rfl d_R_wake_18 ?_
      have hR : kR cI cZ ad τ L f1 1 E S := hR.wO (f1 := f1) (code' := 1) (sc := S.2.2.2.2.1) hf1
      have hF : kFq τ L f (L, f1) := kFq.w hf1 (hT 100 (by omega) (by omega)) (by omega) (by omega)
      refine lv_if_gt (tgt := 33) hx hb d_R_wake_21 (by decide) (fun hc2 => ?_) (fun hc2 => ?_)
      · skip
        refine lv_iconst (v := 0) hx hb d_R_wake_33 (by decide) ?_
        exact hp_zret hx hb hr hlk h rfl (Or.inr ⟨hbad, hR, hF⟩) (by omega) (by omega) d_R_wake_34
      · skip
        exact absurd (by decide) hc2

set_option maxHeartbeats 4000000 in
set_option maxRecDepth 100000 in
theorem c_R_handle (l : Launch) (D : va_G) (tys : List (ClassId × FieldType)) (de : Nat) (sa : Nat → Nat) {L : List Nat} {f : Nat → va_E} {w : Int32} {ad τ : Nat → Nat} {E : kE} {S : kS} {code : Int32} {cI cZ : ClassId} (ht : tys[0]? = some (cI, .int)) (ht3 : tys[3]? = some (cZ, .boolean)) (hR : kR cI cZ ad τ L f code E S) (hn7 : E.1 ≤ 7) (hm12 : E.2.1 ≤ 12) (hP : kPr E S) : hp_Mi l y_R_handle (gw_ws y_R_handle b_R_handle 2 (some .int)) { frames := 6, cells := 0, slots := 0, locals := 146 } D kc tys (s_X de sa) [.ref (ad 100), .int w] L f (fun r u => (∃ v, v < E.1 ∧ w = nI v ∧ r = k_fk S v ∧ kRP cI cZ ad τ L f 0 E (k_first E S v) u) ∨ (kBad E w ∧ kRP cI cZ ad τ L f 1 E S u)) 0 0 := by
  refine hp_ofW (Qc := fun A => va_Qi (fun r u => (∃ v, v < E.1 ∧ w = nI v ∧ r = k_fk S v ∧ kRP cI cZ ad τ L f 0 E (k_first E S v) u) ∨ (kBad E w ∧ kRP cI cZ ad τ L f 1 E S u)) (hp_B D kc A) A) (fr := fun A => A) (ret := (some .int)) (by decide) rfl (Nat.le_of_ble_eq_true rfl) ?_
  intro p e s m below meth c ls A hx hb hml hr hts hown hlk hnm hl hK hX h
  have hg : ∀ w ∈ gw, w.before _ s = true := fun w hw => hts w (List.mem_cons_of_mem _ hw)
  have hown : s.vm.findClass "MergingFragmentsModel" = some m.cls := hown
  have hnm : meth.name = "handle" := hnm
  have hl : lv_has ls 2 [(0, .ref (ad 100)), (1, .int w)] := hl
  have hT := hR.2.2.2.2.2.2.2
  have he := hR.1
  refine lv_aload_n hx hb d_R_handle_0 rfl (lv_at hl 0 rfl) ?_
  refine lv_aload_n hx hb d_R_handle_1 rfl (lv_at hl 0 rfl) ?_
  refine lv_iload_n hx hb d_R_handle_2 rfl (lv_at hl 1 rfl) ?_
  refine hp_callR (hp_runV (As := [.int w]) (rest := [.ref (ad 100)]) ⟨hx, hb, hml, hown, hg⟩ (c_R_noNode l D tys de sa (w := w) ht ht3 hR hn7 hm12) (cwV 1 hg (gw_V w627 w629 ws26 w7 w630) rfl rfl rfl (by decide +kernel) ⟨Nat.le_of_ble_eq_true rfl, Nat.le_of_ble_eq_true rfl⟩) (s_ok de sa) hK hX h he rfl rfl rfl hl.1 rfl (Nat.le_of_ble_eq_true rfl) d_R_handle_3 ⟨Nat.le_of_ble_eq_true rfl, Nat.le_of_ble_eq_true rfl⟩) (fun r1 hp => ?_)
  rcases hp with ⟨hp, v, hv, hw⟩ | ⟨hp, hbad⟩
  · skip
    subst hp
    subst hw
    obtain ⟨hst, hendA, hasl, h7, hok, hfk⟩ := hP.2.2 v hv
    refine lv_if_eq (tgt := 13) hx hb d_R_handle_6 (by decide) (fun hc => ?_) (fun hc => ?_)
    · skip
      refine lv_iconst (v := 0) hx hb d_R_handle_13 (by decide) ?_
      refine hp_put (ty := .int) (v := .int 0) (fs' := [.int 0, .int (nI E.1), .int (nI E.2.1), .ref (ad 101), .ref (ad 102), .ref (ad 103), .ref (ad 104), .ref (ad 105), .ref (ad 106), .ref (ad 107), .ref (ad 108), .ref (ad 109), .ref (ad 110), .ref (ad 111), .ref (ad 112), .ref (ad 113), .ref (ad 114), .ref (ad 115), .ref (ad 116), .ref (ad 117), .ref (ad 118), .ref (ad 119), .int S.2.2.2.2.1]) hx hb hg in_R t_R t_R_ok n_R hown hK h he rfl 0 (by decide) (hg _ w544) (fun _ z => z) rfl (by decide +kernel) rfl rfl (Nat.le_of_ble_eq_true rfl) rfl d_R_handle_14 (fun H locs f1 hf1 h => ?_)
      have he := he.self' hf1
      refine lv_aload_n hx hb d_R_handle_17 rfl (lv_at hl 0 rfl) ?_
      refine hp_get (v := .int 0) hx hb hg in_R hown hK h he rfl 0 (by decide) (hg _ w544) (fun _ z => z) rfl d_R_handle_18 ?_
      have hR : kR cI cZ ad τ L f1 0 E S := hR.wO (f1 := f1) (code' := 0) (sc := S.2.2.2.2.1) hf1
      have hF : kFq τ L f (L, f1) := kFq.w hf1 (hT 100 (by omega) (by omega)) (by omega) (by omega)
      refine lv_if_le (tgt := 28) hx hb d_R_handle_21 (by decide) (fun hc2 => ?_) (fun hc2 => ?_)
      · skip
        refine lv_aload_n hx hb d_R_handle_28 rfl (lv_at hl 0 rfl) ?_
        refine lv_iload_n hx hb d_R_handle_29 rfl (lv_at hl 1 rfl) ?_
        refine hp_calli (hp_runV (As := [.int (nI v)]) (rest := []) ⟨hx, hb, hml, hown, hg⟩ (c_R_next l D tys de sa (v := v) ht ht3 hR hn7 hm12 hP.1.1 hv hP.1.2.1 hP.2.1 hP.1.2.2 hst hendA hasl h7 hok) (cwV 1 hg (gw_V w663 w665 ws33 w7 w666) rfl rfl rfl (by decide +kernel) ⟨Nat.le_of_ble_eq_true rfl, Nat.le_of_ble_eq_true rfl⟩) (s_ok de sa) hK hX h he rfl rfl rfl hl.1 rfl (Nat.le_of_ble_eq_true rfl) d_R_handle_30 ⟨Nat.le_of_ble_eq_true rfl, Nat.le_of_ble_eq_true rfl⟩) h (fun r9 L2 f9 H locs hp h => ?_)
        obtain ⟨hr9, hp⟩ := hp
        subst hr9
        exact hp_iret hx hb hr hlk h (Or.inl ⟨v, hv, rfl, rfl, hp.1, hF.trans hp.2⟩) (by omega) (by omega) d_R_handle_33
      · skip
        exact absurd (by decide) hc2
    · skip
      exact absurd rfl hc
  · skip
    subst hp
    refine lv_if_eq (tgt := 13) hx hb d_R_handle_6 (by decide) (fun hc => ?_) (fun hc => ?_)
    · skip
      exact absurd hc (by decide)
    · skip
      refine lv_iconst (v := 1) hx hb d_R_handle_9 (by decide) ?_
      refine lv_goto (tgt := 14) hx hb d_R_handle_10 (by decide) ?_
      refine hp_put (ty := .int) (v := .int 1) (fs' := [.int 1, .int (nI E.1), .int (nI E.2.1), .ref (ad 101), .ref (ad 102), .ref (ad 103), .ref (ad 104), .ref (ad 105), .ref (ad 106), .ref (ad 107), .ref (ad 108), .ref (ad 109), .ref (ad 110), .ref (ad 111), .ref (ad 112), .ref (ad 113), .ref (ad 114), .ref (ad 115), .ref (ad 116), .ref (ad 117), .ref (ad 118), .ref (ad 119), .int S.2.2.2.2.1]) hx hb hg in_R t_R t_R_ok n_R hown hK h he rfl 0 (by decide) (hg _ w544) (fun _ z => z) rfl (by decide +kernel) rfl rfl (Nat.le_of_ble_eq_true rfl) rfl d_R_handle_14 (fun H locs f1 hf1 h => ?_)
      have he := he.self' hf1
      refine lv_aload_n hx hb d_R_handle_17 rfl (lv_at hl 0 rfl) ?_
      refine hp_get (v := .int 1) hx hb hg in_R hown hK h he rfl 0 (by decide) (hg _ w544) (fun _ z => z) rfl d_R_handle_18 ?_
      have hR : kR cI cZ ad τ L f1 1 E S := hR.wO (f1 := f1) (code' := 1) (sc := S.2.2.2.2.1) hf1
      have hF : kFq τ L f (L, f1) := kFq.w hf1 (hT 100 (by omega) (by omega)) (by omega) (by omega)
      refine lv_if_le (tgt := 28) hx hb d_R_handle_21 (by decide) (fun hc2 => ?_) (fun hc2 => ?_)
      · skip
        exact absurd hc2 (by decide)
      · skip
        refine lv_iconst (v := 0) hx hb d_R_handle_24 (by decide) ?_
        refine lv_goto (tgt := 33) hx hb d_R_handle_25 (by decide) ?_
        exact hp_iret hx hb hr hlk h (Or.inr ⟨hbad, hR, hF⟩) (by omega) (by omega) d_R_handle_33

theorem k_eoP {E : kE} {v j at9 : Nat} (hne : ∀ j, j < E.2.1 → E.2.2.1 j ≠ E.2.2.2.1 j) (hj : j < E.2.1) (hat : (E.2.2.1 j = v ∧ at9 = 2 * j) ∨ (E.2.2.2.1 j = v ∧ at9 = 2 * j + 1)) : k_eo E v j = nI at9 := by
  unfold k_eo
  rcases hat with ⟨z1, z2⟩ | ⟨z1, z2⟩
  · rw [if_pos z1, z2]
  · rw [if_neg (by rw [← z1]; exact hne j hj), if_pos z1, z2]
set_option maxHeartbeats 4000000 in
set_option maxRecDepth 100000 in
theorem c_R_mark (l : Launch) (D : va_G) (tys : List (ClassId × FieldType)) (de : Nat) (sa : Nat → Nat) {L : List Nat} {f : Nat → va_E} {w u9 : Int32} {ad τ : Nat → Nat} {E : kE} {S : kS} {code : Int32} {cI cZ : ClassId} (ht : tys[0]? = some (cI, .int)) (ht3 : tys[3]? = some (cZ, .boolean)) (hR : kR cI cZ ad τ L f code E S) (hn7 : E.1 ≤ 7) (hm12 : E.2.1 ≤ 12) (hW : kWE E) (hne : ∀ j, j < E.2.1 → E.2.2.1 j ≠ E.2.2.2.1 j) (hno : ∀ v j, v < E.1 → j < E.2.1 → ¬ (E.2.2.1 j = v ∨ E.2.2.2.1 j = v) → S.2.1 v j = -1) : hp_Mi l y_R_mark (gw_ws y_R_mark b_R_mark 4 (some .int)) { frames := 1, cells := 0, slots := 0, locals := 22 } D kc tys (s_X de sa) [.ref (ad 100), .int w, .int u9] L f (fun r u => (∃ v j, v < E.1 ∧ j < E.2.1 ∧ w = nI v ∧ u9 = nI j ∧ r = S.2.1 v j ∧ kRP cI cZ ad τ L f 0 E S u) ∨ ((kBad E w ∨ u9 < 0 ∨ nI E.2.1 ≤ u9) ∧ kRP cI cZ ad τ L f 1 E S u)) 0 0 := by
  refine hp_ofW (Qc := fun A => va_Qi (fun r u => (∃ v j, v < E.1 ∧ j < E.2.1 ∧ w = nI v ∧ u9 = nI j ∧ r = S.2.1 v j ∧ kRP cI cZ ad τ L f 0 E S u) ∨ ((kBad E w ∨ u9 < 0 ∨ nI E.2.1 ≤ u9) ∧ kRP cI cZ ad τ L f 1 E S u)) (hp_B D kc A) A) (fr := fun A => A) (ret := (some .int)) (by decide) rfl (Nat.le_of_ble_eq_true rfl) ?_
  intro p e s m below meth c ls A hx hb hml hr hts hown hlk hnm hl hK hX h
  have hg : ∀ w ∈ gw, w.before _ s = true := fun w hw => hts w (List.mem_cons_of_mem _ hw)
  have hown : s.vm.findClass "MergingFragmentsModel" = some m.cls := hown
  have hnm : meth.name = "mark" := hnm
  have hl : lv_has ls 4 [(0, .ref (ad 100)), (1, .int w), (2, .int u9)] := hl
  have hT := hR.2.2.2.2.2.2.2
  have he := hR.1
  obtain ⟨gk, hk, hk1⟩ := hR.2.2.2.1
  refine lv_aload_n hx hb d_R_mark_0 rfl (lv_at hl 0 rfl) ?_
  refine lv_aload_n hx hb d_R_mark_1 rfl (lv_at hl 0 rfl) ?_
  refine lv_iload_n hx hb d_R_mark_2 rfl (lv_at hl 1 rfl) ?_
  refine hp_callR (hp_runV (As := [.int w]) (rest := [.ref (ad 100)]) ⟨hx, hb, hml, hown, hg⟩ (c_R_noNode l D tys de sa (w := w) ht ht3 hR hn7 hm12) (cwV 1 hg (gw_V w627 w629 ws26 w7 w630) rfl rfl rfl (by decide +kernel) ⟨Nat.le_of_ble_eq_true rfl, Nat.le_of_ble_eq_true rfl⟩) (s_ok de sa) hK hX h he rfl rfl rfl hl.1 rfl (Nat.le_of_ble_eq_true rfl) d_R_mark_3 ⟨Nat.le_of_ble_eq_true rfl, Nat.le_of_ble_eq_true rfl⟩) (fun r1 hp => ?_)
  rcases hp with ⟨hp, v, hv, hw⟩ | ⟨hp, hbad⟩
  · skip
    subst hp
    subst hw
    refine lv_if_ne (tgt := 21) hx hb d_R_mark_6 (by decide) (fun hc => ?_) (fun hc => ?_)
    · skip
      exact absurd rfl hc
    · skip
      refine lv_iload_n hx hb d_R_mark_9 rfl (lv_at hl 2 rfl) ?_
      refine lv_if_lt (tgt := 21) hx hb d_R_mark_10 (by decide) (fun hc2 => ?_) (fun hc2 => ?_)
      · skip
        refine lv_iconst (v := 1) hx hb d_R_mark_21 (by decide) ?_
        refine lv_goto (tgt := 26) hx hb d_R_mark_22 (by decide) ?_
        refine hp_put (ty := .int) (v := .int 1) (fs' := [.int 1, .int (nI E.1), .int (nI E.2.1), .ref (ad 101), .ref (ad 102), .ref (ad 103), .ref (ad 104), .ref (ad 105), .ref (ad 106), .ref (ad 107), .ref (ad 108), .ref (ad 109), .ref (ad 110), .ref (ad 111), .ref (ad 112), .ref (ad 113), .ref (ad 114), .ref (ad 115), .ref (ad 116), .ref (ad 117), .ref (ad 118), .ref (ad 119), .int S.2.2.2.2.1]) hx hb hg in_R t_R t_R_ok n_R hown hK h he rfl 0 (by decide) (hg _ w544) (fun _ z => z) rfl (by decide +kernel) rfl rfl (Nat.le_of_ble_eq_true rfl) rfl d_R_mark_26 (fun H locs f1 hf1 h => ?_)
        have he := he.self' hf1
        have hk := hk.ne' hf1 (kne (hT 103 (by omega) (by omega)) (hT 100 (by omega) (by omega)) (by decide))
        refine lv_aload_n hx hb d_R_mark_29 rfl (lv_at hl 0 rfl) ?_
        refine hp_get (v := .int 1) hx hb hg in_R hown hK h he rfl 0 (by decide) (hg _ w544) (fun _ z => z) rfl d_R_mark_30 ?_
        have hR : kR cI cZ ad τ L f1 1 E S := hR.wO (f1 := f1) (code' := 1) (sc := S.2.2.2.2.1) hf1
        have hF : kFq τ L f (L, f1) := kFq.w hf1 (hT 100 (by omega) (by omega)) (by omega) (by omega)
        refine lv_if_le (tgt := 38) hx hb d_R_mark_33 (by decide) (fun hc9 => ?_) (fun hc9 => ?_)
        · skip
          exact absurd hc9 (by decide)
        · skip
          refine lv_iconst (v := 0) hx hb d_R_mark_36 (by decide) ?_
          exact hp_iret hx hb hr hlk h (Or.inr ⟨(Or.inr (Or.inl hc2)), hR, hF⟩) (by omega) (by omega) d_R_mark_37
      · skip
        refine lv_iload_n hx hb d_R_mark_13 rfl (lv_at hl 2 rfl) ?_
        refine lv_aload_n hx hb d_R_mark_14 rfl (lv_at hl 0 rfl) ?_
        refine hp_get (v := .int (nI E.2.1)) hx hb hg in_R hown hK h he rfl 2 (by decide) (hg _ w546) (fun _ z => z) rfl d_R_mark_15 ?_
        refine lv_icmp_lt (tgt := 25) hx hb d_R_mark_18 (by decide) (fun hc3 => ?_) (fun hc3 => ?_)
        · skip
          obtain ⟨j, hj31, hju⟩ := nI_of hc2
          subst hju
          have hj : j < E.2.1 := (nI_ltI hj31 (by omega)).mp hc3
          have hee := hW.2 j hj
          refine lv_iconst (v := 0) hx hb d_R_mark_25 (by decide) ?_
          refine hp_put (ty := .int) (v := .int 0) (fs' := [.int 0, .int (nI E.1), .int (nI E.2.1), .ref (ad 101), .ref (ad 102), .ref (ad 103), .ref (ad 104), .ref (ad 105), .ref (ad 106), .ref (ad 107), .ref (ad 108), .ref (ad 109), .ref (ad 110), .ref (ad 111), .ref (ad 112), .ref (ad 113), .ref (ad 114), .ref (ad 115), .ref (ad 116), .ref (ad 117), .ref (ad 118), .ref (ad 119), .int S.2.2.2.2.1]) hx hb hg in_R t_R t_R_ok n_R hown hK h he rfl 0 (by decide) (hg _ w544) (fun _ z => z) rfl (by decide +kernel) rfl rfl (Nat.le_of_ble_eq_true rfl) rfl d_R_mark_26 (fun H locs f1 hf1 h => ?_)
          have he := he.self' hf1
          have hk := hk.ne' hf1 (kne (hT 103 (by omega) (by omega)) (hT 100 (by omega) (by omega)) (by decide))
          refine lv_aload_n hx hb d_R_mark_29 rfl (lv_at hl 0 rfl) ?_
          refine hp_get (v := .int 0) hx hb hg in_R hown hK h he rfl 0 (by decide) (hg _ w544) (fun _ z => z) rfl d_R_mark_30 ?_
          have hR : kR cI cZ ad τ L f1 0 E S := hR.wO (f1 := f1) (code' := 0) (sc := S.2.2.2.2.1) hf1
          have hF : kFq τ L f (L, f1) := kFq.w hf1 (hT 100 (by omega) (by omega)) (by omega) (by omega)
          refine lv_if_le (tgt := 38) hx hb d_R_mark_33 (by decide) (fun hc9 => ?_) (fun hc9 => ?_)
          · skip
            refine lv_aload_n hx hb d_R_mark_38 rfl (lv_at hl 0 rfl) ?_
            refine lv_iload_n hx hb d_R_mark_39 rfl (lv_at hl 1 rfl) ?_
            refine lv_iload_n hx hb d_R_mark_40 rfl (lv_at hl 2 rfl) ?_
            refine hp_callR (hp_runV (As := [.int (nI v), .int (nI j)]) (rest := []) ⟨hx, hb, hml, hown, hg⟩ (c_R_endOf l D tys de sa (v := v) (j := j) ht ht3 hR hn7 hm12 (by omega) hj (by omega) (by omega)) (cwV 2 hg (gw_V w643 w645 ws29 w7 w646) rfl rfl rfl (by decide +kernel) ⟨Nat.le_of_ble_eq_true rfl, Nat.le_of_ble_eq_true rfl⟩) (s_ok de sa) hK hX h he rfl rfl rfl hl.1 rfl (Nat.le_of_ble_eq_true rfl) d_R_mark_41 ⟨Nat.le_of_ble_eq_true rfl, Nat.le_of_ble_eq_true rfl⟩) (fun r1 hp => ?_)
            by_cases hen : E.2.2.1 j = v ∨ E.2.2.2.1 j = v
            · skip
              obtain ⟨at9, hat⟩ : ∃ at9, (E.2.2.1 j = v ∧ at9 = 2 * j) ∨ (E.2.2.2.1 j = v ∧ at9 = 2 * j + 1) := by rcases hen with z | z; exact ⟨_, Or.inl ⟨z, rfl⟩⟩; exact ⟨_, Or.inr ⟨z, rfl⟩⟩
              have ha24 : at9 < 24 := by omega
              have heo := k_eoP hne hj hat
              have hgk : gk at9 = S.2.1 v j := by rcases hat with ⟨z1, z2⟩ | ⟨z1, z2⟩; rw [z2, (hk1 j hj).1, ← z1]; rw [z2, (hk1 j hj).2, ← z1]
              rw [heo] at hp
              subst hp
              refine lv_istore_n (lv' := [(3, .int (nI at9)), (0, .ref (ad 100)), (1, .int (nI v)), (2, .int (nI j))]) hx hb d_R_mark_44 rfl hl (by decide) rfl (fun ls hl => ?_)
              refine lv_iload_n hx hb d_R_mark_45 rfl (lv_at hl 0 rfl) ?_
              refine lv_if_ge (tgt := 53) hx hb d_R_mark_46 (by decide) (fun hc5 => ?_) (fun hc5 => ?_)
              · skip
                refine lv_aload_n hx hb d_R_mark_53 rfl (lv_at hl 1 rfl) ?_
                refine hp_get (v := .ref (ad 103)) hx hb hg in_R hown hK h he rfl 5 (by decide) (hg _ w549) (fun _ z => z) rfl d_R_mark_54 ?_
                refine lv_iload_n hx hb d_R_mark_57 rfl (lv_at hl 0 rfl) ?_
                refine hp_iald hx hb hK h 0 hk ht rfl (by omega) (by decide) d_R_mark_58 ?_
                rw [hgk]
                exact hp_iret hx hb hr hlk h (Or.inl ⟨v, j, hv, hj, rfl, rfl, rfl, hR, hF⟩) (by omega) (by omega) d_R_mark_59
              · skip
                exact absurd (nI_pos' (by omega)) hc5
            · skip
              have heo : k_eo E v j = -1 := (if_neg (fun z => hen (Or.inl z))).trans (if_neg (fun z => hen (Or.inr z)))
              rw [heo] at hp
              subst hp
              refine lv_istore_n (lv' := [(3, .int (-1)), (0, .ref (ad 100)), (1, .int (nI v)), (2, .int (nI j))]) hx hb d_R_mark_44 rfl hl (by decide) rfl (fun ls hl => ?_)
              refine lv_iload_n hx hb d_R_mark_45 rfl (lv_at hl 0 rfl) ?_
              refine lv_if_ge (tgt := 53) hx hb d_R_mark_46 (by decide) (fun hc5 => ?_) (fun hc5 => ?_)
              · skip
                exact absurd hc5 (by decide)
              · skip
                refine lv_iconst (v := (-1)) hx hb d_R_mark_49 (by decide) ?_
                refine lv_goto (tgt := 59) hx hb d_R_mark_50 (by decide) ?_
                exact hp_iret hx hb hr hlk h (Or.inl ⟨v, j, hv, hj, rfl, rfl, (hno v j hv hj hen).symm, hR, hF⟩) (by omega) (by omega) d_R_mark_59
          · skip
            exact absurd (by decide) hc9
        · skip
          refine lv_iconst (v := 1) hx hb d_R_mark_21 (by decide) ?_
          refine lv_goto (tgt := 26) hx hb d_R_mark_22 (by decide) ?_
          refine hp_put (ty := .int) (v := .int 1) (fs' := [.int 1, .int (nI E.1), .int (nI E.2.1), .ref (ad 101), .ref (ad 102), .ref (ad 103), .ref (ad 104), .ref (ad 105), .ref (ad 106), .ref (ad 107), .ref (ad 108), .ref (ad 109), .ref (ad 110), .ref (ad 111), .ref (ad 112), .ref (ad 113), .ref (ad 114), .ref (ad 115), .ref (ad 116), .ref (ad 117), .ref (ad 118), .ref (ad 119), .int S.2.2.2.2.1]) hx hb hg in_R t_R t_R_ok n_R hown hK h he rfl 0 (by decide) (hg _ w544) (fun _ z => z) rfl (by decide +kernel) rfl rfl (Nat.le_of_ble_eq_true rfl) rfl d_R_mark_26 (fun H locs f1 hf1 h => ?_)
          have he := he.self' hf1
          have hk := hk.ne' hf1 (kne (hT 103 (by omega) (by omega)) (hT 100 (by omega) (by omega)) (by decide))
          refine lv_aload_n hx hb d_R_mark_29 rfl (lv_at hl 0 rfl) ?_
          refine hp_get (v := .int 1) hx hb hg in_R hown hK h he rfl 0 (by decide) (hg _ w544) (fun _ z => z) rfl d_R_mark_30 ?_
          have hR : kR cI cZ ad τ L f1 1 E S := hR.wO (f1 := f1) (code' := 1) (sc := S.2.2.2.2.1) hf1
          have hF : kFq τ L f (L, f1) := kFq.w hf1 (hT 100 (by omega) (by omega)) (by omega) (by omega)
          refine lv_if_le (tgt := 38) hx hb d_R_mark_33 (by decide) (fun hc9 => ?_) (fun hc9 => ?_)
          · skip
            exact absurd hc9 (by decide)
          · skip
            refine lv_iconst (v := 0) hx hb d_R_mark_36 (by decide) ?_
            exact hp_iret hx hb hr hlk h (Or.inr ⟨(Or.inr (Or.inr (Int32.not_lt.mp hc3))), hR, hF⟩) (by omega) (by omega) d_R_mark_37
  · skip
    subst hp
    refine lv_if_ne (tgt := 21) hx hb d_R_mark_6 (by decide) (fun hc => ?_) (fun hc => ?_)
    · skip
      refine lv_iconst (v := 1) hx hb d_R_mark_21 (by decide) ?_
      refine lv_goto (tgt := 26) hx hb d_R_mark_22 (by decide) ?_
      refine hp_put (ty := .int) (v := .int 1) (fs' := [.int 1, .int (nI E.1), .int (nI E.2.1), .ref (ad 101), .ref (ad 102), .ref (ad 103), .ref (ad 104), .ref (ad 105), .ref (ad 106), .ref (ad 107), .ref (ad 108), .ref (ad 109), .ref (ad 110), .ref (ad 111), .ref (ad 112), .ref (ad 113), .ref (ad 114), .ref (ad 115), .ref (ad 116), .ref (ad 117), .ref (ad 118), .ref (ad 119), .int S.2.2.2.2.1]) hx hb hg in_R t_R t_R_ok n_R hown hK h he rfl 0 (by decide) (hg _ w544) (fun _ z => z) rfl (by decide +kernel) rfl rfl (Nat.le_of_ble_eq_true rfl) rfl d_R_mark_26 (fun H locs f1 hf1 h => ?_)
      have he := he.self' hf1
      have hk := hk.ne' hf1 (kne (hT 103 (by omega) (by omega)) (hT 100 (by omega) (by omega)) (by decide))
      refine lv_aload_n hx hb d_R_mark_29 rfl (lv_at hl 0 rfl) ?_
      refine hp_get (v := .int 1) hx hb hg in_R hown hK h he rfl 0 (by decide) (hg _ w544) (fun _ z => z) rfl d_R_mark_30 ?_
      have hR : kR cI cZ ad τ L f1 1 E S := hR.wO (f1 := f1) (code' := 1) (sc := S.2.2.2.2.1) hf1
      have hF : kFq τ L f (L, f1) := kFq.w hf1 (hT 100 (by omega) (by omega)) (by omega) (by omega)
      refine lv_if_le (tgt := 38) hx hb d_R_mark_33 (by decide) (fun hc9 => ?_) (fun hc9 => ?_)
      · skip
        exact absurd hc9 (by decide)
      · skip
        refine lv_iconst (v := 0) hx hb d_R_mark_36 (by decide) ?_
        exact hp_iret hx hb hr hlk h (Or.inr ⟨(Or.inl hbad), hR, hF⟩) (by omega) (by omega) d_R_mark_37
    · skip
      exact absurd hc (by decide)
