/-! The reference's about, message, weight, by program (wip/mk64.py). -/
set_option maxHeartbeats 4000000 in
set_option maxRecDepth 100000 in
theorem c_R_about (l : Launch) (D : va_G) (tys : List (ClassId × FieldType)) (de : Nat) (sa : Nat → Nat) {L : List Nat} {f : Nat → va_E} {w u9 : Int32} {ad τ : Nat → Nat} {E : kE} {S : kS} {code : Int32} {cI cZ : ClassId} (ht : tys[0]? = some (cI, .int)) (ht3 : tys[3]? = some (cZ, .boolean)) (hR : kR cI cZ ad τ L f code E S) (hn7 : E.1 ≤ 7) (hm12 : E.2.1 ≤ 12) : hp_Mi l y_R_about (gw_ws y_R_about b_R_about 3 (some .int)) { frames := 1, cells := 0, slots := 0, locals := 21 } D kc tys (s_X de sa) [.ref (ad 100), .int w, .int u9] L f (fun r u => (∃ v k9, v < E.1 ∧ k9 ≤ 9 ∧ w = nI v ∧ u9 = nI k9 ∧ r = k_abt S v k9 ∧ kRP cI cZ ad τ L f 0 E S u) ∨ (kBad E w ∧ kRP cI cZ ad τ L f 1 E S u) ∨ (¬ kBad E w ∧ (u9 < 0 ∨ 9 < u9) ∧ kRP cI cZ ad τ L f 2 E S u)) 0 0 := by
  refine hp_ofW (Qc := fun A => va_Qi (fun r u => (∃ v k9, v < E.1 ∧ k9 ≤ 9 ∧ w = nI v ∧ u9 = nI k9 ∧ r = k_abt S v k9 ∧ kRP cI cZ ad τ L f 0 E S u) ∨ (kBad E w ∧ kRP cI cZ ad τ L f 1 E S u) ∨ (¬ kBad E w ∧ (u9 < 0 ∨ 9 < u9) ∧ kRP cI cZ ad τ L f 2 E S u)) (hp_B D kc A) A) (fr := fun A => A) (ret := (some .int)) (by decide) rfl (Nat.le_of_ble_eq_true rfl) ?_
  intro p e s m below meth c ls A hx hb hml hr hts hown hlk hnm hl hK hX h
  have hg : ∀ w ∈ gw, w.before _ s = true := fun w hw => hts w (List.mem_cons_of_mem _ hw)
  have hown : s.vm.findClass "MergingFragmentsModel" = some m.cls := hown
  have hnm : meth.name = "about" := hnm
  have hl : lv_has ls 3 [(0, .ref (ad 100)), (1, .int w), (2, .int u9)] := hl
  have hT := hR.2.2.2.2.2.2.2
  have he := hR.1
  refine lv_aload_n hx hb d_R_about_0 rfl (lv_at hl 0 rfl) ?_
  refine lv_aload_n hx hb d_R_about_1 rfl (lv_at hl 0 rfl) ?_
  refine lv_iload_n hx hb d_R_about_2 rfl (lv_at hl 1 rfl) ?_
  refine hp_callR (hp_runV (As := [.int w]) (rest := [.ref (ad 100)]) ⟨hx, hb, hml, hown, hg⟩ (c_R_noNode l D tys de sa (w := w) ht ht3 hR hn7 hm12) (cwV 1 hg (gw_V w627 w629 ws26 w7 w630) rfl rfl rfl (by decide +kernel) ⟨Nat.le_of_ble_eq_true rfl, Nat.le_of_ble_eq_true rfl⟩) (s_ok de sa) hK hX h he rfl rfl rfl hl.1 rfl (Nat.le_of_ble_eq_true rfl) d_R_about_3 ⟨Nat.le_of_ble_eq_true rfl, Nat.le_of_ble_eq_true rfl⟩) (fun r1 hp => ?_)
  rcases hp with ⟨hp, v, hv, hw⟩ | ⟨hp, hbad⟩
  · skip
    subst hp
    subst hw
    have hnb : ¬ kBad E (nI v) := fun z => by rcases z with z | z; exact nI_pos (by omega) z; exact absurd ((nI_leI (by omega) (by omega)).mp z) (by omega)
    refine lv_if_eq (tgt := 13) hx hb d_R_about_6 (by decide) (fun hc => ?_) (fun hc => ?_)
    · skip
      refine lv_iload_n hx hb d_R_about_13 rfl (lv_at hl 2 rfl) ?_
      refine lv_if_lt (tgt := 23) hx hb d_R_about_14 (by decide) (fun hc2 => ?_) (fun hc2 => ?_)
      · skip
        refine lv_iconst (v := 2) hx hb d_R_about_23 (by decide) ?_
        refine lv_goto (tgt := 28) hx hb d_R_about_24 (by decide) ?_
        refine hp_put (ty := .int) (v := .int 2) (fs' := [.int 2, .int (nI E.1), .int (nI E.2.1), .ref (ad 101), .ref (ad 102), .ref (ad 103), .ref (ad 104), .ref (ad 105), .ref (ad 106), .ref (ad 107), .ref (ad 108), .ref (ad 109), .ref (ad 110), .ref (ad 111), .ref (ad 112), .ref (ad 113), .ref (ad 114), .ref (ad 115), .ref (ad 116), .ref (ad 117), .ref (ad 118), .ref (ad 119), .int S.2.2.2.2.1]) hx hb hg in_R t_R t_R_ok n_R hown hK h he rfl 0 (by decide) (hg _ w544) (fun _ z => z) rfl (by decide +kernel) rfl rfl (Nat.le_of_ble_eq_true rfl) rfl d_R_about_28 (fun H locs f1 hf1 h => ?_)
        have he := he.self' hf1
        refine lv_aload_n hx hb d_R_about_31 rfl (lv_at hl 0 rfl) ?_
        refine hp_get (v := .int 2) hx hb hg in_R hown hK h he rfl 0 (by decide) (hg _ w544) (fun _ z => z) rfl d_R_about_32 ?_
        have hR : kR cI cZ ad τ L f1 2 E S := hR.wO (f1 := f1) (code' := 2) (sc := S.2.2.2.2.1) hf1
        have hF : kFq τ L f (L, f1) := kFq.w hf1 (hT 100 (by omega) (by omega)) (by omega) (by omega)
        refine lv_if_le (tgt := 40) hx hb d_R_about_35 (by decide) (fun hc9 => ?_) (fun hc9 => ?_)
        · skip
          exact absurd hc9 (by decide)
        · skip
          refine lv_iconst (v := 0) hx hb d_R_about_38 (by decide) ?_
          exact hp_iret hx hb hr hlk h (Or.inr (Or.inr ⟨hnb, Or.inl hc2, hR, hF⟩)) (by omega) (by omega) d_R_about_39
      · skip
        refine lv_iload_n hx hb d_R_about_17 rfl (lv_at hl 2 rfl) ?_
        refine lv_bipush (v := 9) hx hb d_R_about_18 (by decide) ?_
        refine lv_icmp_le (tgt := 27) hx hb d_R_about_20 (by decide) (fun hc3 => ?_) (fun hc3 => ?_)
        · skip
          obtain ⟨k9, hk9, hku⟩ := nI_of2 (M := 9) (n := 9) rfl hc2 hc3
          subst hku
          refine lv_iconst (v := 0) hx hb d_R_about_27 (by decide) ?_
          refine hp_put (ty := .int) (v := .int 0) (fs' := [.int 0, .int (nI E.1), .int (nI E.2.1), .ref (ad 101), .ref (ad 102), .ref (ad 103), .ref (ad 104), .ref (ad 105), .ref (ad 106), .ref (ad 107), .ref (ad 108), .ref (ad 109), .ref (ad 110), .ref (ad 111), .ref (ad 112), .ref (ad 113), .ref (ad 114), .ref (ad 115), .ref (ad 116), .ref (ad 117), .ref (ad 118), .ref (ad 119), .int S.2.2.2.2.1]) hx hb hg in_R t_R t_R_ok n_R hown hK h he rfl 0 (by decide) (hg _ w544) (fun _ z => z) rfl (by decide +kernel) rfl rfl (Nat.le_of_ble_eq_true rfl) rfl d_R_about_28 (fun H locs f1 hf1 h => ?_)
          have he := he.self' hf1
          refine lv_aload_n hx hb d_R_about_31 rfl (lv_at hl 0 rfl) ?_
          refine hp_get (v := .int 0) hx hb hg in_R hown hK h he rfl 0 (by decide) (hg _ w544) (fun _ z => z) rfl d_R_about_32 ?_
          have hR : kR cI cZ ad τ L f1 0 E S := hR.wO (f1 := f1) (code' := 0) (sc := S.2.2.2.2.1) hf1
          have hF : kFq τ L f (L, f1) := kFq.w hf1 (hT 100 (by omega) (by omega)) (by omega) (by omega)
          refine lv_if_le (tgt := 40) hx hb d_R_about_35 (by decide) (fun hc9 => ?_) (fun hc9 => ?_)
          · skip
            have he := hR.1
            obtain ⟨gf0, hf0_, hf01⟩ := hR.2.2.2.2.1 0 (by decide)
            obtain ⟨gf1, hf1_, hf11⟩ := hR.2.2.2.2.1 1 (by decide)
            obtain ⟨gf2, hf2_, hf21⟩ := hR.2.2.2.2.1 2 (by decide)
            obtain ⟨gf3, hf3_, hf31⟩ := hR.2.2.2.2.1 3 (by decide)
            obtain ⟨gf4, hf4_, hf41⟩ := hR.2.2.2.2.1 4 (by decide)
            obtain ⟨gf5, hf5_, hf51⟩ := hR.2.2.2.2.1 5 (by decide)
            obtain ⟨gf6, hf6_, hf61⟩ := hR.2.2.2.2.1 6 (by decide)
            obtain ⟨gf7, hf7_, hf71⟩ := hR.2.2.2.2.1 7 (by decide)
            obtain ⟨fr, hfr, ⟨gy, hy, hy1⟩, hb9, hrg⟩ := hR.2.2.2.2.2.2.1
            obtain ⟨gd, hd, hd1⟩ := hR.2.2.2.2.2.1
            refine lv_iload_n hx hb d_R_about_40 rfl (lv_at hl 2 rfl) ?_
            rcases (show k9 = 0 ∨ k9 = 1 ∨ k9 = 2 ∨ k9 = 3 ∨ k9 = 4 ∨ k9 = 5 ∨ k9 = 6 ∨ k9 = 7 ∨ k9 = 8 ∨ k9 = 9 by omega) with rfl | rfl | rfl | rfl | rfl | rfl | rfl | rfl | rfl | rfl
            · skip
              refine lv_tableIn (off := 51) (tgt := 92) hx hb d_R_about_41 (by decide) (by decide) (by decide) (by decide) ?_
              refine lv_aload_n hx hb d_R_about_92 rfl (lv_at hl 0 rfl) ?_
              refine hp_get (v := .ref (ad 104)) hx hb hg in_R hown hK h he rfl 6 (by decide) (hg _ w550) (fun _ z => z) rfl d_R_about_93 ?_
              refine lv_iload_n hx hb d_R_about_96 rfl (lv_at hl 1 rfl) ?_
              refine hp_iald hx hb hK h 0 hf0_ ht rfl (by omega) (by decide) d_R_about_97 ?_
              rw [show gf0 v = S.1 v 0 from hf01 v hv]
              exact hp_iret hx hb hr hlk h (Or.inl ⟨v, 0, hv, by omega, rfl, rfl, rfl, hR, hF⟩) (by omega) (by omega) d_R_about_98
            · skip
              refine lv_tableIn (off := 58) (tgt := 99) hx hb d_R_about_41 (by decide) (by decide) (by decide) (by decide) ?_
              refine lv_aload_n hx hb d_R_about_99 rfl (lv_at hl 0 rfl) ?_
              refine hp_get (v := .ref (ad 105)) hx hb hg in_R hown hK h he rfl 7 (by decide) (hg _ w551) (fun _ z => z) rfl d_R_about_100 ?_
              refine lv_iload_n hx hb d_R_about_103 rfl (lv_at hl 1 rfl) ?_
              refine hp_iald hx hb hK h 0 hf1_ ht rfl (by omega) (by decide) d_R_about_104 ?_
              rw [show gf1 v = S.1 v 1 from hf11 v hv]
              exact hp_iret hx hb hr hlk h (Or.inl ⟨v, 1, hv, by omega, rfl, rfl, rfl, hR, hF⟩) (by omega) (by omega) d_R_about_105
            · skip
              refine lv_tableIn (off := 65) (tgt := 106) hx hb d_R_about_41 (by decide) (by decide) (by decide) (by decide) ?_
              refine lv_aload_n hx hb d_R_about_106 rfl (lv_at hl 0 rfl) ?_
              refine hp_get (v := .ref (ad 106)) hx hb hg in_R hown hK h he rfl 8 (by decide) (hg _ w552) (fun _ z => z) rfl d_R_about_107 ?_
              refine lv_iload_n hx hb d_R_about_110 rfl (lv_at hl 1 rfl) ?_
              refine hp_iald hx hb hK h 0 hf2_ ht rfl (by omega) (by decide) d_R_about_111 ?_
              rw [show gf2 v = S.1 v 2 from hf21 v hv]
              exact hp_iret hx hb hr hlk h (Or.inl ⟨v, 2, hv, by omega, rfl, rfl, rfl, hR, hF⟩) (by omega) (by omega) d_R_about_112
            · skip
              refine lv_tableIn (off := 72) (tgt := 113) hx hb d_R_about_41 (by decide) (by decide) (by decide) (by decide) ?_
              refine lv_aload_n hx hb d_R_about_113 rfl (lv_at hl 0 rfl) ?_
              refine hp_get (v := .ref (ad 107)) hx hb hg in_R hown hK h he rfl 9 (by decide) (hg _ w553) (fun _ z => z) rfl d_R_about_114 ?_
              refine lv_iload_n hx hb d_R_about_117 rfl (lv_at hl 1 rfl) ?_
              refine hp_iald hx hb hK h 0 hf3_ ht rfl (by omega) (by decide) d_R_about_118 ?_
              rw [show gf3 v = S.1 v 3 from hf31 v hv]
              exact hp_iret hx hb hr hlk h (Or.inl ⟨v, 3, hv, by omega, rfl, rfl, rfl, hR, hF⟩) (by omega) (by omega) d_R_about_119
            · skip
              refine lv_tableIn (off := 79) (tgt := 120) hx hb d_R_about_41 (by decide) (by decide) (by decide) (by decide) ?_
              refine lv_aload_n hx hb d_R_about_120 rfl (lv_at hl 0 rfl) ?_
              refine hp_get (v := .ref (ad 108)) hx hb hg in_R hown hK h he rfl 10 (by decide) (hg _ w554) (fun _ z => z) rfl d_R_about_121 ?_
              refine lv_iload_n hx hb d_R_about_124 rfl (lv_at hl 1 rfl) ?_
              refine hp_iald hx hb hK h 0 hf4_ ht rfl (by omega) (by decide) d_R_about_125 ?_
              rw [show gf4 v = S.1 v 4 from hf41 v hv]
              exact hp_iret hx hb hr hlk h (Or.inl ⟨v, 4, hv, by omega, rfl, rfl, rfl, hR, hF⟩) (by omega) (by omega) d_R_about_126
            · skip
              refine lv_tableIn (off := 86) (tgt := 127) hx hb d_R_about_41 (by decide) (by decide) (by decide) (by decide) ?_
              refine lv_aload_n hx hb d_R_about_127 rfl (lv_at hl 0 rfl) ?_
              refine hp_get (v := .ref (ad 109)) hx hb hg in_R hown hK h he rfl 11 (by decide) (hg _ w555) (fun _ z => z) rfl d_R_about_128 ?_
              refine lv_iload_n hx hb d_R_about_131 rfl (lv_at hl 1 rfl) ?_
              refine hp_iald hx hb hK h 0 hf5_ ht rfl (by omega) (by decide) d_R_about_132 ?_
              rw [show gf5 v = S.1 v 5 from hf51 v hv]
              exact hp_iret hx hb hr hlk h (Or.inl ⟨v, 5, hv, by omega, rfl, rfl, rfl, hR, hF⟩) (by omega) (by omega) d_R_about_133
            · skip
              refine lv_tableIn (off := 93) (tgt := 134) hx hb d_R_about_41 (by decide) (by decide) (by decide) (by decide) ?_
              refine lv_aload_n hx hb d_R_about_134 rfl (lv_at hl 0 rfl) ?_
              refine hp_get (v := .ref (ad 111)) hx hb hg in_R hown hK h he rfl 13 (by decide) (hg _ w557) (fun _ z => z) rfl d_R_about_135 ?_
              refine lv_iload_n hx hb d_R_about_138 rfl (lv_at hl 1 rfl) ?_
              refine hp_iald hx hb hK h 0 hf7_ ht rfl (by omega) (by decide) d_R_about_139 ?_
              rw [show gf7 v = S.1 v 7 from hf71 v hv]
              exact hp_iret hx hb hr hlk h (Or.inl ⟨v, 6, hv, by omega, rfl, rfl, rfl, hR, hF⟩) (by omega) (by omega) d_R_about_140
            · skip
              refine lv_tableIn (off := 100) (tgt := 141) hx hb d_R_about_41 (by decide) (by decide) (by decide) (by decide) ?_
              refine lv_aload_n hx hb d_R_about_141 rfl (lv_at hl 0 rfl) ?_
              refine hp_get (v := .ref (ad 110)) hx hb hg in_R hown hK h he rfl 12 (by decide) (hg _ w556) (fun _ z => z) rfl d_R_about_142 ?_
              refine lv_iload_n hx hb d_R_about_145 rfl (lv_at hl 1 rfl) ?_
              refine hp_iald hx hb hK h 0 hf6_ ht rfl (by omega) (by decide) d_R_about_146 ?_
              rw [show gf6 v = S.1 v 6 from hf61 v hv]
              exact hp_iret hx hb hr hlk h (Or.inl ⟨v, 7, hv, by omega, rfl, rfl, rfl, hR, hF⟩) (by omega) (by omega) d_R_about_147
            · skip
              refine lv_tableIn (off := 107) (tgt := 148) hx hb d_R_about_41 (by decide) (by decide) (by decide) (by decide) ?_
              refine lv_aload_n hx hb d_R_about_148 rfl (lv_at hl 0 rfl) ?_
              refine hp_get (v := .ref (ad 114)) hx hb hg in_R hown hK h he rfl 16 (by decide) (hg _ w560) (fun _ z => z) rfl d_R_about_149 ?_
              refine lv_iload_n hx hb d_R_about_152 rfl (lv_at hl 1 rfl) ?_
              refine hp_iald hx hb hK h 0 hy ht rfl (by omega) (by decide) d_R_about_153 ?_
              rw [show gy v = nI (S.2.2.1 v).length from hy1 v hv]
              exact hp_iret hx hb hr hlk h (Or.inl ⟨v, 8, hv, by omega, rfl, rfl, rfl, hR, hF⟩) (by omega) (by omega) d_R_about_154
            · skip
              refine lv_tableOut (tgt := 155) hx hb d_R_about_41 (by decide) (by decide) ?_
              refine lv_aload_n hx hb d_R_about_155 rfl (lv_at hl 0 rfl) ?_
              refine hp_get (v := .ref (ad 112)) hx hb hg in_R hown hK h he rfl 14 (by decide) (hg _ w558) (fun _ z => z) rfl d_R_about_156 ?_
              refine lv_iload_n hx hb d_R_about_159 rfl (lv_at hl 1 rfl) ?_
              refine hp_zald hx hb hK h 3 hd ht3 rfl (by omega) (by decide) d_R_about_160 ?_
              rw [show gd v = S.1 v 8 from hd1 v hv]
              refine lv_if_eq (tgt := 168) hx hb d_R_about_161 (by decide) (fun hc8 => ?_) (fun hc8 => ?_)
              · skip
                refine lv_iconst (v := 0) hx hb d_R_about_168 (by decide) ?_
                exact hp_iret hx hb hr hlk h (Or.inl ⟨v, 9, hv, by omega, rfl, rfl, (if_pos hc8).symm, hR, hF⟩) (by omega) (by omega) d_R_about_169
              · skip
                refine lv_iconst (v := 1) hx hb d_R_about_164 (by decide) ?_
                refine lv_goto (tgt := 169) hx hb d_R_about_165 (by decide) ?_
                exact hp_iret hx hb hr hlk h (Or.inl ⟨v, 9, hv, by omega, rfl, rfl, (if_neg hc8).symm, hR, hF⟩) (by omega) (by omega) d_R_about_169
          · skip
            exact absurd (by decide) hc9
        · skip
          refine lv_iconst (v := 2) hx hb d_R_about_23 (by decide) ?_
          refine lv_goto (tgt := 28) hx hb d_R_about_24 (by decide) ?_
          refine hp_put (ty := .int) (v := .int 2) (fs' := [.int 2, .int (nI E.1), .int (nI E.2.1), .ref (ad 101), .ref (ad 102), .ref (ad 103), .ref (ad 104), .ref (ad 105), .ref (ad 106), .ref (ad 107), .ref (ad 108), .ref (ad 109), .ref (ad 110), .ref (ad 111), .ref (ad 112), .ref (ad 113), .ref (ad 114), .ref (ad 115), .ref (ad 116), .ref (ad 117), .ref (ad 118), .ref (ad 119), .int S.2.2.2.2.1]) hx hb hg in_R t_R t_R_ok n_R hown hK h he rfl 0 (by decide) (hg _ w544) (fun _ z => z) rfl (by decide +kernel) rfl rfl (Nat.le_of_ble_eq_true rfl) rfl d_R_about_28 (fun H locs f1 hf1 h => ?_)
          have he := he.self' hf1
          refine lv_aload_n hx hb d_R_about_31 rfl (lv_at hl 0 rfl) ?_
          refine hp_get (v := .int 2) hx hb hg in_R hown hK h he rfl 0 (by decide) (hg _ w544) (fun _ z => z) rfl d_R_about_32 ?_
          have hR : kR cI cZ ad τ L f1 2 E S := hR.wO (f1 := f1) (code' := 2) (sc := S.2.2.2.2.1) hf1
          have hF : kFq τ L f (L, f1) := kFq.w hf1 (hT 100 (by omega) (by omega)) (by omega) (by omega)
          refine lv_if_le (tgt := 40) hx hb d_R_about_35 (by decide) (fun hc9 => ?_) (fun hc9 => ?_)
          · skip
            exact absurd hc9 (by decide)
          · skip
            refine lv_iconst (v := 0) hx hb d_R_about_38 (by decide) ?_
            exact hp_iret hx hb hr hlk h (Or.inr (Or.inr ⟨hnb, Or.inr (Int32.not_le.mp hc3), hR, hF⟩)) (by omega) (by omega) d_R_about_39
    · skip
      exact absurd rfl hc
  · skip
    subst hp
    refine lv_if_eq (tgt := 13) hx hb d_R_about_6 (by decide) (fun hc => ?_) (fun hc => ?_)
    · skip
      exact absurd hc (by decide)
    · skip
      refine lv_iconst (v := 1) hx hb d_R_about_9 (by decide) ?_
      refine lv_goto (tgt := 28) hx hb d_R_about_10 (by decide) ?_
      refine hp_put (ty := .int) (v := .int 1) (fs' := [.int 1, .int (nI E.1), .int (nI E.2.1), .ref (ad 101), .ref (ad 102), .ref (ad 103), .ref (ad 104), .ref (ad 105), .ref (ad 106), .ref (ad 107), .ref (ad 108), .ref (ad 109), .ref (ad 110), .ref (ad 111), .ref (ad 112), .ref (ad 113), .ref (ad 114), .ref (ad 115), .ref (ad 116), .ref (ad 117), .ref (ad 118), .ref (ad 119), .int S.2.2.2.2.1]) hx hb hg in_R t_R t_R_ok n_R hown hK h he rfl 0 (by decide) (hg _ w544) (fun _ z => z) rfl (by decide +kernel) rfl rfl (Nat.le_of_ble_eq_true rfl) rfl d_R_about_28 (fun H locs f1 hf1 h => ?_)
      have he := he.self' hf1
      refine lv_aload_n hx hb d_R_about_31 rfl (lv_at hl 0 rfl) ?_
      refine hp_get (v := .int 1) hx hb hg in_R hown hK h he rfl 0 (by decide) (hg _ w544) (fun _ z => z) rfl d_R_about_32 ?_
      have hR : kR cI cZ ad τ L f1 1 E S := hR.wO (f1 := f1) (code' := 1) (sc := S.2.2.2.2.1) hf1
      have hF : kFq τ L f (L, f1) := kFq.w hf1 (hT 100 (by omega) (by omega)) (by omega) (by omega)
      refine lv_if_le (tgt := 40) hx hb d_R_about_35 (by decide) (fun hc9 => ?_) (fun hc9 => ?_)
      · skip
        exact absurd hc9 (by decide)
      · skip
        refine lv_iconst (v := 0) hx hb d_R_about_38 (by decide) ?_
        exact hp_iret hx hb hr hlk h (Or.inr (Or.inl ⟨hbad, hR, hF⟩)) (by omega) (by omega) d_R_about_39

def kBadM (E : kE) (S : kS) (w u9 : Int32) : Prop := kBad E w ∨ ∃ v, v < E.1 ∧ w = nI v ∧ (u9 < 0 ∨ nI (S.2.2.1 v).length ≤ u9)
set_option maxHeartbeats 4000000 in
set_option maxRecDepth 100000 in
theorem c_R_message (l : Launch) (D : va_G) (tys : List (ClassId × FieldType)) (de : Nat) (sa : Nat → Nat) {L : List Nat} {f : Nat → va_E} {w u9 x9 : Int32} {ad τ : Nat → Nat} {E : kE} {S : kS} {code : Int32} {cI cZ : ClassId} (ht : tys[0]? = some (cI, .int)) (ht3 : tys[3]? = some (cZ, .boolean)) (hR : kR cI cZ ad τ L f code E S) (hn7 : E.1 ≤ 7) (hm12 : E.2.1 ≤ 12) (hlen : ∀ i, i < E.1 → (S.2.2.1 i).length ≤ 200) : hp_Mi l y_R_message (gw_ws y_R_message b_R_message 5 (some .int)) { frames := 1, cells := 0, slots := 0, locals := 21 } D kc tys (s_X de sa) [.ref (ad 100), .int w, .int u9, .int x9] L f (fun r u => (∃ v i9 k9 q9, v < E.1 ∧ k9 ≤ 4 ∧ (S.2.2.1 v)[i9]? = some q9 ∧ w = nI v ∧ u9 = nI i9 ∧ x9 = nI k9 ∧ r = kmf q9 k9 ∧ kRP cI cZ ad τ L f 0 E S u) ∨ (kBadM E S w u9 ∧ kRP cI cZ ad τ L f 1 E S u) ∨ (¬ kBadM E S w u9 ∧ (x9 < 0 ∨ 4 < x9) ∧ kRP cI cZ ad τ L f 2 E S u)) 0 0 := by
  refine hp_ofW (Qc := fun A => va_Qi (fun r u => (∃ v i9 k9 q9, v < E.1 ∧ k9 ≤ 4 ∧ (S.2.2.1 v)[i9]? = some q9 ∧ w = nI v ∧ u9 = nI i9 ∧ x9 = nI k9 ∧ r = kmf q9 k9 ∧ kRP cI cZ ad τ L f 0 E S u) ∨ (kBadM E S w u9 ∧ kRP cI cZ ad τ L f 1 E S u) ∨ (¬ kBadM E S w u9 ∧ (x9 < 0 ∨ 4 < x9) ∧ kRP cI cZ ad τ L f 2 E S u)) (hp_B D kc A) A) (fr := fun A => A) (ret := (some .int)) (by decide) rfl (Nat.le_of_ble_eq_true rfl) ?_
  intro p e s m below meth c ls A hx hb hml hr hts hown hlk hnm hl hK hX h
  have hg : ∀ w ∈ gw, w.before _ s = true := fun w hw => hts w (List.mem_cons_of_mem _ hw)
  have hown : s.vm.findClass "MergingFragmentsModel" = some m.cls := hown
  have hnm : meth.name = "message" := hnm
  have hl : lv_has ls 5 [(0, .ref (ad 100)), (1, .int w), (2, .int u9), (3, .int x9)] := hl
  have hT := hR.2.2.2.2.2.2.2
  have he := hR.1
  obtain ⟨fr, ⟨gv, hgv, hgv1⟩, ⟨gy, hy, hy1⟩, hb9, hrg⟩ := hR.2.2.2.2.2.2.1
  obtain ⟨g0, hg0, hr0⟩ := hrg 0 (by decide)
  obtain ⟨g1, hg1, hr1⟩ := hrg 1 (by decide)
  obtain ⟨g2, hg2, hr2⟩ := hrg 2 (by decide)
  obtain ⟨g3, hg3, hr3⟩ := hrg 3 (by decide)
  obtain ⟨g4, hg4, hr4⟩ := hrg 4 (by decide)
  refine lv_aload_n hx hb d_R_message_0 rfl (lv_at hl 0 rfl) ?_
  refine lv_aload_n hx hb d_R_message_1 rfl (lv_at hl 0 rfl) ?_
  refine lv_iload_n hx hb d_R_message_2 rfl (lv_at hl 1 rfl) ?_
  refine hp_callR (hp_runV (As := [.int w]) (rest := [.ref (ad 100)]) ⟨hx, hb, hml, hown, hg⟩ (c_R_noNode l D tys de sa (w := w) ht ht3 hR hn7 hm12) (cwV 1 hg (gw_V w627 w629 ws26 w7 w630) rfl rfl rfl (by decide +kernel) ⟨Nat.le_of_ble_eq_true rfl, Nat.le_of_ble_eq_true rfl⟩) (s_ok de sa) hK hX h he rfl rfl rfl hl.1 rfl (Nat.le_of_ble_eq_true rfl) d_R_message_3 ⟨Nat.le_of_ble_eq_true rfl, Nat.le_of_ble_eq_true rfl⟩) (fun r1 hp => ?_)
  rcases hp with ⟨hp, v, hv, hw⟩ | ⟨hp, hbad⟩
  · skip
    subst hp
    subst hw
    have hfv := hb9 v hv
    have hlv := hlen v hv
    have hbm : ∀ z : Int32, kBadM E S (nI v) z → z < 0 ∨ nI (S.2.2.1 v).length ≤ z := fun z q => by
      rcases q with (q | q) | ⟨v2, hv2, hvv, q⟩
      · exact absurd q (nI_pos (by omega))
      · exact absurd ((nI_leI (by omega) (by omega)).mp q) (by omega)
      · rw [(nI_eq (by omega) (by omega)).mp hvv]; exact q
    refine lv_if_ne (tgt := 23) hx hb d_R_message_6 (by decide) (fun hc => ?_) (fun hc => ?_)
    · skip
      exact absurd rfl hc
    · skip
      refine lv_iload_n hx hb d_R_message_9 rfl (lv_at hl 2 rfl) ?_
      refine lv_if_lt (tgt := 23) hx hb d_R_message_10 (by decide) (fun hc2 => ?_) (fun hc2 => ?_)
      · skip
        refine lv_iconst (v := 1) hx hb d_R_message_23 (by decide) ?_
        refine lv_goto (tgt := 41) hx hb d_R_message_24 (by decide) ?_
        refine hp_put (ty := .int) (v := .int 1) (fs' := [.int 1, .int (nI E.1), .int (nI E.2.1), .ref (ad 101), .ref (ad 102), .ref (ad 103), .ref (ad 104), .ref (ad 105), .ref (ad 106), .ref (ad 107), .ref (ad 108), .ref (ad 109), .ref (ad 110), .ref (ad 111), .ref (ad 112), .ref (ad 113), .ref (ad 114), .ref (ad 115), .ref (ad 116), .ref (ad 117), .ref (ad 118), .ref (ad 119), .int S.2.2.2.2.1]) hx hb hg in_R t_R t_R_ok n_R hown hK h he rfl 0 (by decide) (hg _ w544) (fun _ z => z) rfl (by decide +kernel) rfl rfl (Nat.le_of_ble_eq_true rfl) rfl d_R_message_41 (fun H locs f1 hf1 h => ?_)
        have he := he.self' hf1
        have hgv := hgv.ne' hf1 (kne (hT 113 (by omega) (by omega)) (hT 100 (by omega) (by omega)) (by decide))
        have hy := hy.ne' hf1 (kne (hT 114 (by omega) (by omega)) (hT 100 (by omega) (by omega)) (by decide))
        have hg0 := hg0.ne' hf1 (kne (hT 115 (by omega) (by omega)) (hT 100 (by omega) (by omega)) (by decide))
        have hg1 := hg1.ne' hf1 (kne (hT 116 (by omega) (by omega)) (hT 100 (by omega) (by omega)) (by decide))
        have hg2 := hg2.ne' hf1 (kne (hT 117 (by omega) (by omega)) (hT 100 (by omega) (by omega)) (by decide))
        have hg3 := hg3.ne' hf1 (kne (hT 118 (by omega) (by omega)) (hT 100 (by omega) (by omega)) (by decide))
        have hg4 := hg4.ne' hf1 (kne (hT 119 (by omega) (by omega)) (hT 100 (by omega) (by omega)) (by decide))
        refine lv_aload_n hx hb d_R_message_44 rfl (lv_at hl 0 rfl) ?_
        refine hp_get (v := .int 1) hx hb hg in_R hown hK h he rfl 0 (by decide) (hg _ w544) (fun _ z => z) rfl d_R_message_45 ?_
        have hR : kR cI cZ ad τ L f1 1 E S := hR.wO (f1 := f1) (code' := 1) (sc := S.2.2.2.2.1) hf1
        have hF : kFq τ L f (L, f1) := kFq.w hf1 (hT 100 (by omega) (by omega)) (by omega) (by omega)
        refine lv_if_le (tgt := 53) hx hb d_R_message_48 (by decide) (fun hc9 => ?_) (fun hc9 => ?_)
        · skip
          exact absurd hc9 (by decide)
        · skip
          refine lv_iconst (v := 0) hx hb d_R_message_51 (by decide) ?_
          exact hp_iret hx hb hr hlk h (Or.inr (Or.inl ⟨Or.inr ⟨v, hv, rfl, Or.inl hc2⟩, hR, hF⟩)) (by omega) (by omega) d_R_message_52
      · skip
        refine lv_iload_n hx hb d_R_message_13 rfl (lv_at hl 2 rfl) ?_
        refine lv_aload_n hx hb d_R_message_14 rfl (lv_at hl 0 rfl) ?_
        refine hp_get (v := .ref (ad 114)) hx hb hg in_R hown hK h he rfl 16 (by decide) (hg _ w560) (fun _ z => z) rfl d_R_message_15 ?_
        refine lv_iload_n hx hb d_R_message_18 rfl (lv_at hl 1 rfl) ?_
        refine hp_iald hx hb hK h 0 hy ht rfl (by omega) (by decide) d_R_message_19 ?_
        rw [show gy v = nI (S.2.2.1 v).length from hy1 v hv]
        refine lv_icmp_lt (tgt := 27) hx hb d_R_message_20 (by decide) (fun hc3 => ?_) (fun hc3 => ?_)
        · skip
          obtain ⟨i9, hi31, hiu⟩ := nI_of hc2
          subst hiu
          have hi9 : i9 < (S.2.2.1 v).length := (nI_ltI hi31 (by omega)).mp hc3
          have hnb : ¬ kBadM E S (nI v) (nI i9) := fun z => by rcases hbm _ z with z | z; exact nI_pos hi31 z; exact absurd ((nI_leI (by omega) hi31).mp z) (by omega)
          refine lv_iload_n hx hb d_R_message_27 rfl (lv_at hl 3 rfl) ?_
          refine lv_if_lt (tgt := 36) hx hb d_R_message_28 (by decide) (fun hc4 => ?_) (fun hc4 => ?_)
          · skip
            refine lv_iconst (v := 2) hx hb d_R_message_36 (by decide) ?_
            refine lv_goto (tgt := 41) hx hb d_R_message_37 (by decide) ?_
            refine hp_put (ty := .int) (v := .int 2) (fs' := [.int 2, .int (nI E.1), .int (nI E.2.1), .ref (ad 101), .ref (ad 102), .ref (ad 103), .ref (ad 104), .ref (ad 105), .ref (ad 106), .ref (ad 107), .ref (ad 108), .ref (ad 109), .ref (ad 110), .ref (ad 111), .ref (ad 112), .ref (ad 113), .ref (ad 114), .ref (ad 115), .ref (ad 116), .ref (ad 117), .ref (ad 118), .ref (ad 119), .int S.2.2.2.2.1]) hx hb hg in_R t_R t_R_ok n_R hown hK h he rfl 0 (by decide) (hg _ w544) (fun _ z => z) rfl (by decide +kernel) rfl rfl (Nat.le_of_ble_eq_true rfl) rfl d_R_message_41 (fun H locs f1 hf1 h => ?_)
            have he := he.self' hf1
            have hgv := hgv.ne' hf1 (kne (hT 113 (by omega) (by omega)) (hT 100 (by omega) (by omega)) (by decide))
            have hy := hy.ne' hf1 (kne (hT 114 (by omega) (by omega)) (hT 100 (by omega) (by omega)) (by decide))
            have hg0 := hg0.ne' hf1 (kne (hT 115 (by omega) (by omega)) (hT 100 (by omega) (by omega)) (by decide))
            have hg1 := hg1.ne' hf1 (kne (hT 116 (by omega) (by omega)) (hT 100 (by omega) (by omega)) (by decide))
            have hg2 := hg2.ne' hf1 (kne (hT 117 (by omega) (by omega)) (hT 100 (by omega) (by omega)) (by decide))
            have hg3 := hg3.ne' hf1 (kne (hT 118 (by omega) (by omega)) (hT 100 (by omega) (by omega)) (by decide))
            have hg4 := hg4.ne' hf1 (kne (hT 119 (by omega) (by omega)) (hT 100 (by omega) (by omega)) (by decide))
            refine lv_aload_n hx hb d_R_message_44 rfl (lv_at hl 0 rfl) ?_
            refine hp_get (v := .int 2) hx hb hg in_R hown hK h he rfl 0 (by decide) (hg _ w544) (fun _ z => z) rfl d_R_message_45 ?_
            have hR : kR cI cZ ad τ L f1 2 E S := hR.wO (f1 := f1) (code' := 2) (sc := S.2.2.2.2.1) hf1
            have hF : kFq τ L f (L, f1) := kFq.w hf1 (hT 100 (by omega) (by omega)) (by omega) (by omega)
            refine lv_if_le (tgt := 53) hx hb d_R_message_48 (by decide) (fun hc9 => ?_) (fun hc9 => ?_)
            · skip
              exact absurd hc9 (by decide)
            · skip
              refine lv_iconst (v := 0) hx hb d_R_message_51 (by decide) ?_
              exact hp_iret hx hb hr hlk h (Or.inr (Or.inr ⟨hnb, Or.inl hc4, hR, hF⟩)) (by omega) (by omega) d_R_message_52
          · skip
            refine lv_iload_n hx hb d_R_message_31 rfl (lv_at hl 3 rfl) ?_
            refine lv_iconst (v := 4) hx hb d_R_message_32 (by decide) ?_
            refine lv_icmp_le (tgt := 40) hx hb d_R_message_33 (by decide) (fun hc5 => ?_) (fun hc5 => ?_)
            · skip
              obtain ⟨k9, hk9, hku⟩ := nI_of2 (M := 4) (n := 4) rfl hc4 hc5
              subst hku
              refine lv_iconst (v := 0) hx hb d_R_message_40 (by decide) ?_
              refine hp_put (ty := .int) (v := .int 0) (fs' := [.int 0, .int (nI E.1), .int (nI E.2.1), .ref (ad 101), .ref (ad 102), .ref (ad 103), .ref (ad 104), .ref (ad 105), .ref (ad 106), .ref (ad 107), .ref (ad 108), .ref (ad 109), .ref (ad 110), .ref (ad 111), .ref (ad 112), .ref (ad 113), .ref (ad 114), .ref (ad 115), .ref (ad 116), .ref (ad 117), .ref (ad 118), .ref (ad 119), .int S.2.2.2.2.1]) hx hb hg in_R t_R t_R_ok n_R hown hK h he rfl 0 (by decide) (hg _ w544) (fun _ z => z) rfl (by decide +kernel) rfl rfl (Nat.le_of_ble_eq_true rfl) rfl d_R_message_41 (fun H locs f1 hf1 h => ?_)
              have he := he.self' hf1
              have hgv := hgv.ne' hf1 (kne (hT 113 (by omega) (by omega)) (hT 100 (by omega) (by omega)) (by decide))
              have hy := hy.ne' hf1 (kne (hT 114 (by omega) (by omega)) (hT 100 (by omega) (by omega)) (by decide))
              have hg0 := hg0.ne' hf1 (kne (hT 115 (by omega) (by omega)) (hT 100 (by omega) (by omega)) (by decide))
              have hg1 := hg1.ne' hf1 (kne (hT 116 (by omega) (by omega)) (hT 100 (by omega) (by omega)) (by decide))
              have hg2 := hg2.ne' hf1 (kne (hT 117 (by omega) (by omega)) (hT 100 (by omega) (by omega)) (by decide))
              have hg3 := hg3.ne' hf1 (kne (hT 118 (by omega) (by omega)) (hT 100 (by omega) (by omega)) (by decide))
              have hg4 := hg4.ne' hf1 (kne (hT 119 (by omega) (by omega)) (hT 100 (by omega) (by omega)) (by decide))
              refine lv_aload_n hx hb d_R_message_44 rfl (lv_at hl 0 rfl) ?_
              refine hp_get (v := .int 0) hx hb hg in_R hown hK h he rfl 0 (by decide) (hg _ w544) (fun _ z => z) rfl d_R_message_45 ?_
              have hR : kR cI cZ ad τ L f1 0 E S := hR.wO (f1 := f1) (code' := 0) (sc := S.2.2.2.2.1) hf1
              have hF : kFq τ L f (L, f1) := kFq.w hf1 (hT 100 (by omega) (by omega)) (by omega) (by omega)
              refine lv_if_le (tgt := 53) hx hb d_R_message_48 (by decide) (fun hc9 => ?_) (fun hc9 => ?_)
              · skip
                have hget := List.getElem?_eq_getElem hi9
                refine lv_sipush (v := 200) hx hb d_R_message_53 (by decide) ?_
                refine lv_iload_n hx hb d_R_message_56 rfl (lv_at hl 1 rfl) ?_
                refine lv_imul hx hb d_R_message_57 ?_
                rw [show (200 : Int32) * nI v = nI (200 * v) from pk_mul 200 v]
                refine lv_aload_n hx hb d_R_message_58 rfl (lv_at hl 0 rfl) ?_
                refine hp_get (v := .ref (ad 113)) hx hb hg in_R hown hK h he rfl 15 (by decide) (hg _ w559) (fun _ z => z) rfl d_R_message_59 ?_
                refine lv_iload_n hx hb d_R_message_62 rfl (lv_at hl 1 rfl) ?_
                refine hp_iald hx hb hK h 0 hgv ht rfl (by omega) (by decide) d_R_message_63 ?_
                rw [show gv v = nI (fr v) from hgv1 v hv]
                refine lv_iload_n hx hb d_R_message_64 rfl (lv_at hl 2 rfl) ?_
                refine lv_iadd hx hb d_R_message_65 ?_
                rw [nI_add]
                refine lv_sipush (v := 200) hx hb d_R_message_66 (by decide) ?_
                refine lv_irem hx hb d_R_message_69 (by decide) ?_
                rw [show nI (fr v + i9) - nI (fr v + i9) / 200 * 200 = nI ((fr v + i9) % 200) from pk_rem (d := 200) (by omega) (by decide) (by decide)]
                refine lv_iadd hx hb d_R_message_70 ?_
                rw [nI_add]
                refine lv_istore (lv' := [(4, .int (nI (200 * v + (fr v + i9) % 200))), (0, .ref (ad 100)), (1, .int (nI v)), (2, .int (nI i9)), (3, .int (nI k9))]) hx hb d_R_message_71 hl (by decide) rfl (fun ls hl => ?_)
                refine lv_iload_n hx hb d_R_message_73 rfl (lv_at hl 4 rfl) ?_
                rcases (show k9 = 0 ∨ k9 = 1 ∨ k9 = 2 ∨ k9 = 3 ∨ k9 = 4 by omega) with rfl | rfl | rfl | rfl | rfl
                · skip
                  refine lv_tableIn (off := 30) (tgt := 104) hx hb d_R_message_74 (by decide) (by decide) (by decide) (by decide) ?_
                  refine lv_aload_n hx hb d_R_message_104 rfl (lv_at hl 1 rfl) ?_
                  refine hp_get (v := .ref (ad 115)) hx hb hg in_R hown hK h he rfl 17 (by decide) (hg _ w561) (fun _ z => z) rfl d_R_message_105 ?_
                  refine lv_iload hx hb d_R_message_108 (lv_at hl 0 rfl) ?_
                  refine hp_iald hx hb hK h 0 hg0 ht rfl (by omega) (by decide) d_R_message_110 ?_
                  exact hp_iret hx hb hr hlk h (Or.inl ⟨v, i9, 0, _, hv, by omega, hget, rfl, rfl, rfl, hr0 v hv i9 _ hget, hR, hF⟩) (by omega) (by omega) d_R_message_111
                · skip
                  refine lv_tableIn (off := 38) (tgt := 112) hx hb d_R_message_74 (by decide) (by decide) (by decide) (by decide) ?_
                  refine lv_aload_n hx hb d_R_message_112 rfl (lv_at hl 1 rfl) ?_
                  refine hp_get (v := .ref (ad 116)) hx hb hg in_R hown hK h he rfl 18 (by decide) (hg _ w562) (fun _ z => z) rfl d_R_message_113 ?_
                  refine lv_iload hx hb d_R_message_116 (lv_at hl 0 rfl) ?_
                  refine hp_iald hx hb hK h 0 hg1 ht rfl (by omega) (by decide) d_R_message_118 ?_
                  exact hp_iret hx hb hr hlk h (Or.inl ⟨v, i9, 1, _, hv, by omega, hget, rfl, rfl, rfl, hr1 v hv i9 _ hget, hR, hF⟩) (by omega) (by omega) d_R_message_119
                · skip
                  refine lv_tableIn (off := 46) (tgt := 120) hx hb d_R_message_74 (by decide) (by decide) (by decide) (by decide) ?_
                  refine lv_aload_n hx hb d_R_message_120 rfl (lv_at hl 1 rfl) ?_
                  refine hp_get (v := .ref (ad 117)) hx hb hg in_R hown hK h he rfl 19 (by decide) (hg _ w563) (fun _ z => z) rfl d_R_message_121 ?_
                  refine lv_iload hx hb d_R_message_124 (lv_at hl 0 rfl) ?_
                  refine hp_iald hx hb hK h 0 hg2 ht rfl (by omega) (by decide) d_R_message_126 ?_
                  exact hp_iret hx hb hr hlk h (Or.inl ⟨v, i9, 2, _, hv, by omega, hget, rfl, rfl, rfl, hr2 v hv i9 _ hget, hR, hF⟩) (by omega) (by omega) d_R_message_127
                · skip
                  refine lv_tableIn (off := 54) (tgt := 128) hx hb d_R_message_74 (by decide) (by decide) (by decide) (by decide) ?_
                  refine lv_aload_n hx hb d_R_message_128 rfl (lv_at hl 1 rfl) ?_
                  refine hp_get (v := .ref (ad 118)) hx hb hg in_R hown hK h he rfl 20 (by decide) (hg _ w564) (fun _ z => z) rfl d_R_message_129 ?_
                  refine lv_iload hx hb d_R_message_132 (lv_at hl 0 rfl) ?_
                  refine hp_iald hx hb hK h 0 hg3 ht rfl (by omega) (by decide) d_R_message_134 ?_
                  exact hp_iret hx hb hr hlk h (Or.inl ⟨v, i9, 3, _, hv, by omega, hget, rfl, rfl, rfl, hr3 v hv i9 _ hget, hR, hF⟩) (by omega) (by omega) d_R_message_135
                · skip
                  refine lv_tableOut (tgt := 136) hx hb d_R_message_74 (by decide) (by decide) ?_
                  refine lv_aload_n hx hb d_R_message_136 rfl (lv_at hl 1 rfl) ?_
                  refine hp_get (v := .ref (ad 119)) hx hb hg in_R hown hK h he rfl 21 (by decide) (hg _ w565) (fun _ z => z) rfl d_R_message_137 ?_
                  refine lv_iload hx hb d_R_message_140 (lv_at hl 0 rfl) ?_
                  refine hp_iald hx hb hK h 0 hg4 ht rfl (by omega) (by decide) d_R_message_142 ?_
                  exact hp_iret hx hb hr hlk h (Or.inl ⟨v, i9, 4, _, hv, by omega, hget, rfl, rfl, rfl, hr4 v hv i9 _ hget, hR, hF⟩) (by omega) (by omega) d_R_message_143
              · skip
                exact absurd (by decide) hc9
            · skip
              refine lv_iconst (v := 2) hx hb d_R_message_36 (by decide) ?_
              refine lv_goto (tgt := 41) hx hb d_R_message_37 (by decide) ?_
              refine hp_put (ty := .int) (v := .int 2) (fs' := [.int 2, .int (nI E.1), .int (nI E.2.1), .ref (ad 101), .ref (ad 102), .ref (ad 103), .ref (ad 104), .ref (ad 105), .ref (ad 106), .ref (ad 107), .ref (ad 108), .ref (ad 109), .ref (ad 110), .ref (ad 111), .ref (ad 112), .ref (ad 113), .ref (ad 114), .ref (ad 115), .ref (ad 116), .ref (ad 117), .ref (ad 118), .ref (ad 119), .int S.2.2.2.2.1]) hx hb hg in_R t_R t_R_ok n_R hown hK h he rfl 0 (by decide) (hg _ w544) (fun _ z => z) rfl (by decide +kernel) rfl rfl (Nat.le_of_ble_eq_true rfl) rfl d_R_message_41 (fun H locs f1 hf1 h => ?_)
              have he := he.self' hf1
              have hgv := hgv.ne' hf1 (kne (hT 113 (by omega) (by omega)) (hT 100 (by omega) (by omega)) (by decide))
              have hy := hy.ne' hf1 (kne (hT 114 (by omega) (by omega)) (hT 100 (by omega) (by omega)) (by decide))
              have hg0 := hg0.ne' hf1 (kne (hT 115 (by omega) (by omega)) (hT 100 (by omega) (by omega)) (by decide))
              have hg1 := hg1.ne' hf1 (kne (hT 116 (by omega) (by omega)) (hT 100 (by omega) (by omega)) (by decide))
              have hg2 := hg2.ne' hf1 (kne (hT 117 (by omega) (by omega)) (hT 100 (by omega) (by omega)) (by decide))
              have hg3 := hg3.ne' hf1 (kne (hT 118 (by omega) (by omega)) (hT 100 (by omega) (by omega)) (by decide))
              have hg4 := hg4.ne' hf1 (kne (hT 119 (by omega) (by omega)) (hT 100 (by omega) (by omega)) (by decide))
              refine lv_aload_n hx hb d_R_message_44 rfl (lv_at hl 0 rfl) ?_
              refine hp_get (v := .int 2) hx hb hg in_R hown hK h he rfl 0 (by decide) (hg _ w544) (fun _ z => z) rfl d_R_message_45 ?_
              have hR : kR cI cZ ad τ L f1 2 E S := hR.wO (f1 := f1) (code' := 2) (sc := S.2.2.2.2.1) hf1
              have hF : kFq τ L f (L, f1) := kFq.w hf1 (hT 100 (by omega) (by omega)) (by omega) (by omega)
              refine lv_if_le (tgt := 53) hx hb d_R_message_48 (by decide) (fun hc9 => ?_) (fun hc9 => ?_)
              · skip
                exact absurd hc9 (by decide)
              · skip
                refine lv_iconst (v := 0) hx hb d_R_message_51 (by decide) ?_
                exact hp_iret hx hb hr hlk h (Or.inr (Or.inr ⟨hnb, Or.inr (Int32.not_le.mp hc5), hR, hF⟩)) (by omega) (by omega) d_R_message_52
        · skip
          refine lv_iconst (v := 1) hx hb d_R_message_23 (by decide) ?_
          refine lv_goto (tgt := 41) hx hb d_R_message_24 (by decide) ?_
          refine hp_put (ty := .int) (v := .int 1) (fs' := [.int 1, .int (nI E.1), .int (nI E.2.1), .ref (ad 101), .ref (ad 102), .ref (ad 103), .ref (ad 104), .ref (ad 105), .ref (ad 106), .ref (ad 107), .ref (ad 108), .ref (ad 109), .ref (ad 110), .ref (ad 111), .ref (ad 112), .ref (ad 113), .ref (ad 114), .ref (ad 115), .ref (ad 116), .ref (ad 117), .ref (ad 118), .ref (ad 119), .int S.2.2.2.2.1]) hx hb hg in_R t_R t_R_ok n_R hown hK h he rfl 0 (by decide) (hg _ w544) (fun _ z => z) rfl (by decide +kernel) rfl rfl (Nat.le_of_ble_eq_true rfl) rfl d_R_message_41 (fun H locs f1 hf1 h => ?_)
          have he := he.self' hf1
          have hgv := hgv.ne' hf1 (kne (hT 113 (by omega) (by omega)) (hT 100 (by omega) (by omega)) (by decide))
          have hy := hy.ne' hf1 (kne (hT 114 (by omega) (by omega)) (hT 100 (by omega) (by omega)) (by decide))
          have hg0 := hg0.ne' hf1 (kne (hT 115 (by omega) (by omega)) (hT 100 (by omega) (by omega)) (by decide))
          have hg1 := hg1.ne' hf1 (kne (hT 116 (by omega) (by omega)) (hT 100 (by omega) (by omega)) (by decide))
          have hg2 := hg2.ne' hf1 (kne (hT 117 (by omega) (by omega)) (hT 100 (by omega) (by omega)) (by decide))
          have hg3 := hg3.ne' hf1 (kne (hT 118 (by omega) (by omega)) (hT 100 (by omega) (by omega)) (by decide))
          have hg4 := hg4.ne' hf1 (kne (hT 119 (by omega) (by omega)) (hT 100 (by omega) (by omega)) (by decide))
          refine lv_aload_n hx hb d_R_message_44 rfl (lv_at hl 0 rfl) ?_
          refine hp_get (v := .int 1) hx hb hg in_R hown hK h he rfl 0 (by decide) (hg _ w544) (fun _ z => z) rfl d_R_message_45 ?_
          have hR : kR cI cZ ad τ L f1 1 E S := hR.wO (f1 := f1) (code' := 1) (sc := S.2.2.2.2.1) hf1
          have hF : kFq τ L f (L, f1) := kFq.w hf1 (hT 100 (by omega) (by omega)) (by omega) (by omega)
          refine lv_if_le (tgt := 53) hx hb d_R_message_48 (by decide) (fun hc9 => ?_) (fun hc9 => ?_)
          · skip
            exact absurd hc9 (by decide)
          · skip
            refine lv_iconst (v := 0) hx hb d_R_message_51 (by decide) ?_
            exact hp_iret hx hb hr hlk h (Or.inr (Or.inl ⟨Or.inr ⟨v, hv, rfl, Or.inr (Int32.not_lt.mp hc3)⟩, hR, hF⟩)) (by omega) (by omega) d_R_message_52
  · skip
    subst hp
    refine lv_if_ne (tgt := 23) hx hb d_R_message_6 (by decide) (fun hc => ?_) (fun hc => ?_)
    · skip
      refine lv_iconst (v := 1) hx hb d_R_message_23 (by decide) ?_
      refine lv_goto (tgt := 41) hx hb d_R_message_24 (by decide) ?_
      refine hp_put (ty := .int) (v := .int 1) (fs' := [.int 1, .int (nI E.1), .int (nI E.2.1), .ref (ad 101), .ref (ad 102), .ref (ad 103), .ref (ad 104), .ref (ad 105), .ref (ad 106), .ref (ad 107), .ref (ad 108), .ref (ad 109), .ref (ad 110), .ref (ad 111), .ref (ad 112), .ref (ad 113), .ref (ad 114), .ref (ad 115), .ref (ad 116), .ref (ad 117), .ref (ad 118), .ref (ad 119), .int S.2.2.2.2.1]) hx hb hg in_R t_R t_R_ok n_R hown hK h he rfl 0 (by decide) (hg _ w544) (fun _ z => z) rfl (by decide +kernel) rfl rfl (Nat.le_of_ble_eq_true rfl) rfl d_R_message_41 (fun H locs f1 hf1 h => ?_)
      have he := he.self' hf1
      have hgv := hgv.ne' hf1 (kne (hT 113 (by omega) (by omega)) (hT 100 (by omega) (by omega)) (by decide))
      have hy := hy.ne' hf1 (kne (hT 114 (by omega) (by omega)) (hT 100 (by omega) (by omega)) (by decide))
      have hg0 := hg0.ne' hf1 (kne (hT 115 (by omega) (by omega)) (hT 100 (by omega) (by omega)) (by decide))
      have hg1 := hg1.ne' hf1 (kne (hT 116 (by omega) (by omega)) (hT 100 (by omega) (by omega)) (by decide))
      have hg2 := hg2.ne' hf1 (kne (hT 117 (by omega) (by omega)) (hT 100 (by omega) (by omega)) (by decide))
      have hg3 := hg3.ne' hf1 (kne (hT 118 (by omega) (by omega)) (hT 100 (by omega) (by omega)) (by decide))
      have hg4 := hg4.ne' hf1 (kne (hT 119 (by omega) (by omega)) (hT 100 (by omega) (by omega)) (by decide))
      refine lv_aload_n hx hb d_R_message_44 rfl (lv_at hl 0 rfl) ?_
      refine hp_get (v := .int 1) hx hb hg in_R hown hK h he rfl 0 (by decide) (hg _ w544) (fun _ z => z) rfl d_R_message_45 ?_
      have hR : kR cI cZ ad τ L f1 1 E S := hR.wO (f1 := f1) (code' := 1) (sc := S.2.2.2.2.1) hf1
      have hF : kFq τ L f (L, f1) := kFq.w hf1 (hT 100 (by omega) (by omega)) (by omega) (by omega)
      refine lv_if_le (tgt := 53) hx hb d_R_message_48 (by decide) (fun hc9 => ?_) (fun hc9 => ?_)
      · skip
        exact absurd hc9 (by decide)
      · skip
        refine lv_iconst (v := 0) hx hb d_R_message_51 (by decide) ?_
        exact hp_iret hx hb hr hlk h (Or.inr (Or.inl ⟨Or.inl hbad, hR, hF⟩)) (by omega) (by omega) d_R_message_52
    · skip
      exact absurd hc (by decide)

set_option maxHeartbeats 4000000 in
set_option maxRecDepth 100000 in
theorem c_R_weight (l : Launch) (D : va_G) (tys : List (ClassId × FieldType)) (de : Nat) (sa : Nat → Nat) {L : List Nat} {f : Nat → va_E} {ad τ : Nat → Nat} {E : kE} {S : kS} {code : Int32} {cI cZ : ClassId} (ht : tys[0]? = some (cI, .int)) (ht3 : tys[3]? = some (cZ, .boolean)) (hR : kR cI cZ ad τ L f code E S) (hn7 : E.1 ≤ 7) (hm12 : E.2.1 ≤ 12) : hp_Mi l y_R_weight (gw_ws y_R_weight b_R_weight 3 (some .int)) { frames := 0, cells := 0, slots := 0, locals := 0 } D kc tys (s_X de sa) [.ref (ad 100)] L f (fun r u => r = k_wt E S E.2.1 ∧ kRP cI cZ ad τ L f 0 E S u) 0 0 := by
  refine hp_ofW (Qc := fun A => va_Qi (fun r u => r = k_wt E S E.2.1 ∧ kRP cI cZ ad τ L f 0 E S u) (hp_B D kc A) A) (fr := fun A => A) (ret := (some .int)) (by decide) rfl (Nat.le_of_ble_eq_true rfl) ?_
  intro p e s m below meth c ls A hx hb hml hr hts hown hlk hnm hl hK hX h
  have hg : ∀ w ∈ gw, w.before _ s = true := fun w hw => hts w (List.mem_cons_of_mem _ hw)
  have hown : s.vm.findClass "MergingFragmentsModel" = some m.cls := hown
  have hnm : meth.name = "weight" := hnm
  have hl : lv_has ls 3 [(0, .ref (ad 100))] := hl
  have hT := hR.2.2.2.2.2.2.2
  have he := hR.1
  refine lv_aload_n hx hb d_R_weight_0 rfl (lv_at hl 0 rfl) ?_
  refine lv_iconst (v := 0) hx hb d_R_weight_1 (by decide) ?_
  refine hp_put (ty := .int) (v := .int 0) (fs' := [.int 0, .int (nI E.1), .int (nI E.2.1), .ref (ad 101), .ref (ad 102), .ref (ad 103), .ref (ad 104), .ref (ad 105), .ref (ad 106), .ref (ad 107), .ref (ad 108), .ref (ad 109), .ref (ad 110), .ref (ad 111), .ref (ad 112), .ref (ad 113), .ref (ad 114), .ref (ad 115), .ref (ad 116), .ref (ad 117), .ref (ad 118), .ref (ad 119), .int S.2.2.2.2.1]) hx hb hg in_R t_R t_R_ok n_R hown hK h he rfl 0 (by decide) (hg _ w544) (fun _ z => z) rfl (by decide +kernel) rfl rfl (Nat.le_of_ble_eq_true rfl) rfl d_R_weight_2 (fun H locs f1 hf1 h => ?_)
  have he := he.self' hf1
  have hR : kR cI cZ ad τ L f1 0 E S := hR.wO (f1 := f1) (code' := 0) (sc := S.2.2.2.2.1) hf1
  have hF : kFq τ L f (L, f1) := kFq.w hf1 (hT 100 (by omega) (by omega)) (by omega) (by omega)
  have he := hR.1
  obtain ⟨gw, hw, hw1⟩ := hR.2.2.1
  obtain ⟨gk, hk, hk1⟩ := hR.2.2.2.1
  refine lv_iconst (v := 0) hx hb d_R_weight_5 (by decide) ?_
  refine lv_istore_n (lv' := [(1, .int 0), (0, .ref (ad 100))]) hx hb d_R_weight_6 rfl hl (by decide) rfl (fun ls hl => ?_)
  refine lv_iconst (v := 0) hx hb d_R_weight_7 (by decide) ?_
  refine lv_istore_n (lv' := [(2, .int 0), (1, .int 0), (0, .ref (ad 100))]) hx hb d_R_weight_8 rfl hl (by decide) rfl (fun ls hl => ?_)
  have key : ∀ (d k : Nat) (ls : Array Slot), k + d = E.2.1 → lv_has ls 3 [(2, .int (nI k)), (1, .int (k_wt E S k)), (0, .ref (ad 100))] → W p l e { frames := 0, cells := 0, slots := 0, locals := 0 } s m ([.ref (ad 100)] : List Value).toArray below meth c H locs 0 0 (MQ below (va_Qi (fun r u => r = k_wt E S E.2.1 ∧ kRP cI cZ ad τ L f 0 E S u) (hp_B D kc A) A) ([.ref (ad 100)] : List Value).toArray s 0 0 A) (F0 m 9 ls []) := by
    intro d
    induction d with
    | zero =>
      intro k ls hkd hl
      refine lv_iload_n hx hb d_R_weight_9 rfl (lv_at hl 0 rfl) ?_
      refine lv_aload_n hx hb d_R_weight_10 rfl (lv_at hl 2 rfl) ?_
      refine hp_get (v := .int (nI E.2.1)) hx hb hg in_R hown hK h he rfl 2 (by decide) (hg _ w546) (fun _ z => z) rfl d_R_weight_11 ?_
      refine lv_icmp_ge (tgt := 62) hx hb d_R_weight_14 (by decide) (fun hc => ?_) (fun hc => ?_)
      · skip
        have hkm : k = E.2.1 := by omega
        refine lv_iload_n hx hb d_R_weight_62 rfl (lv_at hl 1 rfl) ?_
        exact hp_iret hx hb hr hlk h ⟨by rw [hkm], hR, hF⟩ (by omega) (by omega) d_R_weight_63
      · skip
        exact absurd (nI_le (by omega) (by omega)) hc
    | succ d ih =>
      intro k ls hkd hl
      refine lv_iload_n hx hb d_R_weight_9 rfl (lv_at hl 0 rfl) ?_
      refine lv_aload_n hx hb d_R_weight_10 rfl (lv_at hl 2 rfl) ?_
      refine hp_get (v := .int (nI E.2.1)) hx hb hg in_R hown hK h he rfl 2 (by decide) (hg _ w546) (fun _ z => z) rfl d_R_weight_11 ?_
      refine lv_icmp_ge (tgt := 62) hx hb d_R_weight_14 (by decide) (fun hc => ?_) (fun hc => ?_)
      · skip
        exact absurd hc (nI_ge (by omega) (by omega))
      · skip
        have hk9 : k < E.2.1 := by omega
        refine lv_aload_n hx hb d_R_weight_17 rfl (lv_at hl 2 rfl) ?_
        refine hp_get (v := .ref (ad 103)) hx hb hg in_R hown hK h he rfl 5 (by decide) (hg _ w549) (fun _ z => z) rfl d_R_weight_18 ?_
        refine lv_iconst (v := 2) hx hb d_R_weight_21 (by decide) ?_
        refine lv_iload_n hx hb d_R_weight_22 rfl (lv_at hl 0 rfl) ?_
        refine lv_imul hx hb d_R_weight_23 ?_
        rw [show (2 : Int32) * nI k = nI (2 * k) from pk_mul 2 k]
        refine hp_iald hx hb hK h 0 hk ht rfl (by omega) (by decide) d_R_weight_24 ?_
        rw [show gk (2 * k) = (S.2.1 (E.2.2.1 k) k) from (hk1 k hk9).1]
        refine lv_iconst (v := 1) hx hb d_R_weight_25 (by decide) ?_
        refine lv_icmp_ne (tgt := 54) hx hb d_R_weight_26 (by decide) (fun hc2 => ?_) (fun hc2 => ?_)
        · skip
          refine lv_iload_n hx hb d_R_weight_54 rfl (lv_at hl 1 rfl) ?_
          refine lv_istore_n (lv' := [(1, .int (k_wt E S k)), (2, .int (nI k)), (0, .ref (ad 100))]) hx hb d_R_weight_55 rfl hl (by decide) rfl (fun ls hl => ?_)
          refine lv_iinc (k := 1) (v := (nI (k + 1))) (lv' := [(2, .int (nI (k + 1))), (1, .int (k_wt E S k)), (0, .ref (ad 100))]) hx hb d_R_weight_56 hl rfl (hp_inc k 1) (by decide) rfl (fun ls hl => ?_)
          refine lv_goto (tgt := 9) hx hb d_R_weight_59 (by decide) ?_
          have hl9 : lv_has ls 3 [(2, .int (nI (k + 1))), (1, .int (k_wt E S (k + 1))), (0, .ref (ad 100))] := by rw [show k_wt E S (k + 1) = k_wt E S k from if_neg (fun z => hc2 z.1)]; exact lv_sub hl [0, 1, 2] rfl
          exact ih (k + 1) ls (by omega) hl9
        · skip
          refine lv_aload_n hx hb d_R_weight_29 rfl (lv_at hl 2 rfl) ?_
          refine hp_get (v := .ref (ad 103)) hx hb hg in_R hown hK h he rfl 5 (by decide) (hg _ w549) (fun _ z => z) rfl d_R_weight_30 ?_
          refine lv_iconst (v := 2) hx hb d_R_weight_33 (by decide) ?_
          refine lv_iload_n hx hb d_R_weight_34 rfl (lv_at hl 0 rfl) ?_
          refine lv_imul hx hb d_R_weight_35 ?_
          rw [show (2 : Int32) * nI k = nI (2 * k) from pk_mul 2 k]
          refine lv_iconst (v := 1) hx hb d_R_weight_36 (by decide) ?_
          refine lv_iadd hx hb d_R_weight_37 ?_
          rw [nI_1]
          refine hp_iald hx hb hK h 0 hk ht rfl (by omega) (by decide) d_R_weight_38 ?_
          rw [show gk (2 * k + 1) = (S.2.1 (E.2.2.2.1 k) k) from (hk1 k hk9).2]
          refine lv_iconst (v := 1) hx hb d_R_weight_39 (by decide) ?_
          refine lv_icmp_ne (tgt := 54) hx hb d_R_weight_40 (by decide) (fun hc3 => ?_) (fun hc3 => ?_)
          · skip
            refine lv_iload_n hx hb d_R_weight_54 rfl (lv_at hl 1 rfl) ?_
            refine lv_istore_n (lv' := [(1, .int (k_wt E S k)), (2, .int (nI k)), (0, .ref (ad 100))]) hx hb d_R_weight_55 rfl hl (by decide) rfl (fun ls hl => ?_)
            refine lv_iinc (k := 1) (v := (nI (k + 1))) (lv' := [(2, .int (nI (k + 1))), (1, .int (k_wt E S k)), (0, .ref (ad 100))]) hx hb d_R_weight_56 hl rfl (hp_inc k 1) (by decide) rfl (fun ls hl => ?_)
            refine lv_goto (tgt := 9) hx hb d_R_weight_59 (by decide) ?_
            have hl9 : lv_has ls 3 [(2, .int (nI (k + 1))), (1, .int (k_wt E S (k + 1))), (0, .ref (ad 100))] := by rw [show k_wt E S (k + 1) = k_wt E S k from if_neg (fun z => hc3 z.2)]; exact lv_sub hl [0, 1, 2] rfl
            exact ih (k + 1) ls (by omega) hl9
          · skip
            refine lv_iload_n hx hb d_R_weight_43 rfl (lv_at hl 1 rfl) ?_
            refine lv_aload_n hx hb d_R_weight_44 rfl (lv_at hl 2 rfl) ?_
            refine hp_get (v := .ref (ad 102)) hx hb hg in_R hown hK h he rfl 4 (by decide) (hg _ w548) (fun _ z => z) rfl d_R_weight_45 ?_
            refine lv_iload_n hx hb d_R_weight_48 rfl (lv_at hl 0 rfl) ?_
            refine hp_iald hx hb hK h 0 hw ht rfl (by omega) (by decide) d_R_weight_49 ?_
            rw [show gw k = E.2.2.2.2 k from hw1 k hk9]
            refine lv_iadd hx hb d_R_weight_50 ?_
            refine lv_goto (tgt := 55) hx hb d_R_weight_51 (by decide) ?_
            refine lv_istore_n (lv' := [(1, .int ((k_wt E S k) + (E.2.2.2.2 k))), (2, .int (nI k)), (0, .ref (ad 100))]) hx hb d_R_weight_55 rfl hl (by decide) rfl (fun ls hl => ?_)
            refine lv_iinc (k := 1) (v := (nI (k + 1))) (lv' := [(2, .int (nI (k + 1))), (1, .int ((k_wt E S k) + (E.2.2.2.2 k))), (0, .ref (ad 100))]) hx hb d_R_weight_56 hl rfl (hp_inc k 1) (by decide) rfl (fun ls hl => ?_)
            refine lv_goto (tgt := 9) hx hb d_R_weight_59 (by decide) ?_
            have hl9 : lv_has ls 3 [(2, .int (nI (k + 1))), (1, .int (k_wt E S (k + 1))), (0, .ref (ad 100))] := by rw [show k_wt E S (k + 1) = k_wt E S k + E.2.2.2.2 k from if_pos ⟨hc2, hc3⟩]; exact lv_sub hl [0, 1, 2] rfl
            exact ih (k + 1) ls (by omega) hl9
  have hl0 : lv_has ls 3 [(2, .int (nI 0)), (1, .int (k_wt E S 0)), (0, .ref (ad 100))] := by rw [nI_0]; exact lv_sub hl [0, 1, 2] rfl
  exact key E.2.1 0 ls (by omega) hl0
