/-! The reference's report, by program (wip/mk43.py). -/
theorem k_col {S : kS} {x k n : Nat} {a : Int32} {g : Nat → Int32} (h : ∀ i, i < n → g i = S.1 i k) : ∀ i, i < n → upd g x a i = (k_fld S x k a).1 i k := by
  intro i hi
  by_cases e : i = x
  · subst e; rw [pk_us, k_fld_self]
  · rw [pk_un e, h i hi]
    show _ = kup S.1 x (upd (S.1 x) k a) i k
    rw [kup_ne _ _ e]
theorem kR.post {cI cZ : ClassId} {ad τ : Nat → Nat} {L : List Nat} {f : Nat → va_E} {code : Int32} {E : kE} {S : kS} {x : Nat} {q : kM} (h : kR cI cZ ad τ L f code E (k_send E S x q)) : kR cI cZ ad τ L f code E (k_post E S x q) := h.ghost rfl rfl rfl rfl
theorem k_ton {E : kE} {x j : Nat} (h : ∀ j, j < E.2.1 → E.2.2.1 j < E.1 ∧ E.2.2.2.1 j < E.1) (hj : j < E.2.1) : k_to E x j < E.1 := by
  unfold k_to
  split
  · exact (h j hj).2
  · exact (h j hj).1
set_option maxHeartbeats 4000000 in
set_option maxRecDepth 100000 in
theorem c_R_report (l : Launch) (D : va_G) (tys : List (ClassId × FieldType)) (de : Nat) (sa : Nat → Nat) {L : List Nat} {f : Nat → va_E} {v : Nat} {ad τ : Nat → Nat} {E : kE} {S : kS} {code : Int32} {cI cZ : ClassId} (ht : tys[0]? = some (cI, .int)) (ht3 : tys[3]? = some (cZ, .boolean)) (hR : kR cI cZ ad τ L f code E S) (hn7 : E.1 ≤ 7) (hm12 : E.2.1 ≤ 12) (hW : kWE E) (hv : v < E.1) (hwn : ∀ j, j < E.2.1 → E.2.2.1 j < E.1 ∧ E.2.2.2.1 j < E.1) (hlen : ∀ i, i < E.1 → (S.2.2.1 i).length < 200) (h7 : S.1 v 7 = -1 ∨ 0 ≤ S.1 v 7) (hwi : S.1 v 3 = 0 → S.1 v 7 = -1 → ∃ j, j < E.2.1 ∧ S.1 v 4 = nI j) : hp_Mv l y_R_report (gw_ws y_R_report b_R_report 2 none) { frames := 2, cells := 0, slots := 0, locals := 53 } D kc tys (s_X de sa) [.ref (ad 100), .int (nI v)] L f (kRP cI cZ ad τ L f code E (k_report E S v)) 0 0 := by
  refine hp_ofW (Qc := fun A => va_Qv (kRP cI cZ ad τ L f code E (k_report E S v)) (hp_B D kc A) A) (fr := fun A => A) (ret := none) (by decide) rfl (Nat.le_of_ble_eq_true rfl) ?_
  intro p e s m below meth c ls A hx hb hml hr hts hown hlk hnm hl hK hX h
  have hg : ∀ w ∈ gw, w.before _ s = true := fun w hw => hts w (List.mem_cons_of_mem _ hw)
  have hown : s.vm.findClass "MergingFragmentsModel" = some m.cls := hown
  have hnm : meth.name = "report" := hnm
  have hl : lv_has ls 2 [(0, .ref (ad 100)), (1, .int (nI v))] := hl
  have hT := hR.2.2.2.2.2.2.2
  have he := hR.1
  obtain ⟨gf0, hf0_, hf01⟩ := hR.2.2.2.2.1 0 (by decide)
  obtain ⟨gf3, hf3_, hf31⟩ := hR.2.2.2.2.1 3 (by decide)
  obtain ⟨gf4, hf4_, hf41⟩ := hR.2.2.2.2.1 4 (by decide)
  obtain ⟨gf6, hf6_, hf61⟩ := hR.2.2.2.2.1 6 (by decide)
  obtain ⟨gf7, hf7_, hf71⟩ := hR.2.2.2.2.1 7 (by decide)
  refine lv_aload_n hx hb d_R_report_0 rfl (lv_at hl 0 rfl) ?_
  refine hp_get (v := .ref (ad 107)) hx hb hg in_R hown hK h he rfl 9 (by decide) (hg _ w553) (fun _ z => z) rfl d_R_report_1 ?_
  refine lv_iload_n hx hb d_R_report_4 rfl (lv_at hl 1 rfl) ?_
  refine hp_iald hx hb hK h 0 hf3_ ht rfl (by omega) (by decide) d_R_report_5 ?_
  rw [show gf3 v = S.1 v 3 from hf31 v hv]
  refine lv_if_ne (tgt := 45) hx hb d_R_report_6 (by decide) (fun hc => ?_) (fun hc => ?_)
  · skip
    exact hp_vret hx hb hr hlk h (by rw [show k_report E S v = S from if_neg (fun z => hc z.1)]; exact ⟨hR, kFq.rf⟩) (by omega) (by omega) d_R_report_45
  · skip
    refine lv_aload_n hx hb d_R_report_9 rfl (lv_at hl 0 rfl) ?_
    refine hp_get (v := .ref (ad 111)) hx hb hg in_R hown hK h he rfl 13 (by decide) (hg _ w557) (fun _ z => z) rfl d_R_report_10 ?_
    refine lv_iload_n hx hb d_R_report_13 rfl (lv_at hl 1 rfl) ?_
    refine hp_iald hx hb hK h 0 hf7_ ht rfl (by omega) (by decide) d_R_report_14 ?_
    rw [show gf7 v = S.1 v 7 from hf71 v hv]
    refine lv_if_ge (tgt := 45) hx hb d_R_report_15 (by decide) (fun hc2 => ?_) (fun hc2 => ?_)
    · skip
      exact hp_vret hx hb hr hlk h (by rw [show k_report E S v = S from if_neg (fun z => by rw [z.2] at hc2; exact absurd hc2 (by decide))]; exact ⟨hR, kFq.rf⟩) (by omega) (by omega) d_R_report_45
    · skip
      have h71 : S.1 v 7 = -1 := h7.resolve_right hc2
      obtain ⟨j, hj, hwj⟩ := hwi hc h71
      refine lv_aload_n hx hb d_R_report_18 rfl (lv_at hl 0 rfl) ?_
      refine hp_get (v := .ref (ad 104)) hx hb hg in_R hown hK h he rfl 6 (by decide) (hg _ w550) (fun _ z => z) rfl d_R_report_19 ?_
      refine lv_iload_n hx hb d_R_report_22 rfl (lv_at hl 1 rfl) ?_
      refine lv_iconst (v := 2) hx hb d_R_report_23 (by decide) ?_
      refine hp_iast hx hb hK h 0 hf0_ ht rfl (by omega) (by decide) d_R_report_24 (fun H locs f1 hf1 h => ?_)
      have he := he.ne' hf1 (kne (hT 100 (by omega) (by omega)) (hT 104 (by omega) (by omega)) (by decide))
      have hf0_ := hf0_.self' hf1
      have hf3_ := hf3_.ne' hf1 (kne (hT 107 (by omega) (by omega)) (hT 104 (by omega) (by omega)) (by decide))
      have hf4_ := hf4_.ne' hf1 (kne (hT 108 (by omega) (by omega)) (hT 104 (by omega) (by omega)) (by decide))
      have hf6_ := hf6_.ne' hf1 (kne (hT 110 (by omega) (by omega)) (hT 104 (by omega) (by omega)) (by decide))
      have hf7_ := hf7_.ne' hf1 (kne (hT 111 (by omega) (by omega)) (hT 104 (by omega) (by omega)) (by decide))
      have hR1 := hR.wF (f1 := f1) (k := 0) (x := v) (a := 2) (by decide) hf1 (k_col hf01)
      have hF1 : kFq τ L f (L, f1) := kFq.w hf1 (hT 104 (by omega) (by omega)) (by omega) (by omega)
      refine lv_aload_n hx hb d_R_report_25 rfl (lv_at hl 0 rfl) ?_
      refine lv_iload_n hx hb d_R_report_26 rfl (lv_at hl 1 rfl) ?_
      refine lv_iconst (v := 5) hx hb d_R_report_27 (by decide) ?_
      refine lv_aload_n hx hb d_R_report_28 rfl (lv_at hl 0 rfl) ?_
      refine hp_get (v := .ref (ad 108)) hx hb hg in_R hown hK h he rfl 10 (by decide) (hg _ w554) (fun _ z => z) rfl d_R_report_29 ?_
      refine lv_iload_n hx hb d_R_report_32 rfl (lv_at hl 1 rfl) ?_
      refine hp_iald hx hb hK h 0 hf4_ ht rfl (by omega) (by decide) d_R_report_33 ?_
      rw [show gf4 v = nI j from (hf41 v hv).trans hwj]
      refine lv_aload_n hx hb d_R_report_34 rfl (lv_at hl 0 rfl) ?_
      refine hp_get (v := .ref (ad 110)) hx hb hg in_R hown hK h he rfl 12 (by decide) (hg _ w556) (fun _ z => z) rfl d_R_report_35 ?_
      refine lv_iload_n hx hb d_R_report_38 rfl (lv_at hl 1 rfl) ?_
      refine hp_iald hx hb hK h 0 hf6_ ht rfl (by omega) (by decide) d_R_report_39 ?_
      rw [show gf6 v = S.1 v 6 from hf61 v hv]
      refine lv_iconst (v := 0) hx hb d_R_report_40 (by decide) ?_
      refine lv_iconst (v := 0) hx hb d_R_report_41 (by decide) ?_
      refine hp_callv (hp_runV (As := [.int (nI v), .int 5, .int (nI j), .int (S.1 v 6), .int 0, .int 0]) (rest := []) ⟨hx, hb, hml, hown, hg⟩ (c_R_send l D tys de sa (v := v) (j := j) ht ht3 hR1 hn7 hm12 (by omega) hj (hW.1 j hj) (by have := (hW.2 j hj).2; omega) rfl (k_ton hwn hj) (hlen _ (k_ton hwn hj))) (cwV 6 hg (gw_V w647 w649 ws30 w7 w650) rfl rfl rfl (by decide +kernel) ⟨Nat.le_of_ble_eq_true rfl, Nat.le_of_ble_eq_true rfl⟩) (s_ok de sa) hK hX h he rfl rfl rfl hl.1 rfl (Nat.le_of_ble_eq_true rfl) d_R_report_42 ⟨Nat.le_of_ble_eq_true rfl, Nat.le_of_ble_eq_true rfl⟩) h (fun L2 f2 H locs hp h => ?_)
      have hS9 : k_report E S v = k_post E (k_fld S v 0 2) v (5, nI j, S.1 v 6, 0, 0) := by
        rw [show k_report E S v = k_post E (k_fld S v 0 2) v (5, (k_fld S v 0 2).1 v 4, (k_fld S v 0 2).1 v 6, 0, 0) from if_pos ⟨hc, h71⟩, k_fld_ne (by decide), k_fld_ne (by decide), hwj]
      exact hp_vret hx hb hr hlk h (by rw [hS9]; exact ⟨kR.post hp.1, hF1.trans hp.2⟩) (by omega) (by omega) d_R_report_45
