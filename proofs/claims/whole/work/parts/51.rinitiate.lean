/-! The reference's initiate, by program (wip/mk51.py). -/
theorem k_fgt_eq {S : kS} {x : Nat} : k_fgt S x = k_fld (k_fld S x 5 (-1)) x 6 100 := by
  unfold k_fgt
  refine congrArg (fun z => (z, S.2)) ?_
  funext i
  by_cases hi : i = x
  · subst hi
    show kup S.1 i _ i = kup (kup S.1 i (upd (S.1 i) 5 (-1))) i (upd (kup S.1 i (upd (S.1 i) 5 (-1)) i) 6 100) i
    rw [kup_self, kup_self, kup_self]
  · show kup S.1 x _ i = kup (kup S.1 x (upd (S.1 x) 5 (-1))) x (upd (kup S.1 x (upd (S.1 x) 5 (-1)) x) 6 100) i
    rw [kup_ne _ _ hi, kup_ne _ _ hi, kup_ne _ _ hi]
theorem k_ini1_mk {E : kE} {S : kS} {x j : Nat} : (k_ini1 E S x j).2.1 = S.2.1 := by
  unfold k_ini1
  split <;> rfl
theorem k_inis_mk {E : kE} {S : kS} {x : Nat} : ∀ k, (k_inis E S x k).2.1 = S.2.1
  | 0 => rfl
  | k + 1 => by
    have ih := k_inis_mk (E := E) (S := S) (x := x) k
    show (if _ then _ else _ : kS).2.1 = _
    split
    · split
      · exact ih
      · exact k_ini1_mk.trans ih
    · exact ih
theorem k_ini0_f {S : kS} {x : Nat} {q : kM} : (k_ini0 S x q).1 x 0 = q.2.2.2.2 ∧ (k_ini0 S x q).1 x 1 = q.2.2.1 ∧ (k_ini0 S x q).1 x 2 = q.2.2.2.1 ∧ (k_ini0 S x q).1 x 4 = q.2.1 := by
  unfold k_ini0
  rw [k_fgt_eq]
  refine ⟨?_, ?_, ?_, ?_⟩
  · rw [k_fld_ne (by decide), k_fld_ne (by decide), k_fld_ne (by decide), k_fld_self]
  · rw [k_fld_ne (by decide), k_fld_ne (by decide), k_fld_ne (by decide), k_fld_ne (by decide), k_fld_ne (by decide), k_fld_self]
  · rw [k_fld_ne (by decide), k_fld_ne (by decide), k_fld_ne (by decide), k_fld_ne (by decide), k_fld_self]
  · rw [k_fld_ne (by decide), k_fld_ne (by decide), k_fld_self]
set_option maxHeartbeats 4000000 in
set_option maxRecDepth 100000 in
theorem c_R_initiate (l : Launch) (D : va_G) (tys : List (ClassId × FieldType)) (de : Nat) (sa : Nat → Nat) {L : List Nat} {f : Nat → va_E} {v j : Nat} {lv fg sx9 : Int32} {ad τ : Nat → Nat} {E : kE} {S : kS} {code : Int32} {cI cZ : ClassId} (ht : tys[0]? = some (cI, .int)) (ht3 : tys[3]? = some (cZ, .boolean)) (hR : kR cI cZ ad τ L f code E S) (hn7 : E.1 ≤ 7) (hm12 : E.2.1 ≤ 12) (hW : kWE E) (hv : v < E.1) (hwn : ∀ j, j < E.2.1 → E.2.2.1 j < E.1 ∧ E.2.2.2.1 j < E.1) (hlen : ∀ i, i < E.1 → (S.2.2.1 i).length + 14 < 200) (hne : ∀ j, j < E.2.1 → E.2.2.1 j ≠ E.2.2.2.1 j) (hj : j < E.2.1) (hendA : ∀ k, k < E.2.1 → S.2.1 v k = 0 ∨ S.2.1 v k = 1 → E.2.2.1 k = v ∨ E.2.2.2.1 k = v) : hp_Mv l y_R_initiate (gw_ws y_R_initiate b_R_initiate 8 none) { frames := 4, cells := 0, slots := 0, locals := 95 } D kc tys (s_X de sa) [.ref (ad 100), .int (nI v), .int (nI j), .int lv, .int fg, .int sx9] L f (kRP cI cZ ad τ L f code E (k_init E S v ((1, nI j, lv, fg, sx9) : kM))) 0 0 := by
  refine hp_ofW (Qc := fun A => va_Qv (kRP cI cZ ad τ L f code E (k_init E S v ((1, nI j, lv, fg, sx9) : kM))) (hp_B D kc A) A) (fr := fun A => A) (ret := none) (by decide) rfl (Nat.le_of_ble_eq_true rfl) ?_
  intro p e s m below meth c ls A hx hb hml hr hts hown hlk hnm hl hK hX h
  have hg : ∀ w ∈ gw, w.before _ s = true := fun w hw => hts w (List.mem_cons_of_mem _ hw)
  have hown : s.vm.findClass "MergingFragmentsModel" = some m.cls := hown
  have hnm : meth.name = "initiate" := hnm
  have hl : lv_has ls 8 [(0, .ref (ad 100)), (1, .int (nI v)), (2, .int (nI j)), (3, .int lv), (4, .int fg), (5, .int sx9)] := hl
  have hT := hR.2.2.2.2.2.2.2
  have hF : kFq τ L f (L, f) := kFq.rf
  have he := hR.1
  obtain ⟨gf1, hf1_, hf11⟩ := hR.2.2.2.2.1 1 (by decide)
  refine lv_aload_n hx hb d_R_initiate_0 rfl (lv_at hl 0 rfl) ?_
  refine hp_get (v := .ref (ad 105)) hx hb hg in_R hown hK h he rfl 7 (by decide) (hg _ w551) (fun _ z => z) rfl d_R_initiate_1 ?_
  refine lv_iload_n hx hb d_R_initiate_4 rfl (lv_at hl 1 rfl) ?_
  refine lv_iload_n hx hb d_R_initiate_5 rfl (lv_at hl 3 rfl) ?_
  refine hp_iast hx hb hK h 0 hf1_ ht rfl (by omega) (by decide) d_R_initiate_6 (fun H locs f1 hf1 h => ?_)
  have he := he.ne' hf1 (kne (hT 100 (by omega) (by omega)) (hT 105 (by omega) (by omega)) (by decide))
  have hf1_ := hf1_.self' hf1
  have hR : kR cI cZ ad τ L f1 code E (k_fld S v 1 lv) := hR.wF (f1 := f1) (k := 1) (x := v) (a := lv) (by decide) hf1 (k_col hf11)
  have hF := hF.trans (kFq.w (L := L) hf1 (hT 105 (by omega) (by omega)) (by omega) (by omega))
  have he := hR.1
  obtain ⟨gf2, hf2_, hf21⟩ := hR.2.2.2.2.1 2 (by decide)
  refine lv_aload_n hx hb d_R_initiate_7 rfl (lv_at hl 0 rfl) ?_
  refine hp_get (v := .ref (ad 106)) hx hb hg in_R hown hK h he rfl 8 (by decide) (hg _ w552) (fun _ z => z) rfl d_R_initiate_8 ?_
  refine lv_iload_n hx hb d_R_initiate_11 rfl (lv_at hl 1 rfl) ?_
  refine lv_iload hx hb d_R_initiate_12 (lv_at hl 4 rfl) ?_
  refine hp_iast hx hb hK h 0 hf2_ ht rfl (by omega) (by decide) d_R_initiate_14 (fun H locs f2 hf2 h => ?_)
  have he := he.ne' hf2 (kne (hT 100 (by omega) (by omega)) (hT 106 (by omega) (by omega)) (by decide))
  have hf2_ := hf2_.self' hf2
  have hR : kR cI cZ ad τ L f2 code E (k_fld (k_fld S v 1 lv) v 2 fg) := hR.wF (f1 := f2) (k := 2) (x := v) (a := fg) (by decide) hf2 (k_col hf21)
  have hF := hF.trans (kFq.w (L := L) hf2 (hT 106 (by omega) (by omega)) (by omega) (by omega))
  have he := hR.1
  obtain ⟨gf0, hf0_, hf01⟩ := hR.2.2.2.2.1 0 (by decide)
  refine lv_aload_n hx hb d_R_initiate_15 rfl (lv_at hl 0 rfl) ?_
  refine hp_get (v := .ref (ad 104)) hx hb hg in_R hown hK h he rfl 6 (by decide) (hg _ w550) (fun _ z => z) rfl d_R_initiate_16 ?_
  refine lv_iload_n hx hb d_R_initiate_19 rfl (lv_at hl 1 rfl) ?_
  refine lv_iload hx hb d_R_initiate_20 (lv_at hl 5 rfl) ?_
  refine hp_iast hx hb hK h 0 hf0_ ht rfl (by omega) (by decide) d_R_initiate_22 (fun H locs f3 hf3 h => ?_)
  have he := he.ne' hf3 (kne (hT 100 (by omega) (by omega)) (hT 104 (by omega) (by omega)) (by decide))
  have hf0_ := hf0_.self' hf3
  have hR : kR cI cZ ad τ L f3 code E (k_fld (k_fld (k_fld S v 1 lv) v 2 fg) v 0 sx9) := hR.wF (f1 := f3) (k := 0) (x := v) (a := sx9) (by decide) hf3 (k_col hf01)
  have hF := hF.trans (kFq.w (L := L) hf3 (hT 104 (by omega) (by omega)) (by omega) (by omega))
  have he := hR.1
  obtain ⟨gf4, hf4_, hf41⟩ := hR.2.2.2.2.1 4 (by decide)
  refine lv_aload_n hx hb d_R_initiate_23 rfl (lv_at hl 0 rfl) ?_
  refine hp_get (v := .ref (ad 108)) hx hb hg in_R hown hK h he rfl 10 (by decide) (hg _ w554) (fun _ z => z) rfl d_R_initiate_24 ?_
  refine lv_iload_n hx hb d_R_initiate_27 rfl (lv_at hl 1 rfl) ?_
  refine lv_iload_n hx hb d_R_initiate_28 rfl (lv_at hl 2 rfl) ?_
  refine hp_iast hx hb hK h 0 hf4_ ht rfl (by omega) (by decide) d_R_initiate_29 (fun H locs f4 hf4 h => ?_)
  have he := he.ne' hf4 (kne (hT 100 (by omega) (by omega)) (hT 108 (by omega) (by omega)) (by decide))
  have hf4_ := hf4_.self' hf4
  have hR : kR cI cZ ad τ L f4 code E (k_fld (k_fld (k_fld (k_fld S v 1 lv) v 2 fg) v 0 sx9) v 4 (nI j)) := hR.wF (f1 := f4) (k := 4) (x := v) (a := (nI j)) (by decide) hf4 (k_col hf41)
  have hF := hF.trans (kFq.w (L := L) hf4 (hT 108 (by omega) (by omega)) (by omega) (by omega))
  have he := hR.1
  obtain ⟨gf5, hf5_, hf51⟩ := hR.2.2.2.2.1 5 (by decide)
  refine lv_aload_n hx hb d_R_initiate_30 rfl (lv_at hl 0 rfl) ?_
  refine hp_get (v := .ref (ad 109)) hx hb hg in_R hown hK h he rfl 11 (by decide) (hg _ w555) (fun _ z => z) rfl d_R_initiate_31 ?_
  refine lv_iload_n hx hb d_R_initiate_34 rfl (lv_at hl 1 rfl) ?_
  refine lv_iconst (v := (-1)) hx hb d_R_initiate_35 (by decide) ?_
  refine hp_iast hx hb hK h 0 hf5_ ht rfl (by omega) (by decide) d_R_initiate_36 (fun H locs f5 hf5 h => ?_)
  have he := he.ne' hf5 (kne (hT 100 (by omega) (by omega)) (hT 109 (by omega) (by omega)) (by decide))
  have hf5_ := hf5_.self' hf5
  have hR : kR cI cZ ad τ L f5 code E (k_fld (k_fld (k_fld (k_fld (k_fld S v 1 lv) v 2 fg) v 0 sx9) v 4 (nI j)) v 5 (-1)) := hR.wF (f1 := f5) (k := 5) (x := v) (a := (-1)) (by decide) hf5 (k_col hf51)
  have hF := hF.trans (kFq.w (L := L) hf5 (hT 109 (by omega) (by omega)) (by omega) (by omega))
  have he := hR.1
  obtain ⟨gf6, hf6_, hf61⟩ := hR.2.2.2.2.1 6 (by decide)
  refine lv_aload_n hx hb d_R_initiate_37 rfl (lv_at hl 0 rfl) ?_
  refine hp_get (v := .ref (ad 110)) hx hb hg in_R hown hK h he rfl 12 (by decide) (hg _ w556) (fun _ z => z) rfl d_R_initiate_38 ?_
  refine lv_iload_n hx hb d_R_initiate_41 rfl (lv_at hl 1 rfl) ?_
  refine lv_bipush (v := 100) hx hb d_R_initiate_42 (by decide) ?_
  refine hp_iast hx hb hK h 0 hf6_ ht rfl (by omega) (by decide) d_R_initiate_44 (fun H locs f6 hf6 h => ?_)
  have he := he.ne' hf6 (kne (hT 100 (by omega) (by omega)) (hT 110 (by omega) (by omega)) (by decide))
  have hf6_ := hf6_.self' hf6
  have hR : kR cI cZ ad τ L f6 code E (k_fld (k_fld (k_fld (k_fld (k_fld (k_fld S v 1 lv) v 2 fg) v 0 sx9) v 4 (nI j)) v 5 (-1)) v 6 100) := hR.wF (f1 := f6) (k := 6) (x := v) (a := 100) (by decide) hf6 (k_col hf61)
  have hF := hF.trans (kFq.w (L := L) hf6 (hT 110 (by omega) (by omega)) (by omega) (by omega))
  have hR : kR cI cZ ad τ L f6 code E (k_ini0 S v ((1, nI j, lv, fg, sx9) : kM)) := by unfold k_ini0; rw [k_fgt_eq]; exact hR
  refine lv_iconst (v := 0) hx hb d_R_initiate_45 (by decide) ?_
  refine lv_istore (lv' := [(6, .int 0), (0, .ref (ad 100)), (1, .int (nI v)), (2, .int (nI j)), (3, .int lv), (4, .int fg), (5, .int sx9)]) hx hb d_R_initiate_46 hl (by decide) rfl (fun ls hl => ?_)
  have key : ∀ (d k : Nat) (T : kS) (fk : Nat → va_E) (H : Heap) (locs : List Loc) (ls : Array Slot), k + d = E.2.1 → T = k_inis E (k_ini0 S v ((1, nI j, lv, fg, sx9) : kM)) v k → kR cI cZ ad τ L fk code E T → kFq τ L f (L, fk) → (∀ i, i < E.1 → (T.2.2.1 i).length + 14 < 200 + k) → lv_has ls 8 [(6, .int (nI k)), (0, .ref (ad 100)), (1, .int (nI v)), (2, .int (nI j)), (3, .int lv), (4, .int fg), (5, .int sx9)] → hp_W D kc A s.heap L fk H locs → W p l e { frames := 4, cells := 0, slots := 0, locals := 95 } s m ([.ref (ad 100), .int (nI v), .int (nI j), .int lv, .int fg, .int sx9] : List Value).toArray below meth c H locs 0 0 (MQ below (va_Qv (kRP cI cZ ad τ L f code E (k_init E S v ((1, nI j, lv, fg, sx9) : kM))) (hp_B D kc A) A) ([.ref (ad 100), .int (nI v), .int (nI j), .int lv, .int fg, .int sx9] : List Value).toArray s 0 0 A) (F0 m 48 ls []) := by
    intro d
    induction d with
    | zero =>
      intro k T fk H locs ls hkd hTk hR hF hlenk hl h
      have q0 : T.1 v 0 = sx9 := by rw [hTk, k_inis_fld (by decide)]; exact k_ini0_f.1
      have q1 : T.1 v 1 = lv := by rw [hTk, k_inis_fld (by decide)]; exact k_ini0_f.2.1
      have q2 : T.1 v 2 = fg := by rw [hTk, k_inis_fld (by decide)]; exact k_ini0_f.2.2.1
      have q4 : T.1 v 4 = nI j := by rw [hTk, k_inis_fld (by decide)]; exact k_ini0_f.2.2.2
      have qm : T.2.1 = S.2.1 := by rw [hTk, k_inis_mk]; rfl
      have he := hR.1
      obtain ⟨gk, hk, hk1⟩ := hR.2.2.2.1
      obtain ⟨gf3, hf3_, hf31⟩ := hR.2.2.2.2.1 3 (by decide)
      refine lv_iload hx hb d_R_initiate_48 (lv_at hl 0 rfl) ?_
      refine lv_aload_n hx hb d_R_initiate_50 rfl (lv_at hl 1 rfl) ?_
      refine hp_get (v := .int (nI E.2.1)) hx hb hg in_R hown hK h he rfl 2 (by decide) (hg _ w546) (fun _ z => z) rfl d_R_initiate_51 ?_
      refine lv_icmp_ge (tgt := 123) hx hb d_R_initiate_54 (by decide) (fun hc => ?_) (fun hc => ?_)
      · skip
        have hkm : k = E.2.1 := by omega
        rw [hkm] at hTk
        refine lv_iload hx hb d_R_initiate_123 (lv_at hl 6 rfl) ?_
        refine lv_iconst (v := 1) hx hb d_R_initiate_125 (by decide) ?_
        refine lv_icmp_ne (tgt := 134) hx hb d_R_initiate_126 (by decide) (fun hc2 => ?_) (fun hc2 => ?_)
        · skip
          exact hp_vret hx hb hr hlk h (by rw [show k_init E S v ((1, nI j, lv, fg, sx9) : kM) = T from (by unfold k_init; rw [← hTk]; exact if_neg (by rw [q0]; exact hc2))]; exact ⟨hR, hF⟩) (by omega) (by omega) d_R_initiate_134
        · skip
          refine lv_aload_n hx hb d_R_initiate_129 rfl (lv_at hl 1 rfl) ?_
          refine lv_iload_n hx hb d_R_initiate_130 rfl (lv_at hl 2 rfl) ?_
          refine hp_callv (hp_runV (As := [.int (nI v)]) (rest := []) ⟨hx, hb, hml, hown, hg⟩ (c_R_test l D tys de sa (v := v) ht ht3 hR hn7 hm12 hW hv hwn (fun i hi => by have := hlenk i hi; omega) (fun k hk hz => hendA k hk (Or.inl (by rw [← qm]; exact hz))) (fun _ _ => ⟨j, hj, q4⟩)) (cwV 1 hg (gw_V w675 w677 ws36 w7 w678) rfl rfl rfl (by decide +kernel) ⟨Nat.le_of_ble_eq_true rfl, Nat.le_of_ble_eq_true rfl⟩) (s_ok de sa) hK hX h he rfl rfl rfl hl.1 rfl (Nat.le_of_ble_eq_true rfl) d_R_initiate_131 ⟨Nat.le_of_ble_eq_true rfl, Nat.le_of_ble_eq_true rfl⟩) h (fun L2 f2 H locs hp h => ?_)
          exact hp_vret hx hb hr hlk h (by rw [show k_init E S v ((1, nI j, lv, fg, sx9) : kM) = k_test E T v from (by unfold k_init; rw [← hTk]; exact if_pos (by rw [q0]; exact hc2))]; exact ⟨hp.1, hF.trans hp.2⟩) (by omega) (by omega) d_R_initiate_134
      · skip
        exact absurd (nI_le (by omega) (by omega)) hc
    | succ d ih =>
      intro k T fk H locs ls hkd hTk hR hF hlenk hl h
      have q0 : T.1 v 0 = sx9 := by rw [hTk, k_inis_fld (by decide)]; exact k_ini0_f.1
      have q1 : T.1 v 1 = lv := by rw [hTk, k_inis_fld (by decide)]; exact k_ini0_f.2.1
      have q2 : T.1 v 2 = fg := by rw [hTk, k_inis_fld (by decide)]; exact k_ini0_f.2.2.1
      have q4 : T.1 v 4 = nI j := by rw [hTk, k_inis_fld (by decide)]; exact k_ini0_f.2.2.2
      have qm : T.2.1 = S.2.1 := by rw [hTk, k_inis_mk]; rfl
      have he := hR.1
      obtain ⟨gk, hk, hk1⟩ := hR.2.2.2.1
      obtain ⟨gf3, hf3_, hf31⟩ := hR.2.2.2.2.1 3 (by decide)
      refine lv_iload hx hb d_R_initiate_48 (lv_at hl 0 rfl) ?_
      refine lv_aload_n hx hb d_R_initiate_50 rfl (lv_at hl 1 rfl) ?_
      refine hp_get (v := .int (nI E.2.1)) hx hb hg in_R hown hK h he rfl 2 (by decide) (hg _ w546) (fun _ z => z) rfl d_R_initiate_51 ?_
      refine lv_icmp_ge (tgt := 123) hx hb d_R_initiate_54 (by decide) (fun hc => ?_) (fun hc => ?_)
      · skip
        exact absurd hc (nI_ge (by omega) (by omega))
      · skip
        have hk9 : k < E.2.1 := by omega
        have hee := hW.2 k hk9
        refine lv_aload_n hx hb d_R_initiate_57 rfl (lv_at hl 1 rfl) ?_
        refine lv_iload_n hx hb d_R_initiate_58 rfl (lv_at hl 2 rfl) ?_
        refine lv_iload hx hb d_R_initiate_59 (lv_at hl 0 rfl) ?_
        refine hp_callR (hp_runV (As := [.int (nI v), .int (nI k)]) (rest := []) ⟨hx, hb, hml, hown, hg⟩ (c_R_endOf l D tys de sa (v := v) (j := k) ht ht3 hR hn7 hm12 (by omega) hk9 (by omega) (by omega)) (cwV 2 hg (gw_V w643 w645 ws29 w7 w646) rfl rfl rfl (by decide +kernel) ⟨Nat.le_of_ble_eq_true rfl, Nat.le_of_ble_eq_true rfl⟩) (s_ok de sa) hK hX h he rfl rfl rfl hl.1 rfl (Nat.le_of_ble_eq_true rfl) d_R_initiate_61 ⟨Nat.le_of_ble_eq_true rfl, Nat.le_of_ble_eq_true rfl⟩) (fun r1 hp => ?_)
        by_cases hen : E.2.2.1 k = v ∨ E.2.2.2.1 k = v
        · skip
          obtain ⟨at9, hat⟩ : ∃ at9, (E.2.2.1 k = v ∧ at9 = 2 * k) ∨ (E.2.2.2.1 k = v ∧ at9 = 2 * k + 1) := by rcases hen with z | z; exact ⟨_, Or.inl ⟨z, rfl⟩⟩; exact ⟨_, Or.inr ⟨z, rfl⟩⟩
          have ha24 : at9 < 24 := by omega
          have heo : k_eo E v k = nI at9 := by unfold k_eo; rcases hat with ⟨z1, z2⟩ | ⟨z1, z2⟩; rw [if_pos z1, z2]; rw [if_neg (by rw [← z1]; exact hne k hk9), if_pos z1, z2]
          have hgk : gk at9 = T.2.1 v k := by rcases hat with ⟨z1, z2⟩ | ⟨z1, z2⟩; rw [z2, (hk1 k hk9).1, ← z1]; rw [z2, (hk1 k hk9).2, ← z1]
          rw [heo] at hp
          subst hp
          refine lv_istore (lv' := [(7, .int (nI at9)), (6, .int (nI k)), (0, .ref (ad 100)), (1, .int (nI v)), (2, .int (nI j)), (3, .int lv), (4, .int fg), (5, .int sx9)]) hx hb d_R_initiate_64 hl (by decide) rfl (fun ls hl => ?_)
          refine lv_iload hx hb d_R_initiate_66 (lv_at hl 1 rfl) ?_
          refine lv_iload_n hx hb d_R_initiate_68 rfl (lv_at hl 4 rfl) ?_
          refine lv_icmp_eq (tgt := 117) hx hb d_R_initiate_69 (by decide) (fun hc2 => ?_) (fun hc2 => ?_)
          · skip
            by_cases hz1 : T.2.1 v k = 1
            · skip
              refine lv_iinc (k := 1) (v := (nI (k + 1))) (lv' := [(6, .int (nI (k + 1))), (7, .int (nI at9)), (0, .ref (ad 100)), (1, .int (nI v)), (2, .int (nI j)), (3, .int lv), (4, .int fg), (5, .int sx9)]) hx hb d_R_initiate_117 hl rfl (hp_inc k 1) (by decide) rfl (fun ls hl => ?_)
              refine lv_goto (tgt := 48) hx hb d_R_initiate_120 (by decide) ?_
              exact ih (k + 1) T fk H locs ls (by omega) (k_inis1 hTk hz1 (hc2.trans q4.symm)) hR hF (fun i hi => by have := hlenk i hi; omega) (lv_sub hl [0, 2, 3, 4, 5, 6, 7] rfl) h
            · skip
              refine lv_iinc (k := 1) (v := (nI (k + 1))) (lv' := [(6, .int (nI (k + 1))), (7, .int (nI at9)), (0, .ref (ad 100)), (1, .int (nI v)), (2, .int (nI j)), (3, .int lv), (4, .int fg), (5, .int sx9)]) hx hb d_R_initiate_117 hl rfl (hp_inc k 1) (by decide) rfl (fun ls hl => ?_)
              refine lv_goto (tgt := 48) hx hb d_R_initiate_120 (by decide) ?_
              exact ih (k + 1) T fk H locs ls (by omega) (k_inis0 hTk hz1) hR hF (fun i hi => by have := hlenk i hi; omega) (lv_sub hl [0, 2, 3, 4, 5, 6, 7] rfl) h
          · skip
            refine lv_iload hx hb d_R_initiate_72 (lv_at hl 0 rfl) ?_
            refine lv_if_lt (tgt := 117) hx hb d_R_initiate_74 (by decide) (fun hc3 => ?_) (fun hc3 => ?_)
            · skip
              exact absurd hc3 (nI_pos (by omega))
            · skip
              refine lv_aload_n hx hb d_R_initiate_77 rfl (lv_at hl 2 rfl) ?_
              refine hp_get (v := .ref (ad 103)) hx hb hg in_R hown hK h he rfl 5 (by decide) (hg _ w549) (fun _ z => z) rfl d_R_initiate_78 ?_
              refine lv_iload hx hb d_R_initiate_81 (lv_at hl 0 rfl) ?_
              refine hp_iald hx hb hK h 0 hk ht rfl (by omega) (by decide) d_R_initiate_83 ?_
              rw [hgk]
              refine lv_iconst (v := 1) hx hb d_R_initiate_84 (by decide) ?_
              refine lv_icmp_ne (tgt := 117) hx hb d_R_initiate_85 (by decide) (fun hc4 => ?_) (fun hc4 => ?_)
              · skip
                refine lv_iinc (k := 1) (v := (nI (k + 1))) (lv' := [(6, .int (nI (k + 1))), (7, .int (nI at9)), (0, .ref (ad 100)), (1, .int (nI v)), (2, .int (nI j)), (3, .int lv), (4, .int fg), (5, .int sx9)]) hx hb d_R_initiate_117 hl rfl (hp_inc k 1) (by decide) rfl (fun ls hl => ?_)
                refine lv_goto (tgt := 48) hx hb d_R_initiate_120 (by decide) ?_
                exact ih (k + 1) T fk H locs ls (by omega) (k_inis0 hTk hc4) hR hF (fun i hi => by have := hlenk i hi; omega) (lv_sub hl [0, 2, 3, 4, 5, 6, 7] rfl) h
              · skip
                have hk8 := k_inis2 hTk hc4 (fun z => hc2 (z.trans q4))
                refine lv_aload_n hx hb d_R_initiate_88 rfl (lv_at hl 2 rfl) ?_
                refine lv_iload_n hx hb d_R_initiate_89 rfl (lv_at hl 3 rfl) ?_
                refine lv_iconst (v := 1) hx hb d_R_initiate_90 (by decide) ?_
                refine lv_iload hx hb d_R_initiate_91 (lv_at hl 1 rfl) ?_
                refine lv_iload_n hx hb d_R_initiate_93 rfl (lv_at hl 5 rfl) ?_
                refine lv_iload hx hb d_R_initiate_94 (lv_at hl 6 rfl) ?_
                refine lv_iload hx hb d_R_initiate_96 (lv_at hl 7 rfl) ?_
                refine hp_callv (hp_runV (As := [.int (nI v), .int 1, .int (nI k), .int lv, .int fg, .int sx9]) (rest := []) ⟨hx, hb, hml, hown, hg⟩ (c_R_send l D tys de sa (v := v) (j := k) ht ht3 hR hn7 hm12 (by omega) hk9 (hW.1 k hk9) (by omega) rfl (k_ton hwn hk9) (by have := hlenk _ (k_ton (x := v) hwn hk9); omega)) (cwV 6 hg (gw_V w647 w649 ws30 w7 w650) rfl rfl rfl (by decide +kernel) ⟨Nat.le_of_ble_eq_true rfl, Nat.le_of_ble_eq_true rfl⟩) (s_ok de sa) hK hX h he rfl rfl rfl hl.1 rfl (Nat.le_of_ble_eq_true rfl) d_R_initiate_98 ⟨Nat.le_of_ble_eq_true rfl, Nat.le_of_ble_eq_true rfl⟩) h (fun L2 f2 H locs hp h => ?_)
                obtain ⟨hR, hF1⟩ := hp
                have hL2 := hF1.1
                dsimp only at hR hL2
                have hL2 := hL2.symm
                subst hL2
                have hF := hF.trans hF1
                have he := hR.1
                obtain ⟨gf3, hf3_, hf31⟩ := hR.2.2.2.2.1 3 (by decide)
                have hR : kR cI cZ ad τ L f2 code E (k_post E T v (1, nI k, T.1 v 1, T.1 v 2, T.1 v 0)) := by rw [q0, q1, q2]; exact kR.post hR
                refine lv_iload hx hb d_R_initiate_101 (lv_at hl 7 rfl) ?_
                refine lv_iconst (v := 1) hx hb d_R_initiate_103 (by decide) ?_
                refine lv_icmp_ne (tgt := 117) hx hb d_R_initiate_104 (by decide) (fun hc5 => ?_) (fun hc5 => ?_)
                · skip
                  refine lv_iinc (k := 1) (v := (nI (k + 1))) (lv' := [(6, .int (nI (k + 1))), (7, .int (nI at9)), (0, .ref (ad 100)), (1, .int (nI v)), (2, .int (nI j)), (3, .int lv), (4, .int fg), (5, .int sx9)]) hx hb d_R_initiate_117 hl rfl (hp_inc k 1) (by decide) rfl (fun ls hl => ?_)
                  refine lv_goto (tgt := 48) hx hb d_R_initiate_120 (by decide) ?_
                  have hi9 : k_ini1 E T v k = (k_post E T v (1, nI k, T.1 v 1, T.1 v 2, T.1 v 0)) := if_neg (show ¬ T.1 v 0 = 1 from by rw [q0]; exact hc5)
                  exact ih (k + 1) (k_ini1 E T v k) f2 H locs ls (by omega) hk8 (by rw [hi9]; exact hR) hF (fun i hi => by have z1 := hlenk i hi; have z2 := k_ini1_len (E := E) (S := T) (x := v) (j := k) i; omega) (lv_sub hl [0, 2, 3, 4, 5, 6, 7] rfl) h
                · skip
                  refine lv_aload_n hx hb d_R_initiate_107 rfl (lv_at hl 2 rfl) ?_
                  refine hp_get (v := .ref (ad 107)) hx hb hg in_R hown hK h he rfl 9 (by decide) (hg _ w553) (fun _ z => z) rfl d_R_initiate_108 ?_
                  refine lv_iload_n hx hb d_R_initiate_111 rfl (lv_at hl 3 rfl) ?_
                  refine lv_dup2_11 hx hb d_R_initiate_112 rfl rfl ?_
                  refine hp_iald hx hb hK h 0 hf3_ ht rfl (by omega) (by decide) d_R_initiate_113 ?_
                  rw [show gf3 v = (k_post E T v (1, nI k, T.1 v 1, T.1 v 2, T.1 v 0)).1 v 3 from hf31 v hv]
                  refine lv_iconst (v := 1) hx hb d_R_initiate_114 (by decide) ?_
                  refine lv_iadd hx hb d_R_initiate_115 ?_
                  refine hp_iast hx hb hK h 0 hf3_ ht rfl (by omega) (by decide) d_R_initiate_116 (fun H locs f22 hf22 h => ?_)
                  have he := he.ne' hf22 (kne (hT 100 (by omega) (by omega)) (hT 107 (by omega) (by omega)) (by decide))
                  have hf3_ := hf3_.self' hf22
                  have hi9 : k_ini1 E T v k = k_fld (k_post E T v (1, nI k, T.1 v 1, T.1 v 2, T.1 v 0)) v 3 ((k_post E T v (1, nI k, T.1 v 1, T.1 v 2, T.1 v 0)).1 v 3 + 1) := if_pos (show T.1 v 0 = 1 from by rw [q0]; exact hc5)
                  have hR := hR.wF (f1 := f22) (k := 3) (x := v) (a := (k_post E T v (1, nI k, T.1 v 1, T.1 v 2, T.1 v 0)).1 v 3 + 1) (by decide) hf22 (k_col hf31)
                  have hF := hF.trans (kFq.w (L := L) hf22 (hT 107 (by omega) (by omega)) (by omega) (by omega))
                  refine lv_iinc (k := 1) (v := (nI (k + 1))) (lv' := [(6, .int (nI (k + 1))), (7, .int (nI at9)), (0, .ref (ad 100)), (1, .int (nI v)), (2, .int (nI j)), (3, .int lv), (4, .int fg), (5, .int sx9)]) hx hb d_R_initiate_117 hl rfl (hp_inc k 1) (by decide) rfl (fun ls hl => ?_)
                  refine lv_goto (tgt := 48) hx hb d_R_initiate_120 (by decide) ?_
                  exact ih (k + 1) (k_ini1 E T v k) f22 H locs ls (by omega) hk8 (by rw [hi9]; exact hR) hF (fun i hi => by have z1 := hlenk i hi; have z2 := k_ini1_len (E := E) (S := T) (x := v) (j := k) i; omega) (lv_sub hl [0, 2, 3, 4, 5, 6, 7] rfl) h
        · skip
          have heo : k_eo E v k = -1 := (if_neg (fun z => hen (Or.inl z))).trans (if_neg (fun z => hen (Or.inr z)))
          rw [heo] at hp
          subst hp
          have hn1 : ¬ T.2.1 v k = 1 := fun z => hen (hendA k hk9 (Or.inr (by rw [← qm]; exact z)))
          refine lv_istore (lv' := [(7, .int (-1)), (6, .int (nI k)), (0, .ref (ad 100)), (1, .int (nI v)), (2, .int (nI j)), (3, .int lv), (4, .int fg), (5, .int sx9)]) hx hb d_R_initiate_64 hl (by decide) rfl (fun ls hl => ?_)
          refine lv_iload hx hb d_R_initiate_66 (lv_at hl 1 rfl) ?_
          refine lv_iload_n hx hb d_R_initiate_68 rfl (lv_at hl 4 rfl) ?_
          refine lv_icmp_eq (tgt := 117) hx hb d_R_initiate_69 (by decide) (fun hc2 => ?_) (fun hc2 => ?_)
          · skip
            refine lv_iinc (k := 1) (v := (nI (k + 1))) (lv' := [(6, .int (nI (k + 1))), (7, .int (-1)), (0, .ref (ad 100)), (1, .int (nI v)), (2, .int (nI j)), (3, .int lv), (4, .int fg), (5, .int sx9)]) hx hb d_R_initiate_117 hl rfl (hp_inc k 1) (by decide) rfl (fun ls hl => ?_)
            refine lv_goto (tgt := 48) hx hb d_R_initiate_120 (by decide) ?_
            exact ih (k + 1) T fk H locs ls (by omega) (k_inis0 hTk hn1) hR hF (fun i hi => by have := hlenk i hi; omega) (lv_sub hl [0, 2, 3, 4, 5, 6, 7] rfl) h
          · skip
            refine lv_iload hx hb d_R_initiate_72 (lv_at hl 0 rfl) ?_
            refine lv_if_lt (tgt := 117) hx hb d_R_initiate_74 (by decide) (fun hc3 => ?_) (fun hc3 => ?_)
            · skip
              refine lv_iinc (k := 1) (v := (nI (k + 1))) (lv' := [(6, .int (nI (k + 1))), (7, .int (-1)), (0, .ref (ad 100)), (1, .int (nI v)), (2, .int (nI j)), (3, .int lv), (4, .int fg), (5, .int sx9)]) hx hb d_R_initiate_117 hl rfl (hp_inc k 1) (by decide) rfl (fun ls hl => ?_)
              refine lv_goto (tgt := 48) hx hb d_R_initiate_120 (by decide) ?_
              exact ih (k + 1) T fk H locs ls (by omega) (k_inis0 hTk hn1) hR hF (fun i hi => by have := hlenk i hi; omega) (lv_sub hl [0, 2, 3, 4, 5, 6, 7] rfl) h
            · skip
              exact absurd (by decide) hc3
  have hl0 : lv_has ls 8 [(6, .int (nI 0)), (0, .ref (ad 100)), (1, .int (nI v)), (2, .int (nI j)), (3, .int lv), (4, .int fg), (5, .int sx9)] := by rw [nI_0]; exact lv_sub hl [0, 1, 2, 3, 4, 5, 6] rfl
  exact key E.2.1 0 (k_ini0 S v ((1, nI j, lv, fg, sx9) : kM)) _ _ _ ls (by omega) rfl hR hF hlen hl0 h

