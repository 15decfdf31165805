/-! The reference's offer and reject, by program (wip/mk45.py). -/
/-- a mark of v's end of j is written -/
theorem k_mkw {m : Nat} {e1 e2 : Nat → Nat} {mk : Nat → Nat → Int32} {gk : Nat → Int32} {v j at9 : Nat} {a : Int32} (h : ∀ j, j < m → gk (2 * j) = mk (e1 j) j ∧ gk (2 * j + 1) = mk (e2 j) j) (hne : ∀ j, j < m → e1 j ≠ e2 j) (hj : j < m) (hat : (e1 j = v ∧ at9 = 2 * j) ∨ (e2 j = v ∧ at9 = 2 * j + 1)) :
    ∀ i, i < m → upd gk at9 a (2 * i) = kup mk v (upd (mk v) j a) (e1 i) i ∧ upd gk at9 a (2 * i + 1) = kup mk v (upd (mk v) j a) (e2 i) i := by
  intro i hi
  have hn := hne j hj
  have hg := h i hi
  by_cases hij : i = j
  · subst hij
    rcases hat with ⟨z1, z2⟩ | ⟨z1, z2⟩
    · rw [z2, z1, pk_us, kup_self, pk_us, pk_un (by omega), kup_ne _ _ (by rw [← z1]; exact fun w => hn w.symm)]
      exact ⟨rfl, hg.2⟩
    · rw [z2, z1, pk_us, kup_self, pk_us, pk_un (by omega), kup_ne _ _ (by rw [← z1]; exact hn)]
      exact ⟨hg.1, rfl⟩
  · have n1 : 2 * i ≠ at9 := by omega
    have n2 : 2 * i + 1 ≠ at9 := by omega
    rw [pk_un n1, pk_un n2, hg.1, hg.2]
    refine ⟨?_, ?_⟩
    · by_cases w : e1 i = v
      · rw [w, kup_self, pk_un hij]
      · rw [kup_ne _ _ w]
    · by_cases w : e2 i = v
      · rw [w, kup_self, pk_un hij]
      · rw [kup_ne _ _ w]
theorem k_best1 {S : kS} {x : Nat} {e w : Int32} (h : w < S.1 x 6) : k_best S x e w = k_fld (k_fld S x 5 e) x 6 w := by
  unfold k_best
  rw [if_pos h]
  refine congrArg (fun z => (z, S.2)) ?_
  funext i
  by_cases hi : i = x
  · subst hi
    show kup S.1 i _ i = kup (kup S.1 i (upd (S.1 i) 5 e)) i (upd (kup S.1 i (upd (S.1 i) 5 e) i) 6 w) i
    rw [kup_self, kup_self, kup_self]
  · show kup S.1 x _ i = kup (kup S.1 x (upd (S.1 x) 5 e)) x (upd (kup S.1 x (upd (S.1 x) 5 e) x) 6 w) i
    rw [kup_ne _ _ hi, kup_ne _ _ hi, kup_ne _ _ hi]
theorem k_best0 {S : kS} {x : Nat} {e w : Int32} (h : ¬ w < S.1 x 6) : k_best S x e w = S := by
  unfold k_best
  rw [if_neg h]
  refine congrArg (fun z => (z, S.2)) ?_
  funext i
  by_cases hi : i = x
  · subst hi; rw [kup_self]
  · rw [kup_ne _ _ hi]
set_option maxHeartbeats 4000000 in
set_option maxRecDepth 100000 in
theorem c_R_offer (l : Launch) (D : va_G) (tys : List (ClassId × FieldType)) (de : Nat) (sa : Nat → Nat) {L : List Nat} {f : Nat → va_E} {v : Nat} {e9 w : Int32} {ad τ : Nat → Nat} {E : kE} {S : kS} {code : Int32} {cI cZ : ClassId} (ht : tys[0]? = some (cI, .int)) (ht3 : tys[3]? = some (cZ, .boolean)) (hR : kR cI cZ ad τ L f code E S) (hn7 : E.1 ≤ 7) (hm12 : E.2.1 ≤ 12) (hv : v < E.1) : hp_Mv l y_R_offer (gw_ws y_R_offer b_R_offer 4 none) { frames := 0, cells := 0, slots := 0, locals := 0 } D kc tys (s_X de sa) [.ref (ad 100), .int (nI v), .int e9, .int w] L f (kRP cI cZ ad τ L f code E (k_best S v e9 w)) 0 0 := by
  refine hp_ofW (Qc := fun A => va_Qv (kRP cI cZ ad τ L f code E (k_best S v e9 w)) (hp_B D kc A) A) (fr := fun A => A) (ret := none) (by decide) rfl (Nat.le_of_ble_eq_true rfl) ?_
  intro p e s m below meth c ls A hx hb hml hr hts hown hlk hnm hl hK hX h
  have hg : ∀ w ∈ gw, w.before _ s = true := fun w hw => hts w (List.mem_cons_of_mem _ hw)
  have hown : s.vm.findClass "MergingFragmentsModel" = some m.cls := hown
  have hnm : meth.name = "offer" := hnm
  have hl : lv_has ls 4 [(0, .ref (ad 100)), (1, .int (nI v)), (2, .int e9), (3, .int w)] := hl
  have hT := hR.2.2.2.2.2.2.2
  have he := hR.1
  obtain ⟨gf5, hf5_, hf51⟩ := hR.2.2.2.2.1 5 (by decide)
  obtain ⟨gf6, hf6_, hf61⟩ := hR.2.2.2.2.1 6 (by decide)
  refine lv_iload_n hx hb d_R_offer_0 rfl (lv_at hl 3 rfl) ?_
  refine lv_aload_n hx hb d_R_offer_1 rfl (lv_at hl 0 rfl) ?_
  refine hp_get (v := .ref (ad 110)) hx hb hg in_R hown hK h he rfl 12 (by decide) (hg _ w556) (fun _ z => z) rfl d_R_offer_2 ?_
  refine lv_iload_n hx hb d_R_offer_5 rfl (lv_at hl 1 rfl) ?_
  refine hp_iald hx hb hK h 0 hf6_ ht rfl (by omega) (by decide) d_R_offer_6 ?_
  rw [show gf6 v = S.1 v 6 from hf61 v hv]
  refine lv_icmp_ge (tgt := 24) hx hb d_R_offer_7 (by decide) (fun hc => ?_) (fun hc => ?_)
  · skip
    exact hp_vret hx hb hr hlk h (by rw [k_best0 (Int32.not_lt.mpr hc)]; exact ⟨hR, kFq.rf⟩) (by omega) (by omega) d_R_offer_24
  · skip
    refine lv_aload_n hx hb d_R_offer_10 rfl (lv_at hl 0 rfl) ?_
    refine hp_get (v := .ref (ad 109)) hx hb hg in_R hown hK h he rfl 11 (by decide) (hg _ w555) (fun _ z => z) rfl d_R_offer_11 ?_
    refine lv_iload_n hx hb d_R_offer_14 rfl (lv_at hl 1 rfl) ?_
    refine lv_iload_n hx hb d_R_offer_15 rfl (lv_at hl 2 rfl) ?_
    refine hp_iast hx hb hK h 0 hf5_ ht rfl (by omega) (by decide) d_R_offer_16 (fun H locs f1 hf1 h => ?_)
    have he := he.ne' hf1 (kne (hT 100 (by omega) (by omega)) (hT 109 (by omega) (by omega)) (by decide))
    have hf5_ := hf5_.self' hf1
    have hf6_ := hf6_.ne' hf1 (kne (hT 110 (by omega) (by omega)) (hT 109 (by omega) (by omega)) (by decide))
    have hR1 := hR.wF (f1 := f1) (k := 5) (x := v) (a := e9) (by decide) hf1 (k_col hf51)
    have hF1 : kFq τ L f (L, f1) := kFq.w hf1 (hT 109 (by omega) (by omega)) (by omega) (by omega)
    refine lv_aload_n hx hb d_R_offer_17 rfl (lv_at hl 0 rfl) ?_
    refine hp_get (v := .ref (ad 110)) hx hb hg in_R hown hK h he rfl 12 (by decide) (hg _ w556) (fun _ z => z) rfl d_R_offer_18 ?_
    refine lv_iload_n hx hb d_R_offer_21 rfl (lv_at hl 1 rfl) ?_
    refine lv_iload_n hx hb d_R_offer_22 rfl (lv_at hl 3 rfl) ?_
    refine hp_iast hx hb hK h 0 hf6_ ht rfl (by omega) (by decide) d_R_offer_23 (fun H locs f2 hf2 h => ?_)
    have he := he.ne' hf2 (kne (hT 100 (by omega) (by omega)) (hT 110 (by omega) (by omega)) (by decide))
    have hf5_ := hf5_.ne' hf2 (kne (hT 109 (by omega) (by omega)) (hT 110 (by omega) (by omega)) (by decide))
    have hf6_ := hf6_.self' hf2
    have hR2 := hR1.wF (f1 := f2) (k := 6) (x := v) (a := w) (by decide) hf2 (k_col (fun i hi => (hf61 i hi).trans (k_fld_ne2 (by decide)).symm))
    have hF2 : kFq τ L f (L, f2) := hF1.trans (kFq.w hf2 (hT 110 (by omega) (by omega)) (by omega) (by omega))
    exact hp_vret hx hb hr hlk h (by rw [k_best1 (Int32.not_le.mp hc)]; exact ⟨hR2, hF2⟩) (by omega) (by omega) d_R_offer_24

set_option maxHeartbeats 4000000 in
set_option maxRecDepth 100000 in
theorem c_R_reject (l : Launch) (D : va_G) (tys : List (ClassId × FieldType)) (de : Nat) (sa : Nat → Nat) {L : List Nat} {f : Nat → va_E} {v j : Nat} {ad τ : Nat → Nat} {E : kE} {S : kS} {code : Int32} {cI cZ : ClassId} (ht : tys[0]? = some (cI, .int)) (ht3 : tys[3]? = some (cZ, .boolean)) (hR : kR cI cZ ad τ L f code E S) (hn7 : E.1 ≤ 7) (hm12 : E.2.1 ≤ 12) (hW : kWE E) (hv : v < 7) (hj : j < E.2.1) (hne : ∀ j, j < E.2.1 → E.2.2.1 j ≠ E.2.2.2.1 j) (hend : E.2.2.1 j = v ∨ E.2.2.2.1 j = v) : hp_Mv l y_R_reject (gw_ws y_R_reject b_R_reject 4 none) { frames := 1, cells := 0, slots := 0, locals := 22 } D kc tys (s_X de sa) [.ref (ad 100), .int (nI v), .int (nI j)] L f (kRP cI cZ ad τ L f code E (k_rej S v j)) 0 0 := by
  refine hp_ofW (Qc := fun A => va_Qv (kRP cI cZ ad τ L f code E (k_rej S v j)) (hp_B D kc A) A) (fr := fun A => A) (ret := none) (by decide) rfl (Nat.le_of_ble_eq_true rfl) ?_
  intro p e s m below meth c ls A hx hb hml hr hts hown hlk hnm hl hK hX h
  have hg : ∀ w ∈ gw, w.before _ s = true := fun w hw => hts w (List.mem_cons_of_mem _ hw)
  have hown : s.vm.findClass "MergingFragmentsModel" = some m.cls := hown
  have hnm : meth.name = "reject" := hnm
  have hl : lv_has ls 4 [(0, .ref (ad 100)), (1, .int (nI v)), (2, .int (nI j))] := hl
  have hT := hR.2.2.2.2.2.2.2
  have he := hR.1
  obtain ⟨gk, hk, hk1⟩ := hR.2.2.2.1
  have hee := hW.2 j hj
  obtain ⟨at9, hat⟩ : ∃ at9, (E.2.2.1 j = v ∧ at9 = 2 * j) ∨ (E.2.2.2.1 j = v ∧ at9 = 2 * j + 1) := by rcases hend with z | z; exact ⟨_, Or.inl ⟨z, rfl⟩⟩; exact ⟨_, Or.inr ⟨z, rfl⟩⟩
  have ha24 : at9 < 24 := by omega
  have heo : k_eo E v j = nI at9 := by unfold k_eo; rcases hat with ⟨z1, z2⟩ | ⟨z1, z2⟩; rw [if_pos z1, z2]; rw [if_neg (by rw [← z1]; exact hne j hj), if_pos z1, z2]
  have hgk : gk at9 = S.2.1 v j := by rcases hat with ⟨z1, z2⟩ | ⟨z1, z2⟩; rw [z2, (hk1 j hj).1, ← z1]; rw [z2, (hk1 j hj).2, ← z1]
  refine lv_aload_n hx hb d_R_reject_0 rfl (lv_at hl 0 rfl) ?_
  refine lv_iload_n hx hb d_R_reject_1 rfl (lv_at hl 1 rfl) ?_
  refine lv_iload_n hx hb d_R_reject_2 rfl (lv_at hl 2 rfl) ?_
  refine hp_callR (hp_runV (As := [.int (nI v), .int (nI j)]) (rest := []) ⟨hx, hb, hml, hown, hg⟩ (c_R_endOf l D tys de sa (v := v) (j := j) ht ht3 hR hn7 hm12 (by omega) hj (by omega) (by omega)) (cwV 2 hg (gw_V w643 w645 ws29 w7 w646) rfl rfl rfl (by decide +kernel) ⟨Nat.le_of_ble_eq_true rfl, Nat.le_of_ble_eq_true rfl⟩) (s_ok de sa) hK hX h he rfl rfl rfl hl.1 rfl (Nat.le_of_ble_eq_true rfl) d_R_reject_3 ⟨Nat.le_of_ble_eq_true rfl, Nat.le_of_ble_eq_true rfl⟩) (fun r1 hp => ?_)
  rw [heo] at hp
  subst hp
  refine lv_istore_n (lv' := [(3, .int (nI at9)), (0, .ref (ad 100)), (1, .int (nI v)), (2, .int (nI j))]) hx hb d_R_reject_6 rfl hl (by decide) rfl (fun ls hl => ?_)
  refine lv_aload_n hx hb d_R_reject_7 rfl (lv_at hl 1 rfl) ?_
  refine hp_get (v := .ref (ad 103)) hx hb hg in_R hown hK h he rfl 5 (by decide) (hg _ w549) (fun _ z => z) rfl d_R_reject_8 ?_
  refine lv_iload_n hx hb d_R_reject_11 rfl (lv_at hl 0 rfl) ?_
  refine hp_iald hx hb hK h 0 hk ht rfl (by omega) (by decide) d_R_reject_12 ?_
  rw [hgk]
  refine lv_if_ne (tgt := 23) hx hb d_R_reject_13 (by decide) (fun hc => ?_) (fun hc => ?_)
  · skip
    exact hp_vret hx hb hr hlk h (by have hz : k_rej S v j = S := (by unfold k_rej; rw [if_neg hc]; refine congrArg (fun z => (S.1, z, S.2.2)) ?_; funext i; by_cases hi : i = v; subst hi; rw [kup_self]; rw [kup_ne _ _ hi]); rw [hz]; exact ⟨hR, kFq.rf⟩) (by omega) (by omega) d_R_reject_23
  · skip
    refine lv_aload_n hx hb d_R_reject_16 rfl (lv_at hl 1 rfl) ?_
    refine hp_get (v := .ref (ad 103)) hx hb hg in_R hown hK h he rfl 5 (by decide) (hg _ w549) (fun _ z => z) rfl d_R_reject_17 ?_
    refine lv_iload_n hx hb d_R_reject_20 rfl (lv_at hl 0 rfl) ?_
    refine lv_iconst (v := 2) hx hb d_R_reject_21 (by decide) ?_
    refine hp_iast hx hb hK h 0 hk ht rfl (by omega) (by decide) d_R_reject_22 (fun H locs f1 hf1 h => ?_)
    have he := he.ne' hf1 (kne (hT 100 (by omega) (by omega)) (hT 103 (by omega) (by omega)) (by decide))
    have hk := hk.self' hf1
    have hR1 := hR.wK (f1 := f1) (z := kup S.2.1 v (upd (S.2.1 v) j 2)) hf1 (k_mkw hk1 hne hj hat)
    have hF1 : kFq τ L f (L, f1) := kFq.w hf1 (hT 103 (by omega) (by omega)) (by omega) (by omega)
    exact hp_vret hx hb hr hlk h (by unfold k_rej; rw [if_pos hc]; exact ⟨hR1, hF1⟩) (by omega) (by omega) d_R_reject_23
