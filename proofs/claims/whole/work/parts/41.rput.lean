/-! The reference's put, by program (wip/mk41.py). -/
theorem k_ring {n v len : Nat} {q : Nat → List kM} {fr : Nat → Nat} {x : kM} {g : Nat → Int32} {c : Nat} (hv : v < n) (hlen : (q v).length = len) (hl : len < 200) (hb : ∀ i, i < n → fr i < 200 ∧ (q i).length ≤ 200) (h : ∀ i, i < n → ∀ k y, (q i)[k]? = some y → g (200 * i + (fr i + k) % 200) = kmf y c) :
    ∀ i, i < n → ∀ k y, (kup q v (q v ++ [x]) i)[k]? = some y → upd g (200 * v + (fr v + len) % 200) (kmf x c) (200 * i + (fr i + k) % 200) = kmf y c := by
  intro i hi k y hy
  by_cases hiv : i = v
  · subst hiv
    rw [kup_self] at hy
    rcases Nat.lt_trichotomy k (q i).length with hk | hk | hk
    · rw [List.getElem?_append_left hk] at hy
      have := hb i hi
      rw [pk_un (by omega)]
      exact h i hi k y hy
    · rw [hk, List.getElem?_append_right (Nat.le_refl _), Nat.sub_self] at hy
      cases hy
      rw [hk, hlen, pk_us]
    · rw [List.getElem?_eq_none (by simp; omega)] at hy
      cases hy
  · rw [kup_ne _ _ hiv] at hy
    rw [pk_un (by omega)]
    exact h i hi k y hy
set_option maxHeartbeats 4000000 in
set_option maxRecDepth 100000 in
theorem c_R_put (l : Launch) (D : va_G) (tys : List (ClassId × FieldType)) (de : Nat) (sa : Nat → Nat) {L : List Nat} {f : Nat → va_E} {v : Nat} {q : kM} {ad τ : Nat → Nat} {E : kE} {S : kS} {code : Int32} {cI cZ : ClassId} (ht : tys[0]? = some (cI, .int)) (ht3 : tys[3]? = some (cZ, .boolean)) (hR : kR cI cZ ad τ L f code E S) (hn7 : E.1 ≤ 7) (hm12 : E.2.1 ≤ 12) (hv : v < E.1) (hlen : (S.2.2.1 v).length < 200) : hp_Mv l y_R_put (gw_ws y_R_put b_R_put 8 none) { frames := 0, cells := 0, slots := 0, locals := 0 } D kc tys (s_X de sa) [.ref (ad 100), .int (nI v), .int q.1, .int q.2.1, .int q.2.2.1, .int q.2.2.2.1, .int q.2.2.2.2] L f (kRP cI cZ ad τ L f code E (k_add S v q)) 0 0 := by
  refine hp_ofW (Qc := fun A => va_Qv (kRP cI cZ ad τ L f code E (k_add S v q)) (hp_B D kc A) A) (fr := fun A => A) (ret := none) (by decide) rfl (Nat.le_of_ble_eq_true rfl) ?_
  intro p e s m below meth c ls A hx hb hml hr hts hown hlk hnm hl hK hX h
  have hg : ∀ w ∈ gw, w.before _ s = true := fun w hw => hts w (List.mem_cons_of_mem _ hw)
  have hown : s.vm.findClass "MergingFragmentsModel" = some m.cls := hown
  have hnm : meth.name = "put" := hnm
  have hl : lv_has ls 8 [(0, .ref (ad 100)), (1, .int (nI v)), (2, .int q.1), (3, .int q.2.1), (4, .int q.2.2.1), (5, .int q.2.2.2.1), (6, .int q.2.2.2.2)] := hl
  have hT := hR.2.2.2.2.2.2.2
  have he := hR.1
  obtain ⟨fr, ⟨gv, hgv, hgv1⟩, ⟨gy, hy, hy1⟩, hb9, hrg⟩ := hR.2.2.2.2.2.2.1
  obtain ⟨len, hlen9⟩ : ∃ len : Nat, (S.2.2.1 v).length = len := ⟨_, rfl⟩
  have hfv := hb9 v hv
  obtain ⟨g0, hg0, hr0⟩ := hrg 0 (by decide)
  obtain ⟨g1, hg1, hr1⟩ := hrg 1 (by decide)
  obtain ⟨g2, hg2, hr2⟩ := hrg 2 (by decide)
  obtain ⟨g3, hg3, hr3⟩ := hrg 3 (by decide)
  obtain ⟨g4, hg4, hr4⟩ := hrg 4 (by decide)
  refine lv_sipush (v := 200) hx hb d_R_put_0 (by decide) ?_
  refine lv_iload_n hx hb d_R_put_3 rfl (lv_at hl 1 rfl) ?_
  refine lv_imul hx hb d_R_put_4 ?_
  rw [show (200 : Int32) * nI v = nI (200 * v) from pk_mul 200 v]
  refine lv_aload_n hx hb d_R_put_5 rfl (lv_at hl 0 rfl) ?_
  refine hp_get (v := .ref (ad 113)) hx hb hg in_R hown hK h he rfl 15 (by decide) (hg _ w559) (fun _ z => z) rfl d_R_put_6 ?_
  refine lv_iload_n hx hb d_R_put_9 rfl (lv_at hl 1 rfl) ?_
  refine hp_iald hx hb hK h 0 hgv ht rfl (by omega) (by decide) d_R_put_10 ?_
  rw [show gv v = nI (fr v) from hgv1 v hv]
  refine lv_aload_n hx hb d_R_put_11 rfl (lv_at hl 0 rfl) ?_
  refine hp_get (v := .ref (ad 114)) hx hb hg in_R hown hK h he rfl 16 (by decide) (hg _ w560) (fun _ z => z) rfl d_R_put_12 ?_
  refine lv_iload_n hx hb d_R_put_15 rfl (lv_at hl 1 rfl) ?_
  refine hp_iald hx hb hK h 0 hy ht rfl (by omega) (by decide) d_R_put_16 ?_
  rw [show gy v = nI len from (hy1 v hv).trans (by dsimp only; rw [hlen9])]
  refine lv_iadd hx hb d_R_put_17 ?_
  rw [nI_add]
  refine lv_sipush (v := 200) hx hb d_R_put_18 (by decide) ?_
  refine lv_irem hx hb d_R_put_21 (by decide) ?_
  rw [show nI (fr v + len) - nI (fr v + len) / 200 * 200 = nI ((fr v + len) % 200) from pk_rem (d := 200) (by omega) (by decide) (by decide)]
  refine lv_iadd hx hb d_R_put_22 ?_
  rw [nI_add]
  refine lv_istore (lv' := [(7, .int (nI (200 * v + (fr v + len) % 200))), (0, .ref (ad 100)), (1, .int (nI v)), (2, .int q.1), (3, .int q.2.1), (4, .int q.2.2.1), (5, .int q.2.2.2.1), (6, .int q.2.2.2.2)]) hx hb d_R_put_23 hl (by decide) rfl (fun ls hl => ?_)
  refine lv_aload_n hx hb d_R_put_25 rfl (lv_at hl 1 rfl) ?_
  refine hp_get (v := .ref (ad 115)) hx hb hg in_R hown hK h he rfl 17 (by decide) (hg _ w561) (fun _ z => z) rfl d_R_put_26 ?_
  refine lv_iload hx hb d_R_put_29 (lv_at hl 0 rfl) ?_
  refine lv_iload_n hx hb d_R_put_31 rfl (lv_at hl 3 rfl) ?_
  refine hp_iast hx hb hK h 0 hg0 ht rfl (by omega) (by decide) d_R_put_32 (fun H locs f1 hf1 h => ?_)
  have he := he.ne' hf1 (kne (hT 100 (by omega) (by omega)) (hT 115 (by omega) (by omega)) (by decide))
  have hgv := hgv.ne' hf1 (kne (hT 113 (by omega) (by omega)) (hT 115 (by omega) (by omega)) (by decide))
  have hy := hy.ne' hf1 (kne (hT 114 (by omega) (by omega)) (hT 115 (by omega) (by omega)) (by decide))
  have hg0 := hg0.self' hf1
  have hg1 := hg1.ne' hf1 (kne (hT 116 (by omega) (by omega)) (hT 115 (by omega) (by omega)) (by decide))
  have hg2 := hg2.ne' hf1 (kne (hT 117 (by omega) (by omega)) (hT 115 (by omega) (by omega)) (by decide))
  have hg3 := hg3.ne' hf1 (kne (hT 118 (by omega) (by omega)) (hT 115 (by omega) (by omega)) (by decide))
  have hg4 := hg4.ne' hf1 (kne (hT 119 (by omega) (by omega)) (hT 115 (by omega) (by omega)) (by decide))
  refine lv_aload_n hx hb d_R_put_33 rfl (lv_at hl 1 rfl) ?_
  refine hp_get (v := .ref (ad 116)) hx hb hg in_R hown hK h he rfl 18 (by decide) (hg _ w562) (fun _ z => z) rfl d_R_put_34 ?_
  refine lv_iload hx hb d_R_put_37 (lv_at hl 0 rfl) ?_
  refine lv_iload_n hx hb d_R_put_39 rfl (lv_at hl 4 rfl) ?_
  refine hp_iast hx hb hK h 0 hg1 ht rfl (by omega) (by decide) d_R_put_40 (fun H locs f2 hf2 h => ?_)
  have he := he.ne' hf2 (kne (hT 100 (by omega) (by omega)) (hT 116 (by omega) (by omega)) (by decide))
  have hgv := hgv.ne' hf2 (kne (hT 113 (by omega) (by omega)) (hT 116 (by omega) (by omega)) (by decide))
  have hy := hy.ne' hf2 (kne (hT 114 (by omega) (by omega)) (hT 116 (by omega) (by omega)) (by decide))
  have hg0 := hg0.ne' hf2 (kne (hT 115 (by omega) (by omega)) (hT 116 (by omega) (by omega)) (by decide))
  have hg1 := hg1.self' hf2
  have hg2 := hg2.ne' hf2 (kne (hT 117 (by omega) (by omega)) (hT 116 (by omega) (by omega)) (by decide))
  have hg3 := hg3.ne' hf2 (kne (hT 118 (by omega) (by omega)) (hT 116 (by omega) (by omega)) (by decide))
  have hg4 := hg4.ne' hf2 (kne (hT 119 (by omega) (by omega)) (hT 116 (by omega) (by omega)) (by decide))
  refine lv_aload_n hx hb d_R_put_41 rfl (lv_at hl 1 rfl) ?_
  refine hp_get (v := .ref (ad 117)) hx hb hg in_R hown hK h he rfl 19 (by decide) (hg _ w563) (fun _ z => z) rfl d_R_put_42 ?_
  refine lv_iload hx hb d_R_put_45 (lv_at hl 0 rfl) ?_
  refine lv_iload hx hb d_R_put_47 (lv_at hl 5 rfl) ?_
  refine hp_iast hx hb hK h 0 hg2 ht rfl (by omega) (by decide) d_R_put_49 (fun H locs f3 hf3 h => ?_)
  have he := he.ne' hf3 (kne (hT 100 (by omega) (by omega)) (hT 117 (by omega) (by omega)) (by decide))
  have hgv := hgv.ne' hf3 (kne (hT 113 (by omega) (by omega)) (hT 117 (by omega) (by omega)) (by decide))
  have hy := hy.ne' hf3 (kne (hT 114 (by omega) (by omega)) (hT 117 (by omega) (by omega)) (by decide))
  have hg0 := hg0.ne' hf3 (kne (hT 115 (by omega) (by omega)) (hT 117 (by omega) (by omega)) (by decide))
  have hg1 := hg1.ne' hf3 (kne (hT 116 (by omega) (by omega)) (hT 117 (by omega) (by omega)) (by decide))
  have hg2 := hg2.self' hf3
  have hg3 := hg3.ne' hf3 (kne (hT 118 (by omega) (by omega)) (hT 117 (by omega) (by omega)) (by decide))
  have hg4 := hg4.ne' hf3 (kne (hT 119 (by omega) (by omega)) (hT 117 (by omega) (by omega)) (by decide))
  refine lv_aload_n hx hb d_R_put_50 rfl (lv_at hl 1 rfl) ?_
  refine hp_get (v := .ref (ad 118)) hx hb hg in_R hown hK h he rfl 20 (by decide) (hg _ w564) (fun _ z => z) rfl d_R_put_51 ?_
  refine lv_iload hx hb d_R_put_54 (lv_at hl 0 rfl) ?_
  refine lv_iload hx hb d_R_put_56 (lv_at hl 6 rfl) ?_
  refine hp_iast hx hb hK h 0 hg3 ht rfl (by omega) (by decide) d_R_put_58 (fun H locs f4 hf4 h => ?_)
  have he := he.ne' hf4 (kne (hT 100 (by omega) (by omega)) (hT 118 (by omega) (by omega)) (by decide))
  have hgv := hgv.ne' hf4 (kne (hT 113 (by omega) (by omega)) (hT 118 (by omega) (by omega)) (by decide))
  have hy := hy.ne' hf4 (kne (hT 114 (by omega) (by omega)) (hT 118 (by omega) (by omega)) (by decide))
  have hg0 := hg0.ne' hf4 (kne (hT 115 (by omega) (by omega)) (hT 118 (by omega) (by omega)) (by decide))
  have hg1 := hg1.ne' hf4 (kne (hT 116 (by omega) (by omega)) (hT 118 (by omega) (by omega)) (by decide))
  have hg2 := hg2.ne' hf4 (kne (hT 117 (by omega) (by omega)) (hT 118 (by omega) (by omega)) (by decide))
  have hg3 := hg3.self' hf4
  have hg4 := hg4.ne' hf4 (kne (hT 119 (by omega) (by omega)) (hT 118 (by omega) (by omega)) (by decide))
  refine lv_aload_n hx hb d_R_put_59 rfl (lv_at hl 1 rfl) ?_
  refine hp_get (v := .ref (ad 119)) hx hb hg in_R hown hK h he rfl 21 (by decide) (hg _ w565) (fun _ z => z) rfl d_R_put_60 ?_
  refine lv_iload hx hb d_R_put_63 (lv_at hl 0 rfl) ?_
  refine lv_iload hx hb d_R_put_65 (lv_at hl 7 rfl) ?_
  refine hp_iast hx hb hK h 0 hg4 ht rfl (by omega) (by decide) d_R_put_67 (fun H locs f5 hf5 h => ?_)
  have he := he.ne' hf5 (kne (hT 100 (by omega) (by omega)) (hT 119 (by omega) (by omega)) (by decide))
  have hgv := hgv.ne' hf5 (kne (hT 113 (by omega) (by omega)) (hT 119 (by omega) (by omega)) (by decide))
  have hy := hy.ne' hf5 (kne (hT 114 (by omega) (by omega)) (hT 119 (by omega) (by omega)) (by decide))
  have hg0 := hg0.ne' hf5 (kne (hT 115 (by omega) (by omega)) (hT 119 (by omega) (by omega)) (by decide))
  have hg1 := hg1.ne' hf5 (kne (hT 116 (by omega) (by omega)) (hT 119 (by omega) (by omega)) (by decide))
  have hg2 := hg2.ne' hf5 (kne (hT 117 (by omega) (by omega)) (hT 119 (by omega) (by omega)) (by decide))
  have hg3 := hg3.ne' hf5 (kne (hT 118 (by omega) (by omega)) (hT 119 (by omega) (by omega)) (by decide))
  have hg4 := hg4.self' hf5
  refine lv_aload_n hx hb d_R_put_68 rfl (lv_at hl 1 rfl) ?_
  refine hp_get (v := .ref (ad 114)) hx hb hg in_R hown hK h he rfl 16 (by decide) (hg _ w560) (fun _ z => z) rfl d_R_put_69 ?_
  refine lv_iload_n hx hb d_R_put_72 rfl (lv_at hl 2 rfl) ?_
  refine lv_dup2_11 hx hb d_R_put_73 rfl rfl ?_
  refine hp_iald hx hb hK h 0 hy ht rfl (by omega) (by decide) d_R_put_74 ?_
  rw [show gy v = nI len from (hy1 v hv).trans (by dsimp only; rw [hlen9])]
  refine lv_iconst (v := 1) hx hb d_R_put_75 (by decide) ?_
  refine lv_iadd hx hb d_R_put_76 ?_
  rw [nI_1]
  refine hp_iast hx hb hK h 0 hy ht rfl (by omega) (by decide) d_R_put_77 (fun H locs f6 hf6 h => ?_)
  have he := he.ne' hf6 (kne (hT 100 (by omega) (by omega)) (hT 114 (by omega) (by omega)) (by decide))
  have hgv := hgv.ne' hf6 (kne (hT 113 (by omega) (by omega)) (hT 114 (by omega) (by omega)) (by decide))
  have hy := hy.self' hf6
  have hg0 := hg0.ne' hf6 (kne (hT 115 (by omega) (by omega)) (hT 114 (by omega) (by omega)) (by decide))
  have hg1 := hg1.ne' hf6 (kne (hT 116 (by omega) (by omega)) (hT 114 (by omega) (by omega)) (by decide))
  have hg2 := hg2.ne' hf6 (kne (hT 117 (by omega) (by omega)) (hT 114 (by omega) (by omega)) (by decide))
  have hg3 := hg3.ne' hf6 (kne (hT 118 (by omega) (by omega)) (hT 114 (by omega) (by omega)) (by decide))
  have hg4 := hg4.ne' hf6 (kne (hT 119 (by omega) (by omega)) (hT 114 (by omega) (by omega)) (by decide))
  have hkeep : ∀ b, (τ b < 114 ∨ 120 ≤ τ b) → f6 b = f b := fun b hb2 => by
    have n0 : b ≠ ad 115 := fun z => by have := hT 115 (by omega) (by omega); rw [← z] at this; omega
    have n1 : b ≠ ad 116 := fun z => by have := hT 116 (by omega) (by omega); rw [← z] at this; omega
    have n2 : b ≠ ad 117 := fun z => by have := hT 117 (by omega) (by omega); rw [← z] at this; omega
    have n3 : b ≠ ad 118 := fun z => by have := hT 118 (by omega) (by omega); rw [← z] at this; omega
    have n4 : b ≠ ad 119 := fun z => by have := hT 119 (by omega) (by omega); rw [← z] at this; omega
    have n5 : b ≠ ad 114 := fun z => by have := hT 114 (by omega) (by omega); rw [← z] at this; omega
    rw [hf6, va_up_ne _ _ n5, hf5, va_up_ne _ _ n4, hf4, va_up_ne _ _ n3, hf3, va_up_ne _ _ n2, hf2, va_up_ne _ _ n1, hf1, va_up_ne _ _ n0]
  have hq9 : kRq cI ad L f6 E.1 (kup S.2.2.1 v (S.2.2.1 v ++ [q])) := by
    refine ⟨fr, ⟨gv, hgv, hgv1⟩, ⟨_, hy, fun i hi => ?_⟩, fun i hi => ?_, fun c hc => ?_⟩
    · by_cases z : i = v
      · subst z; dsimp only; rw [pk_us, kup_self, List.length_append, hlen9]; rfl
      · dsimp only; rw [pk_un z, kup_ne _ _ z]; exact hy1 i hi
    · have hbi := hb9 i hi
      by_cases z : i = v
      · subst z; rw [kup_self, List.length_append]; exact ⟨hbi.1, by simp; omega⟩
      · rw [kup_ne _ _ z]; exact hbi
    · rcases (show c = 0 ∨ c = 1 ∨ c = 2 ∨ c = 3 ∨ c = 4 by omega) with rfl | rfl | rfl | rfl | rfl
      · exact ⟨_, hg0, k_ring (x := q) hv hlen9 (by omega) hb9 hr0⟩
      · exact ⟨_, hg1, k_ring (x := q) hv hlen9 (by omega) hb9 hr1⟩
      · exact ⟨_, hg2, k_ring (x := q) hv hlen9 (by omega) hb9 hr2⟩
      · exact ⟨_, hg3, k_ring (x := q) hv hlen9 (by omega) hb9 hr3⟩
      · exact ⟨_, hg4, k_ring (x := q) hv hlen9 (by omega) hb9 hr4⟩
  have hR2 := hR.goQ (f1 := f6) (fun c e c1 c2 he => ⟨he.1, (hkeep _ (Or.inl (by rw [hT c c1 (by omega)]; omega))).trans he.2⟩) hq9
  exact hp_vret hx hb hr hlk h ⟨hR2.ghost rfl rfl rfl rfl, rfl, fun b _ hb2 => hkeep b (by omega)⟩ (by omega) (by omega) d_R_put_78
