/-! The reference's next, by program (wip/mk60.py). -/
/-- what a message's handling finds besides, in the reference -/
def kOR (E : kE) (S : kS) (v : Nat) (q : kM) : Prop :=
  kOK E S v q ∧ (∀ j, j < E.2.1 → q.2.1 = nI j → E.2.2.1 j = v ∨ E.2.2.2.1 j = v) ∧ (∀ j, j < E.2.1 → S.1 v 5 = nI j → E.2.2.1 j = v ∨ E.2.2.2.1 j = v) ∧ (q.1 = 0 ∨ q.1 = 5 → q.2.2.2.1 = 0 ∧ q.2.2.2.2 = 0) ∧ (q.1 = 2 → q.2.2.2.2 = 0)
set_option maxHeartbeats 4000000 in
set_option maxRecDepth 100000 in
theorem c_R_next (l : Launch) (D : va_G) (tys : List (ClassId × FieldType)) (de : Nat) (sa : Nat → Nat) {L : List Nat} {f : Nat → va_E} {v : Nat} {ad τ : Nat → Nat} {E : kE} {S : kS} {code : Int32} {cI cZ : ClassId} (ht : tys[0]? = some (cI, .int)) (ht3 : tys[3]? = some (cZ, .boolean)) (hR : kR cI cZ ad τ L f code E S) (hn7 : E.1 ≤ 7) (hm12 : E.2.1 ≤ 12) (hW : kWE E) (hv : v < E.1) (hwn : ∀ j, j < E.2.1 → E.2.2.1 j < E.1 ∧ E.2.2.2.1 j < E.1) (hlen : ∀ i, i < E.1 → (S.2.2.1 i).length + 15 < 200) (hne : ∀ j, j < E.2.1 → E.2.2.1 j ≠ E.2.2.2.1 j) (hst : S.1 v 0 = 0 ∨ 0 < S.1 v 0) (hendA : ∀ k, k < E.2.1 → S.2.1 v k = 0 ∨ S.2.1 v k = 1 → E.2.2.1 k = v ∨ E.2.2.2.1 k = v) (hasl : S.1 v 0 = 0 → ∀ k, k < E.2.1 → (E.2.2.1 k = v ∨ E.2.2.2.1 k = v) → S.2.1 v k = 0) (h7 : S.1 v 7 = -1 ∨ 0 ≤ S.1 v 7) (hok : ∀ q l, S.2.2.1 v = q :: l → kOR E S v q) : hp_Mi l y_R_next (gw_ws y_R_next b_R_next 5 (some .int)) { frames := 5, cells := 0, slots := 0, locals := 122 } D kc tys (s_X de sa) [.ref (ad 100), .int (nI v)] L f (fun r u => r = k_fk S v ∧ kRP cI cZ ad τ L f code E (k_first E S v) u) 0 0 := by
  refine hp_ofW (Qc := fun A => va_Qi (fun r u => r = k_fk S v ∧ kRP cI cZ ad τ L f code E (k_first E S v) u) (hp_B D kc A) A) (fr := fun A => A) (ret := (some .int)) (by decide) rfl (Nat.le_of_ble_eq_true rfl) ?_
  intro p e s m below meth c ls A hx hb hml hr hts hown hlk hnm hl hK hX h
  have hg : ∀ w ∈ gw, w.before _ s = true := fun w hw => hts w (List.mem_cons_of_mem _ hw)
  have hown : s.vm.findClass "MergingFragmentsModel" = some m.cls := hown
  have hnm : meth.name = "next" := hnm
  have hl : lv_has ls 5 [(0, .ref (ad 100)), (1, .int (nI v))] := hl
  have hT := hR.2.2.2.2.2.2.2
  have he := hR.1
  obtain ⟨gw, hw, hw1⟩ := hR.2.2.1
  obtain ⟨fr, ⟨gv, hgv, hgv1⟩, ⟨gy, hy, hy1⟩, hb9, hrg⟩ := hR.2.2.2.2.2.2.1
  have hfv := hb9 v hv
  obtain ⟨g0, hg0, hr0⟩ := hrg 0 (by decide)
  obtain ⟨g1, hg1, hr1⟩ := hrg 1 (by decide)
  obtain ⟨g2, hg2, hr2⟩ := hrg 2 (by decide)
  obtain ⟨g3, hg3, hr3⟩ := hrg 3 (by decide)
  obtain ⟨g4, hg4, hr4⟩ := hrg 4 (by decide)
  refine lv_aload_n hx hb d_R_next_0 rfl (lv_at hl 0 rfl) ?_
  refine hp_get (v := .ref (ad 114)) hx hb hg in_R hown hK h he rfl 16 (by decide) (hg _ w560) (fun _ z => z) rfl d_R_next_1 ?_
  refine lv_iload_n hx hb d_R_next_4 rfl (lv_at hl 1 rfl) ?_
  refine hp_iald hx hb hK h 0 hy ht rfl (by omega) (by decide) d_R_next_5 ?_
  rw [show gy v = nI (S.2.2.1 v).length from hy1 v hv]
  refine lv_if_ne (tgt := 11) hx hb d_R_next_6 (by decide) (fun hc => ?_) (fun hc => ?_)
  · skip
    cases hq : S.2.2.1 v with
    | nil =>
      rw [hq] at hc
      exact absurd rfl hc
    | cons q l9 =>
      obtain ⟨⟨⟨j, hj, hqj⟩, ok2, ok3, ok4, ok5⟩, or1, or2, or3, or4⟩ := hok q l9 hq
      have hend1 := or1 j hj hqj
      have hlv : (S.2.2.1 v).length = l9.length + 1 := by rw [hq]; rfl
      have hl15 := hlen v hv
      refine lv_sipush (v := 200) hx hb d_R_next_11 (by decide) ?_
      refine lv_iload_n hx hb d_R_next_14 rfl (lv_at hl 1 rfl) ?_
      refine lv_imul hx hb d_R_next_15 ?_
      rw [show (200 : Int32) * nI v = nI (200 * v) from pk_mul 200 v]
      refine lv_aload_n hx hb d_R_next_16 rfl (lv_at hl 0 rfl) ?_
      refine hp_get (v := .ref (ad 113)) hx hb hg in_R hown hK h he rfl 15 (by decide) (hg _ w559) (fun _ z => z) rfl d_R_next_17 ?_
      refine lv_iload_n hx hb d_R_next_20 rfl (lv_at hl 1 rfl) ?_
      refine hp_iald hx hb hK h 0 hgv ht rfl (by omega) (by decide) d_R_next_21 ?_
      rw [show gv v = nI (fr v) from hgv1 v hv]
      refine lv_iadd hx hb d_R_next_22 ?_
      rw [nI_add]
      refine lv_istore_n (lv' := [(2, .int (nI (200 * v + fr v))), (0, .ref (ad 100)), (1, .int (nI v))]) hx hb d_R_next_23 rfl hl (by decide) rfl (fun ls hl => ?_)
      refine lv_aload_n hx hb d_R_next_24 rfl (lv_at hl 1 rfl) ?_
      refine hp_get (v := .ref (ad 113)) hx hb hg in_R hown hK h he rfl 15 (by decide) (hg _ w559) (fun _ z => z) rfl d_R_next_25 ?_
      refine lv_iload_n hx hb d_R_next_28 rfl (lv_at hl 2 rfl) ?_
      refine lv_aload_n hx hb d_R_next_29 rfl (lv_at hl 1 rfl) ?_
      refine hp_get (v := .ref (ad 113)) hx hb hg in_R hown hK h he rfl 15 (by decide) (hg _ w559) (fun _ z => z) rfl d_R_next_30 ?_
      refine lv_iload_n hx hb d_R_next_33 rfl (lv_at hl 2 rfl) ?_
      refine hp_iald hx hb hK h 0 hgv ht rfl (by omega) (by decide) d_R_next_34 ?_
      rw [show gv v = nI (fr v) from hgv1 v hv]
      refine lv_iconst (v := 1) hx hb d_R_next_35 (by decide) ?_
      refine lv_iadd hx hb d_R_next_36 ?_
      rw [nI_1]
      refine lv_sipush (v := 200) hx hb d_R_next_37 (by decide) ?_
      refine lv_irem hx hb d_R_next_40 (by decide) ?_
      rw [show nI (fr v + 1) - nI (fr v + 1) / 200 * 200 = nI ((fr v + 1) % 200) from pk_rem (d := 200) (by omega) (by decide) (by decide)]
      refine hp_iast hx hb hK h 0 hgv ht rfl (by omega) (by decide) d_R_next_41 (fun H locs f1 hf1 h => ?_)
      have he := he.ne' hf1 (kne (hT 100 (by omega) (by omega)) (hT 113 (by omega) (by omega)) (by decide))
      have hgv := hgv.self' hf1
      have hy := hy.ne' hf1 (kne (hT 114 (by omega) (by omega)) (hT 113 (by omega) (by omega)) (by decide))
      have hg0 := hg0.ne' hf1 (kne (hT 115 (by omega) (by omega)) (hT 113 (by omega) (by omega)) (by decide))
      have hg1 := hg1.ne' hf1 (kne (hT 116 (by omega) (by omega)) (hT 113 (by omega) (by omega)) (by decide))
      have hg2 := hg2.ne' hf1 (kne (hT 117 (by omega) (by omega)) (hT 113 (by omega) (by omega)) (by decide))
      have hg3 := hg3.ne' hf1 (kne (hT 118 (by omega) (by omega)) (hT 113 (by omega) (by omega)) (by decide))
      have hg4 := hg4.ne' hf1 (kne (hT 119 (by omega) (by omega)) (hT 113 (by omega) (by omega)) (by decide))
      refine lv_aload_n hx hb d_R_next_42 rfl (lv_at hl 1 rfl) ?_
      refine hp_get (v := .ref (ad 114)) hx hb hg in_R hown hK h he rfl 16 (by decide) (hg _ w560) (fun _ z => z) rfl d_R_next_43 ?_
      refine lv_iload_n hx hb d_R_next_46 rfl (lv_at hl 2 rfl) ?_
      refine lv_dup2_11 hx hb d_R_next_47 rfl rfl ?_
      refine hp_iald hx hb hK h 0 hy ht rfl (by omega) (by decide) d_R_next_48 ?_
      rw [show gy v = nI (l9.length + 1) from (hy1 v hv).trans (by dsimp only; rw [hlv])]
      refine lv_iconst (v := 1) hx hb d_R_next_49 (by decide) ?_
      refine lv_isub hx hb d_R_next_50 ?_
      rw [show nI (l9.length + 1) - 1 = nI l9.length from nI_pred l9.length]
      refine hp_iast hx hb hK h 0 hy ht rfl (by omega) (by decide) d_R_next_51 (fun H locs f2 hf2 h => ?_)
      have he := he.ne' hf2 (kne (hT 100 (by omega) (by omega)) (hT 114 (by omega) (by omega)) (by decide))
      have hgv := hgv.ne' hf2 (kne (hT 113 (by omega) (by omega)) (hT 114 (by omega) (by omega)) (by decide))
      have hy := hy.self' hf2
      have hg0 := hg0.ne' hf2 (kne (hT 115 (by omega) (by omega)) (hT 114 (by omega) (by omega)) (by decide))
      have hg1 := hg1.ne' hf2 (kne (hT 116 (by omega) (by omega)) (hT 114 (by omega) (by omega)) (by decide))
      have hg2 := hg2.ne' hf2 (kne (hT 117 (by omega) (by omega)) (hT 114 (by omega) (by omega)) (by decide))
      have hg3 := hg3.ne' hf2 (kne (hT 118 (by omega) (by omega)) (hT 114 (by omega) (by omega)) (by decide))
      have hg4 := hg4.ne' hf2 (kne (hT 119 (by omega) (by omega)) (hT 114 (by omega) (by omega)) (by decide))
      have hkeep : ∀ b, (τ b < 113 ∨ 115 ≤ τ b) → f2 b = f b := fun b hb2 => by
        have n0 : b ≠ ad 113 := fun z => by have := hT 113 (by omega) (by omega); rw [← z] at this; omega
        have n1 : b ≠ ad 114 := fun z => by have := hT 114 (by omega) (by omega); rw [← z] at this; omega
        rw [hf2, va_up_ne _ _ n1, hf1, va_up_ne _ _ n0]
      have hq9 : kRq cI ad L f2 E.1 (kup S.2.2.1 v l9) := by
        refine ⟨kup fr v ((fr v + 1) % 200), ⟨_, hgv, fun i hi => ?_⟩, ⟨_, hy, fun i hi => ?_⟩, fun i hi => ?_, fun c hc => ?_⟩
        · by_cases z : i = v
          · subst z; dsimp only; rw [pk_us, kup_self]
          · dsimp only; rw [pk_un z, kup_ne _ _ z]; exact hgv1 i hi
        · by_cases z : i = v
          · subst z; dsimp only; rw [pk_us, kup_self]
          · dsimp only; rw [pk_un z, kup_ne _ _ z]; exact hy1 i hi
        · have hbi := hb9 i hi
          by_cases z : i = v
          · subst z; rw [kup_self, kup_self]; exact ⟨by omega, by omega⟩
          · rw [kup_ne _ _ z, kup_ne _ _ z]; exact hbi
        · rcases (show c = 0 ∨ c = 1 ∨ c = 2 ∨ c = 3 ∨ c = 4 by omega) with rfl | rfl | rfl | rfl | rfl
          · exact ⟨_, hg0, k_rpop hq hr0⟩
          · exact ⟨_, hg1, k_rpop hq hr1⟩
          · exact ⟨_, hg2, k_rpop hq hr2⟩
          · exact ⟨_, hg3, k_rpop hq hr3⟩
          · exact ⟨_, hg4, k_rpop hq hr4⟩
      have hR0 := hR
      have hR := hR.goQ (f1 := f2) (fun c e c1 c2 he => ⟨he.1, (hkeep _ (Or.inl (by rw [hT c c1 (by omega)]; omega))).trans he.2⟩) hq9
      have hR : kR cI cZ ad τ L f2 code E (k_pop S v l9) := hR.ghost rfl rfl rfl rfl
      have hF : kFq τ L f (L, f2) := ⟨rfl, fun b _ hb2 => hkeep b (by omega)⟩
      have hlenp : ∀ i, i < E.1 → ((k_pop S v l9).2.2.1 i).length + 15 < 200 := fun i hi => by
        show (kup S.2.2.1 v l9 i).length + 15 < 200
        by_cases z : i = v
        · rw [z, kup_self]; omega
        · rw [kup_ne _ _ z]; exact hlen i hi
      have hm0 : g0 (200 * v + fr v) = kmf q 0 := by have := hr0 v hv 0 q (by rw [hq]; rfl); rw [show (fr v + 0) % 200 = fr v by omega] at this; exact this
      have hm1 : g1 (200 * v + fr v) = kmf q 1 := by have := hr1 v hv 0 q (by rw [hq]; rfl); rw [show (fr v + 0) % 200 = fr v by omega] at this; exact this
      have hm2 : g2 (200 * v + fr v) = kmf q 2 := by have := hr2 v hv 0 q (by rw [hq]; rfl); rw [show (fr v + 0) % 200 = fr v by omega] at this; exact this
      have hm3 : g3 (200 * v + fr v) = kmf q 3 := by have := hr3 v hv 0 q (by rw [hq]; rfl); rw [show (fr v + 0) % 200 = fr v by omega] at this; exact this
      have hm4 : g4 (200 * v + fr v) = kmf q 4 := by have := hr4 v hv 0 q (by rw [hq]; rfl); rw [show (fr v + 0) % 200 = fr v by omega] at this; exact this
      have hfk : k_fk S v = q.1 := by unfold k_fk; rw [hq]
      have hfs : k_first E S v = k_hand E (k_pop S v l9) v q := by unfold k_first; rw [hq]
      refine lv_aload_n hx hb d_R_next_52 rfl (lv_at hl 1 rfl) ?_
      refine hp_get (v := .ref (ad 115)) hx hb hg in_R hown hK h he rfl 17 (by decide) (hg _ w561) (fun _ z => z) rfl d_R_next_53 ?_
      refine lv_iload_n hx hb d_R_next_56 rfl (lv_at hl 0 rfl) ?_
      refine hp_iald hx hb hK h 0 hg0 ht rfl (by omega) (by decide) d_R_next_57 ?_
      rw [show g0 (200 * v + fr v) = q.1 from hm0]
      refine lv_istore_n (lv' := [(3, .int q.1), (2, .int (nI (200 * v + fr v))), (0, .ref (ad 100)), (1, .int (nI v))]) hx hb d_R_next_58 rfl hl (by decide) rfl (fun ls hl => ?_)
      refine lv_aload_n hx hb d_R_next_59 rfl (lv_at hl 2 rfl) ?_
      refine hp_get (v := .ref (ad 116)) hx hb hg in_R hown hK h he rfl 18 (by decide) (hg _ w562) (fun _ z => z) rfl d_R_next_60 ?_
      refine lv_iload_n hx hb d_R_next_63 rfl (lv_at hl 1 rfl) ?_
      refine hp_iald hx hb hK h 0 hg1 ht rfl (by omega) (by decide) d_R_next_64 ?_
      rw [show g1 (200 * v + fr v) = (nI j) from hm1.trans hqj]
      refine lv_istore (lv' := [(4, .int (nI j)), (3, .int q.1), (2, .int (nI (200 * v + fr v))), (0, .ref (ad 100)), (1, .int (nI v))]) hx hb d_R_next_65 hl (by decide) rfl (fun ls hl => ?_)
      refine lv_iload_n hx hb d_R_next_67 rfl (lv_at hl 1 rfl) ?_
      have hq0 : q = (q.1, nI j, q.2.2.1, q.2.2.2.1, q.2.2.2.2) := by rw [← hqj]
      by_cases h0 : q.1 = 0
      · skip
        refine lv_tableIn (off := 40) (tgt := 108) hx hb d_R_next_68 (by rw [h0]; decide) (by rw [h0]; decide) (by rw [h0]; decide) (by decide) ?_
        have hqf : q = (0, nI j, q.2.2.1, 0, 0) := by obtain ⟨z1, z2⟩ := or3 (Or.inl h0); exact Prod.ext h0 (Prod.ext hqj (Prod.ext rfl (Prod.ext z1 z2)))
        refine lv_aload_n hx hb d_R_next_108 rfl (lv_at hl 3 rfl) ?_
        refine lv_iload_n hx hb d_R_next_109 rfl (lv_at hl 4 rfl) ?_
        refine lv_iload hx hb d_R_next_110 (lv_at hl 0 rfl) ?_
        refine lv_aload_n hx hb d_R_next_112 rfl (lv_at hl 3 rfl) ?_
        refine hp_get (v := .ref (ad 117)) hx hb hg in_R hown hK h he rfl 19 (by decide) (hg _ w563) (fun _ z => z) rfl d_R_next_113 ?_
        refine lv_iload_n hx hb d_R_next_116 rfl (lv_at hl 2 rfl) ?_
        refine hp_iald hx hb hK h 0 hg2 ht rfl (by omega) (by decide) d_R_next_117 ?_
        rw [show g2 (200 * v + fr v) = q.2.2.1 from hm2]
        have hS9 : k_first E S v = k_conn E (k_pop S v l9) v (0, nI j, q.2.2.1, 0, 0) := by rw [← hqf, hfs]; unfold k_hand; rw [if_pos h0]
        refine hp_callv (hp_runV (As := [.int (nI v), .int (nI j), .int q.2.2.1]) (rest := []) ⟨hx, hb, hml, hown, hg⟩ (c_R_connect l D tys de sa (v := v) (j := j) (w := q.2.2.1) ht ht3 hR hn7 hm12 hW hv hwn (fun i hi => by have := hlenp i hi; omega) hne hst (fun k hk hz => hendA k hk (Or.inl hz)) hasl hj hend1) (cwV 3 hg (gw_V w667 w669 ws34 w7 w670) rfl rfl rfl (by decide +kernel) ⟨Nat.le_of_ble_eq_true rfl, Nat.le_of_ble_eq_true rfl⟩) (s_ok de sa) hK hX h he rfl rfl rfl hl.1 rfl (Nat.le_of_ble_eq_true rfl) d_R_next_118 ⟨Nat.le_of_ble_eq_true rfl, Nat.le_of_ble_eq_true rfl⟩) h (fun L2 f9 H locs hp h => ?_)
        refine lv_goto (tgt := 239) hx hb d_R_next_121 (by decide) ?_
        refine lv_iload_n hx hb d_R_next_239 rfl (lv_at hl 1 rfl) ?_
        exact hp_iret hx hb hr hlk h ⟨hfk.symm, by rw [hS9]; exact ⟨hp.1, hF.trans hp.2⟩⟩ (by omega) (by omega) d_R_next_240
      by_cases h1 : q.1 = 1
      · skip
        refine lv_tableIn (off := 56) (tgt := 124) hx hb d_R_next_68 (by rw [h1]; decide) (by rw [h1]; decide) (by rw [h1]; decide) (by decide) ?_
        have hqf : q = (1, nI j, q.2.2.1, q.2.2.2.1, q.2.2.2.2) := by rw [← h1, ← hqj]
        refine lv_aload_n hx hb d_R_next_124 rfl (lv_at hl 3 rfl) ?_
        refine lv_iload_n hx hb d_R_next_125 rfl (lv_at hl 4 rfl) ?_
        refine lv_iload hx hb d_R_next_126 (lv_at hl 0 rfl) ?_
        refine lv_aload_n hx hb d_R_next_128 rfl (lv_at hl 3 rfl) ?_
        refine hp_get (v := .ref (ad 117)) hx hb hg in_R hown hK h he rfl 19 (by decide) (hg _ w563) (fun _ z => z) rfl d_R_next_129 ?_
        refine lv_iload_n hx hb d_R_next_132 rfl (lv_at hl 2 rfl) ?_
        refine hp_iald hx hb hK h 0 hg2 ht rfl (by omega) (by decide) d_R_next_133 ?_
        rw [show g2 (200 * v + fr v) = q.2.2.1 from hm2]
        refine lv_aload_n hx hb d_R_next_134 rfl (lv_at hl 3 rfl) ?_
        refine hp_get (v := .ref (ad 118)) hx hb hg in_R hown hK h he rfl 20 (by decide) (hg _ w564) (fun _ z => z) rfl d_R_next_135 ?_
        refine lv_iload_n hx hb d_R_next_138 rfl (lv_at hl 2 rfl) ?_
        refine hp_iald hx hb hK h 0 hg3 ht rfl (by omega) (by decide) d_R_next_139 ?_
        rw [show g3 (200 * v + fr v) = q.2.2.2.1 from hm3]
        refine lv_aload_n hx hb d_R_next_140 rfl (lv_at hl 3 rfl) ?_
        refine hp_get (v := .ref (ad 119)) hx hb hg in_R hown hK h he rfl 21 (by decide) (hg _ w565) (fun _ z => z) rfl d_R_next_141 ?_
        refine lv_iload_n hx hb d_R_next_144 rfl (lv_at hl 2 rfl) ?_
        refine hp_iald hx hb hK h 0 hg4 ht rfl (by omega) (by decide) d_R_next_145 ?_
        rw [show g4 (200 * v + fr v) = q.2.2.2.2 from hm4]
        have hS9 : k_first E S v = k_init E (k_pop S v l9) v (1, nI j, q.2.2.1, q.2.2.2.1, q.2.2.2.2) := by rw [← hqf, hfs]; unfold k_hand; rw [if_neg h0, if_pos h1]
        refine hp_callv (hp_runV (As := [.int (nI v), .int (nI j), .int q.2.2.1, .int q.2.2.2.1, .int q.2.2.2.2]) (rest := []) ⟨hx, hb, hml, hown, hg⟩ (c_R_initiate l D tys de sa (v := v) (j := j) (lv := q.2.2.1) (fg := q.2.2.2.1) (sx9 := q.2.2.2.2) ht ht3 hR hn7 hm12 hW hv hwn (fun i hi => by have := hlenp i hi; omega) hne hj hendA) (cwV 5 hg (gw_V w671 w673 ws35 w7 w674) rfl rfl rfl (by decide +kernel) ⟨Nat.le_of_ble_eq_true rfl, Nat.le_of_ble_eq_true rfl⟩) (s_ok de sa) hK hX h he rfl rfl rfl hl.1 rfl (Nat.le_of_ble_eq_true rfl) d_R_next_146 ⟨Nat.le_of_ble_eq_true rfl, Nat.le_of_ble_eq_true rfl⟩) h (fun L2 f9 H locs hp h => ?_)
        refine lv_goto (tgt := 239) hx hb d_R_next_149 (by decide) ?_
        refine lv_iload_n hx hb d_R_next_239 rfl (lv_at hl 1 rfl) ?_
        exact hp_iret hx hb hr hlk h ⟨hfk.symm, by rw [hS9]; exact ⟨hp.1, hF.trans hp.2⟩⟩ (by omega) (by omega) d_R_next_240
      by_cases h2 : q.1 = 2
      · skip
        refine lv_tableIn (off := 84) (tgt := 152) hx hb d_R_next_68 (by rw [h2]; decide) (by rw [h2]; decide) (by rw [h2]; decide) (by decide) ?_
        have hqf : q = (2, nI j, q.2.2.1, q.2.2.2.1, 0) := by have z1 := or4 h2; exact Prod.ext h2 (Prod.ext hqj (Prod.ext rfl (Prod.ext rfl z1)))
        refine lv_aload_n hx hb d_R_next_152 rfl (lv_at hl 3 rfl) ?_
        refine lv_iload_n hx hb d_R_next_153 rfl (lv_at hl 4 rfl) ?_
        refine lv_iload hx hb d_R_next_154 (lv_at hl 0 rfl) ?_
        refine lv_aload_n hx hb d_R_next_156 rfl (lv_at hl 3 rfl) ?_
        refine hp_get (v := .ref (ad 117)) hx hb hg in_R hown hK h he rfl 19 (by decide) (hg _ w563) (fun _ z => z) rfl d_R_next_157 ?_
        refine lv_iload_n hx hb d_R_next_160 rfl (lv_at hl 2 rfl) ?_
        refine hp_iald hx hb hK h 0 hg2 ht rfl (by omega) (by decide) d_R_next_161 ?_
        rw [show g2 (200 * v + fr v) = q.2.2.1 from hm2]
        refine lv_aload_n hx hb d_R_next_162 rfl (lv_at hl 3 rfl) ?_
        refine hp_get (v := .ref (ad 118)) hx hb hg in_R hown hK h he rfl 20 (by decide) (hg _ w564) (fun _ z => z) rfl d_R_next_163 ?_
        refine lv_iload_n hx hb d_R_next_166 rfl (lv_at hl 2 rfl) ?_
        refine hp_iald hx hb hK h 0 hg3 ht rfl (by omega) (by decide) d_R_next_167 ?_
        rw [show g3 (200 * v + fr v) = q.2.2.2.1 from hm3]
        have hS9 : k_first E S v = k_tst E (k_pop S v l9) v (2, nI j, q.2.2.1, q.2.2.2.1, 0) := by rw [← hqf, hfs]; unfold k_hand; rw [if_neg h0, if_neg h1, if_pos h2]
        refine hp_callv (hp_runV (As := [.int (nI v), .int (nI j), .int q.2.2.1, .int q.2.2.2.1]) (rest := []) ⟨hx, hb, hml, hown, hg⟩ (c_R_isTested l D tys de sa (v := v) (j := j) (w := q.2.2.1) (fg := q.2.2.2.1) ht ht3 hR hn7 hm12 hW hv hwn (fun i hi => by have := hlenp i hi; omega) hne hst (fun k hk hz => hendA k hk (Or.inl hz)) hasl hj hend1 (fun z => ok2 h2 (z.trans hqj.symm))) (cwV 4 hg (gw_V w683 w685 ws38 w7 w686) rfl rfl rfl (by decide +kernel) ⟨Nat.le_of_ble_eq_true rfl, Nat.le_of_ble_eq_true rfl⟩) (s_ok de sa) hK hX h he rfl rfl rfl hl.1 rfl (Nat.le_of_ble_eq_true rfl) d_R_next_168 ⟨Nat.le_of_ble_eq_true rfl, Nat.le_of_ble_eq_true rfl⟩) h (fun L2 f9 H locs hp h => ?_)
        refine lv_goto (tgt := 239) hx hb d_R_next_171 (by decide) ?_
        refine lv_iload_n hx hb d_R_next_239 rfl (lv_at hl 1 rfl) ?_
        exact hp_iret hx hb hr hlk h ⟨hfk.symm, by rw [hS9]; exact ⟨hp.1, hF.trans hp.2⟩⟩ (by omega) (by omega) d_R_next_240
      by_cases h3 : q.1 = 3
      · skip
        refine lv_tableIn (off := 106) (tgt := 174) hx hb d_R_next_68 (by rw [h3]; decide) (by rw [h3]; decide) (by rw [h3]; decide) (by decide) ?_
        have hS9 : k_first E S v = k_acc E (k_pop S v l9) v q := by rw [hfs]; unfold k_hand; rw [if_neg h0, if_neg h1, if_neg h2, if_pos h3]
        have he := hR.1
        obtain ⟨gw, hw, hw1⟩ := hR.2.2.1
        obtain ⟨gf7, hf7_, hf71⟩ := hR.2.2.2.2.1 7 (by decide)
        refine lv_aload_n hx hb d_R_next_174 rfl (lv_at hl 3 rfl) ?_
        refine hp_get (v := .ref (ad 111)) hx hb hg in_R hown hK h he rfl 13 (by decide) (hg _ w557) (fun _ z => z) rfl d_R_next_175 ?_
        refine lv_iload_n hx hb d_R_next_178 rfl (lv_at hl 4 rfl) ?_
        refine lv_iconst (v := (-1)) hx hb d_R_next_179 (by decide) ?_
        refine hp_iast hx hb hK h 0 hf7_ ht rfl (by omega) (by decide) d_R_next_180 (fun H locs f3 hf3 h => ?_)
        have he := he.ne' hf3 (kne (hT 100 (by omega) (by omega)) (hT 111 (by omega) (by omega)) (by decide))
        have hw := hw.ne' hf3 (kne (hT 102 (by omega) (by omega)) (hT 111 (by omega) (by omega)) (by decide))
        have hf7_ := hf7_.self' hf3
        have hR : kR cI cZ ad τ L f3 code E (k_fld (k_pop S v l9) v 7 (-1)) := hR.wF (f1 := f3) (k := 7) (x := v) (a := -1) (by decide) hf3 (k_col hf71)
        have hF := hF.trans (kFq.w (L := L) hf3 (hT 111 (by omega) (by omega)) (by omega) (by omega))
        refine lv_aload_n hx hb d_R_next_181 rfl (lv_at hl 3 rfl) ?_
        refine lv_iload_n hx hb d_R_next_182 rfl (lv_at hl 4 rfl) ?_
        refine lv_iload hx hb d_R_next_183 (lv_at hl 0 rfl) ?_
        refine lv_aload_n hx hb d_R_next_185 rfl (lv_at hl 3 rfl) ?_
        refine hp_get (v := .ref (ad 102)) hx hb hg in_R hown hK h he rfl 4 (by decide) (hg _ w548) (fun _ z => z) rfl d_R_next_186 ?_
        refine lv_iload hx hb d_R_next_189 (lv_at hl 0 rfl) ?_
        refine hp_iald hx hb hK h 0 hw ht rfl (by omega) (by decide) d_R_next_191 ?_
        rw [show gw j = E.2.2.2.2 j from hw1 j hj]
        refine hp_callv (hp_runV (As := [.int (nI v), .int (nI j), .int (E.2.2.2.2 j)]) (rest := []) ⟨hx, hb, hml, hown, hg⟩ (c_R_offer l D tys de sa (v := v) (e9 := nI j) (w := E.2.2.2.2 j) ht ht3 hR hn7 hm12 hv) (cwV 3 hg (gw_V w691 w693 ws40 w7 w694) rfl rfl rfl (by decide +kernel) ⟨Nat.le_of_ble_eq_true rfl, Nat.le_of_ble_eq_true rfl⟩) (s_ok de sa) hK hX h he rfl rfl rfl hl.1 rfl (Nat.le_of_ble_eq_true rfl) d_R_next_192 ⟨Nat.le_of_ble_eq_true rfl, Nat.le_of_ble_eq_true rfl⟩) h (fun L2 f9 H locs hp h => ?_)
        obtain ⟨hR, hF1⟩ := hp
        have hL2 := hF1.1
        dsimp only at hR hL2
        have hL2 := hL2.symm
        subst hL2
        have hF := hF.trans hF1
        have he := hR.1
        refine lv_aload_n hx hb d_R_next_195 rfl (lv_at hl 3 rfl) ?_
        refine lv_iload_n hx hb d_R_next_196 rfl (lv_at hl 4 rfl) ?_
        have hS8 : k_first E S v = k_report E (k_best (k_fld (k_pop S v l9) v 7 (-1)) v (nI j) (E.2.2.2.2 j)) v := by rw [hS9]; unfold k_acc; rw [hqj, kx_nI (by omega)]
        refine hp_callv (hp_runV (As := [.int (nI v)]) (rest := []) ⟨hx, hb, hml, hown, hg⟩ (c_R_report l D tys de sa (v := v) ht ht3 hR hn7 hm12 hW hv hwn (fun i hi => Nat.lt_of_le_of_lt (Nat.le_add_right _ 15) (hlenp i hi)) (by rw [k_best_ne (by decide) (by decide), k_fld_self]; exact Or.inl rfl) (fun _ _ => by obtain ⟨i, hi, hwj⟩ := ok3 (Or.inl h3); exact ⟨i, hi, (k_best_ne (by decide) (by decide)).trans ((k_fld_ne (by decide)).trans hwj)⟩)) (cwV 1 hg (gw_V w679 w681 ws37 w7 w682) rfl rfl rfl (by decide +kernel) ⟨Nat.le_of_ble_eq_true rfl, Nat.le_of_ble_eq_true rfl⟩) (s_ok de sa) hK hX h he rfl rfl rfl hl.1 rfl (Nat.le_of_ble_eq_true rfl) d_R_next_197 ⟨Nat.le_of_ble_eq_true rfl, Nat.le_of_ble_eq_true rfl⟩) h (fun L3 f8 H locs hp h => ?_)
        refine lv_goto (tgt := 239) hx hb d_R_next_200 (by decide) ?_
        refine lv_iload_n hx hb d_R_next_239 rfl (lv_at hl 1 rfl) ?_
        exact hp_iret hx hb hr hlk h ⟨hfk.symm, by rw [hS8]; exact ⟨hp.1, hF.trans hp.2⟩⟩ (by omega) (by omega) d_R_next_240
      by_cases h4 : q.1 = 4
      · skip
        refine lv_tableIn (off := 135) (tgt := 203) hx hb d_R_next_68 (by rw [h4]; decide) (by rw [h4]; decide) (by rw [h4]; decide) (by decide) ?_
        have hS9 : k_first E S v = k_rjt E (k_pop S v l9) v q := by rw [hfs]; unfold k_hand; rw [if_neg h0, if_neg h1, if_neg h2, if_neg h3, if_pos h4]
        refine lv_aload_n hx hb d_R_next_203 rfl (lv_at hl 3 rfl) ?_
        refine lv_iload_n hx hb d_R_next_204 rfl (lv_at hl 4 rfl) ?_
        refine lv_iload hx hb d_R_next_205 (lv_at hl 0 rfl) ?_
        refine hp_callv (hp_runV (As := [.int (nI v), .int (nI j)]) (rest := []) ⟨hx, hb, hml, hown, hg⟩ (c_R_reject l D tys de sa (v := v) (j := j) ht ht3 hR hn7 hm12 hW (by omega) hj hne hend1) (cwV 2 hg (gw_V w687 w689 ws39 w7 w690) rfl rfl rfl (by decide +kernel) ⟨Nat.le_of_ble_eq_true rfl, Nat.le_of_ble_eq_true rfl⟩) (s_ok de sa) hK hX h he rfl rfl rfl hl.1 rfl (Nat.le_of_ble_eq_true rfl) d_R_next_207 ⟨Nat.le_of_ble_eq_true rfl, Nat.le_of_ble_eq_true rfl⟩) h (fun L2 f9 H locs hp h => ?_)
        obtain ⟨hR, hF1⟩ := hp
        have hL2 := hF1.1
        dsimp only at hR hL2
        have hL2 := hL2.symm
        subst hL2
        have hF := hF.trans hF1
        have he := hR.1
        refine lv_aload_n hx hb d_R_next_210 rfl (lv_at hl 3 rfl) ?_
        refine lv_iload_n hx hb d_R_next_211 rfl (lv_at hl 4 rfl) ?_
        have hS8 : k_first E S v = k_test E (k_rej (k_pop S v l9) v j) v := by rw [hS9]; unfold k_rjt; rw [hqj, kx_nI (by omega)]
        have hrz : ∀ k, (k_rej (k_pop S v l9) v j).2.1 v k = 0 → S.2.1 v k = 0 := fun k hz => by
          have hz : kup S.2.1 v (if S.2.1 v j = 0 then upd (S.2.1 v) j 2 else S.2.1 v) v k = 0 := hz
          rw [kup_self] at hz
          split at hz
          · by_cases z : k = j
            · rw [z, pk_us] at hz; exact absurd hz (by decide)
            · rw [pk_un z] at hz; exact hz
          · exact hz
        refine hp_callv (hp_runV (As := [.int (nI v)]) (rest := []) ⟨hx, hb, hml, hown, hg⟩ (c_R_test l D tys de sa (v := v) ht ht3 hR hn7 hm12 hW hv hwn (fun i hi => Nat.lt_of_le_of_lt (Nat.le_add_right _ 15) (hlenp i hi)) (fun k hk hz => hendA k hk (Or.inl (hrz k hz))) (fun _ _ => ok3 (Or.inr h4))) (cwV 1 hg (gw_V w675 w677 ws36 w7 w678) rfl rfl rfl (by decide +kernel) ⟨Nat.le_of_ble_eq_true rfl, Nat.le_of_ble_eq_true rfl⟩) (s_ok de sa) hK hX h he rfl rfl rfl hl.1 rfl (Nat.le_of_ble_eq_true rfl) d_R_next_212 ⟨Nat.le_of_ble_eq_true rfl, Nat.le_of_ble_eq_true rfl⟩) h (fun L3 f8 H locs hp h => ?_)
        refine lv_goto (tgt := 239) hx hb d_R_next_215 (by decide) ?_
        refine lv_iload_n hx hb d_R_next_239 rfl (lv_at hl 1 rfl) ?_
        exact hp_iret hx hb hr hlk h ⟨hfk.symm, by rw [hS8]; exact ⟨hp.1, hF.trans hp.2⟩⟩ (by omega) (by omega) d_R_next_240
      by_cases h5 : q.1 = 5
      · skip
        refine lv_tableIn (off := 150) (tgt := 218) hx hb d_R_next_68 (by rw [h5]; decide) (by rw [h5]; decide) (by rw [h5]; decide) (by decide) ?_
        have hqf : q = (5, nI j, q.2.2.1, 0, 0) := by obtain ⟨z1, z2⟩ := or3 (Or.inr h5); exact Prod.ext h5 (Prod.ext hqj (Prod.ext rfl (Prod.ext z1 z2)))
        refine lv_aload_n hx hb d_R_next_218 rfl (lv_at hl 3 rfl) ?_
        refine lv_iload_n hx hb d_R_next_219 rfl (lv_at hl 4 rfl) ?_
        refine lv_iload hx hb d_R_next_220 (lv_at hl 0 rfl) ?_
        refine lv_aload_n hx hb d_R_next_222 rfl (lv_at hl 3 rfl) ?_
        refine hp_get (v := .ref (ad 117)) hx hb hg in_R hown hK h he rfl 19 (by decide) (hg _ w563) (fun _ z => z) rfl d_R_next_223 ?_
        refine lv_iload_n hx hb d_R_next_226 rfl (lv_at hl 2 rfl) ?_
        refine hp_iald hx hb hK h 0 hg2 ht rfl (by omega) (by decide) d_R_next_227 ?_
        rw [show g2 (200 * v + fr v) = q.2.2.1 from hm2]
        have hS9 : k_first E S v = k_rep E (k_pop S v l9) v (5, nI j, q.2.2.1, 0, 0) := by rw [← hqf, hfs]; unfold k_hand; rw [if_neg h0, if_neg h1, if_neg h2, if_neg h3, if_neg h4, if_pos h5]
        refine hp_callv (hp_runV (As := [.int (nI v), .int (nI j), .int q.2.2.1]) (rest := []) ⟨hx, hb, hml, hown, hg⟩ (c_R_reported l D tys de sa (v := v) (j := j) (w := q.2.2.1) ht ht3 hR hn7 hm12 hW hv hwn (fun i hi => by have := hlenp i hi; omega) hne hj h7 (fun z => (ok4 h5).1 (fun y => z (hqj.symm.trans y))) (fun z1 z2 z3 => by obtain ⟨i, hi, hbi⟩ := (ok4 h5).2 (hqj.trans z1) z2 z3; exact ⟨i, hi, hbi, or2 i hi hbi⟩)) (cwV 3 hg (gw_V w695 w697 ws41 w7 w698) rfl rfl rfl (by decide +kernel) ⟨Nat.le_of_ble_eq_true rfl, Nat.le_of_ble_eq_true rfl⟩) (s_ok de sa) hK hX h he rfl rfl rfl hl.1 rfl (Nat.le_of_ble_eq_true rfl) d_R_next_228 ⟨Nat.le_of_ble_eq_true rfl, Nat.le_of_ble_eq_true rfl⟩) h (fun L2 f9 H locs hp h => ?_)
        refine lv_goto (tgt := 239) hx hb d_R_next_231 (by decide) ?_
        refine lv_iload_n hx hb d_R_next_239 rfl (lv_at hl 1 rfl) ?_
        exact hp_iret hx hb hr hlk h ⟨hfk.symm, by rw [hS9]; exact ⟨hp.1, hF.trans hp.2⟩⟩ (by omega) (by omega) d_R_next_240
      refine lv_tableOut (tgt := 234) hx hb d_R_next_68 (tab6 h0 h1 h2 h3 h4 h5) (by decide) ?_
      obtain ⟨jb, hjb, hbj⟩ := ok5 h0 h1 h2 h3 h4 h5
      have hS9 : k_first E S v = k_move E (k_pop S v l9) v := by rw [hfs]; unfold k_hand; rw [if_neg h0, if_neg h1, if_neg h2, if_neg h3, if_neg h4, if_neg h5]
      refine lv_aload_n hx hb d_R_next_234 rfl (lv_at hl 3 rfl) ?_
      refine lv_iload_n hx hb d_R_next_235 rfl (lv_at hl 4 rfl) ?_
      refine hp_callv (hp_runV (As := [.int (nI v)]) (rest := []) ⟨hx, hb, hml, hown, hg⟩ (c_R_moveCore l D tys de sa (v := v) (j := jb) ht ht3 hR hn7 hm12 hW hv hwn (fun i hi => by have := hlenp i hi; omega) hne hjb hbj (or2 jb hjb hbj)) (cwV 1 hg (gw_V w699 w701 ws42 w7 w702) rfl rfl rfl (by decide +kernel) ⟨Nat.le_of_ble_eq_true rfl, Nat.le_of_ble_eq_true rfl⟩) (s_ok de sa) hK hX h he rfl rfl rfl hl.1 rfl (Nat.le_of_ble_eq_true rfl) d_R_next_236 ⟨Nat.le_of_ble_eq_true rfl, Nat.le_of_ble_eq_true rfl⟩) h (fun L2 f9 H locs hp h => ?_)
      refine lv_iload_n hx hb d_R_next_239 rfl (lv_at hl 1 rfl) ?_
      exact hp_iret hx hb hr hlk h ⟨hfk.symm, by rw [hS9]; exact ⟨hp.1, hF.trans hp.2⟩⟩ (by omega) (by omega) d_R_next_240
  · skip
    have hq : S.2.2.1 v = [] := by cases hq : S.2.2.1 v with
      | nil => rfl
      | cons q l9 => exact absurd hc (nI_ne0 (by rw [hq]; simp) (by have := hlen v hv; omega))
    refine lv_iconst (v := (-1)) hx hb d_R_next_9 (by decide) ?_
    exact hp_iret hx hb hr hlk h ⟨by unfold k_fk; rw [hq], by unfold k_first; rw [hq]; exact ⟨hR, kFq.rf⟩⟩ (by omega) (by omega) d_R_next_10
