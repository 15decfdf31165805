/-! MergingFragments(), by program (wip/mk17.py). -/
def kS0 : kS := (fun _ => kv0, fun _ _ => -1, fun _ => [], fun _ => 0, 0, 0, 0)
def kE0 : kE := (0, 0, fun _ => 0, fun _ => 0, fun _ => 0)
/-- one more node stands -/
theorem kH.add {i : Nat} {cI cO cN : ClassId} {de : Nat} {ad τ : Nat → Nat} {L L' : List Nat} {f f' : Nat → va_E} {q ma qa : Nat} {E : kE} {mo : Int32} {g : Nat → Option Nat} (h : kH i cI cO cN de ad τ L f E kS0) (hi : i < 7) (hL : ∀ b, b ∈ L → b ∈ L')
    (q1 : q ∉ L) (q2 : ma ∉ L) (q3 : qa ∉ L) (n1 : q ≠ ma) (n2 : q ≠ qa) (n3 : ma ≠ qa) (hq : hp_at L' f' q (kn i ma qa kv0)) (hm : kI cI 12 L' f' ma 12 (fun _ => -1)) (ha : hp_at L' f' qa (ka de 0 mo))
    (hg : hp_at L f (ad 1) (kar cN 7 g)) (hg1 : ∀ k, k < i → g k = some (ad (10 + k))) (hna : f' (ad 1) = kar cN 7 (va_up g i (some q))) (hf : ∀ b, b ∈ L → b ≠ ad 1 → f' b = f b) :
    ∃ ad' τ' : Nat → Nat, ad' 0 = ad 0 ∧ kH (i + 1) cI cO cN de ad' τ' L' f' E kS0 := by
  obtain ⟨h0, ⟨g0, h1, h1'⟩, h2, h3, h4, h5, h6, h7, ⟨t0, t1, t2, t3, t4⟩, t5, h8⟩ := h
  have hK7 := h8.2.2
  refine ⟨kup (kup (kup ad (10 + i) q) (20 + i) ma) (30 + i) qa, kup (kup (kup τ q (10 + i)) ma (20 + i)) qa (30 + i), ?_, ?_⟩
  · rw [kup_ne _ _ (by omega), kup_ne _ _ (by omega), kup_ne _ _ (by omega)]
  have A1 : ∀ k, k ≠ 10 + i → k ≠ 20 + i → k ≠ 30 + i → kup (kup (kup ad (10 + i) q) (20 + i) ma) (30 + i) qa k = ad k := fun k a1 a2 a3 => by rw [kup_ne _ _ a3, kup_ne _ _ a2, kup_ne _ _ a1]
  have T1 : ∀ b, b ∈ L → kup (kup (kup τ q (10 + i)) ma (20 + i)) qa (30 + i) b = τ b := fun b hb => by rw [kup_ne _ _ (show b ≠ qa from fun z => q3 (z ▸ hb)), kup_ne _ _ (show b ≠ ma from fun z => q2 (z ▸ hb)), kup_ne _ _ (show b ≠ q from fun z => q1 (z ▸ hb))]
  have tq : kup (kup (kup τ q (10 + i)) ma (20 + i)) qa (30 + i) q = 10 + i := by rw [kup_ne _ _ n2, kup_ne _ _ n1, kup_self]
  have tm : kup (kup (kup τ q (10 + i)) ma (20 + i)) qa (30 + i) ma = 20 + i := by rw [kup_ne _ _ n3, kup_self]
  have ta : kup (kup (kup τ q (10 + i)) ma (20 + i)) qa (30 + i) qa = 30 + i := kup_self _ _ _
  have B1 : kup (kup (kup ad (10 + i) q) (20 + i) ma) (30 + i) qa (10 + i) = q := by rw [kup_ne _ _ (by omega), kup_ne _ _ (by omega), kup_self]
  have B2 : kup (kup (kup ad (10 + i) q) (20 + i) ma) (30 + i) qa (20 + i) = ma := by rw [kup_ne _ _ (by omega), kup_self]
  have B3 : kup (kup (kup ad (10 + i) q) (20 + i) ma) (30 + i) qa (30 + i) = qa := kup_self _ _ _
  generalize kup (kup (kup ad (10 + i) q) (20 + i) ma) (30 + i) qa = ad' at A1 B1 B2 B3 ⊢
  generalize kup (kup (kup τ q (10 + i)) ma (20 + i)) qa (30 + i) = τ' at T1 tq tm ta ⊢
  have e0 : ad' 0 = ad 0 := A1 0 (by omega) (by omega) (by omega)
  have e1 : ad' 1 = ad 1 := A1 1 (by omega) (by omega) (by omega)
  have e2 : ad' 2 = ad 2 := A1 2 (by omega) (by omega) (by omega)
  have e3 : ad' 3 = ad 3 := A1 3 (by omega) (by omega) (by omega)
  have e4 : ad' 4 = ad 4 := A1 4 (by omega) (by omega) (by omega)
  have o : ∀ {b : Nat} {e : va_E}, hp_at L f b e → τ b ≠ 1 → hp_at L' f' b e := fun hb ht => ⟨hL _ hb.1, (hf _ hb.1 (fun z => ht (by rw [z]; exact t1))).trans hb.2⟩
  have J : ∀ k, k < i → ad' (10 + k) = ad (10 + k) ∧ ad' (20 + k) = ad (20 + k) ∧ ad' (30 + k) = ad (30 + k) := fun k hk => ⟨A1 _ (by omega) (by omega) (by omega), A1 _ (by omega) (by omega) (by omega), A1 _ (by omega) (by omega) (by omega)⟩
  have x1 := h0.1
  have x2 := hg.1
  obtain ⟨g2, k2, k2'⟩ := h2
  obtain ⟨g3, k3, k3'⟩ := h3
  obtain ⟨g4, k4, k4'⟩ := h4
  refine ⟨?_, ⟨va_up g i (some q), by rw [e1]; exact ⟨hL _ x2, hna⟩, fun k hk => ?_⟩, by rw [e2]; exact ⟨g2, o k2 (by omega), k2'⟩, by rw [e3]; exact ⟨g3, o k3 (by omega), k3'⟩, by rw [e4]; exact ⟨g4, o k4 (by omega), k4'⟩, fun k hk => ?_, fun k hk => ?_, fun k hk => ?_, ⟨by rw [e0, T1 _ x1]; exact t0, by rw [e1, T1 _ x2]; exact t1, by rw [e2, T1 _ k2.1]; exact t2, by rw [e3, T1 _ k3.1]; exact t3, by rw [e4, T1 _ k4.1]; exact t4⟩, fun k hk => ?_, h8.1, h8.2.1, hi⟩
  · rw [e0]
    unfold kg
    rw [e1, e2, e3, e4]
    exact o h0 (by omega)
  · by_cases hki : k = i
    · subst hki; rw [B1, va_up_self]
    · rw [va_up_ne _ _ hki, (J k (by omega)).1]; exact hg1 k (by omega)
  · by_cases hki : k = i
    · subst hki; rw [B1, B2, B3]; exact hq
    · have j := J k (by omega)
      rw [j.1, j.2.1, j.2.2]
      exact o (h5 k (by omega)) (by have := t5 k (by omega); omega)
  · by_cases hki : k = i
    · subst hki; rw [B2]; exact hm
    · rw [(J k (by omega)).2.1]
      exact (h6 k (by omega)).go (fun e he => o he (by have := t5 k (by omega); omega))
  · by_cases hki : k = i
    · subst hki
      exact ⟨de, mo, by rw [B3]; exact ha, Or.inl ⟨rfl, rfl, rfl⟩⟩
    · obtain ⟨ea1, mo1, z1, z2⟩ := h7 k (by omega)
      refine ⟨ea1, mo1, by rw [(J k (by omega)).2.2]; exact o z1 (by have := t5 k (by omega); omega), ?_⟩
      rcases z2 with z2 | ⟨a1, a2, a3, gg, a4, a5⟩
      · exact Or.inl z2
      · refine Or.inr ⟨by rw [T1 _ a4.1]; exact a1, a2, a3, gg, o a4 (by omega), fun kk x hx => ?_⟩
        obtain ⟨b, c1, c2, c3⟩ := a5 kk x hx
        exact ⟨b, c1, by rw [T1 _ c3.1]; exact c2, o c3 (by omega)⟩
  · by_cases hki : k = i
    · subst hki; rw [B1, B2, B3]; exact ⟨tq, tm, ta⟩
    · have j := J k (by omega)
      have t := t5 k (by omega)
      obtain ⟨gg, z1, -⟩ := h6 k (by omega)
      obtain ⟨ea1, mo1, z2, -⟩ := h7 k (by omega)
      rw [j.1, j.2.1, j.2.2, T1 _ (h5 k (by omega)).1, T1 _ z1.1, T1 _ z2.1]
      exact t
set_option maxHeartbeats 4000000 in
set_option maxRecDepth 100000 in
theorem c_G_init (l : Launch) (D : va_G) (tys : List (ClassId × FieldType)) (de : Nat) (sa : Nat → Nat) {L : List Nat} {f : Nat → va_E} {a : Nat} {cI cO cN : ClassId} (ht : tys[0]? = some (cI, .int)) (ht1 : tys[1]? = some (cO, .object "java/lang/Object")) (ht2 : tys[2]? = some (cN, .object "MergingFragments$Node")) (he : hp_at L f a (.inr (0, [.null, .null, .null, .null, .int 0, .int 0, .int 0]))) : hp_Mv l y_G_init (gw_ws y_G_init b_G_init 2 none) { frames := 5, cells := 25, slots := 232, locals := 96 } D kc tys (s_X de sa) [.ref a] L f (fun u : hp_U => ∃ ad τ : Nat → Nat, ad 0 = a ∧ kG cI cO cN de ad τ u.1 u.2 kE0 kS0) 25 232 := by
  refine hp_ofW (Qc := fun A => va_Qv (fun u : hp_U => ∃ ad τ : Nat → Nat, ad 0 = a ∧ kG cI cO cN de ad τ u.1 u.2 kE0 kS0) (hp_B D kc A) A) (fr := fun A => A) (ret := none) (by decide) rfl (Nat.le_of_ble_eq_true rfl) ?_
  intro p e s m below meth c ls A hx hb hml hr hts hown hlk hnm hl hK hX h
  have hg : ∀ w ∈ gw, w.before _ s = true := fun w hw => hts w (List.mem_cons_of_mem _ hw)
  have hown : s.vm.findClass "MergingFragments" = some m.cls := hown
  have hnm : meth.name = "<init>" := hnm
  have hl : lv_has ls 2 [(0, .ref a)] := hl
  refine lv_aload_n hx hb d_G_init_0 rfl (lv_at hl 0 rfl) ?_
  refine W.objInit hx hb hown (hg _ w26) (hg _ w27) (hg _ w28) rfl (by rw [hml]; exact hl.1) rfl d_G_init_1 (Nat.le_of_ble_eq_true rfl) (Nat.le_of_ble_eq_true rfl) ?_
  refine W.eq (g2 := F0 m 4 ls []) rfl ?_
  refine lv_aload_n hx hb d_G_init_4 rfl (lv_at hl 0 rfl) ?_
  refine lv_bipush (v := 7) hx hb d_G_init_5 (by decide) ?_
  refine hp_newq (N' := 7) hx hb hown (hg _ w29) (s_Nw hX n30) hK h 2 ht2 (by decide) (by decide) (by decide) (Nat.le_of_ble_eq_true rfl) (Nat.le_of_ble_eq_true rfl) d_G_init_7 (fun na H L1 f1 hq_na hL1 hf1 h => ?_)
  have ne_a_na : a ≠ na := fun z => hq_na (z ▸ he.1)
  have he := he.push' hL1 hf1 hq_na
  have hn := hp_at.new' hL1 hf1
  refine hp_putF (ty := (.array (.object "MergingFragments$Node"))) (v := .ref na) (fs' := [.ref na, .null, .null, .null, .int 0, .int 0, .int 0]) hx hb hg in_G t_G t_G_ok n_G hown hK h he rfl 0 (by decide) (hg _ w127) (fun _ z => z) rfl hnm rfl (by decide +kernel) rfl rfl (Nat.le_of_ble_eq_true rfl) rfl d_G_init_10 (fun H locs f2 hf2 h => ?_)
  have he := he.self' hf2
  have hn := hn.ne' hf2 (Ne.symm ne_a_na)
  refine lv_aload_n hx hb d_G_init_13 rfl (lv_at hl 0 rfl) ?_
  refine lv_bipush (v := 12) hx hb d_G_init_14 (by decide) ?_
  refine hp_newa (atype := .int) (ty := .int) (N' := 12) (a0 := (12, .inl (fun _ => 0))) hx hb (hg _ w62) rfl hK h 0 ht (fun cA => rfl) (by decide) (by decide) (by decide) (Nat.le_of_ble_eq_true rfl) (Nat.le_of_ble_eq_true rfl) d_G_init_16 (fun oa H L3 f3 hq_oa hL3 hf3 h => ?_)
  have ne_a_oa : a ≠ oa := fun z => hq_oa (z ▸ he.1)
  have he := he.push' hL3 hf3 hq_oa
  have ne_na_oa : na ≠ oa := fun z => hq_oa (z ▸ hn.1)
  have hn := hn.push' hL3 hf3 hq_oa
  have ho := hp_at.new' hL3 hf3
  refine hp_putF (ty := (.array .int)) (v := .ref oa) (fs' := [.ref na, .ref oa, .null, .null, .int 0, .int 0, .int 0]) hx hb hg in_G t_G t_G_ok n_G hown hK h he rfl 1 (by decide) (hg _ w128) (fun _ z => z) rfl hnm rfl (by decide +kernel) rfl rfl (Nat.le_of_ble_eq_true rfl) rfl d_G_init_18 (fun H locs f4 hf4 h => ?_)
  have he := he.self' hf4
  have hn := hn.ne' hf4 (Ne.symm ne_a_na)
  have ho := ho.ne' hf4 (Ne.symm ne_a_oa)
  refine lv_aload_n hx hb d_G_init_21 rfl (lv_at hl 0 rfl) ?_
  refine lv_bipush (v := 12) hx hb d_G_init_22 (by decide) ?_
  refine hp_newa (atype := .int) (ty := .int) (N' := 12) (a0 := (12, .inl (fun _ => 0))) hx hb (hg _ w62) rfl hK h 0 ht (fun cA => rfl) (by decide) (by decide) (by decide) (Nat.le_of_ble_eq_true rfl) (Nat.le_of_ble_eq_true rfl) d_G_init_24 (fun ta H L5 f5 hq_ta hL5 hf5 h => ?_)
  have ne_a_ta : a ≠ ta := fun z => hq_ta (z ▸ he.1)
  have he := he.push' hL5 hf5 hq_ta
  have ne_na_ta : na ≠ ta := fun z => hq_ta (z ▸ hn.1)
  have hn := hn.push' hL5 hf5 hq_ta
  have ne_oa_ta : oa ≠ ta := fun z => hq_ta (z ▸ ho.1)
  have ho := ho.push' hL5 hf5 hq_ta
  have hta := hp_at.new' hL5 hf5
  refine hp_putF (ty := (.array .int)) (v := .ref ta) (fs' := [.ref na, .ref oa, .ref ta, .null, .int 0, .int 0, .int 0]) hx hb hg in_G t_G t_G_ok n_G hown hK h he rfl 2 (by decide) (hg _ w129) (fun _ z => z) rfl hnm rfl (by decide +kernel) rfl rfl (Nat.le_of_ble_eq_true rfl) rfl d_G_init_26 (fun H locs f6 hf6 h => ?_)
  have he := he.self' hf6
  have hn := hn.ne' hf6 (Ne.symm ne_a_na)
  have ho := ho.ne' hf6 (Ne.symm ne_a_oa)
  have hta := hta.ne' hf6 (Ne.symm ne_a_ta)
  refine lv_aload_n hx hb d_G_init_29 rfl (lv_at hl 0 rfl) ?_
  refine lv_bipush (v := 12) hx hb d_G_init_30 (by decide) ?_
  refine hp_newa (atype := .int) (ty := .int) (N' := 12) (a0 := (12, .inl (fun _ => 0))) hx hb (hg _ w62) rfl hK h 0 ht (fun cA => rfl) (by decide) (by decide) (by decide) (Nat.le_of_ble_eq_true rfl) (Nat.le_of_ble_eq_true rfl) d_G_init_32 (fun wa H L7 f7 hq_wa hL7 hf7 h => ?_)
  have ne_a_wa : a ≠ wa := fun z => hq_wa (z ▸ he.1)
  have he := he.push' hL7 hf7 hq_wa
  have ne_na_wa : na ≠ wa := fun z => hq_wa (z ▸ hn.1)
  have hn := hn.push' hL7 hf7 hq_wa
  have ne_oa_wa : oa ≠ wa := fun z => hq_wa (z ▸ ho.1)
  have ho := ho.push' hL7 hf7 hq_wa
  have ne_ta_wa : ta ≠ wa := fun z => hq_wa (z ▸ hta.1)
  have hta := hta.push' hL7 hf7 hq_wa
  have hw := hp_at.new' hL7 hf7
  refine hp_putF (ty := (.array .int)) (v := .ref wa) (fs' := [.ref na, .ref oa, .ref ta, .ref wa, .int 0, .int 0, .int 0]) hx hb hg in_G t_G t_G_ok n_G hown hK h he rfl 3 (by decide) (hg _ w130) (fun _ z => z) rfl hnm rfl (by decide +kernel) rfl rfl (Nat.le_of_ble_eq_true rfl) rfl d_G_init_34 (fun H locs f8 hf8 h => ?_)
  have he := he.self' hf8
  have hn := hn.ne' hf8 (Ne.symm ne_a_na)
  have ho := ho.ne' hf8 (Ne.symm ne_a_oa)
  have hta := hta.ne' hf8 (Ne.symm ne_a_ta)
  have hw := hw.ne' hf8 (Ne.symm ne_a_wa)
  refine lv_aload_n hx hb d_G_init_37 rfl (lv_at hl 0 rfl) ?_
  refine lv_iconst (v := 0) hx hb d_G_init_38 (by decide) ?_
  refine hp_put (ty := .int) (v := .int 0) (fs' := [.ref na, .ref oa, .ref ta, .ref wa, .int 0, .int 0, .int 0]) hx hb hg in_G t_G t_G_ok n_G hown hK h he rfl 4 (by decide) (hg _ w131) (fun _ z => z) rfl (by decide +kernel) rfl rfl (Nat.le_of_ble_eq_true rfl) rfl d_G_init_39 (fun H locs f9 hf9 h => ?_)
  have he := he.self' hf9
  have hn := hn.ne' hf9 (Ne.symm ne_a_na)
  have ho := ho.ne' hf9 (Ne.symm ne_a_oa)
  have hta := hta.ne' hf9 (Ne.symm ne_a_ta)
  have hw := hw.ne' hf9 (Ne.symm ne_a_wa)
  refine lv_aload_n hx hb d_G_init_42 rfl (lv_at hl 0 rfl) ?_
  refine lv_iconst (v := 0) hx hb d_G_init_43 (by decide) ?_
  refine hp_put (ty := .int) (v := .int 0) (fs' := [.ref na, .ref oa, .ref ta, .ref wa, .int 0, .int 0, .int 0]) hx hb hg in_G t_G t_G_ok n_G hown hK h he rfl 5 (by decide) (hg _ w132) (fun _ z => z) rfl (by decide +kernel) rfl rfl (Nat.le_of_ble_eq_true rfl) rfl d_G_init_44 (fun H locs f10 hf10 h => ?_)
  have he := he.self' hf10
  have hn := hn.ne' hf10 (Ne.symm ne_a_na)
  have ho := ho.ne' hf10 (Ne.symm ne_a_oa)
  have hta := hta.ne' hf10 (Ne.symm ne_a_ta)
  have hw := hw.ne' hf10 (Ne.symm ne_a_wa)
  refine lv_aload_n hx hb d_G_init_47 rfl (lv_at hl 0 rfl) ?_
  refine lv_iconst (v := 0) hx hb d_G_init_48 (by decide) ?_
  refine hp_put (ty := .int) (v := .int 0) (fs' := [.ref na, .ref oa, .ref ta, .ref wa, .int 0, .int 0, .int 0]) hx hb hg in_G t_G t_G_ok n_G hown hK h he rfl 6 (by decide) (hg _ w133) (fun _ z => z) rfl (by decide +kernel) rfl rfl (Nat.le_of_ble_eq_true rfl) rfl d_G_init_49 (fun H locs f11 hf11 h => ?_)
  have he := he.self' hf11
  have hn := hn.ne' hf11 (Ne.symm ne_a_na)
  have ho := ho.ne' hf11 (Ne.symm ne_a_oa)
  have hta := hta.ne' hf11 (Ne.symm ne_a_ta)
  have hw := hw.ne' hf11 (Ne.symm ne_a_wa)
  refine lv_iconst (v := 0) hx hb d_G_init_52 (by decide) ?_
  refine lv_istore_n (lv' := [(1, .int 0), (0, .ref a)]) hx hb d_G_init_53 rfl hl (by decide) rfl (fun ls hl => ?_)
  have hH0 : kH 0 cI cO cN de (kup (kup (kup (kup (fun _ => a) 1 na) 2 oa) 3 ta) 4 wa) (kup (kup (kup (kup (fun _ => 0) na 1) oa 2) ta 3) wa 4) L7 f11 kE0 kS0 := by
    refine ⟨he, ⟨_, hn, fun i hi => absurd hi (by omega)⟩, ⟨_, ho, fun j hj => absurd hj (Nat.not_lt_zero _)⟩, ⟨_, hta, fun j hj => absurd hj (Nat.not_lt_zero _)⟩, ⟨_, hw, fun j hj => absurd hj (Nat.not_lt_zero _)⟩, fun i hi => absurd hi (by omega), fun i hi => absurd hi (by omega), fun i hi => absurd hi (by omega), ?_, fun i hi => absurd hi (by omega), by decide, by decide, by omega⟩
    have := ne_a_na; have := ne_a_oa; have := ne_a_ta; have := ne_a_wa; have := ne_na_oa; have := ne_na_ta; have := ne_na_wa; have := ne_oa_ta; have := ne_oa_wa; have := ne_ta_wa
    simp_all [kup]
  have key : ∀ (k i : Nat) (L : List Nat) (f : Nat → va_E) (ad τ : Nat → Nat) (H : Heap) (locs : List Loc) (ls : Array Slot) (cx sx : Nat), i + k = 7 → cx = 4 + 3 * i → sx = 43 + 27 * i → ad 0 = a → lv_has ls 2 [(1, .int (nI i)), (0, .ref a)] → kH i cI cO cN de ad τ L f kE0 kS0 → hp_W D kc A s.heap L f H locs → W p l e { frames := 5, cells := 25, slots := 232, locals := 96 } s m ([.ref a] : List Value).toArray below meth c H locs cx sx (MQ below (va_Qv (fun u : hp_U => ∃ ad τ : Nat → Nat, ad 0 = a ∧ kG cI cO cN de ad τ u.1 u.2 kE0 kS0) (hp_B D kc A) A) ([.ref a] : List Value).toArray s 25 232 A) (F0 m 54 ls []) := by
    intro k
    induction k with
    | zero =>
      intro i L f ad τ H locs ls cx sx hik hcx hsx ha hl hH h
      refine lv_iload_n hx hb d_G_init_54 rfl (lv_at hl 0 rfl) ?_
      refine lv_bipush (v := 7) hx hb d_G_init_55 (by decide) ?_
      refine lv_icmp_ge (tgt := 80) hx hb d_G_init_57 (by decide) (fun hc => ?_) (fun hc => ?_)
      · skip
        have hi7 : i = 7 := by omega
        subst hi7
        exact hp_vret hx hb hr hlk h ⟨ad, τ, ha, hH⟩ (by omega) (by omega) d_G_init_80
      · skip
        exact absurd (show (7 : Int32) ≤ nI i from nI_le (a := 7) (by omega) (by omega)) hc
    | succ k ih =>
      intro i L f ad τ H locs ls cx sx hik hcx hsx ha hl hH h
      refine lv_iload_n hx hb d_G_init_54 rfl (lv_at hl 0 rfl) ?_
      refine lv_bipush (v := 7) hx hb d_G_init_55 (by decide) ?_
      refine lv_icmp_ge (tgt := 80) hx hb d_G_init_57 (by decide) (fun hc => ?_) (fun hc => ?_)
      · skip
        exact absurd hc (nI_ge (b := 7) (by omega) (by decide))
      · skip
        have hi7 : i < 7 := by omega
        subst ha
        obtain ⟨g, hn, hg1⟩ := hH.2.1
        have hn0 := hn
        have he := hH.1
        have ne0 : ad 0 ≠ ad 1 := kne hH.2.2.2.2.2.2.2.2.1.1 hH.2.2.2.2.2.2.2.2.1.2.1 (by decide)
        refine lv_aload_n hx hb d_G_init_60 rfl (lv_at hl 1 rfl) ?_
        refine hp_get (v := .ref (ad 1)) hx hb hg in_G hown hK h he rfl 0 (by decide) (hg _ w127) (fun _ z => z) rfl d_G_init_61 ?_
        refine lv_iload_n hx hb d_G_init_64 rfl (lv_at hl 0 rfl) ?_
        refine hp_new (ci := 1) (fs := [.int 0, .null, .null, .int 0, .int 0, .int 0, .int 0, .int 0, .int 0, .int 0, .int 0, .int 0]) hx hb hg in_N t_N t_N_ok hown (hg _ w29) (hg _ w31) (hg _ w2) hK h rfl (fun j hj => by rcases (show j = 0 ∨ j = 1 ∨ j = 2 ∨ j = 3 ∨ j = 4 ∨ j = 5 ∨ j = 6 ∨ j = 7 ∨ j = 8 ∨ j = 9 ∨ j = 10 ∨ j = 11 by omega) with rfl | rfl | rfl | rfl | rfl | rfl | rfl | rfl | rfl | rfl | rfl | rfl <;> rfl) (by dsimp only; omega) (by dsimp only; omega) d_G_init_65 (fun q H L1 f1 hq_q hL1 hf1 h => ?_)
        have ne__ad_0__q : (ad 0) ≠ q := fun z => hq_q (z ▸ he.1)
        have he := he.push' hL1 hf1 hq_q
        have ne__ad_1__q : (ad 1) ≠ q := fun z => hq_q (z ▸ hn.1)
        have hn := hn.push' hL1 hf1 hq_q
        have hq0 := hp_at.new' hL1 hf1
        refine lv_dup hx hb d_G_init_68 rfl ?_
        refine lv_iload_n hx hb d_G_init_69 rfl (lv_at hl 0 rfl) ?_
        have hn1 := hn
        refine hp_callv (hp_runIN (As := [.int (nI i)]) (rest := [.ref q, .int (nI i), .ref (ad 1)]) ⟨hx, hb, hml, hown, hg⟩ (c_N_init l D tys de sa (i := i) ht ht1 hq0) ⟨va_cnB 1 hg (gw_code w34) rfl rfl rfl (s_Nw hX n32) (hg _ w2) (by decide +kernel) ⟨Nat.le_of_ble_eq_true rfl, Nat.le_of_ble_eq_true rfl⟩, rfl, hg _ w33⟩ (s_ok de sa) hK hX h rfl hl.1 rfl (Nat.le_of_ble_eq_true rfl) d_G_init_70 ⟨by dsimp only; omega, by dsimp only; omega⟩) h (fun Lx fx H locs hp h => ?_)
        obtain ⟨ma, qa, m1, m2, m3, hLx, b1, b2, b3, b4⟩ := hp
        dsimp only at hLx b1 b2 b3 b4
        have hin : ∀ b, b ∈ L1 → b ∈ Lx := fun b hb => by rw [hLx]; exact List.mem_append_left _ (List.mem_append_left _ hb)
        have hmo : ma ∈ Lx := by rw [hLx]; exact List.mem_append_left _ (List.mem_append_right _ (List.mem_singleton.mpr rfl))
        have hqo : qa ∈ Lx := by rw [hLx]; exact List.mem_append_right _ (List.mem_singleton.mpr rfl)
        have hq1 : hp_at Lx fx q (kn i ma qa kv0) := ⟨hin _ hq0.1, b1⟩
        have ok1 : ∀ {b : Nat} {e : va_E}, hp_at L1 f1 b e → b ≠ q → hp_at Lx fx b e := fun {b e} hb hne => ⟨hin _ hb.1, (b4 b hne (fun z => m1 (z ▸ hb.1)) (fun z => m2 (z ▸ hb.1))).trans hb.2⟩
        have hn := ok1 hn ne__ad_1__q
        have nmq : q ≠ ma := fun z => m1 (z ▸ hq0.1)
        have nqq : q ≠ qa := fun z => m2 (z ▸ hq0.1)
        have nmn : ad 1 ≠ ma := fun z => m1 (z ▸ hn1.1)
        have nqn : ad 1 ≠ qa := fun z => m2 (z ▸ hn1.1)
        refine hp_aast hx hb hK h 2 (ci := 1) hn ht2 hq1 rfl rfl hi7 (by decide) d_G_init_73 (fun H locs f3 hf3 h => ?_)
        have hold : ∀ b, b ∈ L → b ∈ L1 := fun b hb => by rw [hL1]; exact List.mem_append_left _ hb
        obtain ⟨ad2, τ2, ha2, hH2⟩ := kH.add (L' := Lx) (f' := f3) (q := q) (ma := ma) (qa := qa) (mo := 1) hH hi7 (fun b hb => hin b (hold b hb)) hq_q (fun z => m1 (hold _ z)) (fun z => m2 (hold _ z)) nmq nqq m3 (hq1.ne' hf3 (Ne.symm ne__ad_1__q)) (by obtain ⟨g9, c1, c2⟩ := b2; exact ⟨g9, hp_at.ne' hf3 ⟨hmo, c1⟩ (Ne.symm nmn), c2⟩) (hp_at.ne' hf3 ⟨hqo, b3⟩ (Ne.symm nqn)) hn0 hg1 (by rw [hf3, va_up_self]) (fun b hb hbn => by
          have hbq : b ≠ q := fun z => hq_q (z ▸ hb)
          rw [hf3, va_up_ne _ _ hbn, b4 b hbq (fun z => m1 (z ▸ hold _ hb)) (fun z => m2 (z ▸ hold _ hb)), hf1, va_up_ne _ _ hbq])
        refine lv_iinc (k := 0) (v := (nI (i + 1))) (lv' := [(1, .int (nI (i + 1))), (0, .ref (ad 0))]) hx hb d_G_init_74 hl rfl (hp_inc i 1) (by decide) rfl (fun ls hl => ?_)
        refine lv_goto (tgt := 54) hx hb d_G_init_77 (by decide) ?_
        exact ih (i + 1) Lx f3 ad2 τ2 H locs ls _ _ (by omega) (by omega) (by omega) ha2 hl hH2 h
  have hl0 : lv_has ls 2 [(1, .int (nI 0)), (0, .ref a)] := by rw [nI_0]; exact lv_sub hl [0, 1] rfl
  exact key 7 0 _ _ _ _ _ _ ls _ _ (by omega) (by omega) (by omega) rfl hl0 hH0 h
