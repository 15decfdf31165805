/-! edge, by program (wip/mk37.py). -/
theorem kup9 {α : Type} {F : α → Int32} {g : Nat → Int32} {z : Nat → α} {m : Nat} {x : α} (h : ∀ j, j < m → g j = F (z j)) : ∀ j, j < m + 1 → upd g m (F x) j = F (kup z m x j) := by
  intro j hj
  by_cases e : j = m
  · subst e; rw [pk_us, kup_self]
  · rw [pk_un e, kup_ne _ _ e]; exact h j (by omega)
theorem kup8 {g z : Nat → Int32} {m : Nat} {x : Int32} (h : ∀ j, j < m → g j = z j) : ∀ j, j < m → upd g m x j = z j := by
  intro j hj
  rw [pk_un (by omega)]
  exact h j hj
/-- a row of the edges is written behind the last edge -/
theorem kH.wA2 {K : Nat} {cI cO cN : ClassId} {de : Nat} {ad τ : Nat → Nat} {L : List Nat} {f f1 : Nat → va_E} {E : kE} {S : kS} {g' : Nat → Int32} (h : kH K cI cO cN de ad τ L f E S) (hf : f1 = va_up f (ad 2) (kai cI 12 g')) (hz : ∀ j, j < E.2.1 → g' j = nI (E.2.2.1 j)) : kH K cI cO cN de ad τ L f1 E S := by
  obtain ⟨h0, ⟨g, h1, h1'⟩, h2, h3, h4, h5, h6, h7, ⟨t0, t1, t2, t3, t4⟩, t5, h8⟩ := h
  have hK7 := h8.2.2
  have o : ∀ {b : Nat} {e : va_E}, hp_at L f b e → τ b ≠ 2 → hp_at L f1 b e := fun hb ht => hb.tag hf t2 ht
  refine ⟨o h0 (by omega), ⟨g, o h1 (by omega), h1'⟩, ?_, h3.go (fun e he => o he (by omega)), h4.go (fun e he => o he (by omega)), fun i hi => o (h5 i hi) (by have := t5 i hi; omega), fun i hi => (h6 i hi).go (fun e he => o he (by have := t5 i hi; omega)), fun i hi => (h7 i hi).go (fun b e hb he => ⟨o he (by have := t5 i hi; rcases hb with rfl | hb | hb <;> omega), rfl⟩), ⟨t0, t1, t2, t3, t4⟩, t5, h8⟩
  obtain ⟨g0, k1, -⟩ := h2
  exact ⟨g', k1.self' hf, hz⟩
/-- a row of the edges is written behind the last edge -/
theorem kH.wA3 {K : Nat} {cI cO cN : ClassId} {de : Nat} {ad τ : Nat → Nat} {L : List Nat} {f f1 : Nat → va_E} {E : kE} {S : kS} {g' : Nat → Int32} (h : kH K cI cO cN de ad τ L f E S) (hf : f1 = va_up f (ad 3) (kai cI 12 g')) (hz : ∀ j, j < E.2.1 → g' j = nI (E.2.2.2.1 j)) : kH K cI cO cN de ad τ L f1 E S := by
  obtain ⟨h0, ⟨g, h1, h1'⟩, h2, h3, h4, h5, h6, h7, ⟨t0, t1, t2, t3, t4⟩, t5, h8⟩ := h
  have hK7 := h8.2.2
  have o : ∀ {b : Nat} {e : va_E}, hp_at L f b e → τ b ≠ 3 → hp_at L f1 b e := fun hb ht => hb.tag hf t3 ht
  refine ⟨o h0 (by omega), ⟨g, o h1 (by omega), h1'⟩, h2.go (fun e he => o he (by omega)), ?_, h4.go (fun e he => o he (by omega)), fun i hi => o (h5 i hi) (by have := t5 i hi; omega), fun i hi => (h6 i hi).go (fun e he => o he (by have := t5 i hi; omega)), fun i hi => (h7 i hi).go (fun b e hb he => ⟨o he (by have := t5 i hi; rcases hb with rfl | hb | hb <;> omega), rfl⟩), ⟨t0, t1, t2, t3, t4⟩, t5, h8⟩
  obtain ⟨g0, k1, -⟩ := h3
  exact ⟨g', k1.self' hf, hz⟩
/-- a row of the edges is written behind the last edge -/
theorem kH.wA4 {K : Nat} {cI cO cN : ClassId} {de : Nat} {ad τ : Nat → Nat} {L : List Nat} {f f1 : Nat → va_E} {E : kE} {S : kS} {g' : Nat → Int32} (h : kH K cI cO cN de ad τ L f E S) (hf : f1 = va_up f (ad 4) (kai cI 12 g')) (hz : ∀ j, j < E.2.1 → g' j = E.2.2.2.2 j) : kH K cI cO cN de ad τ L f1 E S := by
  obtain ⟨h0, ⟨g, h1, h1'⟩, h2, h3, h4, h5, h6, h7, ⟨t0, t1, t2, t3, t4⟩, t5, h8⟩ := h
  have hK7 := h8.2.2
  have o : ∀ {b : Nat} {e : va_E}, hp_at L f b e → τ b ≠ 4 → hp_at L f1 b e := fun hb ht => hb.tag hf t4 ht
  refine ⟨o h0 (by omega), ⟨g, o h1 (by omega), h1'⟩, h2.go (fun e he => o he (by omega)), h3.go (fun e he => o he (by omega)), ?_, fun i hi => o (h5 i hi) (by have := t5 i hi; omega), fun i hi => (h6 i hi).go (fun e he => o he (by have := t5 i hi; omega)), fun i hi => (h7 i hi).go (fun b e hb he => ⟨o he (by have := t5 i hi; rcases hb with rfl | hb | hb <;> omega), rfl⟩), ⟨t0, t1, t2, t3, t4⟩, t5, h8⟩
  obtain ⟨g0, k1, -⟩ := h4
  exact ⟨g', k1.self' hf, hz⟩
/-- one edge more -/
theorem kH.grow {K : Nat} {cI cO cN : ClassId} {de : Nat} {ad τ : Nat → Nat} {L : List Nat} {f f1 : Nat → va_E} {E : kE} {S : kS} {m : Nat} {e1 e2 : Nat → Nat} {w : Nat → Int32} (h : kH K cI cO cN de ad τ L f E S) (hm : m ≤ 12) (hO : kI cI 12 L f (ad 2) m (fun j => nI (e1 j))) (hT : kI cI 12 L f (ad 3) m (fun j => nI (e2 j))) (hW : kI cI 12 L f (ad 4) m w) (hf : f1 = va_up f (ad 0) (kg ad (nI E.1) (nI m) S.2.2.2.2.1)) : kH K cI cO cN de ad τ L f1 (E.1, m, e1, e2, w) S := by
  obtain ⟨h0, ⟨g, h1, h1'⟩, -, -, -, h5, h6, h7, ⟨t0, t1, t2, t3, t4⟩, t5, h8⟩ := h
  have hK7 := h8.2.2
  have o : ∀ {b : Nat} {e : va_E}, hp_at L f b e → τ b ≠ 0 → hp_at L f1 b e := fun hb ht => hb.tag hf t0 ht
  exact ⟨h0.self' hf, ⟨g, o h1 (by omega), h1'⟩, hO.go (fun e he => o he (by omega)), hT.go (fun e he => o he (by omega)), hW.go (fun e he => o he (by omega)), fun i hi => o (h5 i hi) (by have := t5 i hi; omega), fun i hi => (h6 i hi).go (fun e he => o he (by have := t5 i hi; omega)), fun i hi => (h7 i hi).go (fun b e hb he => ⟨o he (by have := t5 i hi; rcases hb with rfl | hb | hb <;> omega), rfl⟩), ⟨t0, t1, t2, t3, t4⟩, t5, h8.1, hm, hK7⟩
def k_edgeE (E : kE) (a b : Nat) (w : Int32) : kE := (E.1, E.2.1 + 1, kup E.2.2.1 E.2.1 a, kup E.2.2.2.1 E.2.1 b, kup E.2.2.2.2 E.2.1 w)
def k_edge (E : kE) (S : kS) (a b : Nat) : kS := k_mark (k_mark S a E.2.1 0) b E.2.1 0
set_option maxHeartbeats 4000000 in
set_option maxRecDepth 100000 in
theorem c_G_edge (l : Launch) (D : va_G) (tys : List (ClassId × FieldType)) (de : Nat) (sa : Nat → Nat) {L : List Nat} {f : Nat → va_E} {a b : Nat} {w : Int32} {ad τ : Nat → Nat} {E : kE} {S : kS} {cI cO cN : ClassId} (ht : tys[0]? = some (cI, .int)) (ht1 : tys[1]? = some (cO, .object "java/lang/Object")) (ht2 : tys[2]? = some (cN, .object "MergingFragments$Node")) (hG : kG cI cO cN de ad τ L f E S) (ha : a < E.1) (hb9 : b < E.1) (hab : a ≠ b) (hw9 : 1 ≤ w) (hw99 : w ≤ 99) (hnt : ∀ j, j < E.2.1 → ¬ E.2.2.2.2 j = w) (hna : ∀ i, i < E.1 → S.1 i 0 = 0) (hm : E.2.1 < 12) : hp_Mi l y_G_edge (gw_ws y_G_edge b_G_edge 5 (some .int)) { frames := 6, cells := 0, slots := 0, locals := 136 } D kc tys (s_X de sa) [.ref (ad 0), .int (nI a), .int (nI b), .int w] L f (fun r u => r = nI E.2.1 ∧ kP cI cO cN de ad τ L f (k_edgeE E a b w) (k_edge E S a b) u) 0 0 := by
  refine hp_ofW (Qc := fun A => va_Qi (fun r u => r = nI E.2.1 ∧ kP cI cO cN de ad τ L f (k_edgeE E a b w) (k_edge E S a b) u) (hp_B D kc A) A) (fr := fun A => A) (ret := (some .int)) (by decide) rfl (Nat.le_of_ble_eq_true rfl) ?_
  intro p e s m below meth c ls A hx hb hml hr hts hown hlk hnm hl hK hX h
  have hg : ∀ w ∈ gw, w.before _ s = true := fun w hw => hts w (List.mem_cons_of_mem _ hw)
  have hown : s.vm.findClass "MergingFragments" = some m.cls := hown
  have hnm : meth.name = "edge" := hnm
  have hl : lv_has ls 5 [(0, .ref (ad 0)), (1, .int (nI a)), (2, .int (nI b)), (3, .int w)] := hl
  have hn7 : E.1 ≤ 7 := hG.2.2.2.2.2.2.2.2.2.2.1
  have hF : kFr τ L f τ (L, f) := kFr.rf
  have he := hG.1
  obtain ⟨gn, hn, hn1⟩ := hG.2.1
  obtain ⟨go, ho, ho1⟩ := hG.2.2.1
  obtain ⟨gtw, htw, htw1⟩ := hG.2.2.2.1
  obtain ⟨gw, hw, hw1⟩ := hG.2.2.2.2.1
  have hnda := hG.2.2.2.2.2.1 a (by omega)
  obtain ⟨gma, hma, hma1⟩ := hG.2.2.2.2.2.2.1 a (by omega)
  have hndb := hG.2.2.2.2.2.1 b (by omega)
  obtain ⟨gmb, hmb, hmb1⟩ := hG.2.2.2.2.2.2.1 b (by omega)
  refine lv_aload_n hx hb d_G_edge_0 rfl (lv_at hl 0 rfl) ?_
  refine lv_iload_n hx hb d_G_edge_1 rfl (lv_at hl 1 rfl) ?_
  refine hp_callU (hp_runV (As := [.int (nI a)]) (rest := []) ⟨hx, hb, hml, hown, hg⟩ (c_G_requireNode l D tys de sa ht ht1 ht2 hG ha) (cwV 1 hg (gw_V w251 w253 ws3 w1 w254) rfl rfl rfl (by decide +kernel) ⟨Nat.le_of_ble_eq_true rfl, Nat.le_of_ble_eq_true rfl⟩) (s_ok de sa) hK hX h he rfl rfl rfl hl.1 rfl (Nat.le_of_ble_eq_true rfl) d_G_edge_2 ⟨Nat.zero_le _, Nat.zero_le _⟩) (fun hp => ?_)
  refine lv_aload_n hx hb d_G_edge_5 rfl (lv_at hl 0 rfl) ?_
  refine lv_iload_n hx hb d_G_edge_6 rfl (lv_at hl 2 rfl) ?_
  refine hp_callU (hp_runV (As := [.int (nI b)]) (rest := []) ⟨hx, hb, hml, hown, hg⟩ (c_G_requireNode l D tys de sa ht ht1 ht2 hG hb9) (cwV 1 hg (gw_V w251 w253 ws3 w1 w254) rfl rfl rfl (by decide +kernel) ⟨Nat.le_of_ble_eq_true rfl, Nat.le_of_ble_eq_true rfl⟩) (s_ok de sa) hK hX h he rfl rfl rfl hl.1 rfl (Nat.le_of_ble_eq_true rfl) d_G_edge_7 ⟨Nat.zero_le _, Nat.zero_le _⟩) (fun hp => ?_)
  refine lv_iload_n hx hb d_G_edge_10 rfl (lv_at hl 1 rfl) ?_
  refine lv_iload_n hx hb d_G_edge_11 rfl (lv_at hl 2 rfl) ?_
  refine lv_icmp_ne (tgt := 25) hx hb d_G_edge_12 (by decide) (fun hc => ?_) (fun hc => ?_)
  · skip
    refine lv_iload_n hx hb d_G_edge_25 rfl (lv_at hl 3 rfl) ?_
    refine lv_iconst (v := 1) hx hb d_G_edge_26 (by decide) ?_
    refine lv_icmp_lt (tgt := 44) hx hb d_G_edge_27 (by decide) (fun hc2 => ?_) (fun hc2 => ?_)
    · skip
      exact absurd hw9 (Int32.not_le.mpr hc2)
    · skip
      refine lv_iload_n hx hb d_G_edge_30 rfl (lv_at hl 3 rfl) ?_
      refine lv_bipush (v := 99) hx hb d_G_edge_31 (by decide) ?_
      refine lv_icmp_gt (tgt := 44) hx hb d_G_edge_33 (by decide) (fun hc3 => ?_) (fun hc3 => ?_)
      · skip
        exact absurd hw99 (Int32.not_le.mpr hc3)
      · skip
        refine lv_aload_n hx hb d_G_edge_36 rfl (lv_at hl 0 rfl) ?_
        refine lv_iload_n hx hb d_G_edge_37 rfl (lv_at hl 3 rfl) ?_
        refine hp_callR (hp_runV (As := [.int w]) (rest := []) ⟨hx, hb, hml, hown, hg⟩ (c_G_isTaken l D tys de sa (w := w) ht ht1 ht2 hG) (cwV 1 hg (gw_V w272 w274 ws4 w1 w275) rfl rfl rfl (by decide +kernel) ⟨Nat.le_of_ble_eq_true rfl, Nat.le_of_ble_eq_true rfl⟩) (s_ok de sa) hK hX h he rfl rfl rfl hl.1 rfl (Nat.le_of_ble_eq_true rfl) d_G_edge_38 ⟨Nat.zero_le _, Nat.zero_le _⟩) (fun r1 hp => ?_)
        have hp : r1 = 0 := by rcases hp with ⟨-, j, hj, z⟩ | ⟨z, -⟩; exact absurd z (hnt j hj); exact z
        subst hp
        refine lv_if_eq (tgt := 54) hx hb d_G_edge_41 (by decide) (fun hc4 => ?_) (fun hc4 => ?_)
        · skip
          refine lv_aload_n hx hb d_G_edge_54 rfl (lv_at hl 0 rfl) ?_
          refine hp_callR (hp_runV (As := []) (rest := []) ⟨hx, hb, hml, hown, hg⟩ (c_G_isSomeNodeAwake l D tys de sa ht ht1 ht2 hG) (cwV 0 hg (gw_V w277 w279 ws5 w1 w280) rfl rfl rfl (by decide +kernel) ⟨Nat.le_of_ble_eq_true rfl, Nat.le_of_ble_eq_true rfl⟩) (s_ok de sa) hK hX h he rfl rfl rfl hl.1 rfl (Nat.le_of_ble_eq_true rfl) d_G_edge_55 ⟨Nat.zero_le _, Nat.zero_le _⟩) (fun r1 hp => ?_)
          have hp : r1 = 0 := by rcases hp with ⟨-, i, hi, z⟩ | ⟨z, -⟩; exact absurd (hna i hi) z; exact z
          subst hp
          refine lv_if_ne (tgt := 70) hx hb d_G_edge_58 (by decide) (fun hc5 => ?_) (fun hc5 => ?_)
          · skip
            exact absurd rfl hc5
          · skip
            refine lv_aload_n hx hb d_G_edge_61 rfl (lv_at hl 0 rfl) ?_
            refine hp_get (v := .int (nI E.2.1)) hx hb hg in_G hown hK h he rfl 5 (by decide) (hg _ w132) (fun _ z => z) rfl d_G_edge_62 ?_
            refine lv_bipush (v := 12) hx hb d_G_edge_65 (by decide) ?_
            refine lv_icmp_ne (tgt := 80) hx hb d_G_edge_67 (by decide) (fun hc6 => ?_) (fun hc6 => ?_)
            · skip
              have tgs := hG.2.2.2.2.2.2.2.2.1
              refine lv_aload_n hx hb d_G_edge_80 rfl (lv_at hl 0 rfl) ?_
              refine hp_get (v := .int (nI E.2.1)) hx hb hg in_G hown hK h he rfl 5 (by decide) (hg _ w132) (fun _ z => z) rfl d_G_edge_81 ?_
              refine lv_istore (lv' := [(4, .int (nI E.2.1)), (0, .ref (ad 0)), (1, .int (nI a)), (2, .int (nI b)), (3, .int w)]) hx hb d_G_edge_84 hl (by decide) rfl (fun ls hl => ?_)
              refine lv_aload_n hx hb d_G_edge_86 rfl (lv_at hl 1 rfl) ?_
              refine hp_get (v := .ref (ad 2)) hx hb hg in_G hown hK h he rfl 1 (by decide) (hg _ w128) (fun _ z => z) rfl d_G_edge_87 ?_
              refine lv_iload hx hb d_G_edge_90 (lv_at hl 0 rfl) ?_
              refine lv_iload_n hx hb d_G_edge_92 rfl (lv_at hl 2 rfl) ?_
              refine hp_iast hx hb hK h 0 ho ht rfl (by omega) (by decide) d_G_edge_93 (fun H locs f1 hf1 h => ?_)
              have hF := hF.trans (kFr.w (L := L) hf1 tgs.2.2.1 (by omega) (by omega))
              have hO : kI cI 12 L f1 (ad 2) (E.2.1 + 1) (fun j => nI (kup E.2.2.1 E.2.1 a j)) := ⟨_, ho.self' hf1, kup9 ho1⟩
              have hG := hG.wA2 hf1 (kup8 ho1)
              have he := hG.1
              obtain ⟨gn, hn, hn1⟩ := hG.2.1
              obtain ⟨go, ho, ho1⟩ := hG.2.2.1
              obtain ⟨gtw, htw, htw1⟩ := hG.2.2.2.1
              obtain ⟨gw, hw, hw1⟩ := hG.2.2.2.2.1
              have hnda := hG.2.2.2.2.2.1 a (by omega)
              obtain ⟨gma, hma, hma1⟩ := hG.2.2.2.2.2.2.1 a (by omega)
              have hndb := hG.2.2.2.2.2.1 b (by omega)
              obtain ⟨gmb, hmb, hmb1⟩ := hG.2.2.2.2.2.2.1 b (by omega)
              refine lv_aload_n hx hb d_G_edge_94 rfl (lv_at hl 1 rfl) ?_
              refine hp_get (v := .ref (ad 3)) hx hb hg in_G hown hK h he rfl 2 (by decide) (hg _ w129) (fun _ z => z) rfl d_G_edge_95 ?_
              refine lv_iload hx hb d_G_edge_98 (lv_at hl 0 rfl) ?_
              refine lv_iload_n hx hb d_G_edge_100 rfl (lv_at hl 3 rfl) ?_
              refine hp_iast hx hb hK h 0 htw ht rfl (by omega) (by decide) d_G_edge_101 (fun H locs f2 hf2 h => ?_)
              have hF := hF.trans (kFr.w (L := L) hf2 tgs.2.2.2.1 (by omega) (by omega))
              have hO := hO.go (fun e he => he.tag hf2 tgs.2.2.2.1 (by have := tgs; omega))
              have hT : kI cI 12 L f2 (ad 3) (E.2.1 + 1) (fun j => nI (kup E.2.2.2.1 E.2.1 b j)) := ⟨_, htw.self' hf2, kup9 htw1⟩
              have hG := hG.wA3 hf2 (kup8 htw1)
              have he := hG.1
              obtain ⟨gn, hn, hn1⟩ := hG.2.1
              obtain ⟨go, ho, ho1⟩ := hG.2.2.1
              obtain ⟨gtw, htw, htw1⟩ := hG.2.2.2.1
              obtain ⟨gw, hw, hw1⟩ := hG.2.2.2.2.1
              have hnda := hG.2.2.2.2.2.1 a (by omega)
              obtain ⟨gma, hma, hma1⟩ := hG.2.2.2.2.2.2.1 a (by omega)
              have hndb := hG.2.2.2.2.2.1 b (by omega)
              obtain ⟨gmb, hmb, hmb1⟩ := hG.2.2.2.2.2.2.1 b (by omega)
              refine lv_aload_n hx hb d_G_edge_102 rfl (lv_at hl 1 rfl) ?_
              refine hp_get (v := .ref (ad 4)) hx hb hg in_G hown hK h he rfl 3 (by decide) (hg _ w130) (fun _ z => z) rfl d_G_edge_103 ?_
              refine lv_iload hx hb d_G_edge_106 (lv_at hl 0 rfl) ?_
              refine lv_iload_n hx hb d_G_edge_108 rfl (lv_at hl 4 rfl) ?_
              refine hp_iast hx hb hK h 0 hw ht rfl (by omega) (by decide) d_G_edge_109 (fun H locs f3 hf3 h => ?_)
              have hF := hF.trans (kFr.w (L := L) hf3 tgs.2.2.2.2 (by omega) (by omega))
              have hO := hO.go (fun e he => he.tag hf3 tgs.2.2.2.2 (by have := tgs; omega))
              have hT := hT.go (fun e he => he.tag hf3 tgs.2.2.2.2 (by have := tgs; omega))
              have hWt : kI cI 12 L f3 (ad 4) (E.2.1 + 1) (kup E.2.2.2.2 E.2.1 w) := ⟨_, hw.self' hf3, kup9 (F := id) hw1⟩
              have hG := hG.wA4 hf3 (kup8 hw1)
              have he := hG.1
              obtain ⟨gn, hn, hn1⟩ := hG.2.1
              obtain ⟨go, ho, ho1⟩ := hG.2.2.1
              obtain ⟨gtw, htw, htw1⟩ := hG.2.2.2.1
              obtain ⟨gw, hw, hw1⟩ := hG.2.2.2.2.1
              have hnda := hG.2.2.2.2.2.1 a (by omega)
              obtain ⟨gma, hma, hma1⟩ := hG.2.2.2.2.2.2.1 a (by omega)
              have hndb := hG.2.2.2.2.2.1 b (by omega)
              obtain ⟨gmb, hmb, hmb1⟩ := hG.2.2.2.2.2.2.1 b (by omega)
              refine lv_aload_n hx hb d_G_edge_110 rfl (lv_at hl 1 rfl) ?_
              refine hp_get (v := .ref (ad 1)) hx hb hg in_G hown hK h he rfl 0 (by decide) (hg _ w127) (fun _ z => z) rfl d_G_edge_111 ?_
              refine lv_iload_n hx hb d_G_edge_114 rfl (lv_at hl 2 rfl) ?_
              refine hp_aald (j := a) hx hb hK h 2 hn ht2 rfl (by omega) (by decide) (hn1 a (by omega)) d_G_edge_115 ?_
              refine hp_getN (v := .ref (ad (20 + a))) hx hb hg in_N hown hK h hnda rfl 1 (by decide) (s_N hX n81) (fun _ z => z) rfl d_G_edge_116 ?_
              refine lv_iload hx hb d_G_edge_119 (lv_at hl 0 rfl) ?_
              refine lv_iconst (v := 0) hx hb d_G_edge_121 (by decide) ?_
              have tga := (hG.2.2.2.2.2.2.2.2.2.1 a (by omega)).2.1
              have tgb := (hG.2.2.2.2.2.2.2.2.2.1 b (by omega)).2.1
              refine hp_iast hx hb hK h 0 hma ht rfl (by omega) (by decide) d_G_edge_122 (fun H locs f4 hf4 h => ?_)
              have hF := hF.trans (kFr.w (L := L) hf4 tga (by omega) (by omega))
              have hO := hO.go (fun e he => he.tag hf4 tga (by have := tgs; omega))
              have hT := hT.go (fun e he => he.tag hf4 tga (by have := tgs; omega))
              have hWt := hWt.go (fun e he => he.tag hf4 tga (by have := tgs; omega))
              have hG : kG cI cO cN de ad τ L f4 E (k_mark S a E.2.1 0) := hG.wM (by omega) (z := upd (S.2.1 a) E.2.1 0) hf4 (kupd hma1)
              have he := hG.1
              obtain ⟨gn, hn, hn1⟩ := hG.2.1
              obtain ⟨go, ho, ho1⟩ := hG.2.2.1
              obtain ⟨gtw, htw, htw1⟩ := hG.2.2.2.1
              obtain ⟨gw, hw, hw1⟩ := hG.2.2.2.2.1
              have hnda := hG.2.2.2.2.2.1 a (by omega)
              obtain ⟨gma, hma, hma1⟩ := hG.2.2.2.2.2.2.1 a (by omega)
              have hndb := hG.2.2.2.2.2.1 b (by omega)
              obtain ⟨gmb, hmb, hmb1⟩ := hG.2.2.2.2.2.2.1 b (by omega)
              refine lv_aload_n hx hb d_G_edge_123 rfl (lv_at hl 1 rfl) ?_
              refine hp_get (v := .ref (ad 1)) hx hb hg in_G hown hK h he rfl 0 (by decide) (hg _ w127) (fun _ z => z) rfl d_G_edge_124 ?_
              refine lv_iload_n hx hb d_G_edge_127 rfl (lv_at hl 3 rfl) ?_
              refine hp_aald (j := b) hx hb hK h 2 hn ht2 rfl (by omega) (by decide) (hn1 b (by omega)) d_G_edge_128 ?_
              refine hp_getN (v := .ref (ad (20 + b))) hx hb hg in_N hown hK h hndb rfl 1 (by decide) (s_N hX n81) (fun _ z => z) rfl d_G_edge_129 ?_
              refine lv_iload hx hb d_G_edge_132 (lv_at hl 0 rfl) ?_
              refine lv_iconst (v := 0) hx hb d_G_edge_134 (by decide) ?_
              refine hp_iast hx hb hK h 0 hmb ht rfl (by omega) (by decide) d_G_edge_135 (fun H locs f5 hf5 h => ?_)
              have hF := hF.trans (kFr.w (L := L) hf5 tgb (by omega) (by omega))
              have hO := hO.go (fun e he => he.tag hf5 tgb (by have := tgs; omega))
              have hT := hT.go (fun e he => he.tag hf5 tgb (by have := tgs; omega))
              have hWt := hWt.go (fun e he => he.tag hf5 tgb (by have := tgs; omega))
              have hG : kG cI cO cN de ad τ L f5 E (k_edge E S a b) := hG.wM (by omega) (z := upd ((k_mark S a E.2.1 0).2.1 b) E.2.1 0) hf5 (kupd hmb1)
              have he := hG.1
              obtain ⟨gn, hn, hn1⟩ := hG.2.1
              obtain ⟨go, ho, ho1⟩ := hG.2.2.1
              obtain ⟨gtw, htw, htw1⟩ := hG.2.2.2.1
              obtain ⟨gw, hw, hw1⟩ := hG.2.2.2.2.1
              have hnda := hG.2.2.2.2.2.1 a (by omega)
              obtain ⟨gma, hma, hma1⟩ := hG.2.2.2.2.2.2.1 a (by omega)
              have hndb := hG.2.2.2.2.2.1 b (by omega)
              obtain ⟨gmb, hmb, hmb1⟩ := hG.2.2.2.2.2.2.1 b (by omega)
              refine lv_aload_n hx hb d_G_edge_136 rfl (lv_at hl 1 rfl) ?_
              refine lv_dup hx hb d_G_edge_137 rfl ?_
              refine hp_get (v := .int (nI E.2.1)) hx hb hg in_G hown hK h he rfl 5 (by decide) (hg _ w132) (fun _ z => z) rfl d_G_edge_138 ?_
              refine lv_iconst (v := 1) hx hb d_G_edge_141 (by decide) ?_
              refine lv_iadd hx hb d_G_edge_142 ?_
              rw [nI_1]
              refine hp_put (ty := .int) (v := .int (nI (E.2.1 + 1))) (fs' := [.ref (ad 1), .ref (ad 2), .ref (ad 3), .ref (ad 4), .int (nI E.1), .int (nI (E.2.1 + 1)), .int (k_edge E S a b).2.2.2.2.1]) hx hb hg in_G t_G t_G_ok n_G hown hK h he rfl 5 (by decide) (hg _ w132) (fun _ z => z) rfl (by decide +kernel) rfl rfl (Nat.le_of_ble_eq_true rfl) rfl d_G_edge_143 (fun H locs f6 hf6 h => ?_)
              have hF := hF.trans (kFr.w (L := L) hf6 tgs.1 (by omega) (by omega))
              have hG : kG cI cO cN de ad τ L f6 (k_edgeE E a b w) (k_edge E S a b) := hG.grow (m := E.2.1 + 1) (by omega) hO hT hWt hf6
              refine lv_iload hx hb d_G_edge_146 (lv_at hl 0 rfl) ?_
              exact hp_iret hx hb hr hlk h ⟨rfl, _, hG, hF⟩ (by omega) (by omega) d_G_edge_148
            · skip
              exact absurd ((nI_eq (a := E.2.1) (b := 12) (by omega) (by decide)).mp hc6) (by omega)
        · skip
          exact absurd rfl hc4
  · skip
    exact absurd ((nI_eq (by omega) (by omega)).mp hc) hab
