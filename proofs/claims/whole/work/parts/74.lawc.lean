/-! The law's cases, by program (wip/mk74.py). -/
theorem lg_refl (x : Int64) : lg_cmp x x = 0 := by
  unfold lg_cmp
  simp
set_option maxHeartbeats 4000000 in
set_option maxRecDepth 100000 in
theorem lw_c0 {p : Program} {l : Launch} {e : Env} {s : State} {m : MethodId} {below : List Frame} {meth : Method} {c : Code} {Q : State → Prop} {b N k : Nat} {xs : Nat → Int32} {D : va_G} {tys : List (ClassId × FieldType)} {de : Nat} {sa : Nat → Nat} {A : Nat → Prop} {cI cO cN cZ cJ : ClassId} {Iv : Nat → kE → kS → Prop} {ad : Nat → Nat} (hx : p.tables.exec = Jvm.exec) (hb : c.code = code) (hml : c.maxLocals = 7) (hoff : th_Off l) (hg : ∀ w ∈ gw, w.before #[Value.ref b] s = true) (hown : s.vm.findClass "MergingFragmentsLaw" = some m.cls) (hK : va_K D kc tys s) (hX : s_X de sa A s s.heap) (hbx : va_X b N xs s s.heap) (hbl : b < s.heap.size) (hbA : ¬ A b) (ht : tys[0]? = some (cI, .int)) (ht1 : tys[1]? = some (cO, .object "java/lang/Object")) (ht2 : tys[2]? = some (cN, .object "MergingFragments$Node")) (ht3 : tys[3]? = some (cZ, .boolean)) (ht4 : tys[4]? = some (cJ, .long)) (hIv : kIf Iv) (hN : N ≤ 2048) (hk : 4 * k + 4 ≤ N) (next : ∀ (E : kE) (S : kS) (τ : Nat → Nat) (L : List Nat) (f : Nat → va_E) (cx sx : Nat) (H : Heap) (locs : List Loc) (ls : Array Slot), lwS cI cO cN cZ cJ de D A s.heap Iv ad (k + 1) E S τ L f cx sx H locs → lv_has ls 7 [(0, .ref b), (1, .ref (ad 0)), (2, .ref (ad 100)), (3, .ref (ad 200)), (4, .int (nI (4 * k)))] → W p l e room_1 s m #[Value.ref b] below meth c H locs cx sx Q (F0 m 654 ls [])) {E : kE} {S : kS} {τ : Nat → Nat} {L : List Nat} {f : Nat → va_E} {cx sx : Nat} {H : Heap} {locs : List Loc} {ls : Array Slot} (hS : lwS cI cO cN cZ cJ de D A s.heap Iv ad k E S τ L f cx sx H locs) (hl : lv_has ls 7 [(0, .ref b), (1, .ref (ad 0)), (2, .ref (ad 100)), (3, .ref (ad 200)), (4, .int (nI (4 * k)))]) : W p l e room_1 s m #[Value.ref b] below meth c H locs cx sx Q (F0 m 96 ls []) := by
  obtain ⟨hG, ⟨cz, hR⟩, ⟨g0, ho⟩, hto, hI, hcx, hsx, h⟩ := hS
  obtain ⟨hn7, hm12, hP, h41, hno, hI1⟩ := hIv.2.1 k E S hI
  have hroom := hIv.2.2.2.2.2.2 k E S (by omega) hI
  have hW := hP.1.1
  have hoL := ho.1
  by_cases hbad : (xs (4 * k + 1)) < 1 ∨ 7 < (xs (4 * k + 1))
  · skip
    refine lv_aload_n hx hb d_L_law_96 rfl (lv_at hl 1 rfl) ?_
    refine lv_aload_n hx hb d_L_law_97 rfl (lv_at hl 0 rfl) ?_
    refine lv_iload hx hb d_L_law_98 (lv_at hl 4 rfl) ?_
    refine lv_iconst (v := 1) hx hb d_L_law_100 (by decide) ?_
    refine lv_iadd hx hb d_L_law_101 ?_
    rw [show nI (4 * k) + 1 = nI (4 * k + 1) from nI_add (4 * k) 1]
    refine va_sld hx hb hbx hbl hbA h.2.2.1 (hp_ix (j := (4 * k + 1)) (n := N) rfl (by omega) (by omega)).1 d_L_law_102 ?_
    rw [(hp_ix (i := nI (4 * k + 1)) (j := (4 * k + 1)) (n := N) rfl (by omega) (by omega)).2]
    refine hp_calli (hp_runSW (n := 2) (As := [.ref (ad 0), .int (xs (4 * k + 1))]) (rest := []) ⟨hx, hb, hml, hown, hg⟩ (w_begin1 l hoff D tys de sa ht ht1 ht2 hG hbad) w167 w165 w166 w0 rfl rfl (by decide +kernel) ⟨Nat.le_of_ble_eq_true rfl, Nat.le_of_ble_eq_true rfl⟩ hg (s_ok de sa) hK hX h rfl hl.1 rfl (Nat.le_of_ble_eq_true rfl) d_L_law_103 ⟨by show _ ≤ 601024; omega, by show _ ≤ 7293034; omega⟩) h (fun r1 Ln fn H locs hp h => ?_)
    obtain ⟨hr1, hu⟩ := hp
    obtain ⟨hL1, hf1⟩ := Prod.mk.inj hu
    subst hr1
    have hL1 := hL1.symm
    subst hL1
    have hf1 := hf1.symm
    subst hf1
    refine lv_istore (lv' := [(5, .int 1), (0, .ref b), (1, .ref (ad 0)), (2, .ref (ad 100)), (3, .ref (ad 200)), (4, .int (nI (4 * k)))]) hx hb d_L_law_106 hl (by decide) rfl (fun ls hl => ?_)
    refine lv_aload_n hx hb d_L_law_108 rfl (lv_at hl 3 rfl) ?_
    refine lv_aload_n hx hb d_L_law_109 rfl (lv_at hl 1 rfl) ?_
    refine lv_iload hx hb d_L_law_110 (lv_at hl 5 rfl) ?_
    refine lv_iconst (v := 1) hx hb d_L_law_112 (by decide) ?_
    refine lv_iadd hx hb d_L_law_113 ?_
    rw [show nI (4 * k) + 1 = nI (4 * k + 1) from nI_add (4 * k) 1]
    refine va_sld hx hb hbx hbl hbA h.2.2.1 (hp_ix (j := (4 * k + 1)) (n := N) rfl (by omega) (by omega)).1 d_L_law_114 ?_
    rw [(hp_ix (i := nI (4 * k + 1)) (j := (4 * k + 1)) (n := N) rfl (by omega) (by omega)).2]
    refine hp_callv (hp_runV (As := [.int (xs (4 * k + 1))]) (rest := []) ⟨hx, hb, hml, hown, hg⟩ (c_R_begin l D tys de sa (w := (xs (4 * k + 1))) ht ht3 hR hn7 hm12) (cwV 1 hg (gw_V w619 w620 w621 w7 w622) rfl rfl rfl (by decide +kernel) ⟨Nat.le_of_ble_eq_true rfl, Nat.le_of_ble_eq_true rfl⟩) (s_ok de sa) hK hX h hR.1 rfl rfl rfl hl.1 rfl (Nat.le_of_ble_eq_true rfl) d_L_law_115 ⟨by show _ ≤ 601024; omega, by show _ ≤ 7293034; omega⟩) h (fun L3 f3 H locs hp3 h => ?_)
    have hq : kRP cI cZ ad τ L f 1 E S (L3, f3) := by
      rcases hp3 with ⟨n, n1, n2, n3, -⟩ | ⟨-, hq⟩
      · rw [n3] at hbad; rcases hbad with z | z
        · exact absurd ((nI_ltI (b := 1) (by omega) (by omega)).mp z) (by omega)
        · exact absurd ((nI_ltI (a := 7) (by omega) (by omega)).mp z) (by omega)
      · exact hq
    obtain ⟨hR, hF3⟩ := hq
    dsimp only at hR
    have hG := hG.moveR hF3
    have hL3 := hF3.1
    dsimp only at hL3
    have ho : hp_at L3 f3 (ad 200) _ := ⟨by rw [hL3]; exact ho.1, (hF3.2 _ ho.1 (Or.inr (by omega))).trans ho.2⟩
    refine lv_aload_n hx hb d_L_law_118 rfl (lv_at hl 3 rfl) ?_
    refine hp_callR (hp_runV (As := []) (rest := []) ⟨hx, hb, hml, hown, hg⟩ (c_R_thrown l D tys de sa ht ht3 hR hn7 hm12) (cwV 0 hg (gw_V w615 w616 w617 w7 w618) rfl rfl rfl (by decide +kernel) ⟨Nat.le_of_ble_eq_true rfl, Nat.le_of_ble_eq_true rfl⟩) (s_ok de sa) hK hX h hR.1 rfl rfl rfl hl.1 rfl (Nat.le_of_ble_eq_true rfl) d_L_law_119 ⟨by show _ ≤ 601024; omega, by show _ ≤ 7293034; omega⟩) (fun r1 hp => ?_)
    subst hp
    refine lv_iload hx hb d_L_law_122 (lv_at hl 0 rfl) ?_
    refine lv_icmp_eq (tgt := 129) hx hb d_L_law_124 (by decide) (fun hc => ?_) (fun hc => ?_)
    · skip
      refine lv_goto (tgt := 654) hx hb d_L_law_129 (by decide) ?_
      exact next E S _ _ _ _ _ _ _ ls ⟨hG, ⟨_, hR⟩, ⟨_, ho⟩, hto, hI1, by omega, by omega, h⟩ (lv_sub hl [1, 2, 3, 4, 5] rfl)
    · skip
      exact absurd rfl hc
  · skip
    obtain ⟨n, hn9, hnw⟩ := nI_of2 (x := (xs (4 * k + 1))) (M := 7) (n := 7) rfl (fun z => hbad (Or.inl (Int32.lt_trans z (by decide)))) (Int32.not_lt.mp (fun z => hbad (Or.inr z)))
    have h1n : 1 ≤ n := by rcases Nat.eq_zero_or_pos n with z | z; exact absurd (Or.inl (by rw [hnw, z]; decide)) hbad; exact z
    have hI2 := hIv.2.2.1 k E S n hI h1n hn9
    have hroom2 := hIv.2.1 (k + 1) _ _ hI2
    have hcu2 : k_cu (k_begin S) = k_cu S ∧ k_su (k_begin S) = k_su S := ⟨rfl, rfl⟩
    refine lv_aload_n hx hb d_L_law_96 rfl (lv_at hl 1 rfl) ?_
    refine lv_aload_n hx hb d_L_law_97 rfl (lv_at hl 0 rfl) ?_
    refine lv_iload hx hb d_L_law_98 (lv_at hl 4 rfl) ?_
    refine lv_iconst (v := 1) hx hb d_L_law_100 (by decide) ?_
    refine lv_iadd hx hb d_L_law_101 ?_
    rw [show nI (4 * k) + 1 = nI (4 * k + 1) from nI_add (4 * k) 1]
    refine va_sld hx hb hbx hbl hbA h.2.2.1 (hp_ix (j := (4 * k + 1)) (n := N) rfl (by omega) (by omega)).1 d_L_law_102 ?_
    rw [(hp_ix (i := nI (4 * k + 1)) (j := (4 * k + 1)) (n := N) rfl (by omega) (by omega)).2]
    rw [hnw]
    refine hp_calli (hp_runSW (n := 2) (As := [.ref (ad 0), .int (nI n)]) (rest := []) ⟨hx, hb, hml, hown, hg⟩ (w_begin0 l hoff D tys de sa ht ht1 ht2 hG h1n hn9 (fun i hi => by have := h41 i hi; omega)) w167 w165 w166 w0 rfl rfl (by decide +kernel) ⟨Nat.le_of_ble_eq_true rfl, Nat.le_of_ble_eq_true rfl⟩ hg (s_ok de sa) hK hX h rfl hl.1 rfl (Nat.le_of_ble_eq_true rfl) d_L_law_103 ⟨by show _ ≤ 601024; omega, by show _ ≤ 7293034; omega⟩) h (fun r1 Ln fn H locs hp h => ?_)
    obtain ⟨hr1, τn, hG, hFn⟩ := hp
    have hmv : ∀ b, b ∈ L → b ∈ Ln ∧ (100 ≤ τ b → τn b = τ b ∧ (b ≠ ad 200 → fn b = f b)) := fun b hb => ⟨(hFn b hb).1, fun h1 => ⟨((hFn b hb).2 (Or.inl h1)).2, fun _ => ((hFn b hb).2 (Or.inl h1)).1⟩⟩
    have ho : hp_at Ln fn (ad 200) (kal cJ g0) := ⟨(hFn _ ho.1).1, ((hFn _ ho.1).2 (Or.inl (by omega))).1.trans ho.2⟩
    dsimp only at hG
    subst hr1
    have hto9 : τn (ad 200) = 200 := ((hFn _ hoL).2 (Or.inl (by omega))).2.trans hto
    have hR := hR.move (o9 := ad 200) hmv hto
    have hto := hto9
    refine lv_istore (lv' := [(5, .int 0), (0, .ref b), (1, .ref (ad 0)), (2, .ref (ad 100)), (3, .ref (ad 200)), (4, .int (nI (4 * k)))]) hx hb d_L_law_106 hl (by decide) rfl (fun ls hl => ?_)
    refine lv_aload_n hx hb d_L_law_108 rfl (lv_at hl 3 rfl) ?_
    refine lv_aload_n hx hb d_L_law_109 rfl (lv_at hl 1 rfl) ?_
    refine lv_iload hx hb d_L_law_110 (lv_at hl 5 rfl) ?_
    refine lv_iconst (v := 1) hx hb d_L_law_112 (by decide) ?_
    refine lv_iadd hx hb d_L_law_113 ?_
    rw [show nI (4 * k) + 1 = nI (4 * k + 1) from nI_add (4 * k) 1]
    refine va_sld hx hb hbx hbl hbA h.2.2.1 (hp_ix (j := (4 * k + 1)) (n := N) rfl (by omega) (by omega)).1 d_L_law_114 ?_
    rw [(hp_ix (i := nI (4 * k + 1)) (j := (4 * k + 1)) (n := N) rfl (by omega) (by omega)).2]
    rw [hnw]
    refine hp_callv (hp_runV (As := [.int (nI n)]) (rest := []) ⟨hx, hb, hml, hown, hg⟩ (c_R_begin l D tys de sa (w := nI n) ht ht3 hR hn7 hm12) (cwV 1 hg (gw_V w619 w620 w621 w7 w622) rfl rfl rfl (by decide +kernel) ⟨Nat.le_of_ble_eq_true rfl, Nat.le_of_ble_eq_true rfl⟩) (s_ok de sa) hK hX h hR.1 rfl rfl rfl hl.1 rfl (Nat.le_of_ble_eq_true rfl) d_L_law_115 ⟨by show _ ≤ 601024; omega, by show _ ≤ 7293034; omega⟩) h (fun L3 f3 H locs hp3 h => ?_)
    have hq : kRP cI cZ ad τn Ln fn 0 (n, 0, E.2.2) (k_begin S) (L3, f3) := by
      rcases hp3 with ⟨n9, n1, n2, n3, hq⟩ | ⟨z, -⟩
      · rw [(nI_eq (by omega) (by omega)).mp n3]; exact hq
      · rcases z with z | z
        · exact absurd ((nI_ltI (b := 1) (by omega) (by omega)).mp z) (by omega)
        · exact absurd ((nI_ltI (a := 7) (by omega) (by omega)).mp z) (by omega)
    obtain ⟨hR, hF3⟩ := hq
    dsimp only at hR
    have hG := hG.moveR hF3
    have hL3 := hF3.1
    dsimp only at hL3
    have ho : hp_at L3 f3 (ad 200) _ := ⟨by rw [hL3]; exact ho.1, (hF3.2 _ ho.1 (Or.inr (by omega))).trans ho.2⟩
    refine lv_aload_n hx hb d_L_law_118 rfl (lv_at hl 3 rfl) ?_
    refine hp_callR (hp_runV (As := []) (rest := []) ⟨hx, hb, hml, hown, hg⟩ (c_R_thrown l D tys de sa ht ht3 hR (by dsimp only; omega) (by dsimp only; omega)) (cwV 0 hg (gw_V w615 w616 w617 w7 w618) rfl rfl rfl (by decide +kernel) ⟨Nat.le_of_ble_eq_true rfl, Nat.le_of_ble_eq_true rfl⟩) (s_ok de sa) hK hX h hR.1 rfl rfl rfl hl.1 rfl (Nat.le_of_ble_eq_true rfl) d_L_law_119 ⟨by show _ ≤ 601024; omega, by show _ ≤ 7293034; omega⟩) (fun r1 hp => ?_)
    subst hp
    refine lv_iload hx hb d_L_law_122 (lv_at hl 0 rfl) ?_
    refine lv_icmp_eq (tgt := 129) hx hb d_L_law_124 (by decide) (fun hc => ?_) (fun hc => ?_)
    · skip
      refine lv_goto (tgt := 654) hx hb d_L_law_129 (by decide) ?_
      exact next (n, 0, E.2.2) (k_begin S) _ _ _ _ _ _ _ ls ⟨hG, ⟨_, hR⟩, ⟨_, ho⟩, hto, hI2, by omega, by omega, h⟩ (lv_sub hl [1, 2, 3, 4, 5] rfl)
    · skip
      exact absurd rfl hc

set_option maxHeartbeats 4000000 in
set_option maxRecDepth 100000 in
theorem lw_c1 {p : Program} {l : Launch} {e : Env} {s : State} {m : MethodId} {below : List Frame} {meth : Method} {c : Code} {Q : State → Prop} {b N k : Nat} {xs : Nat → Int32} {D : va_G} {tys : List (ClassId × FieldType)} {de : Nat} {sa : Nat → Nat} {A : Nat → Prop} {cI cO cN cZ cJ : ClassId} {Iv : Nat → kE → kS → Prop} {ad : Nat → Nat} (hx : p.tables.exec = Jvm.exec) (hb : c.code = code) (hml : c.maxLocals = 7) (hoff : th_Off l) (hg : ∀ w ∈ gw, w.before #[Value.ref b] s = true) (hown : s.vm.findClass "MergingFragmentsLaw" = some m.cls) (hK : va_K D kc tys s) (hX : s_X de sa A s s.heap) (hbx : va_X b N xs s s.heap) (hbl : b < s.heap.size) (hbA : ¬ A b) (ht : tys[0]? = some (cI, .int)) (ht1 : tys[1]? = some (cO, .object "java/lang/Object")) (ht2 : tys[2]? = some (cN, .object "MergingFragments$Node")) (ht3 : tys[3]? = some (cZ, .boolean)) (ht4 : tys[4]? = some (cJ, .long)) (hIv : kIf Iv) (hN : N ≤ 2048) (hk : 4 * k + 4 ≤ N) (next : ∀ (E : kE) (S : kS) (τ : Nat → Nat) (L : List Nat) (f : Nat → va_E) (cx sx : Nat) (H : Heap) (locs : List Loc) (ls : Array Slot), lwS cI cO cN cZ cJ de D A s.heap Iv ad (k + 1) E S τ L f cx sx H locs → lv_has ls 7 [(0, .ref b), (1, .ref (ad 0)), (2, .ref (ad 100)), (3, .ref (ad 200)), (4, .int (nI (4 * k)))] → W p l e room_1 s m #[Value.ref b] below meth c H locs cx sx Q (F0 m 654 ls [])) {E : kE} {S : kS} {τ : Nat → Nat} {L : List Nat} {f : Nat → va_E} {cx sx : Nat} {H : Heap} {locs : List Loc} {ls : Array Slot} (hS : lwS cI cO cN cZ cJ de D A s.heap Iv ad k E S τ L f cx sx H locs) (hl : lv_has ls 7 [(0, .ref b), (1, .ref (ad 0)), (2, .ref (ad 100)), (3, .ref (ad 200)), (4, .int (nI (4 * k)))]) : W p l e room_1 s m #[Value.ref b] below meth c H locs cx sx Q (F0 m 132 ls []) := by
  obtain ⟨hG, ⟨cz, hR⟩, ⟨g0, ho⟩, hto, hI, hcx, hsx, h⟩ := hS
  obtain ⟨hn7, hm12, hP, h41, hno, hI1⟩ := hIv.2.1 k E S hI
  have hroom := hIv.2.2.2.2.2.2 k E S (by omega) hI
  have hW := hP.1.1
  have hoL := ho.1
  by_cases hb1 : kBad E (xs (4 * k + 1))
  · skip
    refine lv_aload_n hx hb d_L_law_132 rfl (lv_at hl 1 rfl) ?_
    refine lv_aload_n hx hb d_L_law_133 rfl (lv_at hl 0 rfl) ?_
    refine lv_iload hx hb d_L_law_134 (lv_at hl 4 rfl) ?_
    refine lv_iconst (v := 1) hx hb d_L_law_136 (by decide) ?_
    refine lv_iadd hx hb d_L_law_137 ?_
    rw [show nI (4 * k) + 1 = nI (4 * k + 1) from nI_add (4 * k) 1]
    refine va_sld hx hb hbx hbl hbA h.2.2.1 (hp_ix (j := (4 * k + 1)) (n := N) rfl (by omega) (by omega)).1 d_L_law_138 ?_
    rw [(hp_ix (i := nI (4 * k + 1)) (j := (4 * k + 1)) (n := N) rfl (by omega) (by omega)).2]
    refine lv_aload_n hx hb d_L_law_139 rfl (lv_at hl 0 rfl) ?_
    refine lv_iload hx hb d_L_law_140 (lv_at hl 4 rfl) ?_
    refine lv_iconst (v := 2) hx hb d_L_law_142 (by decide) ?_
    refine lv_iadd hx hb d_L_law_143 ?_
    rw [show nI (4 * k) + 2 = nI (4 * k + 2) from nI_add (4 * k) 2]
    refine va_sld hx hb hbx hbl hbA h.2.2.1 (hp_ix (j := (4 * k + 2)) (n := N) rfl (by omega) (by omega)).1 d_L_law_144 ?_
    rw [(hp_ix (i := nI (4 * k + 2)) (j := (4 * k + 2)) (n := N) rfl (by omega) (by omega)).2]
    refine lv_aload_n hx hb d_L_law_145 rfl (lv_at hl 0 rfl) ?_
    refine lv_iload hx hb d_L_law_146 (lv_at hl 4 rfl) ?_
    refine lv_iconst (v := 3) hx hb d_L_law_148 (by decide) ?_
    refine lv_iadd hx hb d_L_law_149 ?_
    rw [show nI (4 * k) + 3 = nI (4 * k + 3) from nI_add (4 * k) 3]
    refine va_sld hx hb hbx hbl hbA h.2.2.1 (hp_ix (j := (4 * k + 3)) (n := N) rfl (by omega) (by omega)).1 d_L_law_150 ?_
    rw [(hp_ix (i := nI (4 * k + 3)) (j := (4 * k + 3)) (n := N) rfl (by omega) (by omega)).2]
    refine lv_aload_n hx hb d_L_law_151 rfl (lv_at hl 3 rfl) ?_
    refine hp_calli (hp_runSW (n := 5) (As := [.ref (ad 0), .int (xs (4 * k + 1)), .int (xs (4 * k + 2)), .int (xs (4 * k + 3)), .ref (ad 200)]) (rest := []) ⟨hx, hb, hml, hown, hg⟩ (w_edge1 l hoff D tys de sa ht ht1 ht2 hG hb1) w244 w242 w243 w0 rfl rfl (by decide +kernel) ⟨Nat.le_of_ble_eq_true rfl, Nat.le_of_ble_eq_true rfl⟩ hg (s_ok de sa) hK hX h rfl hl.1 rfl (Nat.le_of_ble_eq_true rfl) d_L_law_152 ⟨by show _ ≤ 601024; omega, by show _ ≤ 7293034; omega⟩) h (fun r1 Ln fn H locs hp h => ?_)
    obtain ⟨hr1, hu⟩ := hp
    obtain ⟨hL1, hf1⟩ := Prod.mk.inj hu
    subst hr1
    have hL1 := hL1.symm
    subst hL1
    have hf1 := hf1.symm
    subst hf1
    refine lv_istore (lv' := [(5, .int 1), (0, .ref b), (1, .ref (ad 0)), (2, .ref (ad 100)), (3, .ref (ad 200)), (4, .int (nI (4 * k)))]) hx hb d_L_law_155 hl (by decide) rfl (fun ls hl => ?_)
    refine lv_aload_n hx hb d_L_law_157 rfl (lv_at hl 3 rfl) ?_
    refine lv_aload_n hx hb d_L_law_158 rfl (lv_at hl 1 rfl) ?_
    refine lv_iload hx hb d_L_law_159 (lv_at hl 5 rfl) ?_
    refine lv_iconst (v := 1) hx hb d_L_law_161 (by decide) ?_
    refine lv_iadd hx hb d_L_law_162 ?_
    rw [show nI (4 * k) + 1 = nI (4 * k + 1) from nI_add (4 * k) 1]
    refine va_sld hx hb hbx hbl hbA h.2.2.1 (hp_ix (j := (4 * k + 1)) (n := N) rfl (by omega) (by omega)).1 d_L_law_163 ?_
    rw [(hp_ix (i := nI (4 * k + 1)) (j := (4 * k + 1)) (n := N) rfl (by omega) (by omega)).2]
    refine lv_aload_n hx hb d_L_law_164 rfl (lv_at hl 1 rfl) ?_
    refine lv_iload hx hb d_L_law_165 (lv_at hl 5 rfl) ?_
    refine lv_iconst (v := 2) hx hb d_L_law_167 (by decide) ?_
    refine lv_iadd hx hb d_L_law_168 ?_
    rw [show nI (4 * k) + 2 = nI (4 * k + 2) from nI_add (4 * k) 2]
    refine va_sld hx hb hbx hbl hbA h.2.2.1 (hp_ix (j := (4 * k + 2)) (n := N) rfl (by omega) (by omega)).1 d_L_law_169 ?_
    rw [(hp_ix (i := nI (4 * k + 2)) (j := (4 * k + 2)) (n := N) rfl (by omega) (by omega)).2]
    refine lv_aload_n hx hb d_L_law_170 rfl (lv_at hl 1 rfl) ?_
    refine lv_iload hx hb d_L_law_171 (lv_at hl 5 rfl) ?_
    refine lv_iconst (v := 3) hx hb d_L_law_173 (by decide) ?_
    refine lv_iadd hx hb d_L_law_174 ?_
    rw [show nI (4 * k) + 3 = nI (4 * k + 3) from nI_add (4 * k) 3]
    refine va_sld hx hb hbx hbl hbA h.2.2.1 (hp_ix (j := (4 * k + 3)) (n := N) rfl (by omega) (by omega)).1 d_L_law_175 ?_
    rw [(hp_ix (i := nI (4 * k + 3)) (j := (4 * k + 3)) (n := N) rfl (by omega) (by omega)).2]
    refine hp_calli (hp_runV (As := [.int (xs (4 * k + 1)), .int (xs (4 * k + 2)), .int (xs (4 * k + 3))]) (rest := []) ⟨hx, hb, hml, hown, hg⟩ (c_R_edge l D tys de sa (pa := (xs (4 * k + 1))) (pb := (xs (4 * k + 2))) (w := (xs (4 * k + 3))) ht ht3 hR hn7 hm12) (cwV 3 hg (gw_V w623 w624 w625 w7 w626) rfl rfl rfl (by decide +kernel) ⟨Nat.le_of_ble_eq_true rfl, Nat.le_of_ble_eq_true rfl⟩) (s_ok de sa) hK hX h hR.1 rfl rfl rfl hl.1 rfl (Nat.le_of_ble_eq_true rfl) d_L_law_176 ⟨by show _ ≤ 601024; omega, by show _ ≤ 7293034; omega⟩) h (fun r3 L3 f3 H locs hp3 h => ?_)
    have hq : kRP cI cZ ad τ L f 1 E S (L3, f3) := by
      rcases hp3 with ⟨a9, b9, z1, -, -, z4, -⟩ | ⟨-, hq⟩ | ⟨z, -⟩ | ⟨z, -⟩
      · rw [z4] at hb1; exact absurd hb1 (kBad_nI hn7 z1)
      · exact hq
      · exact absurd (Or.inl hb1) z
      · exact absurd (Or.inl hb1) z
    obtain ⟨hR, hF3⟩ := hq
    dsimp only at hR
    have hG := hG.moveR hF3
    have hL3 := hF3.1
    dsimp only at hL3
    have ho : hp_at L3 f3 (ad 200) _ := ⟨by rw [hL3]; exact ho.1, (hF3.2 _ ho.1 (Or.inr (by omega))).trans ho.2⟩
    refine lv_istore (lv' := [(6, .int r3), (5, .int 1), (0, .ref b), (1, .ref (ad 0)), (2, .ref (ad 100)), (3, .ref (ad 200)), (4, .int (nI (4 * k)))]) hx hb d_L_law_179 hl (by decide) rfl (fun ls hl => ?_)
    refine lv_aload_n hx hb d_L_law_181 rfl (lv_at hl 4 rfl) ?_
    refine hp_callR (hp_runV (As := []) (rest := []) ⟨hx, hb, hml, hown, hg⟩ (c_R_thrown l D tys de sa ht ht3 hR hn7 hm12) (cwV 0 hg (gw_V w615 w616 w617 w7 w618) rfl rfl rfl (by decide +kernel) ⟨Nat.le_of_ble_eq_true rfl, Nat.le_of_ble_eq_true rfl⟩) (s_ok de sa) hK hX h hR.1 rfl rfl rfl hl.1 rfl (Nat.le_of_ble_eq_true rfl) d_L_law_182 ⟨by show _ ≤ 601024; omega, by show _ ≤ 7293034; omega⟩) (fun r1 hp => ?_)
    subst hp
    refine lv_iload hx hb d_L_law_185 (lv_at hl 1 rfl) ?_
    refine lv_icmp_eq (tgt := 192) hx hb d_L_law_187 (by decide) (fun hc => ?_) (fun hc => ?_)
    · skip
      refine lv_iload hx hb d_L_law_192 (lv_at hl 1 rfl) ?_
      refine lv_if_ne (tgt := 209) hx hb d_L_law_194 (by decide) (fun hc2 => ?_) (fun hc2 => ?_)
      · skip
        refine lv_goto (tgt := 654) hx hb d_L_law_209 (by decide) ?_
        exact next E S _ _ _ _ _ _ _ ls ⟨hG, ⟨_, hR⟩, ⟨_, ho⟩, hto, hI1, by omega, by omega, h⟩ (lv_sub hl [2, 3, 4, 5, 6] rfl)
      · skip
        exact absurd hc2 (by decide)
    · skip
      exact absurd rfl hc
  · skip
    obtain ⟨a, ha, hpa⟩ := kBad_not hn7 hb1
    by_cases hb2 : kBad E (xs (4 * k + 2))
    · skip
      refine lv_aload_n hx hb d_L_law_132 rfl (lv_at hl 1 rfl) ?_
      refine lv_aload_n hx hb d_L_law_133 rfl (lv_at hl 0 rfl) ?_
      refine lv_iload hx hb d_L_law_134 (lv_at hl 4 rfl) ?_
      refine lv_iconst (v := 1) hx hb d_L_law_136 (by decide) ?_
      refine lv_iadd hx hb d_L_law_137 ?_
      rw [show nI (4 * k) + 1 = nI (4 * k + 1) from nI_add (4 * k) 1]
      refine va_sld hx hb hbx hbl hbA h.2.2.1 (hp_ix (j := (4 * k + 1)) (n := N) rfl (by omega) (by omega)).1 d_L_law_138 ?_
      rw [(hp_ix (i := nI (4 * k + 1)) (j := (4 * k + 1)) (n := N) rfl (by omega) (by omega)).2]
      rw [hpa]
      refine lv_aload_n hx hb d_L_law_139 rfl (lv_at hl 0 rfl) ?_
      refine lv_iload hx hb d_L_law_140 (lv_at hl 4 rfl) ?_
      refine lv_iconst (v := 2) hx hb d_L_law_142 (by decide) ?_
      refine lv_iadd hx hb d_L_law_143 ?_
      rw [show nI (4 * k) + 2 = nI (4 * k + 2) from nI_add (4 * k) 2]
      refine va_sld hx hb hbx hbl hbA h.2.2.1 (hp_ix (j := (4 * k + 2)) (n := N) rfl (by omega) (by omega)).1 d_L_law_144 ?_
      rw [(hp_ix (i := nI (4 * k + 2)) (j := (4 * k + 2)) (n := N) rfl (by omega) (by omega)).2]
      refine lv_aload_n hx hb d_L_law_145 rfl (lv_at hl 0 rfl) ?_
      refine lv_iload hx hb d_L_law_146 (lv_at hl 4 rfl) ?_
      refine lv_iconst (v := 3) hx hb d_L_law_148 (by decide) ?_
      refine lv_iadd hx hb d_L_law_149 ?_
      rw [show nI (4 * k) + 3 = nI (4 * k + 3) from nI_add (4 * k) 3]
      refine va_sld hx hb hbx hbl hbA h.2.2.1 (hp_ix (j := (4 * k + 3)) (n := N) rfl (by omega) (by omega)).1 d_L_law_150 ?_
      rw [(hp_ix (i := nI (4 * k + 3)) (j := (4 * k + 3)) (n := N) rfl (by omega) (by omega)).2]
      refine lv_aload_n hx hb d_L_law_151 rfl (lv_at hl 3 rfl) ?_
      refine hp_calli (hp_runSW (n := 5) (As := [.ref (ad 0), .int (nI a), .int (xs (4 * k + 2)), .int (xs (4 * k + 3)), .ref (ad 200)]) (rest := []) ⟨hx, hb, hml, hown, hg⟩ (w_edge2 l hoff D tys de sa ht ht1 ht2 hG ha hb2) w244 w242 w243 w0 rfl rfl (by decide +kernel) ⟨Nat.le_of_ble_eq_true rfl, Nat.le_of_ble_eq_true rfl⟩ hg (s_ok de sa) hK hX h rfl hl.1 rfl (Nat.le_of_ble_eq_true rfl) d_L_law_152 ⟨by show _ ≤ 601024; omega, by show _ ≤ 7293034; omega⟩) h (fun r1 Ln fn H locs hp h => ?_)
      obtain ⟨hr1, hu⟩ := hp
      obtain ⟨hL1, hf1⟩ := Prod.mk.inj hu
      subst hr1
      have hL1 := hL1.symm
      subst hL1
      have hf1 := hf1.symm
      subst hf1
      refine lv_istore (lv' := [(5, .int 1), (0, .ref b), (1, .ref (ad 0)), (2, .ref (ad 100)), (3, .ref (ad 200)), (4, .int (nI (4 * k)))]) hx hb d_L_law_155 hl (by decide) rfl (fun ls hl => ?_)
      refine lv_aload_n hx hb d_L_law_157 rfl (lv_at hl 3 rfl) ?_
      refine lv_aload_n hx hb d_L_law_158 rfl (lv_at hl 1 rfl) ?_
      refine lv_iload hx hb d_L_law_159 (lv_at hl 5 rfl) ?_
      refine lv_iconst (v := 1) hx hb d_L_law_161 (by decide) ?_
      refine lv_iadd hx hb d_L_law_162 ?_
      rw [show nI (4 * k) + 1 = nI (4 * k + 1) from nI_add (4 * k) 1]
      refine va_sld hx hb hbx hbl hbA h.2.2.1 (hp_ix (j := (4 * k + 1)) (n := N) rfl (by omega) (by omega)).1 d_L_law_163 ?_
      rw [(hp_ix (i := nI (4 * k + 1)) (j := (4 * k + 1)) (n := N) rfl (by omega) (by omega)).2]
      rw [hpa]
      refine lv_aload_n hx hb d_L_law_164 rfl (lv_at hl 1 rfl) ?_
      refine lv_iload hx hb d_L_law_165 (lv_at hl 5 rfl) ?_
      refine lv_iconst (v := 2) hx hb d_L_law_167 (by decide) ?_
      refine lv_iadd hx hb d_L_law_168 ?_
      rw [show nI (4 * k) + 2 = nI (4 * k + 2) from nI_add (4 * k) 2]
      refine va_sld hx hb hbx hbl hbA h.2.2.1 (hp_ix (j := (4 * k + 2)) (n := N) rfl (by omega) (by omega)).1 d_L_law_169 ?_
      rw [(hp_ix (i := nI (4 * k + 2)) (j := (4 * k + 2)) (n := N) rfl (by omega) (by omega)).2]
      refine lv_aload_n hx hb d_L_law_170 rfl (lv_at hl 1 rfl) ?_
      refine lv_iload hx hb d_L_law_171 (lv_at hl 5 rfl) ?_
      refine lv_iconst (v := 3) hx hb d_L_law_173 (by decide) ?_
      refine lv_iadd hx hb d_L_law_174 ?_
      rw [show nI (4 * k) + 3 = nI (4 * k + 3) from nI_add (4 * k) 3]
      refine va_sld hx hb hbx hbl hbA h.2.2.1 (hp_ix (j := (4 * k + 3)) (n := N) rfl (by omega) (by omega)).1 d_L_law_175 ?_
      rw [(hp_ix (i := nI (4 * k + 3)) (j := (4 * k + 3)) (n := N) rfl (by omega) (by omega)).2]
      refine hp_calli (hp_runV (As := [.int (nI a), .int (xs (4 * k + 2)), .int (xs (4 * k + 3))]) (rest := []) ⟨hx, hb, hml, hown, hg⟩ (c_R_edge l D tys de sa (pa := nI a) (pb := (xs (4 * k + 2))) (w := (xs (4 * k + 3))) ht ht3 hR hn7 hm12) (cwV 3 hg (gw_V w623 w624 w625 w7 w626) rfl rfl rfl (by decide +kernel) ⟨Nat.le_of_ble_eq_true rfl, Nat.le_of_ble_eq_true rfl⟩) (s_ok de sa) hK hX h hR.1 rfl rfl rfl hl.1 rfl (Nat.le_of_ble_eq_true rfl) d_L_law_176 ⟨by show _ ≤ 601024; omega, by show _ ≤ 7293034; omega⟩) h (fun r3 L3 f3 H locs hp3 h => ?_)
      have hq : kRP cI cZ ad τ L f 1 E S (L3, f3) := by
        rcases hp3 with ⟨a9, b9, -, z2, -, -, z5, -⟩ | ⟨-, hq⟩ | ⟨z, -⟩ | ⟨z, -⟩
        · rw [z5] at hb2; exact absurd hb2 (kBad_nI hn7 z2)
        · exact hq
        · exact absurd (Or.inr hb2) z
        · exact absurd (Or.inr hb2) z
      obtain ⟨hR, hF3⟩ := hq
      dsimp only at hR
      have hG := hG.moveR hF3
      have hL3 := hF3.1
      dsimp only at hL3
      have ho : hp_at L3 f3 (ad 200) _ := ⟨by rw [hL3]; exact ho.1, (hF3.2 _ ho.1 (Or.inr (by omega))).trans ho.2⟩
      refine lv_istore (lv' := [(6, .int r3), (5, .int 1), (0, .ref b), (1, .ref (ad 0)), (2, .ref (ad 100)), (3, .ref (ad 200)), (4, .int (nI (4 * k)))]) hx hb d_L_law_179 hl (by decide) rfl (fun ls hl => ?_)
      refine lv_aload_n hx hb d_L_law_181 rfl (lv_at hl 4 rfl) ?_
      refine hp_callR (hp_runV (As := []) (rest := []) ⟨hx, hb, hml, hown, hg⟩ (c_R_thrown l D tys de sa ht ht3 hR hn7 hm12) (cwV 0 hg (gw_V w615 w616 w617 w7 w618) rfl rfl rfl (by decide +kernel) ⟨Nat.le_of_ble_eq_true rfl, Nat.le_of_ble_eq_true rfl⟩) (s_ok de sa) hK hX h hR.1 rfl rfl rfl hl.1 rfl (Nat.le_of_ble_eq_true rfl) d_L_law_182 ⟨by show _ ≤ 601024; omega, by show _ ≤ 7293034; omega⟩) (fun r1 hp => ?_)
      subst hp
      refine lv_iload hx hb d_L_law_185 (lv_at hl 1 rfl) ?_
      refine lv_icmp_eq (tgt := 192) hx hb d_L_law_187 (by decide) (fun hc => ?_) (fun hc => ?_)
      · skip
        refine lv_iload hx hb d_L_law_192 (lv_at hl 1 rfl) ?_
        refine lv_if_ne (tgt := 209) hx hb d_L_law_194 (by decide) (fun hc2 => ?_) (fun hc2 => ?_)
        · skip
          refine lv_goto (tgt := 654) hx hb d_L_law_209 (by decide) ?_
          exact next E S _ _ _ _ _ _ _ ls ⟨hG, ⟨_, hR⟩, ⟨_, ho⟩, hto, hI1, by omega, by omega, h⟩ (lv_sub hl [2, 3, 4, 5, 6] rfl)
        · skip
          exact absurd hc2 (by decide)
      · skip
        exact absurd rfl hc
    · skip
      obtain ⟨b9, hb9, hpb⟩ := kBad_not hn7 hb2
      have hnb2 : ¬ kBad2 E (nI a) (nI b9) := fun z => by rcases z with z | z; exact kBad_nI hn7 ha z; exact kBad_nI hn7 hb9 z
      by_cases hno9 : kNo E (nI a) (nI b9) (xs (4 * k + 3))
      · skip
        refine lv_aload_n hx hb d_L_law_132 rfl (lv_at hl 1 rfl) ?_
        refine lv_aload_n hx hb d_L_law_133 rfl (lv_at hl 0 rfl) ?_
        refine lv_iload hx hb d_L_law_134 (lv_at hl 4 rfl) ?_
        refine lv_iconst (v := 1) hx hb d_L_law_136 (by decide) ?_
        refine lv_iadd hx hb d_L_law_137 ?_
        rw [show nI (4 * k) + 1 = nI (4 * k + 1) from nI_add (4 * k) 1]
        refine va_sld hx hb hbx hbl hbA h.2.2.1 (hp_ix (j := (4 * k + 1)) (n := N) rfl (by omega) (by omega)).1 d_L_law_138 ?_
        rw [(hp_ix (i := nI (4 * k + 1)) (j := (4 * k + 1)) (n := N) rfl (by omega) (by omega)).2]
        rw [hpa]
        refine lv_aload_n hx hb d_L_law_139 rfl (lv_at hl 0 rfl) ?_
        refine lv_iload hx hb d_L_law_140 (lv_at hl 4 rfl) ?_
        refine lv_iconst (v := 2) hx hb d_L_law_142 (by decide) ?_
        refine lv_iadd hx hb d_L_law_143 ?_
        rw [show nI (4 * k) + 2 = nI (4 * k + 2) from nI_add (4 * k) 2]
        refine va_sld hx hb hbx hbl hbA h.2.2.1 (hp_ix (j := (4 * k + 2)) (n := N) rfl (by omega) (by omega)).1 d_L_law_144 ?_
        rw [(hp_ix (i := nI (4 * k + 2)) (j := (4 * k + 2)) (n := N) rfl (by omega) (by omega)).2]
        rw [hpb]
        refine lv_aload_n hx hb d_L_law_145 rfl (lv_at hl 0 rfl) ?_
        refine lv_iload hx hb d_L_law_146 (lv_at hl 4 rfl) ?_
        refine lv_iconst (v := 3) hx hb d_L_law_148 (by decide) ?_
        refine lv_iadd hx hb d_L_law_149 ?_
        rw [show nI (4 * k) + 3 = nI (4 * k + 3) from nI_add (4 * k) 3]
        refine va_sld hx hb hbx hbl hbA h.2.2.1 (hp_ix (j := (4 * k + 3)) (n := N) rfl (by omega) (by omega)).1 d_L_law_150 ?_
        rw [(hp_ix (i := nI (4 * k + 3)) (j := (4 * k + 3)) (n := N) rfl (by omega) (by omega)).2]
        refine lv_aload_n hx hb d_L_law_151 rfl (lv_at hl 3 rfl) ?_
        refine hp_calli (hp_runSW (n := 5) (As := [.ref (ad 0), .int (nI a), .int (nI b9), .int (xs (4 * k + 3)), .ref (ad 200)]) (rest := []) ⟨hx, hb, hml, hown, hg⟩ (w_edge3 l hoff D tys de sa ht ht1 ht2 hG ha hb9 (by rcases hno9 with z | z; exact Or.inl ((nI_eq (by omega) (by omega)).mp z); exact Or.inr z)) w244 w242 w243 w0 rfl rfl (by decide +kernel) ⟨Nat.le_of_ble_eq_true rfl, Nat.le_of_ble_eq_true rfl⟩ hg (s_ok de sa) hK hX h rfl hl.1 rfl (Nat.le_of_ble_eq_true rfl) d_L_law_152 ⟨by show _ ≤ 601024; omega, by show _ ≤ 7293034; omega⟩) h (fun r1 Ln fn H locs hp h => ?_)
        obtain ⟨hr1, hu⟩ := hp
        obtain ⟨hL1, hf1⟩ := Prod.mk.inj hu
        subst hr1
        have hL1 := hL1.symm
        subst hL1
        have hf1 := hf1.symm
        subst hf1
        refine lv_istore (lv' := [(5, .int 2), (0, .ref b), (1, .ref (ad 0)), (2, .ref (ad 100)), (3, .ref (ad 200)), (4, .int (nI (4 * k)))]) hx hb d_L_law_155 hl (by decide) rfl (fun ls hl => ?_)
        refine lv_aload_n hx hb d_L_law_157 rfl (lv_at hl 3 rfl) ?_
        refine lv_aload_n hx hb d_L_law_158 rfl (lv_at hl 1 rfl) ?_
        refine lv_iload hx hb d_L_law_159 (lv_at hl 5 rfl) ?_
        refine lv_iconst (v := 1) hx hb d_L_law_161 (by decide) ?_
        refine lv_iadd hx hb d_L_law_162 ?_
        rw [show nI (4 * k) + 1 = nI (4 * k + 1) from nI_add (4 * k) 1]
        refine va_sld hx hb hbx hbl hbA h.2.2.1 (hp_ix (j := (4 * k + 1)) (n := N) rfl (by omega) (by omega)).1 d_L_law_163 ?_
        rw [(hp_ix (i := nI (4 * k + 1)) (j := (4 * k + 1)) (n := N) rfl (by omega) (by omega)).2]
        rw [hpa]
        refine lv_aload_n hx hb d_L_law_164 rfl (lv_at hl 1 rfl) ?_
        refine lv_iload hx hb d_L_law_165 (lv_at hl 5 rfl) ?_
        refine lv_iconst (v := 2) hx hb d_L_law_167 (by decide) ?_
        refine lv_iadd hx hb d_L_law_168 ?_
        rw [show nI (4 * k) + 2 = nI (4 * k + 2) from nI_add (4 * k) 2]
        refine va_sld hx hb hbx hbl hbA h.2.2.1 (hp_ix (j := (4 * k + 2)) (n := N) rfl (by omega) (by omega)).1 d_L_law_169 ?_
        rw [(hp_ix (i := nI (4 * k + 2)) (j := (4 * k + 2)) (n := N) rfl (by omega) (by omega)).2]
        rw [hpb]
        refine lv_aload_n hx hb d_L_law_170 rfl (lv_at hl 1 rfl) ?_
        refine lv_iload hx hb d_L_law_171 (lv_at hl 5 rfl) ?_
        refine lv_iconst (v := 3) hx hb d_L_law_173 (by decide) ?_
        refine lv_iadd hx hb d_L_law_174 ?_
        rw [show nI (4 * k) + 3 = nI (4 * k + 3) from nI_add (4 * k) 3]
        refine va_sld hx hb hbx hbl hbA h.2.2.1 (hp_ix (j := (4 * k + 3)) (n := N) rfl (by omega) (by omega)).1 d_L_law_175 ?_
        rw [(hp_ix (i := nI (4 * k + 3)) (j := (4 * k + 3)) (n := N) rfl (by omega) (by omega)).2]
        refine hp_calli (hp_runV (As := [.int (nI a), .int (nI b9), .int (xs (4 * k + 3))]) (rest := []) ⟨hx, hb, hml, hown, hg⟩ (c_R_edge l D tys de sa (pa := nI a) (pb := nI b9) (w := (xs (4 * k + 3))) ht ht3 hR hn7 hm12) (cwV 3 hg (gw_V w623 w624 w625 w7 w626) rfl rfl rfl (by decide +kernel) ⟨Nat.le_of_ble_eq_true rfl, Nat.le_of_ble_eq_true rfl⟩) (s_ok de sa) hK hX h hR.1 rfl rfl rfl hl.1 rfl (Nat.le_of_ble_eq_true rfl) d_L_law_176 ⟨by show _ ≤ 601024; omega, by show _ ≤ 7293034; omega⟩) h (fun r3 L3 f3 H locs hp3 h => ?_)
        have hq : kRP cI cZ ad τ L f 2 E S (L3, f3) := by
          rcases hp3 with ⟨a8, b8, z1, z2, z3, z4, z5, z6, z7, z8, -⟩ | ⟨z, -⟩ | ⟨-, -, hq⟩ | ⟨-, z, -⟩
          · rcases hno9 with z | z | z | ⟨j, hj, z⟩
            · exact absurd ((nI_eq (by omega) (by omega)).mp (z4.symm.trans (z.trans z5))) z3
            · exact absurd z6 (Int32.not_le.mpr z)
            · exact absurd z7 (Int32.not_le.mpr z)
            · exact absurd z (z8 j hj)
          · exact absurd z hnb2
          · exact hq
          · exact absurd hno9 z
        obtain ⟨hR, hF3⟩ := hq
        dsimp only at hR
        have hG := hG.moveR hF3
        have hL3 := hF3.1
        dsimp only at hL3
        have ho : hp_at L3 f3 (ad 200) _ := ⟨by rw [hL3]; exact ho.1, (hF3.2 _ ho.1 (Or.inr (by omega))).trans ho.2⟩
        refine lv_istore (lv' := [(6, .int r3), (5, .int 2), (0, .ref b), (1, .ref (ad 0)), (2, .ref (ad 100)), (3, .ref (ad 200)), (4, .int (nI (4 * k)))]) hx hb d_L_law_179 hl (by decide) rfl (fun ls hl => ?_)
        refine lv_aload_n hx hb d_L_law_181 rfl (lv_at hl 4 rfl) ?_
        refine hp_callR (hp_runV (As := []) (rest := []) ⟨hx, hb, hml, hown, hg⟩ (c_R_thrown l D tys de sa ht ht3 hR hn7 hm12) (cwV 0 hg (gw_V w615 w616 w617 w7 w618) rfl rfl rfl (by decide +kernel) ⟨Nat.le_of_ble_eq_true rfl, Nat.le_of_ble_eq_true rfl⟩) (s_ok de sa) hK hX h hR.1 rfl rfl rfl hl.1 rfl (Nat.le_of_ble_eq_true rfl) d_L_law_182 ⟨by show _ ≤ 601024; omega, by show _ ≤ 7293034; omega⟩) (fun r1 hp => ?_)
        subst hp
        refine lv_iload hx hb d_L_law_185 (lv_at hl 1 rfl) ?_
        refine lv_icmp_eq (tgt := 192) hx hb d_L_law_187 (by decide) (fun hc => ?_) (fun hc => ?_)
        · skip
          refine lv_iload hx hb d_L_law_192 (lv_at hl 1 rfl) ?_
          refine lv_if_ne (tgt := 209) hx hb d_L_law_194 (by decide) (fun hc2 => ?_) (fun hc2 => ?_)
          · skip
            refine lv_goto (tgt := 654) hx hb d_L_law_209 (by decide) ?_
            exact next E S _ _ _ _ _ _ _ ls ⟨hG, ⟨_, hR⟩, ⟨_, ho⟩, hto, hI1, by omega, by omega, h⟩ (lv_sub hl [2, 3, 4, 5, 6] rfl)
          · skip
            exact absurd hc2 (by decide)
        · skip
          exact absurd rfl hc
      · skip
        have hab : a ≠ b9 := fun z => hno9 (Or.inl (by rw [z]))
        have hw9 : 1 ≤ (xs (4 * k + 3)) := Int32.not_lt.mp (fun z => hno9 (Or.inr (Or.inl z)))
        have hw99 : (xs (4 * k + 3)) ≤ 99 := Int32.not_lt.mp (fun z => hno9 (Or.inr (Or.inr (Or.inl z))))
        have hnt : ∀ j, j < E.2.1 → ¬ E.2.2.2.2 j = (xs (4 * k + 3)) := fun j hj z => hno9 (Or.inr (Or.inr (Or.inr ⟨j, hj, z⟩)))
        by_cases hst9 : (∃ i, i < E.1 ∧ ¬ S.1 i 0 = 0) ∨ E.2.1 = 12
        · skip
          refine lv_aload_n hx hb d_L_law_132 rfl (lv_at hl 1 rfl) ?_
          refine lv_aload_n hx hb d_L_law_133 rfl (lv_at hl 0 rfl) ?_
          refine lv_iload hx hb d_L_law_134 (lv_at hl 4 rfl) ?_
          refine lv_iconst (v := 1) hx hb d_L_law_136 (by decide) ?_
          refine lv_iadd hx hb d_L_law_137 ?_
          rw [show nI (4 * k) + 1 = nI (4 * k + 1) from nI_add (4 * k) 1]
          refine va_sld hx hb hbx hbl hbA h.2.2.1 (hp_ix (j := (4 * k + 1)) (n := N) rfl (by omega) (by omega)).1 d_L_law_138 ?_
          rw [(hp_ix (i := nI (4 * k + 1)) (j := (4 * k + 1)) (n := N) rfl (by omega) (by omega)).2]
          rw [hpa]
          refine lv_aload_n hx hb d_L_law_139 rfl (lv_at hl 0 rfl) ?_
          refine lv_iload hx hb d_L_law_140 (lv_at hl 4 rfl) ?_
          refine lv_iconst (v := 2) hx hb d_L_law_142 (by decide) ?_
          refine lv_iadd hx hb d_L_law_143 ?_
          rw [show nI (4 * k) + 2 = nI (4 * k + 2) from nI_add (4 * k) 2]
          refine va_sld hx hb hbx hbl hbA h.2.2.1 (hp_ix (j := (4 * k + 2)) (n := N) rfl (by omega) (by omega)).1 d_L_law_144 ?_
          rw [(hp_ix (i := nI (4 * k + 2)) (j := (4 * k + 2)) (n := N) rfl (by omega) (by omega)).2]
          rw [hpb]
          refine lv_aload_n hx hb d_L_law_145 rfl (lv_at hl 0 rfl) ?_
          refine lv_iload hx hb d_L_law_146 (lv_at hl 4 rfl) ?_
          refine lv_iconst (v := 3) hx hb d_L_law_148 (by decide) ?_
          refine lv_iadd hx hb d_L_law_149 ?_
          rw [show nI (4 * k) + 3 = nI (4 * k + 3) from nI_add (4 * k) 3]
          refine va_sld hx hb hbx hbl hbA h.2.2.1 (hp_ix (j := (4 * k + 3)) (n := N) rfl (by omega) (by omega)).1 d_L_law_150 ?_
          rw [(hp_ix (i := nI (4 * k + 3)) (j := (4 * k + 3)) (n := N) rfl (by omega) (by omega)).2]
          refine lv_aload_n hx hb d_L_law_151 rfl (lv_at hl 3 rfl) ?_
          refine hp_calli (hp_runSW (n := 5) (As := [.ref (ad 0), .int (nI a), .int (nI b9), .int (xs (4 * k + 3)), .ref (ad 200)]) (rest := []) ⟨hx, hb, hml, hown, hg⟩ (w_edge4 l hoff D tys de sa ht ht1 ht2 hG ha hb9 hab hw9 hw99 hnt hst9) w244 w242 w243 w0 rfl rfl (by decide +kernel) ⟨Nat.le_of_ble_eq_true rfl, Nat.le_of_ble_eq_true rfl⟩ hg (s_ok de sa) hK hX h rfl hl.1 rfl (Nat.le_of_ble_eq_true rfl) d_L_law_152 ⟨by show _ ≤ 601024; omega, by show _ ≤ 7293034; omega⟩) h (fun r1 Ln fn H locs hp h => ?_)
          obtain ⟨hr1, hu⟩ := hp
          obtain ⟨hL1, hf1⟩ := Prod.mk.inj hu
          subst hr1
          have hL1 := hL1.symm
          subst hL1
          have hf1 := hf1.symm
          subst hf1
          refine lv_istore (lv' := [(5, .int 3), (0, .ref b), (1, .ref (ad 0)), (2, .ref (ad 100)), (3, .ref (ad 200)), (4, .int (nI (4 * k)))]) hx hb d_L_law_155 hl (by decide) rfl (fun ls hl => ?_)
          refine lv_aload_n hx hb d_L_law_157 rfl (lv_at hl 3 rfl) ?_
          refine lv_aload_n hx hb d_L_law_158 rfl (lv_at hl 1 rfl) ?_
          refine lv_iload hx hb d_L_law_159 (lv_at hl 5 rfl) ?_
          refine lv_iconst (v := 1) hx hb d_L_law_161 (by decide) ?_
          refine lv_iadd hx hb d_L_law_162 ?_
          rw [show nI (4 * k) + 1 = nI (4 * k + 1) from nI_add (4 * k) 1]
          refine va_sld hx hb hbx hbl hbA h.2.2.1 (hp_ix (j := (4 * k + 1)) (n := N) rfl (by omega) (by omega)).1 d_L_law_163 ?_
          rw [(hp_ix (i := nI (4 * k + 1)) (j := (4 * k + 1)) (n := N) rfl (by omega) (by omega)).2]
          rw [hpa]
          refine lv_aload_n hx hb d_L_law_164 rfl (lv_at hl 1 rfl) ?_
          refine lv_iload hx hb d_L_law_165 (lv_at hl 5 rfl) ?_
          refine lv_iconst (v := 2) hx hb d_L_law_167 (by decide) ?_
          refine lv_iadd hx hb d_L_law_168 ?_
          rw [show nI (4 * k) + 2 = nI (4 * k + 2) from nI_add (4 * k) 2]
          refine va_sld hx hb hbx hbl hbA h.2.2.1 (hp_ix (j := (4 * k + 2)) (n := N) rfl (by omega) (by omega)).1 d_L_law_169 ?_
          rw [(hp_ix (i := nI (4 * k + 2)) (j := (4 * k + 2)) (n := N) rfl (by omega) (by omega)).2]
          rw [hpb]
          refine lv_aload_n hx hb d_L_law_170 rfl (lv_at hl 1 rfl) ?_
          refine lv_iload hx hb d_L_law_171 (lv_at hl 5 rfl) ?_
          refine lv_iconst (v := 3) hx hb d_L_law_173 (by decide) ?_
          refine lv_iadd hx hb d_L_law_174 ?_
          rw [show nI (4 * k) + 3 = nI (4 * k + 3) from nI_add (4 * k) 3]
          refine va_sld hx hb hbx hbl hbA h.2.2.1 (hp_ix (j := (4 * k + 3)) (n := N) rfl (by omega) (by omega)).1 d_L_law_175 ?_
          rw [(hp_ix (i := nI (4 * k + 3)) (j := (4 * k + 3)) (n := N) rfl (by omega) (by omega)).2]
          refine hp_calli (hp_runV (As := [.int (nI a), .int (nI b9), .int (xs (4 * k + 3))]) (rest := []) ⟨hx, hb, hml, hown, hg⟩ (c_R_edge l D tys de sa (pa := nI a) (pb := nI b9) (w := (xs (4 * k + 3))) ht ht3 hR hn7 hm12) (cwV 3 hg (gw_V w623 w624 w625 w7 w626) rfl rfl rfl (by decide +kernel) ⟨Nat.le_of_ble_eq_true rfl, Nat.le_of_ble_eq_true rfl⟩) (s_ok de sa) hK hX h hR.1 rfl rfl rfl hl.1 rfl (Nat.le_of_ble_eq_true rfl) d_L_law_176 ⟨by show _ ≤ 601024; omega, by show _ ≤ 7293034; omega⟩) h (fun r3 L3 f3 H locs hp3 h => ?_)
          have hq : kRP cI cZ ad τ L f 3 E S (L3, f3) := by
            rcases hp3 with ⟨a8, b8, -, -, -, -, -, -, -, -, z9, z10, -⟩ | ⟨z, -⟩ | ⟨-, z, -⟩ | ⟨-, -, -, hq⟩
            · rcases hst9 with ⟨i, hi, z⟩ | z
              · exact absurd ((hP.2.2 i hi).1.resolve_left z) (z9 i hi)
              · omega
            · exact absurd z hnb2
            · exact absurd z hno9
            · exact hq
          obtain ⟨hR, hF3⟩ := hq
          dsimp only at hR
          have hG := hG.moveR hF3
          have hL3 := hF3.1
          dsimp only at hL3
          have ho : hp_at L3 f3 (ad 200) _ := ⟨by rw [hL3]; exact ho.1, (hF3.2 _ ho.1 (Or.inr (by omega))).trans ho.2⟩
          refine lv_istore (lv' := [(6, .int r3), (5, .int 3), (0, .ref b), (1, .ref (ad 0)), (2, .ref (ad 100)), (3, .ref (ad 200)), (4, .int (nI (4 * k)))]) hx hb d_L_law_179 hl (by decide) rfl (fun ls hl => ?_)
          refine lv_aload_n hx hb d_L_law_181 rfl (lv_at hl 4 rfl) ?_
          refine hp_callR (hp_runV (As := []) (rest := []) ⟨hx, hb, hml, hown, hg⟩ (c_R_thrown l D tys de sa ht ht3 hR hn7 hm12) (cwV 0 hg (gw_V w615 w616 w617 w7 w618) rfl rfl rfl (by decide +kernel) ⟨Nat.le_of_ble_eq_true rfl, Nat.le_of_ble_eq_true rfl⟩) (s_ok de sa) hK hX h hR.1 rfl rfl rfl hl.1 rfl (Nat.le_of_ble_eq_true rfl) d_L_law_182 ⟨by show _ ≤ 601024; omega, by show _ ≤ 7293034; omega⟩) (fun r1 hp => ?_)
          subst hp
          refine lv_iload hx hb d_L_law_185 (lv_at hl 1 rfl) ?_
          refine lv_icmp_eq (tgt := 192) hx hb d_L_law_187 (by decide) (fun hc => ?_) (fun hc => ?_)
          · skip
            refine lv_iload hx hb d_L_law_192 (lv_at hl 1 rfl) ?_
            refine lv_if_ne (tgt := 209) hx hb d_L_law_194 (by decide) (fun hc2 => ?_) (fun hc2 => ?_)
            · skip
              refine lv_goto (tgt := 654) hx hb d_L_law_209 (by decide) ?_
              exact next E S _ _ _ _ _ _ _ ls ⟨hG, ⟨_, hR⟩, ⟨_, ho⟩, hto, hI1, by omega, by omega, h⟩ (lv_sub hl [2, 3, 4, 5, 6] rfl)
            · skip
              exact absurd hc2 (by decide)
          · skip
            exact absurd rfl hc
        · skip
          have hna : ∀ i, i < E.1 → S.1 i 0 = 0 := fun i hi => Decidable.byContradiction (fun z => hst9 (Or.inl ⟨i, hi, z⟩))
          have hm : E.2.1 < 12 := by rcases Nat.lt_or_ge E.2.1 12 with z | z; exact z; exact absurd (Or.inr (by omega)) hst9
          have hI2 := hIv.2.2.2.1 k E S a b9 (xs (4 * k + 3)) hI ha hb9 hab hw9 hw99 hnt hna hm
          have hcu2 : k_cu (k_edge E S a b9) = k_cu S ∧ k_su (k_edge E S a b9) = k_su S := ⟨rfl, rfl⟩
          refine lv_aload_n hx hb d_L_law_132 rfl (lv_at hl 1 rfl) ?_
          refine lv_aload_n hx hb d_L_law_133 rfl (lv_at hl 0 rfl) ?_
          refine lv_iload hx hb d_L_law_134 (lv_at hl 4 rfl) ?_
          refine lv_iconst (v := 1) hx hb d_L_law_136 (by decide) ?_
          refine lv_iadd hx hb d_L_law_137 ?_
          rw [show nI (4 * k) + 1 = nI (4 * k + 1) from nI_add (4 * k) 1]
          refine va_sld hx hb hbx hbl hbA h.2.2.1 (hp_ix (j := (4 * k + 1)) (n := N) rfl (by omega) (by omega)).1 d_L_law_138 ?_
          rw [(hp_ix (i := nI (4 * k + 1)) (j := (4 * k + 1)) (n := N) rfl (by omega) (by omega)).2]
          rw [hpa]
          refine lv_aload_n hx hb d_L_law_139 rfl (lv_at hl 0 rfl) ?_
          refine lv_iload hx hb d_L_law_140 (lv_at hl 4 rfl) ?_
          refine lv_iconst (v := 2) hx hb d_L_law_142 (by decide) ?_
          refine lv_iadd hx hb d_L_law_143 ?_
          rw [show nI (4 * k) + 2 = nI (4 * k + 2) from nI_add (4 * k) 2]
          refine va_sld hx hb hbx hbl hbA h.2.2.1 (hp_ix (j := (4 * k + 2)) (n := N) rfl (by omega) (by omega)).1 d_L_law_144 ?_
          rw [(hp_ix (i := nI (4 * k + 2)) (j := (4 * k + 2)) (n := N) rfl (by omega) (by omega)).2]
          rw [hpb]
          refine lv_aload_n hx hb d_L_law_145 rfl (lv_at hl 0 rfl) ?_
          refine lv_iload hx hb d_L_law_146 (lv_at hl 4 rfl) ?_
          refine lv_iconst (v := 3) hx hb d_L_law_148 (by decide) ?_
          refine lv_iadd hx hb d_L_law_149 ?_
          rw [show nI (4 * k) + 3 = nI (4 * k + 3) from nI_add (4 * k) 3]
          refine va_sld hx hb hbx hbl hbA h.2.2.1 (hp_ix (j := (4 * k + 3)) (n := N) rfl (by omega) (by omega)).1 d_L_law_150 ?_
          rw [(hp_ix (i := nI (4 * k + 3)) (j := (4 * k + 3)) (n := N) rfl (by omega) (by omega)).2]
          refine lv_aload_n hx hb d_L_law_151 rfl (lv_at hl 3 rfl) ?_
          refine hp_calli (hp_runSW (n := 5) (As := [.ref (ad 0), .int (nI a), .int (nI b9), .int (xs (4 * k + 3)), .ref (ad 200)]) (rest := []) ⟨hx, hb, hml, hown, hg⟩ (w_edge0 l hoff D tys de sa ht ht1 ht2 ht4 hG ho hto ha hb9 hab hw9 hw99 hnt hna hm) w244 w242 w243 w0 rfl rfl (by decide +kernel) ⟨Nat.le_of_ble_eq_true rfl, Nat.le_of_ble_eq_true rfl⟩ hg (s_ok de sa) hK hX h rfl hl.1 rfl (Nat.le_of_ble_eq_true rfl) d_L_law_152 ⟨by show _ ≤ 601024; omega, by show _ ≤ 7293034; omega⟩) h (fun r1 Ln fn H locs hp h => ?_)
          obtain ⟨hr1, τn, hG, hmv, g9, ho9, hg9⟩ := hp
          dsimp only at hG
          subst hr1
          have hto9 : τn (ad 200) = 200 := ((hmv _ hoL).2 (by omega)).1.trans hto
          have hR := hR.move (o9 := ad 200) hmv hto
          have ho := ho9
          have hto := hto9
          refine lv_istore (lv' := [(5, .int 0), (0, .ref b), (1, .ref (ad 0)), (2, .ref (ad 100)), (3, .ref (ad 200)), (4, .int (nI (4 * k)))]) hx hb d_L_law_155 hl (by decide) rfl (fun ls hl => ?_)
          refine lv_aload_n hx hb d_L_law_157 rfl (lv_at hl 3 rfl) ?_
          refine lv_aload_n hx hb d_L_law_158 rfl (lv_at hl 1 rfl) ?_
          refine lv_iload hx hb d_L_law_159 (lv_at hl 5 rfl) ?_
          refine lv_iconst (v := 1) hx hb d_L_law_161 (by decide) ?_
          refine lv_iadd hx hb d_L_law_162 ?_
          rw [show nI (4 * k) + 1 = nI (4 * k + 1) from nI_add (4 * k) 1]
          refine va_sld hx hb hbx hbl hbA h.2.2.1 (hp_ix (j := (4 * k + 1)) (n := N) rfl (by omega) (by omega)).1 d_L_law_163 ?_
          rw [(hp_ix (i := nI (4 * k + 1)) (j := (4 * k + 1)) (n := N) rfl (by omega) (by omega)).2]
          rw [hpa]
          refine lv_aload_n hx hb d_L_law_164 rfl (lv_at hl 1 rfl) ?_
          refine lv_iload hx hb d_L_law_165 (lv_at hl 5 rfl) ?_
          refine lv_iconst (v := 2) hx hb d_L_law_167 (by decide) ?_
          refine lv_iadd hx hb d_L_law_168 ?_
          rw [show nI (4 * k) + 2 = nI (4 * k + 2) from nI_add (4 * k) 2]
          refine va_sld hx hb hbx hbl hbA h.2.2.1 (hp_ix (j := (4 * k + 2)) (n := N) rfl (by omega) (by omega)).1 d_L_law_169 ?_
          rw [(hp_ix (i := nI (4 * k + 2)) (j := (4 * k + 2)) (n := N) rfl (by omega) (by omega)).2]
          rw [hpb]
          refine lv_aload_n hx hb d_L_law_170 rfl (lv_at hl 1 rfl) ?_
          refine lv_iload hx hb d_L_law_171 (lv_at hl 5 rfl) ?_
          refine lv_iconst (v := 3) hx hb d_L_law_173 (by decide) ?_
          refine lv_iadd hx hb d_L_law_174 ?_
          rw [show nI (4 * k) + 3 = nI (4 * k + 3) from nI_add (4 * k) 3]
          refine va_sld hx hb hbx hbl hbA h.2.2.1 (hp_ix (j := (4 * k + 3)) (n := N) rfl (by omega) (by omega)).1 d_L_law_175 ?_
          rw [(hp_ix (i := nI (4 * k + 3)) (j := (4 * k + 3)) (n := N) rfl (by omega) (by omega)).2]
          refine hp_calli (hp_runV (As := [.int (nI a), .int (nI b9), .int (xs (4 * k + 3))]) (rest := []) ⟨hx, hb, hml, hown, hg⟩ (c_R_edge l D tys de sa (pa := nI a) (pb := nI b9) (w := (xs (4 * k + 3))) ht ht3 hR hn7 hm12) (cwV 3 hg (gw_V w623 w624 w625 w7 w626) rfl rfl rfl (by decide +kernel) ⟨Nat.le_of_ble_eq_true rfl, Nat.le_of_ble_eq_true rfl⟩) (s_ok de sa) hK hX h hR.1 rfl rfl rfl hl.1 rfl (Nat.le_of_ble_eq_true rfl) d_L_law_176 ⟨by show _ ≤ 601024; omega, by show _ ≤ 7293034; omega⟩) h (fun r3 L3 f3 H locs hp3 h => ?_)
          have hq9 : r3 = nI E.2.1 ∧ kRP cI cZ ad τn Ln fn 0 (k_edgeE E a b9 (xs (4 * k + 3))) (k_edge E S a b9) (L3, f3) := by
            rcases hp3 with ⟨a8, b8, z1, z2, z3, z4, z5, -, -, -, -, -, z11, hq⟩ | ⟨z, -⟩ | ⟨-, z, -⟩ | ⟨-, -, z, -⟩
            · have e1 := (nI_eq (by omega) (by omega)).mp z4
              have e2 := (nI_eq (by omega) (by omega)).mp z5
              subst e1
              subst e2
              exact ⟨z11, hq⟩
            · exact absurd z hnb2
            · exact absurd z hno9
            · rcases z with ⟨i, hi, z⟩ | z
              · rw [hna i hi] at z; exact absurd z (by decide)
              · omega
          obtain ⟨hr3, hq⟩ := hq9
          obtain ⟨hR, hF3⟩ := hq
          dsimp only at hR
          have hG := hG.moveR hF3
          have hL3 := hF3.1
          dsimp only at hL3
          have ho : hp_at L3 f3 (ad 200) _ := ⟨by rw [hL3]; exact ho.1, (hF3.2 _ ho.1 (Or.inr (by omega))).trans ho.2⟩
          subst hr3
          refine lv_istore (lv' := [(6, .int (nI E.2.1)), (5, .int 0), (0, .ref b), (1, .ref (ad 0)), (2, .ref (ad 100)), (3, .ref (ad 200)), (4, .int (nI (4 * k)))]) hx hb d_L_law_179 hl (by decide) rfl (fun ls hl => ?_)
          refine lv_aload_n hx hb d_L_law_181 rfl (lv_at hl 4 rfl) ?_
          refine hp_callR (hp_runV (As := []) (rest := []) ⟨hx, hb, hml, hown, hg⟩ (c_R_thrown l D tys de sa ht ht3 hR (by exact hn7) (by show E.2.1 + 1 ≤ 12; omega)) (cwV 0 hg (gw_V w615 w616 w617 w7 w618) rfl rfl rfl (by decide +kernel) ⟨Nat.le_of_ble_eq_true rfl, Nat.le_of_ble_eq_true rfl⟩) (s_ok de sa) hK hX h hR.1 rfl rfl rfl hl.1 rfl (Nat.le_of_ble_eq_true rfl) d_L_law_182 ⟨by show _ ≤ 601024; omega, by show _ ≤ 7293034; omega⟩) (fun r1 hp => ?_)
          subst hp
          refine lv_iload hx hb d_L_law_185 (lv_at hl 1 rfl) ?_
          refine lv_icmp_eq (tgt := 192) hx hb d_L_law_187 (by decide) (fun hc => ?_) (fun hc => ?_)
          · skip
            refine lv_iload hx hb d_L_law_192 (lv_at hl 1 rfl) ?_
            refine lv_if_ne (tgt := 209) hx hb d_L_law_194 (by decide) (fun hc2 => ?_) (fun hc2 => ?_)
            · skip
              exact absurd rfl hc2
            · skip
              refine lv_aload_n hx hb d_L_law_197 rfl (lv_at hl 5 rfl) ?_
              refine lv_iconst (v := 0) hx hb d_L_law_198 (by decide) ?_
              refine hp_lald hx hb hK h 4 ho ht4 (show (0 : Int32) = nI 0 from rfl) (by decide) (by decide) d_L_law_199 ?_
              refine lv_iload hx hb d_L_law_200 (lv_at hl 0 rfl) ?_
              refine lv_i2l hx hb d_L_law_202 rfl ?_
              refine W.lcmp hx hb d_L_law_203 ?_
              rw [hg9, show lg_cmp ((nI E.2.1).toInt64) ((nI E.2.1).toInt64) = 0 from lg_refl _]
              refine lv_if_eq (tgt := 209) hx hb d_L_law_204 (by decide) (fun hc3 => ?_) (fun hc3 => ?_)
              · skip
                refine lv_goto (tgt := 654) hx hb d_L_law_209 (by decide) ?_
                exact next (k_edgeE E a b9 (xs (4 * k + 3))) (k_edge E S a b9) _ _ _ _ _ _ _ ls ⟨hG, ⟨_, hR⟩, ⟨_, ho⟩, hto, hI2, by omega, by omega, h⟩ (lv_sub hl [2, 3, 4, 5, 6] rfl)
              · skip
                exact absurd rfl hc3
          · skip
            exact absurd rfl hc

set_option maxHeartbeats 4000000 in
set_option maxRecDepth 100000 in
theorem lw_c2 {p : Program} {l : Launch} {e : Env} {s : State} {m : MethodId} {below : List Frame} {meth : Method} {c : Code} {Q : State → Prop} {b N k : Nat} {xs : Nat → Int32} {D : va_G} {tys : List (ClassId × FieldType)} {de : Nat} {sa : Nat → Nat} {A : Nat → Prop} {cI cO cN cZ cJ : ClassId} {Iv : Nat → kE → kS → Prop} {ad : Nat → Nat} (hx : p.tables.exec = Jvm.exec) (hb : c.code = code) (hml : c.maxLocals = 7) (hoff : th_Off l) (hg : ∀ w ∈ gw, w.before #[Value.ref b] s = true) (hown : s.vm.findClass "MergingFragmentsLaw" = some m.cls) (hK : va_K D kc tys s) (hX : s_X de sa A s s.heap) (hbx : va_X b N xs s s.heap) (hbl : b < s.heap.size) (hbA : ¬ A b) (ht : tys[0]? = some (cI, .int)) (ht1 : tys[1]? = some (cO, .object "java/lang/Object")) (ht2 : tys[2]? = some (cN, .object "MergingFragments$Node")) (ht3 : tys[3]? = some (cZ, .boolean)) (ht4 : tys[4]? = some (cJ, .long)) (hIv : kIf Iv) (hN : N ≤ 2048) (hk : 4 * k + 4 ≤ N) (next : ∀ (E : kE) (S : kS) (τ : Nat → Nat) (L : List Nat) (f : Nat → va_E) (cx sx : Nat) (H : Heap) (locs : List Loc) (ls : Array Slot), lwS cI cO cN cZ cJ de D A s.heap Iv ad (k + 1) E S τ L f cx sx H locs → lv_has ls 7 [(0, .ref b), (1, .ref (ad 0)), (2, .ref (ad 100)), (3, .ref (ad 200)), (4, .int (nI (4 * k)))] → W p l e room_1 s m #[Value.ref b] below meth c H locs cx sx Q (F0 m 654 ls [])) {E : kE} {S : kS} {τ : Nat → Nat} {L : List Nat} {f : Nat → va_E} {cx sx : Nat} {H : Heap} {locs : List Loc} {ls : Array Slot} (hS : lwS cI cO cN cZ cJ de D A s.heap Iv ad k E S τ L f cx sx H locs) (hl : lv_has ls 7 [(0, .ref b), (1, .ref (ad 0)), (2, .ref (ad 100)), (3, .ref (ad 200)), (4, .int (nI (4 * k)))]) : W p l e room_1 s m #[Value.ref b] below meth c H locs cx sx Q (F0 m 212 ls []) := by
  obtain ⟨hG, ⟨cz, hR⟩, ⟨g0, ho⟩, hto, hI, hcx, hsx, h⟩ := hS
  obtain ⟨hn7, hm12, hP, h41, hno, hI1⟩ := hIv.2.1 k E S hI
  have hroom := hIv.2.2.2.2.2.2 k E S (by omega) hI
  have hW := hP.1.1
  have hoL := ho.1
  by_cases hb1 : kBad E (xs (4 * k + 1))
  · skip
    refine lv_aload_n hx hb d_L_law_212 rfl (lv_at hl 1 rfl) ?_
    refine lv_aload_n hx hb d_L_law_213 rfl (lv_at hl 0 rfl) ?_
    refine lv_iload hx hb d_L_law_214 (lv_at hl 4 rfl) ?_
    refine lv_iconst (v := 1) hx hb d_L_law_216 (by decide) ?_
    refine lv_iadd hx hb d_L_law_217 ?_
    rw [show nI (4 * k) + 1 = nI (4 * k + 1) from nI_add (4 * k) 1]
    refine va_sld hx hb hbx hbl hbA h.2.2.1 (hp_ix (j := (4 * k + 1)) (n := N) rfl (by omega) (by omega)).1 d_L_law_218 ?_
    rw [(hp_ix (i := nI (4 * k + 1)) (j := (4 * k + 1)) (n := N) rfl (by omega) (by omega)).2]
    refine lv_aload_n hx hb d_L_law_219 rfl (lv_at hl 3 rfl) ?_
    refine hp_calli (hp_runSW (n := 3) (As := [.ref (ad 0), .int (xs (4 * k + 1)), .ref (ad 200)]) (rest := []) ⟨hx, hb, hml, hown, hg⟩ (w_wake1 l hoff D tys de sa ht ht1 ht2 hG hb1) w299 w297 w298 w0 rfl rfl (by decide +kernel) ⟨Nat.le_of_ble_eq_true rfl, Nat.le_of_ble_eq_true rfl⟩ hg (s_ok de sa) hK hX h rfl hl.1 rfl (Nat.le_of_ble_eq_true rfl) d_L_law_220 ⟨by show _ ≤ 601024; omega, by show _ ≤ 7293034; omega⟩) h (fun r1 Ln fn H locs hp h => ?_)
    obtain ⟨hr1, hu⟩ := hp
    obtain ⟨hL1, hf1⟩ := Prod.mk.inj hu
    subst hr1
    have hL1 := hL1.symm
    subst hL1
    have hf1 := hf1.symm
    subst hf1
    refine lv_istore (lv' := [(5, .int 1), (0, .ref b), (1, .ref (ad 0)), (2, .ref (ad 100)), (3, .ref (ad 200)), (4, .int (nI (4 * k)))]) hx hb d_L_law_223 hl (by decide) rfl (fun ls hl => ?_)
    refine lv_aload_n hx hb d_L_law_225 rfl (lv_at hl 3 rfl) ?_
    refine lv_aload_n hx hb d_L_law_226 rfl (lv_at hl 1 rfl) ?_
    refine lv_iload hx hb d_L_law_227 (lv_at hl 5 rfl) ?_
    refine lv_iconst (v := 1) hx hb d_L_law_229 (by decide) ?_
    refine lv_iadd hx hb d_L_law_230 ?_
    rw [show nI (4 * k) + 1 = nI (4 * k + 1) from nI_add (4 * k) 1]
    refine va_sld hx hb hbx hbl hbA h.2.2.1 (hp_ix (j := (4 * k + 1)) (n := N) rfl (by omega) (by omega)).1 d_L_law_231 ?_
    rw [(hp_ix (i := nI (4 * k + 1)) (j := (4 * k + 1)) (n := N) rfl (by omega) (by omega)).2]
    refine hp_calli (hp_runV (As := [.int (xs (4 * k + 1))]) (rest := []) ⟨hx, hb, hml, hown, hg⟩ (c_R_wake l D tys de sa (w := (xs (4 * k + 1))) ht ht3 hR hn7 hm12 hP) (cwV 1 hg (gw_V w631 w632 w633 w7 w634) rfl rfl rfl (by decide +kernel) ⟨Nat.le_of_ble_eq_true rfl, Nat.le_of_ble_eq_true rfl⟩) (s_ok de sa) hK hX h hR.1 rfl rfl rfl hl.1 rfl (Nat.le_of_ble_eq_true rfl) d_L_law_232 ⟨by show _ ≤ 601024; omega, by show _ ≤ 7293034; omega⟩) h (fun r3 L3 f3 H locs hp3 h => ?_)
    have hq : kRP cI cZ ad τ L f 1 E S (L3, f3) := by
      rcases hp3 with ⟨v9, z1, z2, -⟩ | ⟨-, hq⟩
      · rw [z2] at hb1; exact absurd hb1 (kBad_nI hn7 z1)
      · exact hq
    obtain ⟨hR, hF3⟩ := hq
    dsimp only at hR
    have hG := hG.moveR hF3
    have hL3 := hF3.1
    dsimp only at hL3
    have ho : hp_at L3 f3 (ad 200) _ := ⟨by rw [hL3]; exact ho.1, (hF3.2 _ ho.1 (Or.inr (by omega))).trans ho.2⟩
    refine lv_istore (lv' := [(6, .int r3), (5, .int 1), (0, .ref b), (1, .ref (ad 0)), (2, .ref (ad 100)), (3, .ref (ad 200)), (4, .int (nI (4 * k)))]) hx hb d_L_law_235 hl (by decide) rfl (fun ls hl => ?_)
    refine lv_aload_n hx hb d_L_law_237 rfl (lv_at hl 4 rfl) ?_
    refine hp_callR (hp_runV (As := []) (rest := []) ⟨hx, hb, hml, hown, hg⟩ (c_R_thrown l D tys de sa ht ht3 hR hn7 hm12) (cwV 0 hg (gw_V w615 w616 w617 w7 w618) rfl rfl rfl (by decide +kernel) ⟨Nat.le_of_ble_eq_true rfl, Nat.le_of_ble_eq_true rfl⟩) (s_ok de sa) hK hX h hR.1 rfl rfl rfl hl.1 rfl (Nat.le_of_ble_eq_true rfl) d_L_law_238 ⟨by show _ ≤ 601024; omega, by show _ ≤ 7293034; omega⟩) (fun r1 hp => ?_)
    subst hp
    refine lv_iload hx hb d_L_law_241 (lv_at hl 1 rfl) ?_
    refine lv_icmp_eq (tgt := 248) hx hb d_L_law_243 (by decide) (fun hc => ?_) (fun hc => ?_)
    · skip
      refine lv_iload hx hb d_L_law_248 (lv_at hl 1 rfl) ?_
      refine lv_if_ne (tgt := 272) hx hb d_L_law_250 (by decide) (fun hc2 => ?_) (fun hc2 => ?_)
      · skip
        refine lv_goto (tgt := 654) hx hb d_L_law_272 (by decide) ?_
        exact next E S _ _ _ _ _ _ _ ls ⟨hG, ⟨_, hR⟩, ⟨_, ho⟩, hto, hI1, by omega, by omega, h⟩ (lv_sub hl [2, 3, 4, 5, 6] rfl)
      · skip
        exact absurd hc2 (by decide)
    · skip
      exact absurd rfl hc
  · skip
    obtain ⟨v, hv, hpv⟩ := kBad_not hn7 hb1
    have hI2 := (hIv.2.2.2.2.1 k E S v hI hv).1
    have hroom2 := hIv.2.2.2.2.2.2 (k + 1) E _ (by omega) hI2
    have hle := k_wake_le (E := E) (S := S) (x := v)
    by_cases h0 : S.1 v 0 = 0
    · skip
      refine lv_aload_n hx hb d_L_law_212 rfl (lv_at hl 1 rfl) ?_
      refine lv_aload_n hx hb d_L_law_213 rfl (lv_at hl 0 rfl) ?_
      refine lv_iload hx hb d_L_law_214 (lv_at hl 4 rfl) ?_
      refine lv_iconst (v := 1) hx hb d_L_law_216 (by decide) ?_
      refine lv_iadd hx hb d_L_law_217 ?_
      rw [show nI (4 * k) + 1 = nI (4 * k + 1) from nI_add (4 * k) 1]
      refine va_sld hx hb hbx hbl hbA h.2.2.1 (hp_ix (j := (4 * k + 1)) (n := N) rfl (by omega) (by omega)).1 d_L_law_218 ?_
      rw [(hp_ix (i := nI (4 * k + 1)) (j := (4 * k + 1)) (n := N) rfl (by omega) (by omega)).2]
      rw [hpv]
      refine lv_aload_n hx hb d_L_law_219 rfl (lv_at hl 3 rfl) ?_
      refine hp_calli (hp_runSW (n := 3) (As := [.ref (ad 0), .int (nI v), .ref (ad 200)]) (rest := []) ⟨hx, hb, hml, hown, hg⟩ (w_wake0 l hoff D tys de sa ht ht1 ht2 ht4 hG ho hto hv hW (fun i hi => by have := h41 i hi; omega)) w299 w297 w298 w0 rfl rfl (by decide +kernel) ⟨Nat.le_of_ble_eq_true rfl, Nat.le_of_ble_eq_true rfl⟩ hg (s_ok de sa) hK hX h rfl hl.1 rfl (Nat.le_of_ble_eq_true rfl) d_L_law_220 ⟨by show _ ≤ 601024; omega, by show _ ≤ 7293034; omega⟩) h (fun r1 Ln fn H locs hp h => ?_)
      obtain ⟨hr1, τn, hG, hmv, g9, ho9, hg9⟩ := hp
      dsimp only at hG
      subst hr1
      have hto9 : τn (ad 200) = 200 := ((hmv _ hoL).2 (by omega)).1.trans hto
      have hR := hR.move (o9 := ad 200) hmv hto
      have ho := ho9
      have hto := hto9
      refine lv_istore (lv' := [(5, .int 0), (0, .ref b), (1, .ref (ad 0)), (2, .ref (ad 100)), (3, .ref (ad 200)), (4, .int (nI (4 * k)))]) hx hb d_L_law_223 hl (by decide) rfl (fun ls hl => ?_)
      refine lv_aload_n hx hb d_L_law_225 rfl (lv_at hl 3 rfl) ?_
      refine lv_aload_n hx hb d_L_law_226 rfl (lv_at hl 1 rfl) ?_
      refine lv_iload hx hb d_L_law_227 (lv_at hl 5 rfl) ?_
      refine lv_iconst (v := 1) hx hb d_L_law_229 (by decide) ?_
      refine lv_iadd hx hb d_L_law_230 ?_
      rw [show nI (4 * k) + 1 = nI (4 * k + 1) from nI_add (4 * k) 1]
      refine va_sld hx hb hbx hbl hbA h.2.2.1 (hp_ix (j := (4 * k + 1)) (n := N) rfl (by omega) (by omega)).1 d_L_law_231 ?_
      rw [(hp_ix (i := nI (4 * k + 1)) (j := (4 * k + 1)) (n := N) rfl (by omega) (by omega)).2]
      rw [hpv]
      refine hp_calli (hp_runV (As := [.int (nI v)]) (rest := []) ⟨hx, hb, hml, hown, hg⟩ (c_R_wake l D tys de sa (w := nI v) ht ht3 hR hn7 hm12 hP) (cwV 1 hg (gw_V w631 w632 w633 w7 w634) rfl rfl rfl (by decide +kernel) ⟨Nat.le_of_ble_eq_true rfl, Nat.le_of_ble_eq_true rfl⟩) (s_ok de sa) hK hX h hR.1 rfl rfl rfl hl.1 rfl (Nat.le_of_ble_eq_true rfl) d_L_law_232 ⟨by show _ ≤ 601024; omega, by show _ ≤ 7293034; omega⟩) h (fun r3 L3 f3 H locs hp3 h => ?_)
      have hq9 : r3 = 1 ∧ kRP cI cZ ad τn Ln fn 0 E (k_wake E S v) (L3, f3) := by
        rcases hp3 with ⟨v9, z1, z2, z3, hq⟩ | ⟨z, -⟩
        · have e1 := (nI_eq (by omega) (by omega)).mp z2
          subst e1
          exact ⟨z3.trans (if_pos h0), hq⟩
        · exact absurd z (kBad_nI hn7 hv)
      obtain ⟨hr3, hq⟩ := hq9
      obtain ⟨hR, hF3⟩ := hq
      dsimp only at hR
      have hG := hG.moveR hF3
      have hL3 := hF3.1
      dsimp only at hL3
      have ho : hp_at L3 f3 (ad 200) _ := ⟨by rw [hL3]; exact ho.1, (hF3.2 _ ho.1 (Or.inr (by omega))).trans ho.2⟩
      subst hr3
      refine lv_istore (lv' := [(6, .int 1), (5, .int 0), (0, .ref b), (1, .ref (ad 0)), (2, .ref (ad 100)), (3, .ref (ad 200)), (4, .int (nI (4 * k)))]) hx hb d_L_law_235 hl (by decide) rfl (fun ls hl => ?_)
      refine lv_aload_n hx hb d_L_law_237 rfl (lv_at hl 4 rfl) ?_
      refine hp_callR (hp_runV (As := []) (rest := []) ⟨hx, hb, hml, hown, hg⟩ (c_R_thrown l D tys de sa ht ht3 hR hn7 hm12) (cwV 0 hg (gw_V w615 w616 w617 w7 w618) rfl rfl rfl (by decide +kernel) ⟨Nat.le_of_ble_eq_true rfl, Nat.le_of_ble_eq_true rfl⟩) (s_ok de sa) hK hX h hR.1 rfl rfl rfl hl.1 rfl (Nat.le_of_ble_eq_true rfl) d_L_law_238 ⟨by show _ ≤ 601024; omega, by show _ ≤ 7293034; omega⟩) (fun r1 hp => ?_)
      subst hp
      refine lv_iload hx hb d_L_law_241 (lv_at hl 1 rfl) ?_
      refine lv_icmp_eq (tgt := 248) hx hb d_L_law_243 (by decide) (fun hc => ?_) (fun hc => ?_)
      · skip
        refine lv_iload hx hb d_L_law_248 (lv_at hl 1 rfl) ?_
        refine lv_if_ne (tgt := 272) hx hb d_L_law_250 (by decide) (fun hc2 => ?_) (fun hc2 => ?_)
        · skip
          exact absurd rfl hc2
        · skip
          rw [if_pos h0] at hg9
          refine lv_aload_n hx hb d_L_law_253 rfl (lv_at hl 5 rfl) ?_
          refine lv_iconst (v := 0) hx hb d_L_law_254 (by decide) ?_
          refine hp_lald hx hb hK h 4 ho ht4 (show (0 : Int32) = nI 0 from rfl) (by decide) (by decide) d_L_law_255 ?_
          refine lv_iload hx hb d_L_law_256 (lv_at hl 0 rfl) ?_
          refine lv_if_eq (tgt := 265) hx hb d_L_law_258 (by decide) (fun hc4 => ?_) (fun hc4 => ?_)
          · skip
            exact absurd hc4 (by decide)
          · skip
            refine lv_lconst (v := 1) hx hb d_L_law_261 (by decide) ?_
            refine lv_goto (tgt := 266) hx hb d_L_law_262 (by decide) ?_
            refine W.lcmp hx hb d_L_law_266 ?_
            rw [hg9, show lg_cmp 1 1 = 0 from lg_refl _]
            refine lv_if_eq (tgt := 272) hx hb d_L_law_267 (by decide) (fun hc3 => ?_) (fun hc3 => ?_)
            · skip
              refine lv_goto (tgt := 654) hx hb d_L_law_272 (by decide) ?_
              exact next E (k_wake E S v) _ _ _ _ _ _ _ ls ⟨hG, ⟨_, hR⟩, ⟨_, ho⟩, hto, hI2, by omega, by omega, h⟩ (lv_sub hl [2, 3, 4, 5, 6] rfl)
            · skip
              exact absurd rfl hc3
      · skip
        exact absurd rfl hc
    · skip
      refine lv_aload_n hx hb d_L_law_212 rfl (lv_at hl 1 rfl) ?_
      refine lv_aload_n hx hb d_L_law_213 rfl (lv_at hl 0 rfl) ?_
      refine lv_iload hx hb d_L_law_214 (lv_at hl 4 rfl) ?_
      refine lv_iconst (v := 1) hx hb d_L_law_216 (by decide) ?_
      refine lv_iadd hx hb d_L_law_217 ?_
      rw [show nI (4 * k) + 1 = nI (4 * k + 1) from nI_add (4 * k) 1]
      refine va_sld hx hb hbx hbl hbA h.2.2.1 (hp_ix (j := (4 * k + 1)) (n := N) rfl (by omega) (by omega)).1 d_L_law_218 ?_
      rw [(hp_ix (i := nI (4 * k + 1)) (j := (4 * k + 1)) (n := N) rfl (by omega) (by omega)).2]
      rw [hpv]
      refine lv_aload_n hx hb d_L_law_219 rfl (lv_at hl 3 rfl) ?_
      refine hp_calli (hp_runSW (n := 3) (As := [.ref (ad 0), .int (nI v), .ref (ad 200)]) (rest := []) ⟨hx, hb, hml, hown, hg⟩ (w_wake0 l hoff D tys de sa ht ht1 ht2 ht4 hG ho hto hv hW (fun i hi => by have := h41 i hi; omega)) w299 w297 w298 w0 rfl rfl (by decide +kernel) ⟨Nat.le_of_ble_eq_true rfl, Nat.le_of_ble_eq_true rfl⟩ hg (s_ok de sa) hK hX h rfl hl.1 rfl (Nat.le_of_ble_eq_true rfl) d_L_law_220 ⟨by show _ ≤ 601024; omega, by show _ ≤ 7293034; omega⟩) h (fun r1 Ln fn H locs hp h => ?_)
      obtain ⟨hr1, τn, hG, hmv, g9, ho9, hg9⟩ := hp
      dsimp only at hG
      subst hr1
      have hto9 : τn (ad 200) = 200 := ((hmv _ hoL).2 (by omega)).1.trans hto
      have hR := hR.move (o9 := ad 200) hmv hto
      have ho := ho9
      have hto := hto9
      refine lv_istore (lv' := [(5, .int 0), (0, .ref b), (1, .ref (ad 0)), (2, .ref (ad 100)), (3, .ref (ad 200)), (4, .int (nI (4 * k)))]) hx hb d_L_law_223 hl (by decide) rfl (fun ls hl => ?_)
      refine lv_aload_n hx hb d_L_law_225 rfl (lv_at hl 3 rfl) ?_
      refine lv_aload_n hx hb d_L_law_226 rfl (lv_at hl 1 rfl) ?_
      refine lv_iload hx hb d_L_law_227 (lv_at hl 5 rfl) ?_
      refine lv_iconst (v := 1) hx hb d_L_law_229 (by decide) ?_
      refine lv_iadd hx hb d_L_law_230 ?_
      rw [show nI (4 * k) + 1 = nI (4 * k + 1) from nI_add (4 * k) 1]
      refine va_sld hx hb hbx hbl hbA h.2.2.1 (hp_ix (j := (4 * k + 1)) (n := N) rfl (by omega) (by omega)).1 d_L_law_231 ?_
      rw [(hp_ix (i := nI (4 * k + 1)) (j := (4 * k + 1)) (n := N) rfl (by omega) (by omega)).2]
      rw [hpv]
      refine hp_calli (hp_runV (As := [.int (nI v)]) (rest := []) ⟨hx, hb, hml, hown, hg⟩ (c_R_wake l D tys de sa (w := nI v) ht ht3 hR hn7 hm12 hP) (cwV 1 hg (gw_V w631 w632 w633 w7 w634) rfl rfl rfl (by decide +kernel) ⟨Nat.le_of_ble_eq_true rfl, Nat.le_of_ble_eq_true rfl⟩) (s_ok de sa) hK hX h hR.1 rfl rfl rfl hl.1 rfl (Nat.le_of_ble_eq_true rfl) d_L_law_232 ⟨by show _ ≤ 601024; omega, by show _ ≤ 7293034; omega⟩) h (fun r3 L3 f3 H locs hp3 h => ?_)
      have hq9 : r3 = 0 ∧ kRP cI cZ ad τn Ln fn 0 E (k_wake E S v) (L3, f3) := by
        rcases hp3 with ⟨v9, z1, z2, z3, hq⟩ | ⟨z, -⟩
        · have e1 := (nI_eq (by omega) (by omega)).mp z2
          subst e1
          exact ⟨z3.trans (if_neg h0), hq⟩
        · exact absurd z (kBad_nI hn7 hv)
      obtain ⟨hr3, hq⟩ := hq9
      obtain ⟨hR, hF3⟩ := hq
      dsimp only at hR
      have hG := hG.moveR hF3
      have hL3 := hF3.1
      dsimp only at hL3
      have ho : hp_at L3 f3 (ad 200) _ := ⟨by rw [hL3]; exact ho.1, (hF3.2 _ ho.1 (Or.inr (by omega))).trans ho.2⟩
      subst hr3
      refine lv_istore (lv' := [(6, .int 0), (5, .int 0), (0, .ref b), (1, .ref (ad 0)), (2, .ref (ad 100)), (3, .ref (ad 200)), (4, .int (nI (4 * k)))]) hx hb d_L_law_235 hl (by decide) rfl (fun ls hl => ?_)
      refine lv_aload_n hx hb d_L_law_237 rfl (lv_at hl 4 rfl) ?_
      refine hp_callR (hp_runV (As := []) (rest := []) ⟨hx, hb, hml, hown, hg⟩ (c_R_thrown l D tys de sa ht ht3 hR hn7 hm12) (cwV 0 hg (gw_V w615 w616 w617 w7 w618) rfl rfl rfl (by decide +kernel) ⟨Nat.le_of_ble_eq_true rfl, Nat.le_of_ble_eq_true rfl⟩) (s_ok de sa) hK hX h hR.1 rfl rfl rfl hl.1 rfl (Nat.le_of_ble_eq_true rfl) d_L_law_238 ⟨by show _ ≤ 601024; omega, by show _ ≤ 7293034; omega⟩) (fun r1 hp => ?_)
      subst hp
      refine lv_iload hx hb d_L_law_241 (lv_at hl 1 rfl) ?_
      refine lv_icmp_eq (tgt := 248) hx hb d_L_law_243 (by decide) (fun hc => ?_) (fun hc => ?_)
      · skip
        refine lv_iload hx hb d_L_law_248 (lv_at hl 1 rfl) ?_
        refine lv_if_ne (tgt := 272) hx hb d_L_law_250 (by decide) (fun hc2 => ?_) (fun hc2 => ?_)
        · skip
          exact absurd rfl hc2
        · skip
          rw [if_neg h0] at hg9
          refine lv_aload_n hx hb d_L_law_253 rfl (lv_at hl 5 rfl) ?_
          refine lv_iconst (v := 0) hx hb d_L_law_254 (by decide) ?_
          refine hp_lald hx hb hK h 4 ho ht4 (show (0 : Int32) = nI 0 from rfl) (by decide) (by decide) d_L_law_255 ?_
          refine lv_iload hx hb d_L_law_256 (lv_at hl 0 rfl) ?_
          refine lv_if_eq (tgt := 265) hx hb d_L_law_258 (by decide) (fun hc4 => ?_) (fun hc4 => ?_)
          · skip
            refine lv_lconst (v := 0) hx hb d_L_law_265 (by decide) ?_
            refine W.lcmp hx hb d_L_law_266 ?_
            rw [hg9, show lg_cmp 0 0 = 0 from lg_refl _]
            refine lv_if_eq (tgt := 272) hx hb d_L_law_267 (by decide) (fun hc3 => ?_) (fun hc3 => ?_)
            · skip
              refine lv_goto (tgt := 654) hx hb d_L_law_272 (by decide) ?_
              exact next E (k_wake E S v) _ _ _ _ _ _ _ ls ⟨hG, ⟨_, hR⟩, ⟨_, ho⟩, hto, hI2, by omega, by omega, h⟩ (lv_sub hl [2, 3, 4, 5, 6] rfl)
            · skip
              exact absurd rfl hc3
          · skip
            exact absurd rfl hc4
      · skip
        exact absurd rfl hc

set_option maxHeartbeats 4000000 in
set_option maxRecDepth 100000 in
theorem lw_c3 {p : Program} {l : Launch} {e : Env} {s : State} {m : MethodId} {below : List Frame} {meth : Method} {c : Code} {Q : State → Prop} {b N k : Nat} {xs : Nat → Int32} {D : va_G} {tys : List (ClassId × FieldType)} {de : Nat} {sa : Nat → Nat} {A : Nat → Prop} {cI cO cN cZ cJ : ClassId} {Iv : Nat → kE → kS → Prop} {ad : Nat → Nat} (hx : p.tables.exec = Jvm.exec) (hb : c.code = code) (hml : c.maxLocals = 7) (hoff : th_Off l) (hg : ∀ w ∈ gw, w.before #[Value.ref b] s = true) (hown : s.vm.findClass "MergingFragmentsLaw" = some m.cls) (hK : va_K D kc tys s) (hX : s_X de sa A s s.heap) (hbx : va_X b N xs s s.heap) (hbl : b < s.heap.size) (hbA : ¬ A b) (ht : tys[0]? = some (cI, .int)) (ht1 : tys[1]? = some (cO, .object "java/lang/Object")) (ht2 : tys[2]? = some (cN, .object "MergingFragments$Node")) (ht3 : tys[3]? = some (cZ, .boolean)) (ht4 : tys[4]? = some (cJ, .long)) (hIv : kIf Iv) (hN : N ≤ 2048) (hk : 4 * k + 4 ≤ N) (next : ∀ (E : kE) (S : kS) (τ : Nat → Nat) (L : List Nat) (f : Nat → va_E) (cx sx : Nat) (H : Heap) (locs : List Loc) (ls : Array Slot), lwS cI cO cN cZ cJ de D A s.heap Iv ad (k + 1) E S τ L f cx sx H locs → lv_has ls 7 [(0, .ref b), (1, .ref (ad 0)), (2, .ref (ad 100)), (3, .ref (ad 200)), (4, .int (nI (4 * k)))] → W p l e room_1 s m #[Value.ref b] below meth c H locs cx sx Q (F0 m 654 ls [])) {E : kE} {S : kS} {τ : Nat → Nat} {L : List Nat} {f : Nat → va_E} {cx sx : Nat} {H : Heap} {locs : List Loc} {ls : Array Slot} (hS : lwS cI cO cN cZ cJ de D A s.heap Iv ad k E S τ L f cx sx H locs) (hl : lv_has ls 7 [(0, .ref b), (1, .ref (ad 0)), (2, .ref (ad 100)), (3, .ref (ad 200)), (4, .int (nI (4 * k)))]) : W p l e room_1 s m #[Value.ref b] below meth c H locs cx sx Q (F0 m 275 ls []) := by
  obtain ⟨hG, ⟨cz, hR⟩, ⟨g0, ho⟩, hto, hI, hcx, hsx, h⟩ := hS
  obtain ⟨hn7, hm12, hP, h41, hno, hI1⟩ := hIv.2.1 k E S hI
  have hroom := hIv.2.2.2.2.2.2 k E S (by omega) hI
  have hW := hP.1.1
  have hoL := ho.1
  by_cases hb1 : kBad E (xs (4 * k + 1))
  · skip
    refine lv_aload_n hx hb d_L_law_275 rfl (lv_at hl 1 rfl) ?_
    refine lv_aload_n hx hb d_L_law_276 rfl (lv_at hl 0 rfl) ?_
    refine lv_iload hx hb d_L_law_277 (lv_at hl 4 rfl) ?_
    refine lv_iconst (v := 1) hx hb d_L_law_279 (by decide) ?_
    refine lv_iadd hx hb d_L_law_280 ?_
    rw [show nI (4 * k) + 1 = nI (4 * k + 1) from nI_add (4 * k) 1]
    refine va_sld hx hb hbx hbl hbA h.2.2.1 (hp_ix (j := (4 * k + 1)) (n := N) rfl (by omega) (by omega)).1 d_L_law_281 ?_
    rw [(hp_ix (i := nI (4 * k + 1)) (j := (4 * k + 1)) (n := N) rfl (by omega) (by omega)).2]
    refine lv_aload_n hx hb d_L_law_282 rfl (lv_at hl 3 rfl) ?_
    refine hp_calli (hp_runSW (n := 3) (As := [.ref (ad 0), .int (xs (4 * k + 1)), .ref (ad 200)]) (rest := []) ⟨hx, hb, hml, hown, hg⟩ (w_handle1 l hoff D tys de sa ht ht1 ht2 hG hb1) w402 w400 w401 w0 rfl rfl (by decide +kernel) ⟨Nat.le_of_ble_eq_true rfl, Nat.le_of_ble_eq_true rfl⟩ hg (s_ok de sa) hK hX h rfl hl.1 rfl (Nat.le_of_ble_eq_true rfl) d_L_law_283 ⟨by show _ ≤ 601024; omega, by show _ ≤ 7293034; omega⟩) h (fun r1 Ln fn H locs hp h => ?_)
    obtain ⟨hr1, hu⟩ := hp
    obtain ⟨hL1, hf1⟩ := Prod.mk.inj hu
    subst hr1
    have hL1 := hL1.symm
    subst hL1
    have hf1 := hf1.symm
    subst hf1
    refine lv_istore (lv' := [(5, .int 1), (0, .ref b), (1, .ref (ad 0)), (2, .ref (ad 100)), (3, .ref (ad 200)), (4, .int (nI (4 * k)))]) hx hb d_L_law_286 hl (by decide) rfl (fun ls hl => ?_)
    refine lv_aload_n hx hb d_L_law_288 rfl (lv_at hl 3 rfl) ?_
    refine lv_aload_n hx hb d_L_law_289 rfl (lv_at hl 1 rfl) ?_
    refine lv_iload hx hb d_L_law_290 (lv_at hl 5 rfl) ?_
    refine lv_iconst (v := 1) hx hb d_L_law_292 (by decide) ?_
    refine lv_iadd hx hb d_L_law_293 ?_
    rw [show nI (4 * k) + 1 = nI (4 * k + 1) from nI_add (4 * k) 1]
    refine va_sld hx hb hbx hbl hbA h.2.2.1 (hp_ix (j := (4 * k + 1)) (n := N) rfl (by omega) (by omega)).1 d_L_law_294 ?_
    rw [(hp_ix (i := nI (4 * k + 1)) (j := (4 * k + 1)) (n := N) rfl (by omega) (by omega)).2]
    refine hp_calli (hp_runV (As := [.int (xs (4 * k + 1))]) (rest := []) ⟨hx, hb, hml, hown, hg⟩ (c_R_handle l D tys de sa (w := (xs (4 * k + 1))) ht ht3 hR hn7 hm12 hP) (cwV 1 hg (gw_V w659 w660 w661 w7 w662) rfl rfl rfl (by decide +kernel) ⟨Nat.le_of_ble_eq_true rfl, Nat.le_of_ble_eq_true rfl⟩) (s_ok de sa) hK hX h hR.1 rfl rfl rfl hl.1 rfl (Nat.le_of_ble_eq_true rfl) d_L_law_295 ⟨by show _ ≤ 601024; omega, by show _ ≤ 7293034; omega⟩) h (fun r3 L3 f3 H locs hp3 h => ?_)
    have hq : kRP cI cZ ad τ L f 1 E S (L3, f3) := by
      rcases hp3 with ⟨v9, z1, z2, -⟩ | ⟨-, hq⟩
      · rw [z2] at hb1; exact absurd hb1 (kBad_nI hn7 z1)
      · exact hq
    obtain ⟨hR, hF3⟩ := hq
    dsimp only at hR
    have hG := hG.moveR hF3
    have hL3 := hF3.1
    dsimp only at hL3
    have ho : hp_at L3 f3 (ad 200) _ := ⟨by rw [hL3]; exact ho.1, (hF3.2 _ ho.1 (Or.inr (by omega))).trans ho.2⟩
    refine lv_istore (lv' := [(6, .int r3), (5, .int 1), (0, .ref b), (1, .ref (ad 0)), (2, .ref (ad 100)), (3, .ref (ad 200)), (4, .int (nI (4 * k)))]) hx hb d_L_law_298 hl (by decide) rfl (fun ls hl => ?_)
    refine lv_aload_n hx hb d_L_law_300 rfl (lv_at hl 4 rfl) ?_
    refine hp_callR (hp_runV (As := []) (rest := []) ⟨hx, hb, hml, hown, hg⟩ (c_R_thrown l D tys de sa ht ht3 hR hn7 hm12) (cwV 0 hg (gw_V w615 w616 w617 w7 w618) rfl rfl rfl (by decide +kernel) ⟨Nat.le_of_ble_eq_true rfl, Nat.le_of_ble_eq_true rfl⟩) (s_ok de sa) hK hX h hR.1 rfl rfl rfl hl.1 rfl (Nat.le_of_ble_eq_true rfl) d_L_law_301 ⟨by show _ ≤ 601024; omega, by show _ ≤ 7293034; omega⟩) (fun r1 hp => ?_)
    subst hp
    refine lv_iload hx hb d_L_law_304 (lv_at hl 1 rfl) ?_
    refine lv_icmp_eq (tgt := 311) hx hb d_L_law_306 (by decide) (fun hc => ?_) (fun hc => ?_)
    · skip
      refine lv_iload hx hb d_L_law_311 (lv_at hl 1 rfl) ?_
      refine lv_if_ne (tgt := 328) hx hb d_L_law_313 (by decide) (fun hc2 => ?_) (fun hc2 => ?_)
      · skip
        refine lv_goto (tgt := 654) hx hb d_L_law_328 (by decide) ?_
        exact next E S _ _ _ _ _ _ _ ls ⟨hG, ⟨_, hR⟩, ⟨_, ho⟩, hto, hI1, by omega, by omega, h⟩ (lv_sub hl [2, 3, 4, 5, 6] rfl)
      · skip
        exact absurd hc2 (by decide)
    · skip
      exact absurd rfl hc
  · skip
    obtain ⟨v, hv, hpv⟩ := kBad_not hn7 hb1
    have hI2 := (hIv.2.2.2.2.1 k E S v hI hv).2
    have hroom2 := hIv.2.2.2.2.2.2 (k + 1) E _ (by omega) hI2
    have hle := k_first_le (E := E) (S := S) (x := v)
    refine lv_aload_n hx hb d_L_law_275 rfl (lv_at hl 1 rfl) ?_
    refine lv_aload_n hx hb d_L_law_276 rfl (lv_at hl 0 rfl) ?_
    refine lv_iload hx hb d_L_law_277 (lv_at hl 4 rfl) ?_
    refine lv_iconst (v := 1) hx hb d_L_law_279 (by decide) ?_
    refine lv_iadd hx hb d_L_law_280 ?_
    rw [show nI (4 * k) + 1 = nI (4 * k + 1) from nI_add (4 * k) 1]
    refine va_sld hx hb hbx hbl hbA h.2.2.1 (hp_ix (j := (4 * k + 1)) (n := N) rfl (by omega) (by omega)).1 d_L_law_281 ?_
    rw [(hp_ix (i := nI (4 * k + 1)) (j := (4 * k + 1)) (n := N) rfl (by omega) (by omega)).2]
    rw [hpv]
    refine lv_aload_n hx hb d_L_law_282 rfl (lv_at hl 3 rfl) ?_
    refine hp_calli (hp_runSW (n := 3) (As := [.ref (ad 0), .int (nI v), .ref (ad 200)]) (rest := []) ⟨hx, hb, hml, hown, hg⟩ (w_handle0 l hoff D tys de sa ht ht1 ht2 ht4 hG ho hto hv hW h41 (fun q l hq => ((hP.2.2 v hv).2.2.2.2.1 q l hq).1)) w402 w400 w401 w0 rfl rfl (by decide +kernel) ⟨Nat.le_of_ble_eq_true rfl, Nat.le_of_ble_eq_true rfl⟩ hg (s_ok de sa) hK hX h rfl hl.1 rfl (Nat.le_of_ble_eq_true rfl) d_L_law_283 ⟨by show _ ≤ 601024; omega, by show _ ≤ 7293034; omega⟩) h (fun r1 Ln fn H locs hp h => ?_)
    obtain ⟨hr1, τn, hG, hmv, g9, ho9, hg9⟩ := hp
    dsimp only at hG
    subst hr1
    have hto9 : τn (ad 200) = 200 := ((hmv _ hoL).2 (by omega)).1.trans hto
    have hR := hR.move (o9 := ad 200) hmv hto
    have ho := ho9
    have hto := hto9
    refine lv_istore (lv' := [(5, .int 0), (0, .ref b), (1, .ref (ad 0)), (2, .ref (ad 100)), (3, .ref (ad 200)), (4, .int (nI (4 * k)))]) hx hb d_L_law_286 hl (by decide) rfl (fun ls hl => ?_)
    refine lv_aload_n hx hb d_L_law_288 rfl (lv_at hl 3 rfl) ?_
    refine lv_aload_n hx hb d_L_law_289 rfl (lv_at hl 1 rfl) ?_
    refine lv_iload hx hb d_L_law_290 (lv_at hl 5 rfl) ?_
    refine lv_iconst (v := 1) hx hb d_L_law_292 (by decide) ?_
    refine lv_iadd hx hb d_L_law_293 ?_
    rw [show nI (4 * k) + 1 = nI (4 * k + 1) from nI_add (4 * k) 1]
    refine va_sld hx hb hbx hbl hbA h.2.2.1 (hp_ix (j := (4 * k + 1)) (n := N) rfl (by omega) (by omega)).1 d_L_law_294 ?_
    rw [(hp_ix (i := nI (4 * k + 1)) (j := (4 * k + 1)) (n := N) rfl (by omega) (by omega)).2]
    rw [hpv]
    refine hp_calli (hp_runV (As := [.int (nI v)]) (rest := []) ⟨hx, hb, hml, hown, hg⟩ (c_R_handle l D tys de sa (w := nI v) ht ht3 hR hn7 hm12 hP) (cwV 1 hg (gw_V w659 w660 w661 w7 w662) rfl rfl rfl (by decide +kernel) ⟨Nat.le_of_ble_eq_true rfl, Nat.le_of_ble_eq_true rfl⟩) (s_ok de sa) hK hX h hR.1 rfl rfl rfl hl.1 rfl (Nat.le_of_ble_eq_true rfl) d_L_law_295 ⟨by show _ ≤ 601024; omega, by show _ ≤ 7293034; omega⟩) h (fun r3 L3 f3 H locs hp3 h => ?_)
    have hq9 : r3 = k_fk S v ∧ kRP cI cZ ad τn Ln fn 0 E (k_first E S v) (L3, f3) := by
      rcases hp3 with ⟨v9, z1, z2, z3, hq⟩ | ⟨z, -⟩
      · have e1 := (nI_eq (by omega) (by omega)).mp z2
        subst e1
        exact ⟨z3, hq⟩
      · exact absurd z (kBad_nI hn7 hv)
    obtain ⟨hr3, hq⟩ := hq9
    obtain ⟨hR, hF3⟩ := hq
    dsimp only at hR
    have hG := hG.moveR hF3
    have hL3 := hF3.1
    dsimp only at hL3
    have ho : hp_at L3 f3 (ad 200) _ := ⟨by rw [hL3]; exact ho.1, (hF3.2 _ ho.1 (Or.inr (by omega))).trans ho.2⟩
    subst hr3
    refine lv_istore (lv' := [(6, .int (k_fk S v)), (5, .int 0), (0, .ref b), (1, .ref (ad 0)), (2, .ref (ad 100)), (3, .ref (ad 200)), (4, .int (nI (4 * k)))]) hx hb d_L_law_298 hl (by decide) rfl (fun ls hl => ?_)
    refine lv_aload_n hx hb d_L_law_300 rfl (lv_at hl 4 rfl) ?_
    refine hp_callR (hp_runV (As := []) (rest := []) ⟨hx, hb, hml, hown, hg⟩ (c_R_thrown l D tys de sa ht ht3 hR hn7 hm12) (cwV 0 hg (gw_V w615 w616 w617 w7 w618) rfl rfl rfl (by decide +kernel) ⟨Nat.le_of_ble_eq_true rfl, Nat.le_of_ble_eq_true rfl⟩) (s_ok de sa) hK hX h hR.1 rfl rfl rfl hl.1 rfl (Nat.le_of_ble_eq_true rfl) d_L_law_301 ⟨by show _ ≤ 601024; omega, by show _ ≤ 7293034; omega⟩) (fun r1 hp => ?_)
    subst hp
    refine lv_iload hx hb d_L_law_304 (lv_at hl 1 rfl) ?_
    refine lv_icmp_eq (tgt := 311) hx hb d_L_law_306 (by decide) (fun hc => ?_) (fun hc => ?_)
    · skip
      refine lv_iload hx hb d_L_law_311 (lv_at hl 1 rfl) ?_
      refine lv_if_ne (tgt := 328) hx hb d_L_law_313 (by decide) (fun hc2 => ?_) (fun hc2 => ?_)
      · skip
        exact absurd rfl hc2
      · skip
        refine lv_aload_n hx hb d_L_law_316 rfl (lv_at hl 5 rfl) ?_
        refine lv_iconst (v := 0) hx hb d_L_law_317 (by decide) ?_
        refine hp_lald hx hb hK h 4 ho ht4 (show (0 : Int32) = nI 0 from rfl) (by decide) (by decide) d_L_law_318 ?_
        refine lv_iload hx hb d_L_law_319 (lv_at hl 0 rfl) ?_
        refine lv_i2l hx hb d_L_law_321 rfl ?_
        refine W.lcmp hx hb d_L_law_322 ?_
        rw [hg9, show lg_cmp ((k_fk S v).toInt64) ((k_fk S v).toInt64) = 0 from lg_refl _]
        refine lv_if_eq (tgt := 328) hx hb d_L_law_323 (by decide) (fun hc3 => ?_) (fun hc3 => ?_)
        · skip
          refine lv_goto (tgt := 654) hx hb d_L_law_328 (by decide) ?_
          exact next E (k_first E S v) _ _ _ _ _ _ _ ls ⟨hG, ⟨_, hR⟩, ⟨_, ho⟩, hto, hI2, by omega, by omega, h⟩ (lv_sub hl [2, 3, 4, 5, 6] rfl)
        · skip
          exact absurd rfl hc3
    · skip
      exact absurd rfl hc

set_option maxHeartbeats 4000000 in
set_option maxRecDepth 100000 in
theorem lw_c4 {p : Program} {l : Launch} {e : Env} {s : State} {m : MethodId} {below : List Frame} {meth : Method} {c : Code} {Q : State → Prop} {b N k : Nat} {xs : Nat → Int32} {D : va_G} {tys : List (ClassId × FieldType)} {de : Nat} {sa : Nat → Nat} {A : Nat → Prop} {cI cO cN cZ cJ : ClassId} {Iv : Nat → kE → kS → Prop} {ad : Nat → Nat} (hx : p.tables.exec = Jvm.exec) (hb : c.code = code) (hml : c.maxLocals = 7) (hoff : th_Off l) (hg : ∀ w ∈ gw, w.before #[Value.ref b] s = true) (hown : s.vm.findClass "MergingFragmentsLaw" = some m.cls) (hK : va_K D kc tys s) (hX : s_X de sa A s s.heap) (hbx : va_X b N xs s s.heap) (hbl : b < s.heap.size) (hbA : ¬ A b) (ht : tys[0]? = some (cI, .int)) (ht1 : tys[1]? = some (cO, .object "java/lang/Object")) (ht2 : tys[2]? = some (cN, .object "MergingFragments$Node")) (ht3 : tys[3]? = some (cZ, .boolean)) (ht4 : tys[4]? = some (cJ, .long)) (hIv : kIf Iv) (hN : N ≤ 2048) (hk : 4 * k + 4 ≤ N) (next : ∀ (E : kE) (S : kS) (τ : Nat → Nat) (L : List Nat) (f : Nat → va_E) (cx sx : Nat) (H : Heap) (locs : List Loc) (ls : Array Slot), lwS cI cO cN cZ cJ de D A s.heap Iv ad (k + 1) E S τ L f cx sx H locs → lv_has ls 7 [(0, .ref b), (1, .ref (ad 0)), (2, .ref (ad 100)), (3, .ref (ad 200)), (4, .int (nI (4 * k)))] → W p l e room_1 s m #[Value.ref b] below meth c H locs cx sx Q (F0 m 654 ls [])) {E : kE} {S : kS} {τ : Nat → Nat} {L : List Nat} {f : Nat → va_E} {cx sx : Nat} {H : Heap} {locs : List Loc} {ls : Array Slot} (hS : lwS cI cO cN cZ cJ de D A s.heap Iv ad k E S τ L f cx sx H locs) (hl : lv_has ls 7 [(0, .ref b), (1, .ref (ad 0)), (2, .ref (ad 100)), (3, .ref (ad 200)), (4, .int (nI (4 * k)))]) : W p l e room_1 s m #[Value.ref b] below meth c H locs cx sx Q (F0 m 331 ls []) := by
  obtain ⟨hG, ⟨cz, hR⟩, ⟨g0, ho⟩, hto, hI, hcx, hsx, h⟩ := hS
  obtain ⟨hn7, hm12, hP, h41, hno, hI1⟩ := hIv.2.1 k E S hI
  have hroom := hIv.2.2.2.2.2.2 k E S (by omega) hI
  have hW := hP.1.1
  have hoL := ho.1
  by_cases hb1 : kBad E (xs (4 * k + 1))
  · skip
    by_cases hE0 : E.1 = 0
    · skip
      refine lv_aload_n hx hb d_L_law_331 rfl (lv_at hl 1 rfl) ?_
      refine lv_aload_n hx hb d_L_law_332 rfl (lv_at hl 0 rfl) ?_
      refine lv_iload hx hb d_L_law_333 (lv_at hl 4 rfl) ?_
      refine lv_iconst (v := 1) hx hb d_L_law_335 (by decide) ?_
      refine lv_iadd hx hb d_L_law_336 ?_
      rw [show nI (4 * k) + 1 = nI (4 * k + 1) from nI_add (4 * k) 1]
      refine va_sld hx hb hbx hbl hbA h.2.2.1 (hp_ix (j := (4 * k + 1)) (n := N) rfl (by omega) (by omega)).1 d_L_law_337 ?_
      rw [(hp_ix (i := nI (4 * k + 1)) (j := (4 * k + 1)) (n := N) rfl (by omega) (by omega)).2]
      refine lv_aload_n hx hb d_L_law_338 rfl (lv_at hl 0 rfl) ?_
      refine lv_iload hx hb d_L_law_339 (lv_at hl 4 rfl) ?_
      refine lv_iconst (v := 2) hx hb d_L_law_341 (by decide) ?_
      refine lv_iadd hx hb d_L_law_342 ?_
      rw [show nI (4 * k) + 2 = nI (4 * k + 2) from nI_add (4 * k) 2]
      refine va_sld hx hb hbx hbl hbA h.2.2.1 (hp_ix (j := (4 * k + 2)) (n := N) rfl (by omega) (by omega)).1 d_L_law_343 ?_
      rw [(hp_ix (i := nI (4 * k + 2)) (j := (4 * k + 2)) (n := N) rfl (by omega) (by omega)).2]
      refine lv_aload_n hx hb d_L_law_344 rfl (lv_at hl 3 rfl) ?_
      refine hp_calli (hp_runSW (n := 4) (As := [.ref (ad 0), .int (xs (4 * k + 1)), .int (xs (4 * k + 2)), .ref (ad 200)]) (rest := []) ⟨hx, hb, hml, hown, hg⟩ (w_run1 l hoff D tys de sa ht ht1 ht2 hG hb1) w498 w496 w497 w0 rfl rfl (by decide +kernel) ⟨Nat.le_of_ble_eq_true rfl, Nat.le_of_ble_eq_true rfl⟩ hg (s_ok de sa) hK hX h rfl hl.1 rfl (Nat.le_of_ble_eq_true rfl) d_L_law_345 ⟨by show _ ≤ 601024; omega, by show _ ≤ 7293034; omega⟩) h (fun r1 Ln fn H locs hp h => ?_)
      obtain ⟨hr1, hu⟩ := hp
      obtain ⟨hL1, hf1⟩ := Prod.mk.inj hu
      subst hr1
      have hL1 := hL1.symm
      subst hL1
      have hf1 := hf1.symm
      subst hf1
      refine lv_istore (lv' := [(5, .int 1), (0, .ref b), (1, .ref (ad 0)), (2, .ref (ad 100)), (3, .ref (ad 200)), (4, .int (nI (4 * k)))]) hx hb d_L_law_348 hl (by decide) rfl (fun ls hl => ?_)
      refine lv_aload_n hx hb d_L_law_350 rfl (lv_at hl 3 rfl) ?_
      refine lv_aload_n hx hb d_L_law_351 rfl (lv_at hl 1 rfl) ?_
      refine lv_iload hx hb d_L_law_352 (lv_at hl 5 rfl) ?_
      refine lv_iconst (v := 1) hx hb d_L_law_354 (by decide) ?_
      refine lv_iadd hx hb d_L_law_355 ?_
      rw [show nI (4 * k) + 1 = nI (4 * k + 1) from nI_add (4 * k) 1]
      refine va_sld hx hb hbx hbl hbA h.2.2.1 (hp_ix (j := (4 * k + 1)) (n := N) rfl (by omega) (by omega)).1 d_L_law_356 ?_
      rw [(hp_ix (i := nI (4 * k + 1)) (j := (4 * k + 1)) (n := N) rfl (by omega) (by omega)).2]
      refine lv_aload_n hx hb d_L_law_357 rfl (lv_at hl 1 rfl) ?_
      refine lv_iload hx hb d_L_law_358 (lv_at hl 5 rfl) ?_
      refine lv_iconst (v := 2) hx hb d_L_law_360 (by decide) ?_
      refine lv_iadd hx hb d_L_law_361 ?_
      rw [show nI (4 * k) + 2 = nI (4 * k + 2) from nI_add (4 * k) 2]
      refine va_sld hx hb hbx hbl hbA h.2.2.1 (hp_ix (j := (4 * k + 2)) (n := N) rfl (by omega) (by omega)).1 d_L_law_362 ?_
      rw [(hp_ix (i := nI (4 * k + 2)) (j := (4 * k + 2)) (n := N) rfl (by omega) (by omega)).2]
      refine hp_calli (hp_runV (As := [.int (xs (4 * k + 1)), .int (xs (4 * k + 2))]) (rest := []) ⟨hx, hb, hml, hown, hg⟩ (c_R_run l D tys de sa (w := (xs (4 * k + 1))) (u9 := (xs (4 * k + 2))) (Iv := fun T => T = S) ht ht3 hR hn7 hm12 rfl (fun T hT => by rw [hT]; exact hP) (fun T a _ ha => absurd ha (by omega)) (fun T a _ ha => absurd ha (by omega))) (cwV 2 hg (gw_V w703 w704 w705 w7 w706) rfl rfl rfl (by decide +kernel) ⟨Nat.le_of_ble_eq_true rfl, Nat.le_of_ble_eq_true rfl⟩) (s_ok de sa) hK hX h hR.1 rfl rfl rfl hl.1 rfl (Nat.le_of_ble_eq_true rfl) d_L_law_363 ⟨by show _ ≤ 601024; omega, by show _ ≤ 7293034; omega⟩) h (fun r3 L3 f3 H locs hp3 h => ?_)
      have hq : kRP cI cZ ad τ L f 1 E S (L3, f3) := by
        rcases hp3 with ⟨v9, m9, z1, -, z2, -⟩ | ⟨-, hq⟩ | ⟨z, -⟩
        · rw [z2] at hb1; exact absurd hb1 (kBad_nI hn7 z1)
        · exact hq
        · exact absurd hb1 z
      obtain ⟨hR, hF3⟩ := hq
      dsimp only at hR
      have hG := hG.moveR hF3
      have hL3 := hF3.1
      dsimp only at hL3
      have ho : hp_at L3 f3 (ad 200) _ := ⟨by rw [hL3]; exact ho.1, (hF3.2 _ ho.1 (Or.inr (by omega))).trans ho.2⟩
      refine lv_istore (lv' := [(6, .int r3), (5, .int 1), (0, .ref b), (1, .ref (ad 0)), (2, .ref (ad 100)), (3, .ref (ad 200)), (4, .int (nI (4 * k)))]) hx hb d_L_law_366 hl (by decide) rfl (fun ls hl => ?_)
      refine lv_aload_n hx hb d_L_law_368 rfl (lv_at hl 4 rfl) ?_
      refine hp_callR (hp_runV (As := []) (rest := []) ⟨hx, hb, hml, hown, hg⟩ (c_R_thrown l D tys de sa ht ht3 hR hn7 hm12) (cwV 0 hg (gw_V w615 w616 w617 w7 w618) rfl rfl rfl (by decide +kernel) ⟨Nat.le_of_ble_eq_true rfl, Nat.le_of_ble_eq_true rfl⟩) (s_ok de sa) hK hX h hR.1 rfl rfl rfl hl.1 rfl (Nat.le_of_ble_eq_true rfl) d_L_law_369 ⟨by show _ ≤ 601024; omega, by show _ ≤ 7293034; omega⟩) (fun r1 hp => ?_)
      subst hp
      refine lv_iload hx hb d_L_law_372 (lv_at hl 1 rfl) ?_
      refine lv_icmp_eq (tgt := 379) hx hb d_L_law_374 (by decide) (fun hc => ?_) (fun hc => ?_)
      · skip
        refine lv_iload hx hb d_L_law_379 (lv_at hl 1 rfl) ?_
        refine lv_if_ne (tgt := 396) hx hb d_L_law_381 (by decide) (fun hc2 => ?_) (fun hc2 => ?_)
        · skip
          refine lv_goto (tgt := 654) hx hb d_L_law_396 (by decide) ?_
          exact next E S _ _ _ _ _ _ _ ls ⟨hG, ⟨_, hR⟩, ⟨_, ho⟩, hto, hI1, by omega, by omega, h⟩ (lv_sub hl [2, 3, 4, 5, 6] rfl)
        · skip
          exact absurd hc2 (by decide)
      · skip
        exact absurd rfl hc
    · skip
      obtain ⟨-, J, hJ0, hJ1, hJ2, hJ3⟩ := hIv.2.2.2.2.2.1 k E S 0 0 hI (by omega) (by omega)
      refine lv_aload_n hx hb d_L_law_331 rfl (lv_at hl 1 rfl) ?_
      refine lv_aload_n hx hb d_L_law_332 rfl (lv_at hl 0 rfl) ?_
      refine lv_iload hx hb d_L_law_333 (lv_at hl 4 rfl) ?_
      refine lv_iconst (v := 1) hx hb d_L_law_335 (by decide) ?_
      refine lv_iadd hx hb d_L_law_336 ?_
      rw [show nI (4 * k) + 1 = nI (4 * k + 1) from nI_add (4 * k) 1]
      refine va_sld hx hb hbx hbl hbA h.2.2.1 (hp_ix (j := (4 * k + 1)) (n := N) rfl (by omega) (by omega)).1 d_L_law_337 ?_
      rw [(hp_ix (i := nI (4 * k + 1)) (j := (4 * k + 1)) (n := N) rfl (by omega) (by omega)).2]
      refine lv_aload_n hx hb d_L_law_338 rfl (lv_at hl 0 rfl) ?_
      refine lv_iload hx hb d_L_law_339 (lv_at hl 4 rfl) ?_
      refine lv_iconst (v := 2) hx hb d_L_law_341 (by decide) ?_
      refine lv_iadd hx hb d_L_law_342 ?_
      rw [show nI (4 * k) + 2 = nI (4 * k + 2) from nI_add (4 * k) 2]
      refine va_sld hx hb hbx hbl hbA h.2.2.1 (hp_ix (j := (4 * k + 2)) (n := N) rfl (by omega) (by omega)).1 d_L_law_343 ?_
      rw [(hp_ix (i := nI (4 * k + 2)) (j := (4 * k + 2)) (n := N) rfl (by omega) (by omega)).2]
      refine lv_aload_n hx hb d_L_law_344 rfl (lv_at hl 3 rfl) ?_
      refine hp_calli (hp_runSW (n := 4) (As := [.ref (ad 0), .int (xs (4 * k + 1)), .int (xs (4 * k + 2)), .ref (ad 200)]) (rest := []) ⟨hx, hb, hml, hown, hg⟩ (w_run1 l hoff D tys de sa ht ht1 ht2 hG hb1) w498 w496 w497 w0 rfl rfl (by decide +kernel) ⟨Nat.le_of_ble_eq_true rfl, Nat.le_of_ble_eq_true rfl⟩ hg (s_ok de sa) hK hX h rfl hl.1 rfl (Nat.le_of_ble_eq_true rfl) d_L_law_345 ⟨by show _ ≤ 601024; omega, by show _ ≤ 7293034; omega⟩) h (fun r1 Ln fn H locs hp h => ?_)
      obtain ⟨hr1, hu⟩ := hp
      obtain ⟨hL1, hf1⟩ := Prod.mk.inj hu
      subst hr1
      have hL1 := hL1.symm
      subst hL1
      have hf1 := hf1.symm
      subst hf1
      refine lv_istore (lv' := [(5, .int 1), (0, .ref b), (1, .ref (ad 0)), (2, .ref (ad 100)), (3, .ref (ad 200)), (4, .int (nI (4 * k)))]) hx hb d_L_law_348 hl (by decide) rfl (fun ls hl => ?_)
      refine lv_aload_n hx hb d_L_law_350 rfl (lv_at hl 3 rfl) ?_
      refine lv_aload_n hx hb d_L_law_351 rfl (lv_at hl 1 rfl) ?_
      refine lv_iload hx hb d_L_law_352 (lv_at hl 5 rfl) ?_
      refine lv_iconst (v := 1) hx hb d_L_law_354 (by decide) ?_
      refine lv_iadd hx hb d_L_law_355 ?_
      rw [show nI (4 * k) + 1 = nI (4 * k + 1) from nI_add (4 * k) 1]
      refine va_sld hx hb hbx hbl hbA h.2.2.1 (hp_ix (j := (4 * k + 1)) (n := N) rfl (by omega) (by omega)).1 d_L_law_356 ?_
      rw [(hp_ix (i := nI (4 * k + 1)) (j := (4 * k + 1)) (n := N) rfl (by omega) (by omega)).2]
      refine lv_aload_n hx hb d_L_law_357 rfl (lv_at hl 1 rfl) ?_
      refine lv_iload hx hb d_L_law_358 (lv_at hl 5 rfl) ?_
      refine lv_iconst (v := 2) hx hb d_L_law_360 (by decide) ?_
      refine lv_iadd hx hb d_L_law_361 ?_
      rw [show nI (4 * k) + 2 = nI (4 * k + 2) from nI_add (4 * k) 2]
      refine va_sld hx hb hbx hbl hbA h.2.2.1 (hp_ix (j := (4 * k + 2)) (n := N) rfl (by omega) (by omega)).1 d_L_law_362 ?_
      rw [(hp_ix (i := nI (4 * k + 2)) (j := (4 * k + 2)) (n := N) rfl (by omega) (by omega)).2]
      refine hp_calli (hp_runV (As := [.int (xs (4 * k + 1)), .int (xs (4 * k + 2))]) (rest := []) ⟨hx, hb, hml, hown, hg⟩ (c_R_run l D tys de sa (w := (xs (4 * k + 1))) (u9 := (xs (4 * k + 2))) (Iv := J) ht ht3 hR hn7 hm12 hJ0 (fun T hT => (hJ1 T hT).1) hJ2 hJ3) (cwV 2 hg (gw_V w703 w704 w705 w7 w706) rfl rfl rfl (by decide +kernel) ⟨Nat.le_of_ble_eq_true rfl, Nat.le_of_ble_eq_true rfl⟩) (s_ok de sa) hK hX h hR.1 rfl rfl rfl hl.1 rfl (Nat.le_of_ble_eq_true rfl) d_L_law_363 ⟨by show _ ≤ 601024; omega, by show _ ≤ 7293034; omega⟩) h (fun r3 L3 f3 H locs hp3 h => ?_)
      have hq : kRP cI cZ ad τ L f 1 E S (L3, f3) := by
        rcases hp3 with ⟨v9, m9, z1, -, z2, -⟩ | ⟨-, hq⟩ | ⟨z, -⟩
        · rw [z2] at hb1; exact absurd hb1 (kBad_nI hn7 z1)
        · exact hq
        · exact absurd hb1 z
      obtain ⟨hR, hF3⟩ := hq
      dsimp only at hR
      have hG := hG.moveR hF3
      have hL3 := hF3.1
      dsimp only at hL3
      have ho : hp_at L3 f3 (ad 200) _ := ⟨by rw [hL3]; exact ho.1, (hF3.2 _ ho.1 (Or.inr (by omega))).trans ho.2⟩
      refine lv_istore (lv' := [(6, .int r3), (5, .int 1), (0, .ref b), (1, .ref (ad 0)), (2, .ref (ad 100)), (3, .ref (ad 200)), (4, .int (nI (4 * k)))]) hx hb d_L_law_366 hl (by decide) rfl (fun ls hl => ?_)
      refine lv_aload_n hx hb d_L_law_368 rfl (lv_at hl 4 rfl) ?_
      refine hp_callR (hp_runV (As := []) (rest := []) ⟨hx, hb, hml, hown, hg⟩ (c_R_thrown l D tys de sa ht ht3 hR hn7 hm12) (cwV 0 hg (gw_V w615 w616 w617 w7 w618) rfl rfl rfl (by decide +kernel) ⟨Nat.le_of_ble_eq_true rfl, Nat.le_of_ble_eq_true rfl⟩) (s_ok de sa) hK hX h hR.1 rfl rfl rfl hl.1 rfl (Nat.le_of_ble_eq_true rfl) d_L_law_369 ⟨by show _ ≤ 601024; omega, by show _ ≤ 7293034; omega⟩) (fun r1 hp => ?_)
      subst hp
      refine lv_iload hx hb d_L_law_372 (lv_at hl 1 rfl) ?_
      refine lv_icmp_eq (tgt := 379) hx hb d_L_law_374 (by decide) (fun hc => ?_) (fun hc => ?_)
      · skip
        refine lv_iload hx hb d_L_law_379 (lv_at hl 1 rfl) ?_
        refine lv_if_ne (tgt := 396) hx hb d_L_law_381 (by decide) (fun hc2 => ?_) (fun hc2 => ?_)
        · skip
          refine lv_goto (tgt := 654) hx hb d_L_law_396 (by decide) ?_
          exact next E S _ _ _ _ _ _ _ ls ⟨hG, ⟨_, hR⟩, ⟨_, ho⟩, hto, hI1, by omega, by omega, h⟩ (lv_sub hl [2, 3, 4, 5, 6] rfl)
        · skip
          exact absurd hc2 (by decide)
      · skip
        exact absurd rfl hc
  · skip
    obtain ⟨v, hv, hpv⟩ := kBad_not hn7 hb1
    by_cases hb2 : (xs (4 * k + 2)) < 0 ∨ 999 < (xs (4 * k + 2))
    · skip
      obtain ⟨-, J, hJ0, hJ1, hJ2, hJ3⟩ := hIv.2.2.2.2.2.1 k E S v 0 hI hv (by omega)
      refine lv_aload_n hx hb d_L_law_331 rfl (lv_at hl 1 rfl) ?_
      refine lv_aload_n hx hb d_L_law_332 rfl (lv_at hl 0 rfl) ?_
      refine lv_iload hx hb d_L_law_333 (lv_at hl 4 rfl) ?_
      refine lv_iconst (v := 1) hx hb d_L_law_335 (by decide) ?_
      refine lv_iadd hx hb d_L_law_336 ?_
      rw [show nI (4 * k) + 1 = nI (4 * k + 1) from nI_add (4 * k) 1]
      refine va_sld hx hb hbx hbl hbA h.2.2.1 (hp_ix (j := (4 * k + 1)) (n := N) rfl (by omega) (by omega)).1 d_L_law_337 ?_
      rw [(hp_ix (i := nI (4 * k + 1)) (j := (4 * k + 1)) (n := N) rfl (by omega) (by omega)).2]
      rw [hpv]
      refine lv_aload_n hx hb d_L_law_338 rfl (lv_at hl 0 rfl) ?_
      refine lv_iload hx hb d_L_law_339 (lv_at hl 4 rfl) ?_
      refine lv_iconst (v := 2) hx hb d_L_law_341 (by decide) ?_
      refine lv_iadd hx hb d_L_law_342 ?_
      rw [show nI (4 * k) + 2 = nI (4 * k + 2) from nI_add (4 * k) 2]
      refine va_sld hx hb hbx hbl hbA h.2.2.1 (hp_ix (j := (4 * k + 2)) (n := N) rfl (by omega) (by omega)).1 d_L_law_343 ?_
      rw [(hp_ix (i := nI (4 * k + 2)) (j := (4 * k + 2)) (n := N) rfl (by omega) (by omega)).2]
      refine lv_aload_n hx hb d_L_law_344 rfl (lv_at hl 3 rfl) ?_
      refine hp_calli (hp_runSW (n := 4) (As := [.ref (ad 0), .int (nI v), .int (xs (4 * k + 2)), .ref (ad 200)]) (rest := []) ⟨hx, hb, hml, hown, hg⟩ (w_run2 l hoff D tys de sa ht ht1 ht2 hG hv hb2) w498 w496 w497 w0 rfl rfl (by decide +kernel) ⟨Nat.le_of_ble_eq_true rfl, Nat.le_of_ble_eq_true rfl⟩ hg (s_ok de sa) hK hX h rfl hl.1 rfl (Nat.le_of_ble_eq_true rfl) d_L_law_345 ⟨by show _ ≤ 601024; omega, by show _ ≤ 7293034; omega⟩) h (fun r1 Ln fn H locs hp h => ?_)
      obtain ⟨hr1, hu⟩ := hp
      obtain ⟨hL1, hf1⟩ := Prod.mk.inj hu
      subst hr1
      have hL1 := hL1.symm
      subst hL1
      have hf1 := hf1.symm
      subst hf1
      refine lv_istore (lv' := [(5, .int 2), (0, .ref b), (1, .ref (ad 0)), (2, .ref (ad 100)), (3, .ref (ad 200)), (4, .int (nI (4 * k)))]) hx hb d_L_law_348 hl (by decide) rfl (fun ls hl => ?_)
      refine lv_aload_n hx hb d_L_law_350 rfl (lv_at hl 3 rfl) ?_
      refine lv_aload_n hx hb d_L_law_351 rfl (lv_at hl 1 rfl) ?_
      refine lv_iload hx hb d_L_law_352 (lv_at hl 5 rfl) ?_
      refine lv_iconst (v := 1) hx hb d_L_law_354 (by decide) ?_
      refine lv_iadd hx hb d_L_law_355 ?_
      rw [show nI (4 * k) + 1 = nI (4 * k + 1) from nI_add (4 * k) 1]
      refine va_sld hx hb hbx hbl hbA h.2.2.1 (hp_ix (j := (4 * k + 1)) (n := N) rfl (by omega) (by omega)).1 d_L_law_356 ?_
      rw [(hp_ix (i := nI (4 * k + 1)) (j := (4 * k + 1)) (n := N) rfl (by omega) (by omega)).2]
      rw [hpv]
      refine lv_aload_n hx hb d_L_law_357 rfl (lv_at hl 1 rfl) ?_
      refine lv_iload hx hb d_L_law_358 (lv_at hl 5 rfl) ?_
      refine lv_iconst (v := 2) hx hb d_L_law_360 (by decide) ?_
      refine lv_iadd hx hb d_L_law_361 ?_
      rw [show nI (4 * k) + 2 = nI (4 * k + 2) from nI_add (4 * k) 2]
      refine va_sld hx hb hbx hbl hbA h.2.2.1 (hp_ix (j := (4 * k + 2)) (n := N) rfl (by omega) (by omega)).1 d_L_law_362 ?_
      rw [(hp_ix (i := nI (4 * k + 2)) (j := (4 * k + 2)) (n := N) rfl (by omega) (by omega)).2]
      refine hp_calli (hp_runV (As := [.int (nI v), .int (xs (4 * k + 2))]) (rest := []) ⟨hx, hb, hml, hown, hg⟩ (c_R_run l D tys de sa (w := nI v) (u9 := (xs (4 * k + 2))) (Iv := J) ht ht3 hR hn7 hm12 hJ0 (fun T hT => (hJ1 T hT).1) hJ2 hJ3) (cwV 2 hg (gw_V w703 w704 w705 w7 w706) rfl rfl rfl (by decide +kernel) ⟨Nat.le_of_ble_eq_true rfl, Nat.le_of_ble_eq_true rfl⟩) (s_ok de sa) hK hX h hR.1 rfl rfl rfl hl.1 rfl (Nat.le_of_ble_eq_true rfl) d_L_law_363 ⟨by show _ ≤ 601024; omega, by show _ ≤ 7293034; omega⟩) h (fun r3 L3 f3 H locs hp3 h => ?_)
      have hq : kRP cI cZ ad τ L f 2 E S (L3, f3) := by
        rcases hp3 with ⟨v9, m9, -, z1, -, z2, -⟩ | ⟨z, -⟩ | ⟨-, -, hq⟩
        · rw [z2] at hb2; rcases hb2 with z | z
          · exact absurd z (nI_pos (by omega))
          · exact absurd ((nI_ltI (a := 999) (by omega) (by omega)).mp z) (by omega)
        · exact absurd z (kBad_nI hn7 hv)
        · exact hq
      obtain ⟨hR, hF3⟩ := hq
      dsimp only at hR
      have hG := hG.moveR hF3
      have hL3 := hF3.1
      dsimp only at hL3
      have ho : hp_at L3 f3 (ad 200) _ := ⟨by rw [hL3]; exact ho.1, (hF3.2 _ ho.1 (Or.inr (by omega))).trans ho.2⟩
      refine lv_istore (lv' := [(6, .int r3), (5, .int 2), (0, .ref b), (1, .ref (ad 0)), (2, .ref (ad 100)), (3, .ref (ad 200)), (4, .int (nI (4 * k)))]) hx hb d_L_law_366 hl (by decide) rfl (fun ls hl => ?_)
      refine lv_aload_n hx hb d_L_law_368 rfl (lv_at hl 4 rfl) ?_
      refine hp_callR (hp_runV (As := []) (rest := []) ⟨hx, hb, hml, hown, hg⟩ (c_R_thrown l D tys de sa ht ht3 hR hn7 hm12) (cwV 0 hg (gw_V w615 w616 w617 w7 w618) rfl rfl rfl (by decide +kernel) ⟨Nat.le_of_ble_eq_true rfl, Nat.le_of_ble_eq_true rfl⟩) (s_ok de sa) hK hX h hR.1 rfl rfl rfl hl.1 rfl (Nat.le_of_ble_eq_true rfl) d_L_law_369 ⟨by show _ ≤ 601024; omega, by show _ ≤ 7293034; omega⟩) (fun r1 hp => ?_)
      subst hp
      refine lv_iload hx hb d_L_law_372 (lv_at hl 1 rfl) ?_
      refine lv_icmp_eq (tgt := 379) hx hb d_L_law_374 (by decide) (fun hc => ?_) (fun hc => ?_)
      · skip
        refine lv_iload hx hb d_L_law_379 (lv_at hl 1 rfl) ?_
        refine lv_if_ne (tgt := 396) hx hb d_L_law_381 (by decide) (fun hc2 => ?_) (fun hc2 => ?_)
        · skip
          refine lv_goto (tgt := 654) hx hb d_L_law_396 (by decide) ?_
          exact next E S _ _ _ _ _ _ _ ls ⟨hG, ⟨_, hR⟩, ⟨_, ho⟩, hto, hI1, by omega, by omega, h⟩ (lv_sub hl [2, 3, 4, 5, 6] rfl)
        · skip
          exact absurd hc2 (by decide)
      · skip
        exact absurd rfl hc
    · skip
      obtain ⟨most, hmost, hpm⟩ := nI_of2 (x := (xs (4 * k + 2))) (M := 999) (n := 999) rfl (fun z => hb2 (Or.inl z)) (Int32.not_lt.mp (fun z => hb2 (Or.inr z)))
      obtain ⟨hI2, J, hJ0, hJ1, hJ2, hJ3⟩ := hIv.2.2.2.2.2.1 k E S v most hI hv hmost
      have hroom2 := hIv.2.2.2.2.2.2 (k + 1) E _ (by omega) hI2
      have hle := k_run_le (E := E) (most := most) (most * E.1) S v 0
      refine lv_aload_n hx hb d_L_law_331 rfl (lv_at hl 1 rfl) ?_
      refine lv_aload_n hx hb d_L_law_332 rfl (lv_at hl 0 rfl) ?_
      refine lv_iload hx hb d_L_law_333 (lv_at hl 4 rfl) ?_
      refine lv_iconst (v := 1) hx hb d_L_law_335 (by decide) ?_
      refine lv_iadd hx hb d_L_law_336 ?_
      rw [show nI (4 * k) + 1 = nI (4 * k + 1) from nI_add (4 * k) 1]
      refine va_sld hx hb hbx hbl hbA h.2.2.1 (hp_ix (j := (4 * k + 1)) (n := N) rfl (by omega) (by omega)).1 d_L_law_337 ?_
      rw [(hp_ix (i := nI (4 * k + 1)) (j := (4 * k + 1)) (n := N) rfl (by omega) (by omega)).2]
      rw [hpv]
      refine lv_aload_n hx hb d_L_law_338 rfl (lv_at hl 0 rfl) ?_
      refine lv_iload hx hb d_L_law_339 (lv_at hl 4 rfl) ?_
      refine lv_iconst (v := 2) hx hb d_L_law_341 (by decide) ?_
      refine lv_iadd hx hb d_L_law_342 ?_
      rw [show nI (4 * k) + 2 = nI (4 * k + 2) from nI_add (4 * k) 2]
      refine va_sld hx hb hbx hbl hbA h.2.2.1 (hp_ix (j := (4 * k + 2)) (n := N) rfl (by omega) (by omega)).1 d_L_law_343 ?_
      rw [(hp_ix (i := nI (4 * k + 2)) (j := (4 * k + 2)) (n := N) rfl (by omega) (by omega)).2]
      rw [hpm]
      refine lv_aload_n hx hb d_L_law_344 rfl (lv_at hl 3 rfl) ?_
      refine hp_calli (hp_runSW (n := 4) (As := [.ref (ad 0), .int (nI v), .int (nI most), .ref (ad 200)]) (rest := []) ⟨hx, hb, hml, hown, hg⟩ (w_run0 l hoff D tys de sa ht ht1 ht2 ht4 hG ho hto hv hmost hW hJ0 (fun T a hT ha => ⟨(hJ1 T hT).2, fun q l hq => (((hJ1 T hT).1.2.2 a ha).2.2.2.2.1 q l hq).1⟩) hJ2) w498 w496 w497 w0 rfl rfl (by decide +kernel) ⟨Nat.le_of_ble_eq_true rfl, Nat.le_of_ble_eq_true rfl⟩ hg (s_ok de sa) hK hX h rfl hl.1 rfl (Nat.le_of_ble_eq_true rfl) d_L_law_345 ⟨by show _ ≤ 601024; omega, by show _ ≤ 7293034; omega⟩) h (fun r1 Ln fn H locs hp h => ?_)
      obtain ⟨hr1, τn, hG, hmv, g9, ho9, hg9⟩ := hp
      dsimp only at hG
      subst hr1
      have hto9 : τn (ad 200) = 200 := ((hmv _ hoL).2 (by omega)).1.trans hto
      have hR := hR.move (o9 := ad 200) hmv hto
      have ho := ho9
      have hto := hto9
      refine lv_istore (lv' := [(5, .int 0), (0, .ref b), (1, .ref (ad 0)), (2, .ref (ad 100)), (3, .ref (ad 200)), (4, .int (nI (4 * k)))]) hx hb d_L_law_348 hl (by decide) rfl (fun ls hl => ?_)
      refine lv_aload_n hx hb d_L_law_350 rfl (lv_at hl 3 rfl) ?_
      refine lv_aload_n hx hb d_L_law_351 rfl (lv_at hl 1 rfl) ?_
      refine lv_iload hx hb d_L_law_352 (lv_at hl 5 rfl) ?_
      refine lv_iconst (v := 1) hx hb d_L_law_354 (by decide) ?_
      refine lv_iadd hx hb d_L_law_355 ?_
      rw [show nI (4 * k) + 1 = nI (4 * k + 1) from nI_add (4 * k) 1]
      refine va_sld hx hb hbx hbl hbA h.2.2.1 (hp_ix (j := (4 * k + 1)) (n := N) rfl (by omega) (by omega)).1 d_L_law_356 ?_
      rw [(hp_ix (i := nI (4 * k + 1)) (j := (4 * k + 1)) (n := N) rfl (by omega) (by omega)).2]
      rw [hpv]
      refine lv_aload_n hx hb d_L_law_357 rfl (lv_at hl 1 rfl) ?_
      refine lv_iload hx hb d_L_law_358 (lv_at hl 5 rfl) ?_
      refine lv_iconst (v := 2) hx hb d_L_law_360 (by decide) ?_
      refine lv_iadd hx hb d_L_law_361 ?_
      rw [show nI (4 * k) + 2 = nI (4 * k + 2) from nI_add (4 * k) 2]
      refine va_sld hx hb hbx hbl hbA h.2.2.1 (hp_ix (j := (4 * k + 2)) (n := N) rfl (by omega) (by omega)).1 d_L_law_362 ?_
      rw [(hp_ix (i := nI (4 * k + 2)) (j := (4 * k + 2)) (n := N) rfl (by omega) (by omega)).2]
      rw [hpm]
      refine hp_calli (hp_runV (As := [.int (nI v), .int (nI most)]) (rest := []) ⟨hx, hb, hml, hown, hg⟩ (c_R_run l D tys de sa (w := nI v) (u9 := nI most) (Iv := J) ht ht3 hR hn7 hm12 hJ0 (fun T hT => (hJ1 T hT).1) hJ2 hJ3) (cwV 2 hg (gw_V w703 w704 w705 w7 w706) rfl rfl rfl (by decide +kernel) ⟨Nat.le_of_ble_eq_true rfl, Nat.le_of_ble_eq_true rfl⟩) (s_ok de sa) hK hX h hR.1 rfl rfl rfl hl.1 rfl (Nat.le_of_ble_eq_true rfl) d_L_law_363 ⟨by show _ ≤ 601024; omega, by show _ ≤ 7293034; omega⟩) h (fun r3 L3 f3 H locs hp3 h => ?_)
      have hq9 : r3 = nI (k_run E most (most * E.1) S v 0).2 ∧ kRP cI cZ ad τn Ln fn 0 E (k_run E most (most * E.1) S v 0).1 (L3, f3) := by
        rcases hp3 with ⟨v9, m9, z1, z2, z3, z4, z5, hq⟩ | ⟨z, -⟩ | ⟨-, z, -⟩
        · have e1 := (nI_eq (by omega) (by omega)).mp z3
          have e2 := (nI_eq (by omega) (by omega)).mp z4
          subst e1
          subst e2
          exact ⟨z5, hq⟩
        · exact absurd z (kBad_nI hn7 hv)
        · rcases z with z | z
          · exact absurd z (nI_pos (by omega))
          · exact absurd ((nI_ltI (a := 999) (by omega) (by omega)).mp z) (by omega)
      obtain ⟨hr3, hq⟩ := hq9
      obtain ⟨hR, hF3⟩ := hq
      dsimp only at hR
      have hG := hG.moveR hF3
      have hL3 := hF3.1
      dsimp only at hL3
      have ho : hp_at L3 f3 (ad 200) _ := ⟨by rw [hL3]; exact ho.1, (hF3.2 _ ho.1 (Or.inr (by omega))).trans ho.2⟩
      subst hr3
      refine lv_istore (lv' := [(6, .int (nI (k_run E most (most * E.1) S v 0).2)), (5, .int 0), (0, .ref b), (1, .ref (ad 0)), (2, .ref (ad 100)), (3, .ref (ad 200)), (4, .int (nI (4 * k)))]) hx hb d_L_law_366 hl (by decide) rfl (fun ls hl => ?_)
      refine lv_aload_n hx hb d_L_law_368 rfl (lv_at hl 4 rfl) ?_
      refine hp_callR (hp_runV (As := []) (rest := []) ⟨hx, hb, hml, hown, hg⟩ (c_R_thrown l D tys de sa ht ht3 hR hn7 hm12) (cwV 0 hg (gw_V w615 w616 w617 w7 w618) rfl rfl rfl (by decide +kernel) ⟨Nat.le_of_ble_eq_true rfl, Nat.le_of_ble_eq_true rfl⟩) (s_ok de sa) hK hX h hR.1 rfl rfl rfl hl.1 rfl (Nat.le_of_ble_eq_true rfl) d_L_law_369 ⟨by show _ ≤ 601024; omega, by show _ ≤ 7293034; omega⟩) (fun r1 hp => ?_)
      subst hp
      refine lv_iload hx hb d_L_law_372 (lv_at hl 1 rfl) ?_
      refine lv_icmp_eq (tgt := 379) hx hb d_L_law_374 (by decide) (fun hc => ?_) (fun hc => ?_)
      · skip
        refine lv_iload hx hb d_L_law_379 (lv_at hl 1 rfl) ?_
        refine lv_if_ne (tgt := 396) hx hb d_L_law_381 (by decide) (fun hc2 => ?_) (fun hc2 => ?_)
        · skip
          exact absurd rfl hc2
        · skip
          refine lv_aload_n hx hb d_L_law_384 rfl (lv_at hl 5 rfl) ?_
          refine lv_iconst (v := 0) hx hb d_L_law_385 (by decide) ?_
          refine hp_lald hx hb hK h 4 ho ht4 (show (0 : Int32) = nI 0 from rfl) (by decide) (by decide) d_L_law_386 ?_
          refine lv_iload hx hb d_L_law_387 (lv_at hl 0 rfl) ?_
          refine lv_i2l hx hb d_L_law_389 rfl ?_
          refine W.lcmp hx hb d_L_law_390 ?_
          rw [hg9, show lg_cmp ((nI (k_run E most (most * E.1) S v 0).2).toInt64) ((nI (k_run E most (most * E.1) S v 0).2).toInt64) = 0 from lg_refl _]
          refine lv_if_eq (tgt := 396) hx hb d_L_law_391 (by decide) (fun hc3 => ?_) (fun hc3 => ?_)
          · skip
            refine lv_goto (tgt := 654) hx hb d_L_law_396 (by decide) ?_
            exact next E (k_run E most (most * E.1) S v 0).1 _ _ _ _ _ _ _ ls ⟨hG, ⟨_, hR⟩, ⟨_, ho⟩, hto, hI2, by omega, by omega, h⟩ (lv_sub hl [2, 3, 4, 5, 6] rfl)
          · skip
            exact absurd rfl hc3
      · skip
        exact absurd rfl hc

set_option maxHeartbeats 4000000 in
set_option maxRecDepth 100000 in
theorem lw_c5 {p : Program} {l : Launch} {e : Env} {s : State} {m : MethodId} {below : List Frame} {meth : Method} {c : Code} {Q : State → Prop} {b N k : Nat} {xs : Nat → Int32} {D : va_G} {tys : List (ClassId × FieldType)} {de : Nat} {sa : Nat → Nat} {A : Nat → Prop} {cI cO cN cZ cJ : ClassId} {Iv : Nat → kE → kS → Prop} {ad : Nat → Nat} (hx : p.tables.exec = Jvm.exec) (hb : c.code = code) (hml : c.maxLocals = 7) (hoff : th_Off l) (hg : ∀ w ∈ gw, w.before #[Value.ref b] s = true) (hown : s.vm.findClass "MergingFragmentsLaw" = some m.cls) (hK : va_K D kc tys s) (hX : s_X de sa A s s.heap) (hbx : va_X b N xs s s.heap) (hbl : b < s.heap.size) (hbA : ¬ A b) (ht : tys[0]? = some (cI, .int)) (ht1 : tys[1]? = some (cO, .object "java/lang/Object")) (ht2 : tys[2]? = some (cN, .object "MergingFragments$Node")) (ht3 : tys[3]? = some (cZ, .boolean)) (ht4 : tys[4]? = some (cJ, .long)) (hIv : kIf Iv) (hN : N ≤ 2048) (hk : 4 * k + 4 ≤ N) (next : ∀ (E : kE) (S : kS) (τ : Nat → Nat) (L : List Nat) (f : Nat → va_E) (cx sx : Nat) (H : Heap) (locs : List Loc) (ls : Array Slot), lwS cI cO cN cZ cJ de D A s.heap Iv ad (k + 1) E S τ L f cx sx H locs → lv_has ls 7 [(0, .ref b), (1, .ref (ad 0)), (2, .ref (ad 100)), (3, .ref (ad 200)), (4, .int (nI (4 * k)))] → W p l e room_1 s m #[Value.ref b] below meth c H locs cx sx Q (F0 m 654 ls [])) {E : kE} {S : kS} {τ : Nat → Nat} {L : List Nat} {f : Nat → va_E} {cx sx : Nat} {H : Heap} {locs : List Loc} {ls : Array Slot} (hS : lwS cI cO cN cZ cJ de D A s.heap Iv ad k E S τ L f cx sx H locs) (hl : lv_has ls 7 [(0, .ref b), (1, .ref (ad 0)), (2, .ref (ad 100)), (3, .ref (ad 200)), (4, .int (nI (4 * k)))]) : W p l e room_1 s m #[Value.ref b] below meth c H locs cx sx Q (F0 m 399 ls []) := by
  obtain ⟨hG, ⟨cz, hR⟩, ⟨g0, ho⟩, hto, hI, hcx, hsx, h⟩ := hS
  obtain ⟨hn7, hm12, hP, h41, hno, hI1⟩ := hIv.2.1 k E S hI
  have hroom := hIv.2.2.2.2.2.2 k E S (by omega) hI
  have hW := hP.1.1
  have hoL := ho.1
  by_cases hb1 : kBad E (xs (4 * k + 1))
  · skip
    refine lv_aload_n hx hb d_L_law_399 rfl (lv_at hl 1 rfl) ?_
    refine lv_aload_n hx hb d_L_law_400 rfl (lv_at hl 0 rfl) ?_
    refine lv_iload hx hb d_L_law_401 (lv_at hl 4 rfl) ?_
    refine lv_iconst (v := 1) hx hb d_L_law_403 (by decide) ?_
    refine lv_iadd hx hb d_L_law_404 ?_
    rw [show nI (4 * k) + 1 = nI (4 * k + 1) from nI_add (4 * k) 1]
    refine va_sld hx hb hbx hbl hbA h.2.2.1 (hp_ix (j := (4 * k + 1)) (n := N) rfl (by omega) (by omega)).1 d_L_law_405 ?_
    rw [(hp_ix (i := nI (4 * k + 1)) (j := (4 * k + 1)) (n := N) rfl (by omega) (by omega)).2]
    refine lv_aload_n hx hb d_L_law_406 rfl (lv_at hl 0 rfl) ?_
    refine lv_iload hx hb d_L_law_407 (lv_at hl 4 rfl) ?_
    refine lv_iconst (v := 2) hx hb d_L_law_409 (by decide) ?_
    refine lv_iadd hx hb d_L_law_410 ?_
    rw [show nI (4 * k) + 2 = nI (4 * k + 2) from nI_add (4 * k) 2]
    refine va_sld hx hb hbx hbl hbA h.2.2.1 (hp_ix (j := (4 * k + 2)) (n := N) rfl (by omega) (by omega)).1 d_L_law_411 ?_
    rw [(hp_ix (i := nI (4 * k + 2)) (j := (4 * k + 2)) (n := N) rfl (by omega) (by omega)).2]
    refine lv_aload_n hx hb d_L_law_412 rfl (lv_at hl 3 rfl) ?_
    refine hp_calli (hp_runSW (n := 4) (As := [.ref (ad 0), .int (xs (4 * k + 1)), .int (xs (4 * k + 2)), .ref (ad 200)]) (rest := []) ⟨hx, hb, hml, hown, hg⟩ (w_about1 l hoff D tys de sa ht ht1 ht2 hG hb1) w507 w505 w506 w0 rfl rfl (by decide +kernel) ⟨Nat.le_of_ble_eq_true rfl, Nat.le_of_ble_eq_true rfl⟩ hg (s_ok de sa) hK hX h rfl hl.1 rfl (Nat.le_of_ble_eq_true rfl) d_L_law_413 ⟨by show _ ≤ 601024; omega, by show _ ≤ 7293034; omega⟩) h (fun r1 Ln fn H locs hp h => ?_)
    obtain ⟨hr1, hu⟩ := hp
    obtain ⟨hL1, hf1⟩ := Prod.mk.inj hu
    subst hr1
    have hL1 := hL1.symm
    subst hL1
    have hf1 := hf1.symm
    subst hf1
    refine lv_istore (lv' := [(5, .int 1), (0, .ref b), (1, .ref (ad 0)), (2, .ref (ad 100)), (3, .ref (ad 200)), (4, .int (nI (4 * k)))]) hx hb d_L_law_416 hl (by decide) rfl (fun ls hl => ?_)
    refine lv_aload_n hx hb d_L_law_418 rfl (lv_at hl 3 rfl) ?_
    refine lv_aload_n hx hb d_L_law_419 rfl (lv_at hl 1 rfl) ?_
    refine lv_iload hx hb d_L_law_420 (lv_at hl 5 rfl) ?_
    refine lv_iconst (v := 1) hx hb d_L_law_422 (by decide) ?_
    refine lv_iadd hx hb d_L_law_423 ?_
    rw [show nI (4 * k) + 1 = nI (4 * k + 1) from nI_add (4 * k) 1]
    refine va_sld hx hb hbx hbl hbA h.2.2.1 (hp_ix (j := (4 * k + 1)) (n := N) rfl (by omega) (by omega)).1 d_L_law_424 ?_
    rw [(hp_ix (i := nI (4 * k + 1)) (j := (4 * k + 1)) (n := N) rfl (by omega) (by omega)).2]
    refine lv_aload_n hx hb d_L_law_425 rfl (lv_at hl 1 rfl) ?_
    refine lv_iload hx hb d_L_law_426 (lv_at hl 5 rfl) ?_
    refine lv_iconst (v := 2) hx hb d_L_law_428 (by decide) ?_
    refine lv_iadd hx hb d_L_law_429 ?_
    rw [show nI (4 * k) + 2 = nI (4 * k + 2) from nI_add (4 * k) 2]
    refine va_sld hx hb hbx hbl hbA h.2.2.1 (hp_ix (j := (4 * k + 2)) (n := N) rfl (by omega) (by omega)).1 d_L_law_430 ?_
    rw [(hp_ix (i := nI (4 * k + 2)) (j := (4 * k + 2)) (n := N) rfl (by omega) (by omega)).2]
    refine hp_calli (hp_runV (As := [.int (xs (4 * k + 1)), .int (xs (4 * k + 2))]) (rest := []) ⟨hx, hb, hml, hown, hg⟩ (c_R_about l D tys de sa (w := (xs (4 * k + 1))) (u9 := (xs (4 * k + 2))) ht ht3 hR hn7 hm12) (cwV 2 hg (gw_V w711 w712 w713 w7 w714) rfl rfl rfl (by decide +kernel) ⟨Nat.le_of_ble_eq_true rfl, Nat.le_of_ble_eq_true rfl⟩) (s_ok de sa) hK hX h hR.1 rfl rfl rfl hl.1 rfl (Nat.le_of_ble_eq_true rfl) d_L_law_431 ⟨by show _ ≤ 601024; omega, by show _ ≤ 7293034; omega⟩) h (fun r3 L3 f3 H locs hp3 h => ?_)
    have hq : kRP cI cZ ad τ L f 1 E S (L3, f3) := by
      rcases hp3 with ⟨v9, m9, z1, -, z2, -⟩ | ⟨-, hq⟩ | ⟨z, -⟩
      · rw [z2] at hb1; exact absurd hb1 (kBad_nI hn7 z1)
      · exact hq
      · exact absurd hb1 z
    obtain ⟨hR, hF3⟩ := hq
    dsimp only at hR
    have hG := hG.moveR hF3
    have hL3 := hF3.1
    dsimp only at hL3
    have ho : hp_at L3 f3 (ad 200) _ := ⟨by rw [hL3]; exact ho.1, (hF3.2 _ ho.1 (Or.inr (by omega))).trans ho.2⟩
    refine lv_istore (lv' := [(6, .int r3), (5, .int 1), (0, .ref b), (1, .ref (ad 0)), (2, .ref (ad 100)), (3, .ref (ad 200)), (4, .int (nI (4 * k)))]) hx hb d_L_law_434 hl (by decide) rfl (fun ls hl => ?_)
    refine lv_aload_n hx hb d_L_law_436 rfl (lv_at hl 4 rfl) ?_
    refine hp_callR (hp_runV (As := []) (rest := []) ⟨hx, hb, hml, hown, hg⟩ (c_R_thrown l D tys de sa ht ht3 hR hn7 hm12) (cwV 0 hg (gw_V w615 w616 w617 w7 w618) rfl rfl rfl (by decide +kernel) ⟨Nat.le_of_ble_eq_true rfl, Nat.le_of_ble_eq_true rfl⟩) (s_ok de sa) hK hX h hR.1 rfl rfl rfl hl.1 rfl (Nat.le_of_ble_eq_true rfl) d_L_law_437 ⟨by show _ ≤ 601024; omega, by show _ ≤ 7293034; omega⟩) (fun r1 hp => ?_)
    subst hp
    refine lv_iload hx hb d_L_law_440 (lv_at hl 1 rfl) ?_
    refine lv_icmp_eq (tgt := 447) hx hb d_L_law_442 (by decide) (fun hc => ?_) (fun hc => ?_)
    · skip
      refine lv_iload hx hb d_L_law_447 (lv_at hl 1 rfl) ?_
      refine lv_if_ne (tgt := 464) hx hb d_L_law_449 (by decide) (fun hc2 => ?_) (fun hc2 => ?_)
      · skip
        refine lv_goto (tgt := 654) hx hb d_L_law_464 (by decide) ?_
        exact next E S _ _ _ _ _ _ _ ls ⟨hG, ⟨_, hR⟩, ⟨_, ho⟩, hto, hI1, by omega, by omega, h⟩ (lv_sub hl [2, 3, 4, 5, 6] rfl)
      · skip
        exact absurd hc2 (by decide)
    · skip
      exact absurd rfl hc
  · skip
    obtain ⟨v, hv, hpv⟩ := kBad_not hn7 hb1
    by_cases hb2 : (xs (4 * k + 2)) < 0 ∨ 9 < (xs (4 * k + 2))
    · skip
      refine lv_aload_n hx hb d_L_law_399 rfl (lv_at hl 1 rfl) ?_
      refine lv_aload_n hx hb d_L_law_400 rfl (lv_at hl 0 rfl) ?_
      refine lv_iload hx hb d_L_law_401 (lv_at hl 4 rfl) ?_
      refine lv_iconst (v := 1) hx hb d_L_law_403 (by decide) ?_
      refine lv_iadd hx hb d_L_law_404 ?_
      rw [show nI (4 * k) + 1 = nI (4 * k + 1) from nI_add (4 * k) 1]
      refine va_sld hx hb hbx hbl hbA h.2.2.1 (hp_ix (j := (4 * k + 1)) (n := N) rfl (by omega) (by omega)).1 d_L_law_405 ?_
      rw [(hp_ix (i := nI (4 * k + 1)) (j := (4 * k + 1)) (n := N) rfl (by omega) (by omega)).2]
      rw [hpv]
      refine lv_aload_n hx hb d_L_law_406 rfl (lv_at hl 0 rfl) ?_
      refine lv_iload hx hb d_L_law_407 (lv_at hl 4 rfl) ?_
      refine lv_iconst (v := 2) hx hb d_L_law_409 (by decide) ?_
      refine lv_iadd hx hb d_L_law_410 ?_
      rw [show nI (4 * k) + 2 = nI (4 * k + 2) from nI_add (4 * k) 2]
      refine va_sld hx hb hbx hbl hbA h.2.2.1 (hp_ix (j := (4 * k + 2)) (n := N) rfl (by omega) (by omega)).1 d_L_law_411 ?_
      rw [(hp_ix (i := nI (4 * k + 2)) (j := (4 * k + 2)) (n := N) rfl (by omega) (by omega)).2]
      refine lv_aload_n hx hb d_L_law_412 rfl (lv_at hl 3 rfl) ?_
      refine hp_calli (hp_runSW (n := 4) (As := [.ref (ad 0), .int (nI v), .int (xs (4 * k + 2)), .ref (ad 200)]) (rest := []) ⟨hx, hb, hml, hown, hg⟩ (w_about2 l hoff D tys de sa ht ht1 ht2 hG hv hb2) w507 w505 w506 w0 rfl rfl (by decide +kernel) ⟨Nat.le_of_ble_eq_true rfl, Nat.le_of_ble_eq_true rfl⟩ hg (s_ok de sa) hK hX h rfl hl.1 rfl (Nat.le_of_ble_eq_true rfl) d_L_law_413 ⟨by show _ ≤ 601024; omega, by show _ ≤ 7293034; omega⟩) h (fun r1 Ln fn H locs hp h => ?_)
      obtain ⟨hr1, hu⟩ := hp
      obtain ⟨hL1, hf1⟩ := Prod.mk.inj hu
      subst hr1
      have hL1 := hL1.symm
      subst hL1
      have hf1 := hf1.symm
      subst hf1
      refine lv_istore (lv' := [(5, .int 2), (0, .ref b), (1, .ref (ad 0)), (2, .ref (ad 100)), (3, .ref (ad 200)), (4, .int (nI (4 * k)))]) hx hb d_L_law_416 hl (by decide) rfl (fun ls hl => ?_)
      refine lv_aload_n hx hb d_L_law_418 rfl (lv_at hl 3 rfl) ?_
      refine lv_aload_n hx hb d_L_law_419 rfl (lv_at hl 1 rfl) ?_
      refine lv_iload hx hb d_L_law_420 (lv_at hl 5 rfl) ?_
      refine lv_iconst (v := 1) hx hb d_L_law_422 (by decide) ?_
      refine lv_iadd hx hb d_L_law_423 ?_
      rw [show nI (4 * k) + 1 = nI (4 * k + 1) from nI_add (4 * k) 1]
      refine va_sld hx hb hbx hbl hbA h.2.2.1 (hp_ix (j := (4 * k + 1)) (n := N) rfl (by omega) (by omega)).1 d_L_law_424 ?_
      rw [(hp_ix (i := nI (4 * k + 1)) (j := (4 * k + 1)) (n := N) rfl (by omega) (by omega)).2]
      rw [hpv]
      refine lv_aload_n hx hb d_L_law_425 rfl (lv_at hl 1 rfl) ?_
      refine lv_iload hx hb d_L_law_426 (lv_at hl 5 rfl) ?_
      refine lv_iconst (v := 2) hx hb d_L_law_428 (by decide) ?_
      refine lv_iadd hx hb d_L_law_429 ?_
      rw [show nI (4 * k) + 2 = nI (4 * k + 2) from nI_add (4 * k) 2]
      refine va_sld hx hb hbx hbl hbA h.2.2.1 (hp_ix (j := (4 * k + 2)) (n := N) rfl (by omega) (by omega)).1 d_L_law_430 ?_
      rw [(hp_ix (i := nI (4 * k + 2)) (j := (4 * k + 2)) (n := N) rfl (by omega) (by omega)).2]
      refine hp_calli (hp_runV (As := [.int (nI v), .int (xs (4 * k + 2))]) (rest := []) ⟨hx, hb, hml, hown, hg⟩ (c_R_about l D tys de sa (w := nI v) (u9 := (xs (4 * k + 2))) ht ht3 hR hn7 hm12) (cwV 2 hg (gw_V w711 w712 w713 w7 w714) rfl rfl rfl (by decide +kernel) ⟨Nat.le_of_ble_eq_true rfl, Nat.le_of_ble_eq_true rfl⟩) (s_ok de sa) hK hX h hR.1 rfl rfl rfl hl.1 rfl (Nat.le_of_ble_eq_true rfl) d_L_law_431 ⟨by show _ ≤ 601024; omega, by show _ ≤ 7293034; omega⟩) h (fun r3 L3 f3 H locs hp3 h => ?_)
      have hq : kRP cI cZ ad τ L f 2 E S (L3, f3) := by
        rcases hp3 with ⟨v9, m9, -, z1, -, z2, -⟩ | ⟨z, -⟩ | ⟨-, -, hq⟩
        · rw [z2] at hb2; rcases hb2 with z | z
          · exact absurd z (nI_pos (by omega))
          · exact absurd ((nI_ltI (a := 9) (by omega) (by omega)).mp z) (by omega)
        · exact absurd z (kBad_nI hn7 hv)
        · exact hq
      obtain ⟨hR, hF3⟩ := hq
      dsimp only at hR
      have hG := hG.moveR hF3
      have hL3 := hF3.1
      dsimp only at hL3
      have ho : hp_at L3 f3 (ad 200) _ := ⟨by rw [hL3]; exact ho.1, (hF3.2 _ ho.1 (Or.inr (by omega))).trans ho.2⟩
      refine lv_istore (lv' := [(6, .int r3), (5, .int 2), (0, .ref b), (1, .ref (ad 0)), (2, .ref (ad 100)), (3, .ref (ad 200)), (4, .int (nI (4 * k)))]) hx hb d_L_law_434 hl (by decide) rfl (fun ls hl => ?_)
      refine lv_aload_n hx hb d_L_law_436 rfl (lv_at hl 4 rfl) ?_
      refine hp_callR (hp_runV (As := []) (rest := []) ⟨hx, hb, hml, hown, hg⟩ (c_R_thrown l D tys de sa ht ht3 hR hn7 hm12) (cwV 0 hg (gw_V w615 w616 w617 w7 w618) rfl rfl rfl (by decide +kernel) ⟨Nat.le_of_ble_eq_true rfl, Nat.le_of_ble_eq_true rfl⟩) (s_ok de sa) hK hX h hR.1 rfl rfl rfl hl.1 rfl (Nat.le_of_ble_eq_true rfl) d_L_law_437 ⟨by show _ ≤ 601024; omega, by show _ ≤ 7293034; omega⟩) (fun r1 hp => ?_)
      subst hp
      refine lv_iload hx hb d_L_law_440 (lv_at hl 1 rfl) ?_
      refine lv_icmp_eq (tgt := 447) hx hb d_L_law_442 (by decide) (fun hc => ?_) (fun hc => ?_)
      · skip
        refine lv_iload hx hb d_L_law_447 (lv_at hl 1 rfl) ?_
        refine lv_if_ne (tgt := 464) hx hb d_L_law_449 (by decide) (fun hc2 => ?_) (fun hc2 => ?_)
        · skip
          refine lv_goto (tgt := 654) hx hb d_L_law_464 (by decide) ?_
          exact next E S _ _ _ _ _ _ _ ls ⟨hG, ⟨_, hR⟩, ⟨_, ho⟩, hto, hI1, by omega, by omega, h⟩ (lv_sub hl [2, 3, 4, 5, 6] rfl)
        · skip
          exact absurd hc2 (by decide)
      · skip
        exact absurd rfl hc
    · skip
      obtain ⟨w9, hw9, hpm⟩ := nI_of2 (x := (xs (4 * k + 2))) (M := 9) (n := 9) rfl (fun z => hb2 (Or.inl z)) (Int32.not_lt.mp (fun z => hb2 (Or.inr z)))
      refine lv_aload_n hx hb d_L_law_399 rfl (lv_at hl 1 rfl) ?_
      refine lv_aload_n hx hb d_L_law_400 rfl (lv_at hl 0 rfl) ?_
      refine lv_iload hx hb d_L_law_401 (lv_at hl 4 rfl) ?_
      refine lv_iconst (v := 1) hx hb d_L_law_403 (by decide) ?_
      refine lv_iadd hx hb d_L_law_404 ?_
      rw [show nI (4 * k) + 1 = nI (4 * k + 1) from nI_add (4 * k) 1]
      refine va_sld hx hb hbx hbl hbA h.2.2.1 (hp_ix (j := (4 * k + 1)) (n := N) rfl (by omega) (by omega)).1 d_L_law_405 ?_
      rw [(hp_ix (i := nI (4 * k + 1)) (j := (4 * k + 1)) (n := N) rfl (by omega) (by omega)).2]
      rw [hpv]
      refine lv_aload_n hx hb d_L_law_406 rfl (lv_at hl 0 rfl) ?_
      refine lv_iload hx hb d_L_law_407 (lv_at hl 4 rfl) ?_
      refine lv_iconst (v := 2) hx hb d_L_law_409 (by decide) ?_
      refine lv_iadd hx hb d_L_law_410 ?_
      rw [show nI (4 * k) + 2 = nI (4 * k + 2) from nI_add (4 * k) 2]
      refine va_sld hx hb hbx hbl hbA h.2.2.1 (hp_ix (j := (4 * k + 2)) (n := N) rfl (by omega) (by omega)).1 d_L_law_411 ?_
      rw [(hp_ix (i := nI (4 * k + 2)) (j := (4 * k + 2)) (n := N) rfl (by omega) (by omega)).2]
      rw [hpm]
      refine lv_aload_n hx hb d_L_law_412 rfl (lv_at hl 3 rfl) ?_
      refine hp_calli (hp_runSW (n := 4) (As := [.ref (ad 0), .int (nI v), .int (nI w9), .ref (ad 200)]) (rest := []) ⟨hx, hb, hml, hown, hg⟩ (w_about0 l hoff D tys de sa ht ht1 ht2 ht4 hG ho hto hv hw9) w507 w505 w506 w0 rfl rfl (by decide +kernel) ⟨Nat.le_of_ble_eq_true rfl, Nat.le_of_ble_eq_true rfl⟩ hg (s_ok de sa) hK hX h rfl hl.1 rfl (Nat.le_of_ble_eq_true rfl) d_L_law_413 ⟨by show _ ≤ 601024; omega, by show _ ≤ 7293034; omega⟩) h (fun r1 Ln fn H locs hp h => ?_)
      obtain ⟨hr1, τn, hG, hmv, g9, ho9, hg9⟩ := hp
      dsimp only at hG
      subst hr1
      have hto9 : τn (ad 200) = 200 := ((hmv _ hoL).2 (by omega)).1.trans hto
      have hR := hR.move (o9 := ad 200) hmv hto
      have ho := ho9
      have hto := hto9
      refine lv_istore (lv' := [(5, .int 0), (0, .ref b), (1, .ref (ad 0)), (2, .ref (ad 100)), (3, .ref (ad 200)), (4, .int (nI (4 * k)))]) hx hb d_L_law_416 hl (by decide) rfl (fun ls hl => ?_)
      refine lv_aload_n hx hb d_L_law_418 rfl (lv_at hl 3 rfl) ?_
      refine lv_aload_n hx hb d_L_law_419 rfl (lv_at hl 1 rfl) ?_
      refine lv_iload hx hb d_L_law_420 (lv_at hl 5 rfl) ?_
      refine lv_iconst (v := 1) hx hb d_L_law_422 (by decide) ?_
      refine lv_iadd hx hb d_L_law_423 ?_
      rw [show nI (4 * k) + 1 = nI (4 * k + 1) from nI_add (4 * k) 1]
      refine va_sld hx hb hbx hbl hbA h.2.2.1 (hp_ix (j := (4 * k + 1)) (n := N) rfl (by omega) (by omega)).1 d_L_law_424 ?_
      rw [(hp_ix (i := nI (4 * k + 1)) (j := (4 * k + 1)) (n := N) rfl (by omega) (by omega)).2]
      rw [hpv]
      refine lv_aload_n hx hb d_L_law_425 rfl (lv_at hl 1 rfl) ?_
      refine lv_iload hx hb d_L_law_426 (lv_at hl 5 rfl) ?_
      refine lv_iconst (v := 2) hx hb d_L_law_428 (by decide) ?_
      refine lv_iadd hx hb d_L_law_429 ?_
      rw [show nI (4 * k) + 2 = nI (4 * k + 2) from nI_add (4 * k) 2]
      refine va_sld hx hb hbx hbl hbA h.2.2.1 (hp_ix (j := (4 * k + 2)) (n := N) rfl (by omega) (by omega)).1 d_L_law_430 ?_
      rw [(hp_ix (i := nI (4 * k + 2)) (j := (4 * k + 2)) (n := N) rfl (by omega) (by omega)).2]
      rw [hpm]
      refine hp_calli (hp_runV (As := [.int (nI v), .int (nI w9)]) (rest := []) ⟨hx, hb, hml, hown, hg⟩ (c_R_about l D tys de sa (w := nI v) (u9 := nI w9) ht ht3 hR hn7 hm12) (cwV 2 hg (gw_V w711 w712 w713 w7 w714) rfl rfl rfl (by decide +kernel) ⟨Nat.le_of_ble_eq_true rfl, Nat.le_of_ble_eq_true rfl⟩) (s_ok de sa) hK hX h hR.1 rfl rfl rfl hl.1 rfl (Nat.le_of_ble_eq_true rfl) d_L_law_431 ⟨by show _ ≤ 601024; omega, by show _ ≤ 7293034; omega⟩) h (fun r3 L3 f3 H locs hp3 h => ?_)
      have hq9 : r3 = k_abt S v w9 ∧ kRP cI cZ ad τn Ln fn 0 E S (L3, f3) := by
        rcases hp3 with ⟨v9, m9, z1, z2, z3, z4, z5, hq⟩ | ⟨z, -⟩ | ⟨-, z, -⟩
        · have e1 := (nI_eq (by omega) (by omega)).mp z3
          have e2 := (nI_eq (by omega) (by omega)).mp z4
          subst e1
          subst e2
          exact ⟨z5, hq⟩
        · exact absurd z (kBad_nI hn7 hv)
        · rcases z with z | z
          · exact absurd z (nI_pos (by omega))
          · exact absurd ((nI_ltI (a := 9) (by omega) (by omega)).mp z) (by omega)
      obtain ⟨hr3, hq⟩ := hq9
      obtain ⟨hR, hF3⟩ := hq
      dsimp only at hR
      have hG := hG.moveR hF3
      have hL3 := hF3.1
      dsimp only at hL3
      have ho : hp_at L3 f3 (ad 200) _ := ⟨by rw [hL3]; exact ho.1, (hF3.2 _ ho.1 (Or.inr (by omega))).trans ho.2⟩
      subst hr3
      refine lv_istore (lv' := [(6, .int (k_abt S v w9)), (5, .int 0), (0, .ref b), (1, .ref (ad 0)), (2, .ref (ad 100)), (3, .ref (ad 200)), (4, .int (nI (4 * k)))]) hx hb d_L_law_434 hl (by decide) rfl (fun ls hl => ?_)
      refine lv_aload_n hx hb d_L_law_436 rfl (lv_at hl 4 rfl) ?_
      refine hp_callR (hp_runV (As := []) (rest := []) ⟨hx, hb, hml, hown, hg⟩ (c_R_thrown l D tys de sa ht ht3 hR hn7 hm12) (cwV 0 hg (gw_V w615 w616 w617 w7 w618) rfl rfl rfl (by decide +kernel) ⟨Nat.le_of_ble_eq_true rfl, Nat.le_of_ble_eq_true rfl⟩) (s_ok de sa) hK hX h hR.1 rfl rfl rfl hl.1 rfl (Nat.le_of_ble_eq_true rfl) d_L_law_437 ⟨by show _ ≤ 601024; omega, by show _ ≤ 7293034; omega⟩) (fun r1 hp => ?_)
      subst hp
      refine lv_iload hx hb d_L_law_440 (lv_at hl 1 rfl) ?_
      refine lv_icmp_eq (tgt := 447) hx hb d_L_law_442 (by decide) (fun hc => ?_) (fun hc => ?_)
      · skip
        refine lv_iload hx hb d_L_law_447 (lv_at hl 1 rfl) ?_
        refine lv_if_ne (tgt := 464) hx hb d_L_law_449 (by decide) (fun hc2 => ?_) (fun hc2 => ?_)
        · skip
          exact absurd rfl hc2
        · skip
          refine lv_aload_n hx hb d_L_law_452 rfl (lv_at hl 5 rfl) ?_
          refine lv_iconst (v := 0) hx hb d_L_law_453 (by decide) ?_
          refine hp_lald hx hb hK h 4 ho ht4 (show (0 : Int32) = nI 0 from rfl) (by decide) (by decide) d_L_law_454 ?_
          refine lv_iload hx hb d_L_law_455 (lv_at hl 0 rfl) ?_
          refine lv_i2l hx hb d_L_law_457 rfl ?_
          refine W.lcmp hx hb d_L_law_458 ?_
          rw [hg9, show lg_cmp ((k_abt S v w9).toInt64) ((k_abt S v w9).toInt64) = 0 from lg_refl _]
          refine lv_if_eq (tgt := 464) hx hb d_L_law_459 (by decide) (fun hc3 => ?_) (fun hc3 => ?_)
          · skip
            refine lv_goto (tgt := 654) hx hb d_L_law_464 (by decide) ?_
            exact next E S _ _ _ _ _ _ _ ls ⟨hG, ⟨_, hR⟩, ⟨_, ho⟩, hto, hI1, by omega, by omega, h⟩ (lv_sub hl [2, 3, 4, 5, 6] rfl)
          · skip
            exact absurd rfl hc3
      · skip
        exact absurd rfl hc

set_option maxHeartbeats 4000000 in
set_option maxRecDepth 100000 in
theorem lw_c6 {p : Program} {l : Launch} {e : Env} {s : State} {m : MethodId} {below : List Frame} {meth : Method} {c : Code} {Q : State → Prop} {b N k : Nat} {xs : Nat → Int32} {D : va_G} {tys : List (ClassId × FieldType)} {de : Nat} {sa : Nat → Nat} {A : Nat → Prop} {cI cO cN cZ cJ : ClassId} {Iv : Nat → kE → kS → Prop} {ad : Nat → Nat} (hx : p.tables.exec = Jvm.exec) (hb : c.code = code) (hml : c.maxLocals = 7) (hoff : th_Off l) (hg : ∀ w ∈ gw, w.before #[Value.ref b] s = true) (hown : s.vm.findClass "MergingFragmentsLaw" = some m.cls) (hK : va_K D kc tys s) (hX : s_X de sa A s s.heap) (hbx : va_X b N xs s s.heap) (hbl : b < s.heap.size) (hbA : ¬ A b) (ht : tys[0]? = some (cI, .int)) (ht1 : tys[1]? = some (cO, .object "java/lang/Object")) (ht2 : tys[2]? = some (cN, .object "MergingFragments$Node")) (ht3 : tys[3]? = some (cZ, .boolean)) (ht4 : tys[4]? = some (cJ, .long)) (hIv : kIf Iv) (hN : N ≤ 2048) (hk : 4 * k + 4 ≤ N) (next : ∀ (E : kE) (S : kS) (τ : Nat → Nat) (L : List Nat) (f : Nat → va_E) (cx sx : Nat) (H : Heap) (locs : List Loc) (ls : Array Slot), lwS cI cO cN cZ cJ de D A s.heap Iv ad (k + 1) E S τ L f cx sx H locs → lv_has ls 7 [(0, .ref b), (1, .ref (ad 0)), (2, .ref (ad 100)), (3, .ref (ad 200)), (4, .int (nI (4 * k)))] → W p l e room_1 s m #[Value.ref b] below meth c H locs cx sx Q (F0 m 654 ls [])) {E : kE} {S : kS} {τ : Nat → Nat} {L : List Nat} {f : Nat → va_E} {cx sx : Nat} {H : Heap} {locs : List Loc} {ls : Array Slot} (hS : lwS cI cO cN cZ cJ de D A s.heap Iv ad k E S τ L f cx sx H locs) (hl : lv_has ls 7 [(0, .ref b), (1, .ref (ad 0)), (2, .ref (ad 100)), (3, .ref (ad 200)), (4, .int (nI (4 * k)))]) : W p l e room_1 s m #[Value.ref b] below meth c H locs cx sx Q (F0 m 467 ls []) := by
  obtain ⟨hG, ⟨cz, hR⟩, ⟨g0, ho⟩, hto, hI, hcx, hsx, h⟩ := hS
  obtain ⟨hn7, hm12, hP, h41, hno, hI1⟩ := hIv.2.1 k E S hI
  have hroom := hIv.2.2.2.2.2.2 k E S (by omega) hI
  have hW := hP.1.1
  have hoL := ho.1
  by_cases hb1 : kBad E (xs (4 * k + 1))
  · skip
    refine lv_aload_n hx hb d_L_law_467 rfl (lv_at hl 1 rfl) ?_
    refine lv_aload_n hx hb d_L_law_468 rfl (lv_at hl 0 rfl) ?_
    refine lv_iload hx hb d_L_law_469 (lv_at hl 4 rfl) ?_
    refine lv_iconst (v := 1) hx hb d_L_law_471 (by decide) ?_
    refine lv_iadd hx hb d_L_law_472 ?_
    rw [show nI (4 * k) + 1 = nI (4 * k + 1) from nI_add (4 * k) 1]
    refine va_sld hx hb hbx hbl hbA h.2.2.1 (hp_ix (j := (4 * k + 1)) (n := N) rfl (by omega) (by omega)).1 d_L_law_473 ?_
    rw [(hp_ix (i := nI (4 * k + 1)) (j := (4 * k + 1)) (n := N) rfl (by omega) (by omega)).2]
    refine lv_aload_n hx hb d_L_law_474 rfl (lv_at hl 0 rfl) ?_
    refine lv_iload hx hb d_L_law_475 (lv_at hl 4 rfl) ?_
    refine lv_iconst (v := 2) hx hb d_L_law_477 (by decide) ?_
    refine lv_iadd hx hb d_L_law_478 ?_
    rw [show nI (4 * k) + 2 = nI (4 * k + 2) from nI_add (4 * k) 2]
    refine va_sld hx hb hbx hbl hbA h.2.2.1 (hp_ix (j := (4 * k + 2)) (n := N) rfl (by omega) (by omega)).1 d_L_law_479 ?_
    rw [(hp_ix (i := nI (4 * k + 2)) (j := (4 * k + 2)) (n := N) rfl (by omega) (by omega)).2]
    refine lv_aload_n hx hb d_L_law_480 rfl (lv_at hl 3 rfl) ?_
    refine hp_calli (hp_runSW (n := 4) (As := [.ref (ad 0), .int (xs (4 * k + 1)), .int (xs (4 * k + 2)), .ref (ad 200)]) (rest := []) ⟨hx, hb, hml, hown, hg⟩ (w_mark1 l hoff D tys de sa ht ht1 ht2 hG hb1) w515 w513 w514 w0 rfl rfl (by decide +kernel) ⟨Nat.le_of_ble_eq_true rfl, Nat.le_of_ble_eq_true rfl⟩ hg (s_ok de sa) hK hX h rfl hl.1 rfl (Nat.le_of_ble_eq_true rfl) d_L_law_481 ⟨by show _ ≤ 601024; omega, by show _ ≤ 7293034; omega⟩) h (fun r1 Ln fn H locs hp h => ?_)
    obtain ⟨hr1, hu⟩ := hp
    obtain ⟨hL1, hf1⟩ := Prod.mk.inj hu
    subst hr1
    have hL1 := hL1.symm
    subst hL1
    have hf1 := hf1.symm
    subst hf1
    refine lv_istore (lv' := [(5, .int 1), (0, .ref b), (1, .ref (ad 0)), (2, .ref (ad 100)), (3, .ref (ad 200)), (4, .int (nI (4 * k)))]) hx hb d_L_law_484 hl (by decide) rfl (fun ls hl => ?_)
    refine lv_aload_n hx hb d_L_law_486 rfl (lv_at hl 3 rfl) ?_
    refine lv_aload_n hx hb d_L_law_487 rfl (lv_at hl 1 rfl) ?_
    refine lv_iload hx hb d_L_law_488 (lv_at hl 5 rfl) ?_
    refine lv_iconst (v := 1) hx hb d_L_law_490 (by decide) ?_
    refine lv_iadd hx hb d_L_law_491 ?_
    rw [show nI (4 * k) + 1 = nI (4 * k + 1) from nI_add (4 * k) 1]
    refine va_sld hx hb hbx hbl hbA h.2.2.1 (hp_ix (j := (4 * k + 1)) (n := N) rfl (by omega) (by omega)).1 d_L_law_492 ?_
    rw [(hp_ix (i := nI (4 * k + 1)) (j := (4 * k + 1)) (n := N) rfl (by omega) (by omega)).2]
    refine lv_aload_n hx hb d_L_law_493 rfl (lv_at hl 1 rfl) ?_
    refine lv_iload hx hb d_L_law_494 (lv_at hl 5 rfl) ?_
    refine lv_iconst (v := 2) hx hb d_L_law_496 (by decide) ?_
    refine lv_iadd hx hb d_L_law_497 ?_
    rw [show nI (4 * k) + 2 = nI (4 * k + 2) from nI_add (4 * k) 2]
    refine va_sld hx hb hbx hbl hbA h.2.2.1 (hp_ix (j := (4 * k + 2)) (n := N) rfl (by omega) (by omega)).1 d_L_law_498 ?_
    rw [(hp_ix (i := nI (4 * k + 2)) (j := (4 * k + 2)) (n := N) rfl (by omega) (by omega)).2]
    refine hp_calli (hp_runV (As := [.int (xs (4 * k + 1)), .int (xs (4 * k + 2))]) (rest := []) ⟨hx, hb, hml, hown, hg⟩ (c_R_mark l D tys de sa (w := (xs (4 * k + 1))) (u9 := (xs (4 * k + 2))) ht ht3 hR hn7 hm12 hW hP.1.2.2 hno) (cwV 2 hg (gw_V w715 w716 w717 w7 w718) rfl rfl rfl (by decide +kernel) ⟨Nat.le_of_ble_eq_true rfl, Nat.le_of_ble_eq_true rfl⟩) (s_ok de sa) hK hX h hR.1 rfl rfl rfl hl.1 rfl (Nat.le_of_ble_eq_true rfl) d_L_law_499 ⟨by show _ ≤ 601024; omega, by show _ ≤ 7293034; omega⟩) h (fun r3 L3 f3 H locs hp3 h => ?_)
    have hq : kRP cI cZ ad τ L f 1 E S (L3, f3) := by
      rcases hp3 with ⟨v9, m9, z1, -, z2, -⟩ | ⟨-, hq⟩
      · rw [z2] at hb1; exact absurd hb1 (kBad_nI hn7 z1)
      · exact hq
    obtain ⟨hR, hF3⟩ := hq
    dsimp only at hR
    have hG := hG.moveR hF3
    have hL3 := hF3.1
    dsimp only at hL3
    have ho : hp_at L3 f3 (ad 200) _ := ⟨by rw [hL3]; exact ho.1, (hF3.2 _ ho.1 (Or.inr (by omega))).trans ho.2⟩
    refine lv_istore (lv' := [(6, .int r3), (5, .int 1), (0, .ref b), (1, .ref (ad 0)), (2, .ref (ad 100)), (3, .ref (ad 200)), (4, .int (nI (4 * k)))]) hx hb d_L_law_502 hl (by decide) rfl (fun ls hl => ?_)
    refine lv_aload_n hx hb d_L_law_504 rfl (lv_at hl 4 rfl) ?_
    refine hp_callR (hp_runV (As := []) (rest := []) ⟨hx, hb, hml, hown, hg⟩ (c_R_thrown l D tys de sa ht ht3 hR hn7 hm12) (cwV 0 hg (gw_V w615 w616 w617 w7 w618) rfl rfl rfl (by decide +kernel) ⟨Nat.le_of_ble_eq_true rfl, Nat.le_of_ble_eq_true rfl⟩) (s_ok de sa) hK hX h hR.1 rfl rfl rfl hl.1 rfl (Nat.le_of_ble_eq_true rfl) d_L_law_505 ⟨by show _ ≤ 601024; omega, by show _ ≤ 7293034; omega⟩) (fun r1 hp => ?_)
    subst hp
    refine lv_iload hx hb d_L_law_508 (lv_at hl 1 rfl) ?_
    refine lv_icmp_eq (tgt := 515) hx hb d_L_law_510 (by decide) (fun hc => ?_) (fun hc => ?_)
    · skip
      refine lv_iload hx hb d_L_law_515 (lv_at hl 1 rfl) ?_
      refine lv_if_ne (tgt := 532) hx hb d_L_law_517 (by decide) (fun hc2 => ?_) (fun hc2 => ?_)
      · skip
        refine lv_goto (tgt := 654) hx hb d_L_law_532 (by decide) ?_
        exact next E S _ _ _ _ _ _ _ ls ⟨hG, ⟨_, hR⟩, ⟨_, ho⟩, hto, hI1, by omega, by omega, h⟩ (lv_sub hl [2, 3, 4, 5, 6] rfl)
      · skip
        exact absurd hc2 (by decide)
    · skip
      exact absurd rfl hc
  · skip
    obtain ⟨v, hv, hpv⟩ := kBad_not hn7 hb1
    by_cases hb2 : (xs (4 * k + 2)) < 0 ∨ nI E.2.1 ≤ (xs (4 * k + 2))
    · skip
      refine lv_aload_n hx hb d_L_law_467 rfl (lv_at hl 1 rfl) ?_
      refine lv_aload_n hx hb d_L_law_468 rfl (lv_at hl 0 rfl) ?_
      refine lv_iload hx hb d_L_law_469 (lv_at hl 4 rfl) ?_
      refine lv_iconst (v := 1) hx hb d_L_law_471 (by decide) ?_
      refine lv_iadd hx hb d_L_law_472 ?_
      rw [show nI (4 * k) + 1 = nI (4 * k + 1) from nI_add (4 * k) 1]
      refine va_sld hx hb hbx hbl hbA h.2.2.1 (hp_ix (j := (4 * k + 1)) (n := N) rfl (by omega) (by omega)).1 d_L_law_473 ?_
      rw [(hp_ix (i := nI (4 * k + 1)) (j := (4 * k + 1)) (n := N) rfl (by omega) (by omega)).2]
      rw [hpv]
      refine lv_aload_n hx hb d_L_law_474 rfl (lv_at hl 0 rfl) ?_
      refine lv_iload hx hb d_L_law_475 (lv_at hl 4 rfl) ?_
      refine lv_iconst (v := 2) hx hb d_L_law_477 (by decide) ?_
      refine lv_iadd hx hb d_L_law_478 ?_
      rw [show nI (4 * k) + 2 = nI (4 * k + 2) from nI_add (4 * k) 2]
      refine va_sld hx hb hbx hbl hbA h.2.2.1 (hp_ix (j := (4 * k + 2)) (n := N) rfl (by omega) (by omega)).1 d_L_law_479 ?_
      rw [(hp_ix (i := nI (4 * k + 2)) (j := (4 * k + 2)) (n := N) rfl (by omega) (by omega)).2]
      refine lv_aload_n hx hb d_L_law_480 rfl (lv_at hl 3 rfl) ?_
      refine hp_calli (hp_runSW (n := 4) (As := [.ref (ad 0), .int (nI v), .int (xs (4 * k + 2)), .ref (ad 200)]) (rest := []) ⟨hx, hb, hml, hown, hg⟩ (w_mark2 l hoff D tys de sa ht ht1 ht2 hG hv hb2) w515 w513 w514 w0 rfl rfl (by decide +kernel) ⟨Nat.le_of_ble_eq_true rfl, Nat.le_of_ble_eq_true rfl⟩ hg (s_ok de sa) hK hX h rfl hl.1 rfl (Nat.le_of_ble_eq_true rfl) d_L_law_481 ⟨by show _ ≤ 601024; omega, by show _ ≤ 7293034; omega⟩) h (fun r1 Ln fn H locs hp h => ?_)
      obtain ⟨hr1, hu⟩ := hp
      obtain ⟨hL1, hf1⟩ := Prod.mk.inj hu
      subst hr1
      have hL1 := hL1.symm
      subst hL1
      have hf1 := hf1.symm
      subst hf1
      refine lv_istore (lv' := [(5, .int 1), (0, .ref b), (1, .ref (ad 0)), (2, .ref (ad 100)), (3, .ref (ad 200)), (4, .int (nI (4 * k)))]) hx hb d_L_law_484 hl (by decide) rfl (fun ls hl => ?_)
      refine lv_aload_n hx hb d_L_law_486 rfl (lv_at hl 3 rfl) ?_
      refine lv_aload_n hx hb d_L_law_487 rfl (lv_at hl 1 rfl) ?_
      refine lv_iload hx hb d_L_law_488 (lv_at hl 5 rfl) ?_
      refine lv_iconst (v := 1) hx hb d_L_law_490 (by decide) ?_
      refine lv_iadd hx hb d_L_law_491 ?_
      rw [show nI (4 * k) + 1 = nI (4 * k + 1) from nI_add (4 * k) 1]
      refine va_sld hx hb hbx hbl hbA h.2.2.1 (hp_ix (j := (4 * k + 1)) (n := N) rfl (by omega) (by omega)).1 d_L_law_492 ?_
      rw [(hp_ix (i := nI (4 * k + 1)) (j := (4 * k + 1)) (n := N) rfl (by omega) (by omega)).2]
      rw [hpv]
      refine lv_aload_n hx hb d_L_law_493 rfl (lv_at hl 1 rfl) ?_
      refine lv_iload hx hb d_L_law_494 (lv_at hl 5 rfl) ?_
      refine lv_iconst (v := 2) hx hb d_L_law_496 (by decide) ?_
      refine lv_iadd hx hb d_L_law_497 ?_
      rw [show nI (4 * k) + 2 = nI (4 * k + 2) from nI_add (4 * k) 2]
      refine va_sld hx hb hbx hbl hbA h.2.2.1 (hp_ix (j := (4 * k + 2)) (n := N) rfl (by omega) (by omega)).1 d_L_law_498 ?_
      rw [(hp_ix (i := nI (4 * k + 2)) (j := (4 * k + 2)) (n := N) rfl (by omega) (by omega)).2]
      refine hp_calli (hp_runV (As := [.int (nI v), .int (xs (4 * k + 2))]) (rest := []) ⟨hx, hb, hml, hown, hg⟩ (c_R_mark l D tys de sa (w := nI v) (u9 := (xs (4 * k + 2))) ht ht3 hR hn7 hm12 hW hP.1.2.2 hno) (cwV 2 hg (gw_V w715 w716 w717 w7 w718) rfl rfl rfl (by decide +kernel) ⟨Nat.le_of_ble_eq_true rfl, Nat.le_of_ble_eq_true rfl⟩) (s_ok de sa) hK hX h hR.1 rfl rfl rfl hl.1 rfl (Nat.le_of_ble_eq_true rfl) d_L_law_499 ⟨by show _ ≤ 601024; omega, by show _ ≤ 7293034; omega⟩) h (fun r3 L3 f3 H locs hp3 h => ?_)
      have hq : kRP cI cZ ad τ L f 1 E S (L3, f3) := by
        rcases hp3 with ⟨v9, m9, -, z1, -, z2, -⟩ | ⟨-, hq⟩
        · rw [z2] at hb2; rcases hb2 with z | z
          · exact absurd z (nI_pos (by omega))
          · exact absurd ((nI_leI (by omega) (by omega)).mp z) (by omega)
        · exact hq
      obtain ⟨hR, hF3⟩ := hq
      dsimp only at hR
      have hG := hG.moveR hF3
      have hL3 := hF3.1
      dsimp only at hL3
      have ho : hp_at L3 f3 (ad 200) _ := ⟨by rw [hL3]; exact ho.1, (hF3.2 _ ho.1 (Or.inr (by omega))).trans ho.2⟩
      refine lv_istore (lv' := [(6, .int r3), (5, .int 1), (0, .ref b), (1, .ref (ad 0)), (2, .ref (ad 100)), (3, .ref (ad 200)), (4, .int (nI (4 * k)))]) hx hb d_L_law_502 hl (by decide) rfl (fun ls hl => ?_)
      refine lv_aload_n hx hb d_L_law_504 rfl (lv_at hl 4 rfl) ?_
      refine hp_callR (hp_runV (As := []) (rest := []) ⟨hx, hb, hml, hown, hg⟩ (c_R_thrown l D tys de sa ht ht3 hR hn7 hm12) (cwV 0 hg (gw_V w615 w616 w617 w7 w618) rfl rfl rfl (by decide +kernel) ⟨Nat.le_of_ble_eq_true rfl, Nat.le_of_ble_eq_true rfl⟩) (s_ok de sa) hK hX h hR.1 rfl rfl rfl hl.1 rfl (Nat.le_of_ble_eq_true rfl) d_L_law_505 ⟨by show _ ≤ 601024; omega, by show _ ≤ 7293034; omega⟩) (fun r1 hp => ?_)
      subst hp
      refine lv_iload hx hb d_L_law_508 (lv_at hl 1 rfl) ?_
      refine lv_icmp_eq (tgt := 515) hx hb d_L_law_510 (by decide) (fun hc => ?_) (fun hc => ?_)
      · skip
        refine lv_iload hx hb d_L_law_515 (lv_at hl 1 rfl) ?_
        refine lv_if_ne (tgt := 532) hx hb d_L_law_517 (by decide) (fun hc2 => ?_) (fun hc2 => ?_)
        · skip
          refine lv_goto (tgt := 654) hx hb d_L_law_532 (by decide) ?_
          exact next E S _ _ _ _ _ _ _ ls ⟨hG, ⟨_, hR⟩, ⟨_, ho⟩, hto, hI1, by omega, by omega, h⟩ (lv_sub hl [2, 3, 4, 5, 6] rfl)
        · skip
          exact absurd hc2 (by decide)
      · skip
        exact absurd rfl hc
    · skip
      obtain ⟨j9, hj31, hpm⟩ := nI_of (x := (xs (4 * k + 2))) (fun z => hb2 (Or.inl z))
      have hj9 : j9 < E.2.1 := Nat.not_le.mp (fun z => hb2 (Or.inr (by rw [hpm]; exact nI_le z hj31)))
      refine lv_aload_n hx hb d_L_law_467 rfl (lv_at hl 1 rfl) ?_
      refine lv_aload_n hx hb d_L_law_468 rfl (lv_at hl 0 rfl) ?_
      refine lv_iload hx hb d_L_law_469 (lv_at hl 4 rfl) ?_
      refine lv_iconst (v := 1) hx hb d_L_law_471 (by decide) ?_
      refine lv_iadd hx hb d_L_law_472 ?_
      rw [show nI (4 * k) + 1 = nI (4 * k + 1) from nI_add (4 * k) 1]
      refine va_sld hx hb hbx hbl hbA h.2.2.1 (hp_ix (j := (4 * k + 1)) (n := N) rfl (by omega) (by omega)).1 d_L_law_473 ?_
      rw [(hp_ix (i := nI (4 * k + 1)) (j := (4 * k + 1)) (n := N) rfl (by omega) (by omega)).2]
      rw [hpv]
      refine lv_aload_n hx hb d_L_law_474 rfl (lv_at hl 0 rfl) ?_
      refine lv_iload hx hb d_L_law_475 (lv_at hl 4 rfl) ?_
      refine lv_iconst (v := 2) hx hb d_L_law_477 (by decide) ?_
      refine lv_iadd hx hb d_L_law_478 ?_
      rw [show nI (4 * k) + 2 = nI (4 * k + 2) from nI_add (4 * k) 2]
      refine va_sld hx hb hbx hbl hbA h.2.2.1 (hp_ix (j := (4 * k + 2)) (n := N) rfl (by omega) (by omega)).1 d_L_law_479 ?_
      rw [(hp_ix (i := nI (4 * k + 2)) (j := (4 * k + 2)) (n := N) rfl (by omega) (by omega)).2]
      rw [hpm]
      refine lv_aload_n hx hb d_L_law_480 rfl (lv_at hl 3 rfl) ?_
      refine hp_calli (hp_runSW (n := 4) (As := [.ref (ad 0), .int (nI v), .int (nI j9), .ref (ad 200)]) (rest := []) ⟨hx, hb, hml, hown, hg⟩ (w_mark0 l hoff D tys de sa ht ht1 ht2 ht4 hG ho hto hv hj9) w515 w513 w514 w0 rfl rfl (by decide +kernel) ⟨Nat.le_of_ble_eq_true rfl, Nat.le_of_ble_eq_true rfl⟩ hg (s_ok de sa) hK hX h rfl hl.1 rfl (Nat.le_of_ble_eq_true rfl) d_L_law_481 ⟨by show _ ≤ 601024; omega, by show _ ≤ 7293034; omega⟩) h (fun r1 Ln fn H locs hp h => ?_)
      obtain ⟨hr1, τn, hG, hmv, g9, ho9, hg9⟩ := hp
      dsimp only at hG
      subst hr1
      have hto9 : τn (ad 200) = 200 := ((hmv _ hoL).2 (by omega)).1.trans hto
      have hR := hR.move (o9 := ad 200) hmv hto
      have ho := ho9
      have hto := hto9
      refine lv_istore (lv' := [(5, .int 0), (0, .ref b), (1, .ref (ad 0)), (2, .ref (ad 100)), (3, .ref (ad 200)), (4, .int (nI (4 * k)))]) hx hb d_L_law_484 hl (by decide) rfl (fun ls hl => ?_)
      refine lv_aload_n hx hb d_L_law_486 rfl (lv_at hl 3 rfl) ?_
      refine lv_aload_n hx hb d_L_law_487 rfl (lv_at hl 1 rfl) ?_
      refine lv_iload hx hb d_L_law_488 (lv_at hl 5 rfl) ?_
      refine lv_iconst (v := 1) hx hb d_L_law_490 (by decide) ?_
      refine lv_iadd hx hb d_L_law_491 ?_
      rw [show nI (4 * k) + 1 = nI (4 * k + 1) from nI_add (4 * k) 1]
      refine va_sld hx hb hbx hbl hbA h.2.2.1 (hp_ix (j := (4 * k + 1)) (n := N) rfl (by omega) (by omega)).1 d_L_law_492 ?_
      rw [(hp_ix (i := nI (4 * k + 1)) (j := (4 * k + 1)) (n := N) rfl (by omega) (by omega)).2]
      rw [hpv]
      refine lv_aload_n hx hb d_L_law_493 rfl (lv_at hl 1 rfl) ?_
      refine lv_iload hx hb d_L_law_494 (lv_at hl 5 rfl) ?_
      refine lv_iconst (v := 2) hx hb d_L_law_496 (by decide) ?_
      refine lv_iadd hx hb d_L_law_497 ?_
      rw [show nI (4 * k) + 2 = nI (4 * k + 2) from nI_add (4 * k) 2]
      refine va_sld hx hb hbx hbl hbA h.2.2.1 (hp_ix (j := (4 * k + 2)) (n := N) rfl (by omega) (by omega)).1 d_L_law_498 ?_
      rw [(hp_ix (i := nI (4 * k + 2)) (j := (4 * k + 2)) (n := N) rfl (by omega) (by omega)).2]
      rw [hpm]
      refine hp_calli (hp_runV (As := [.int (nI v), .int (nI j9)]) (rest := []) ⟨hx, hb, hml, hown, hg⟩ (c_R_mark l D tys de sa (w := nI v) (u9 := nI j9) ht ht3 hR hn7 hm12 hW hP.1.2.2 hno) (cwV 2 hg (gw_V w715 w716 w717 w7 w718) rfl rfl rfl (by decide +kernel) ⟨Nat.le_of_ble_eq_true rfl, Nat.le_of_ble_eq_true rfl⟩) (s_ok de sa) hK hX h hR.1 rfl rfl rfl hl.1 rfl (Nat.le_of_ble_eq_true rfl) d_L_law_499 ⟨by show _ ≤ 601024; omega, by show _ ≤ 7293034; omega⟩) h (fun r3 L3 f3 H locs hp3 h => ?_)
      have hq9 : r3 = S.2.1 v j9 ∧ kRP cI cZ ad τn Ln fn 0 E S (L3, f3) := by
        rcases hp3 with ⟨v9, m9, z1, z2, z3, z4, z5, hq⟩ | ⟨z, -⟩
        · have e1 := (nI_eq (by omega) (by omega)).mp z3
          have e2 := (nI_eq (by omega) (by omega)).mp z4
          subst e1
          subst e2
          exact ⟨z5, hq⟩
        · rcases z with z | z | z
          · exact absurd z (kBad_nI hn7 hv)
          · exact absurd z (nI_pos (by omega))
          · exact absurd ((nI_leI (by omega) (by omega)).mp z) (by omega)
      obtain ⟨hr3, hq⟩ := hq9
      obtain ⟨hR, hF3⟩ := hq
      dsimp only at hR
      have hG := hG.moveR hF3
      have hL3 := hF3.1
      dsimp only at hL3
      have ho : hp_at L3 f3 (ad 200) _ := ⟨by rw [hL3]; exact ho.1, (hF3.2 _ ho.1 (Or.inr (by omega))).trans ho.2⟩
      subst hr3
      refine lv_istore (lv' := [(6, .int (S.2.1 v j9)), (5, .int 0), (0, .ref b), (1, .ref (ad 0)), (2, .ref (ad 100)), (3, .ref (ad 200)), (4, .int (nI (4 * k)))]) hx hb d_L_law_502 hl (by decide) rfl (fun ls hl => ?_)
      refine lv_aload_n hx hb d_L_law_504 rfl (lv_at hl 4 rfl) ?_
      refine hp_callR (hp_runV (As := []) (rest := []) ⟨hx, hb, hml, hown, hg⟩ (c_R_thrown l D tys de sa ht ht3 hR hn7 hm12) (cwV 0 hg (gw_V w615 w616 w617 w7 w618) rfl rfl rfl (by decide +kernel) ⟨Nat.le_of_ble_eq_true rfl, Nat.le_of_ble_eq_true rfl⟩) (s_ok de sa) hK hX h hR.1 rfl rfl rfl hl.1 rfl (Nat.le_of_ble_eq_true rfl) d_L_law_505 ⟨by show _ ≤ 601024; omega, by show _ ≤ 7293034; omega⟩) (fun r1 hp => ?_)
      subst hp
      refine lv_iload hx hb d_L_law_508 (lv_at hl 1 rfl) ?_
      refine lv_icmp_eq (tgt := 515) hx hb d_L_law_510 (by decide) (fun hc => ?_) (fun hc => ?_)
      · skip
        refine lv_iload hx hb d_L_law_515 (lv_at hl 1 rfl) ?_
        refine lv_if_ne (tgt := 532) hx hb d_L_law_517 (by decide) (fun hc2 => ?_) (fun hc2 => ?_)
        · skip
          exact absurd rfl hc2
        · skip
          refine lv_aload_n hx hb d_L_law_520 rfl (lv_at hl 5 rfl) ?_
          refine lv_iconst (v := 0) hx hb d_L_law_521 (by decide) ?_
          refine hp_lald hx hb hK h 4 ho ht4 (show (0 : Int32) = nI 0 from rfl) (by decide) (by decide) d_L_law_522 ?_
          refine lv_iload hx hb d_L_law_523 (lv_at hl 0 rfl) ?_
          refine lv_i2l hx hb d_L_law_525 rfl ?_
          refine W.lcmp hx hb d_L_law_526 ?_
          rw [hg9, show lg_cmp ((S.2.1 v j9).toInt64) ((S.2.1 v j9).toInt64) = 0 from lg_refl _]
          refine lv_if_eq (tgt := 532) hx hb d_L_law_527 (by decide) (fun hc3 => ?_) (fun hc3 => ?_)
          · skip
            refine lv_goto (tgt := 654) hx hb d_L_law_532 (by decide) ?_
            exact next E S _ _ _ _ _ _ _ ls ⟨hG, ⟨_, hR⟩, ⟨_, ho⟩, hto, hI1, by omega, by omega, h⟩ (lv_sub hl [2, 3, 4, 5, 6] rfl)
          · skip
            exact absurd rfl hc3
      · skip
        exact absurd rfl hc

set_option maxHeartbeats 4000000 in
set_option maxRecDepth 100000 in
theorem lw_c7 {p : Program} {l : Launch} {e : Env} {s : State} {m : MethodId} {below : List Frame} {meth : Method} {c : Code} {Q : State → Prop} {b N k : Nat} {xs : Nat → Int32} {D : va_G} {tys : List (ClassId × FieldType)} {de : Nat} {sa : Nat → Nat} {A : Nat → Prop} {cI cO cN cZ cJ : ClassId} {Iv : Nat → kE → kS → Prop} {ad : Nat → Nat} (hx : p.tables.exec = Jvm.exec) (hb : c.code = code) (hml : c.maxLocals = 7) (hoff : th_Off l) (hg : ∀ w ∈ gw, w.before #[Value.ref b] s = true) (hown : s.vm.findClass "MergingFragmentsLaw" = some m.cls) (hK : va_K D kc tys s) (hX : s_X de sa A s s.heap) (hbx : va_X b N xs s s.heap) (hbl : b < s.heap.size) (hbA : ¬ A b) (ht : tys[0]? = some (cI, .int)) (ht1 : tys[1]? = some (cO, .object "java/lang/Object")) (ht2 : tys[2]? = some (cN, .object "MergingFragments$Node")) (ht3 : tys[3]? = some (cZ, .boolean)) (ht4 : tys[4]? = some (cJ, .long)) (hIv : kIf Iv) (hN : N ≤ 2048) (hk : 4 * k + 4 ≤ N) (next : ∀ (E : kE) (S : kS) (τ : Nat → Nat) (L : List Nat) (f : Nat → va_E) (cx sx : Nat) (H : Heap) (locs : List Loc) (ls : Array Slot), lwS cI cO cN cZ cJ de D A s.heap Iv ad (k + 1) E S τ L f cx sx H locs → lv_has ls 7 [(0, .ref b), (1, .ref (ad 0)), (2, .ref (ad 100)), (3, .ref (ad 200)), (4, .int (nI (4 * k)))] → W p l e room_1 s m #[Value.ref b] below meth c H locs cx sx Q (F0 m 654 ls [])) {E : kE} {S : kS} {τ : Nat → Nat} {L : List Nat} {f : Nat → va_E} {cx sx : Nat} {H : Heap} {locs : List Loc} {ls : Array Slot} (hS : lwS cI cO cN cZ cJ de D A s.heap Iv ad k E S τ L f cx sx H locs) (hl : lv_has ls 7 [(0, .ref b), (1, .ref (ad 0)), (2, .ref (ad 100)), (3, .ref (ad 200)), (4, .int (nI (4 * k)))]) : W p l e room_1 s m #[Value.ref b] below meth c H locs cx sx Q (F0 m 535 ls []) := by
  obtain ⟨hG, ⟨cz, hR⟩, ⟨g0, ho⟩, hto, hI, hcx, hsx, h⟩ := hS
  obtain ⟨hn7, hm12, hP, h41, hno, hI1⟩ := hIv.2.1 k E S hI
  have hroom := hIv.2.2.2.2.2.2 k E S (by omega) hI
  have hW := hP.1.1
  have hoL := ho.1
  by_cases hb1 : kBad E (xs (4 * k + 1))
  · skip
    refine lv_aload_n hx hb d_L_law_535 rfl (lv_at hl 1 rfl) ?_
    refine lv_aload_n hx hb d_L_law_536 rfl (lv_at hl 0 rfl) ?_
    refine lv_iload hx hb d_L_law_537 (lv_at hl 4 rfl) ?_
    refine lv_iconst (v := 1) hx hb d_L_law_539 (by decide) ?_
    refine lv_iadd hx hb d_L_law_540 ?_
    rw [show nI (4 * k) + 1 = nI (4 * k + 1) from nI_add (4 * k) 1]
    refine va_sld hx hb hbx hbl hbA h.2.2.1 (hp_ix (j := (4 * k + 1)) (n := N) rfl (by omega) (by omega)).1 d_L_law_541 ?_
    rw [(hp_ix (i := nI (4 * k + 1)) (j := (4 * k + 1)) (n := N) rfl (by omega) (by omega)).2]
    refine lv_aload_n hx hb d_L_law_542 rfl (lv_at hl 0 rfl) ?_
    refine lv_iload hx hb d_L_law_543 (lv_at hl 4 rfl) ?_
    refine lv_iconst (v := 2) hx hb d_L_law_545 (by decide) ?_
    refine lv_iadd hx hb d_L_law_546 ?_
    rw [show nI (4 * k) + 2 = nI (4 * k + 2) from nI_add (4 * k) 2]
    refine va_sld hx hb hbx hbl hbA h.2.2.1 (hp_ix (j := (4 * k + 2)) (n := N) rfl (by omega) (by omega)).1 d_L_law_547 ?_
    rw [(hp_ix (i := nI (4 * k + 2)) (j := (4 * k + 2)) (n := N) rfl (by omega) (by omega)).2]
    refine lv_aload_n hx hb d_L_law_548 rfl (lv_at hl 0 rfl) ?_
    refine lv_iload hx hb d_L_law_549 (lv_at hl 4 rfl) ?_
    refine lv_iconst (v := 3) hx hb d_L_law_551 (by decide) ?_
    refine lv_iadd hx hb d_L_law_552 ?_
    rw [show nI (4 * k) + 3 = nI (4 * k + 3) from nI_add (4 * k) 3]
    refine va_sld hx hb hbx hbl hbA h.2.2.1 (hp_ix (j := (4 * k + 3)) (n := N) rfl (by omega) (by omega)).1 d_L_law_553 ?_
    rw [(hp_ix (i := nI (4 * k + 3)) (j := (4 * k + 3)) (n := N) rfl (by omega) (by omega)).2]
    refine lv_aload_n hx hb d_L_law_554 rfl (lv_at hl 3 rfl) ?_
    refine hp_calli (hp_runSW (n := 5) (As := [.ref (ad 0), .int (xs (4 * k + 1)), .int (xs (4 * k + 2)), .int (xs (4 * k + 3)), .ref (ad 200)]) (rest := []) ⟨hx, hb, hml, hown, hg⟩ (w_message1 l hoff D tys de sa ht ht1 ht2 hG hb1) w523 w521 w522 w0 rfl rfl (by decide +kernel) ⟨Nat.le_of_ble_eq_true rfl, Nat.le_of_ble_eq_true rfl⟩ hg (s_ok de sa) hK hX h rfl hl.1 rfl (Nat.le_of_ble_eq_true rfl) d_L_law_555 ⟨by show _ ≤ 601024; omega, by show _ ≤ 7293034; omega⟩) h (fun r1 Ln fn H locs hp h => ?_)
    obtain ⟨hr1, hu⟩ := hp
    obtain ⟨hL1, hf1⟩ := Prod.mk.inj hu
    subst hr1
    have hL1 := hL1.symm
    subst hL1
    have hf1 := hf1.symm
    subst hf1
    refine lv_istore (lv' := [(5, .int 1), (0, .ref b), (1, .ref (ad 0)), (2, .ref (ad 100)), (3, .ref (ad 200)), (4, .int (nI (4 * k)))]) hx hb d_L_law_558 hl (by decide) rfl (fun ls hl => ?_)
    refine lv_aload_n hx hb d_L_law_560 rfl (lv_at hl 3 rfl) ?_
    refine lv_aload_n hx hb d_L_law_561 rfl (lv_at hl 1 rfl) ?_
    refine lv_iload hx hb d_L_law_562 (lv_at hl 5 rfl) ?_
    refine lv_iconst (v := 1) hx hb d_L_law_564 (by decide) ?_
    refine lv_iadd hx hb d_L_law_565 ?_
    rw [show nI (4 * k) + 1 = nI (4 * k + 1) from nI_add (4 * k) 1]
    refine va_sld hx hb hbx hbl hbA h.2.2.1 (hp_ix (j := (4 * k + 1)) (n := N) rfl (by omega) (by omega)).1 d_L_law_566 ?_
    rw [(hp_ix (i := nI (4 * k + 1)) (j := (4 * k + 1)) (n := N) rfl (by omega) (by omega)).2]
    refine lv_aload_n hx hb d_L_law_567 rfl (lv_at hl 1 rfl) ?_
    refine lv_iload hx hb d_L_law_568 (lv_at hl 5 rfl) ?_
    refine lv_iconst (v := 2) hx hb d_L_law_570 (by decide) ?_
    refine lv_iadd hx hb d_L_law_571 ?_
    rw [show nI (4 * k) + 2 = nI (4 * k + 2) from nI_add (4 * k) 2]
    refine va_sld hx hb hbx hbl hbA h.2.2.1 (hp_ix (j := (4 * k + 2)) (n := N) rfl (by omega) (by omega)).1 d_L_law_572 ?_
    rw [(hp_ix (i := nI (4 * k + 2)) (j := (4 * k + 2)) (n := N) rfl (by omega) (by omega)).2]
    refine lv_aload_n hx hb d_L_law_573 rfl (lv_at hl 1 rfl) ?_
    refine lv_iload hx hb d_L_law_574 (lv_at hl 5 rfl) ?_
    refine lv_iconst (v := 3) hx hb d_L_law_576 (by decide) ?_
    refine lv_iadd hx hb d_L_law_577 ?_
    rw [show nI (4 * k) + 3 = nI (4 * k + 3) from nI_add (4 * k) 3]
    refine va_sld hx hb hbx hbl hbA h.2.2.1 (hp_ix (j := (4 * k + 3)) (n := N) rfl (by omega) (by omega)).1 d_L_law_578 ?_
    rw [(hp_ix (i := nI (4 * k + 3)) (j := (4 * k + 3)) (n := N) rfl (by omega) (by omega)).2]
    refine hp_calli (hp_runV (As := [.int (xs (4 * k + 1)), .int (xs (4 * k + 2)), .int (xs (4 * k + 3))]) (rest := []) ⟨hx, hb, hml, hown, hg⟩ (c_R_message l D tys de sa (w := (xs (4 * k + 1))) (u9 := (xs (4 * k + 2))) (x9 := (xs (4 * k + 3))) ht ht3 hR hn7 hm12 (fun i hi => by have := hP.2.1 i hi; omega)) (cwV 3 hg (gw_V w719 w720 w721 w7 w722) rfl rfl rfl (by decide +kernel) ⟨Nat.le_of_ble_eq_true rfl, Nat.le_of_ble_eq_true rfl⟩) (s_ok de sa) hK hX h hR.1 rfl rfl rfl hl.1 rfl (Nat.le_of_ble_eq_true rfl) d_L_law_579 ⟨by show _ ≤ 601024; omega, by show _ ≤ 7293034; omega⟩) h (fun r3 L3 f3 H locs hp3 h => ?_)
    have hq : kRP cI cZ ad τ L f 1 E S (L3, f3) := by
      rcases hp3 with ⟨v9, i8, m9, q9, z1, -, -, z2, -⟩ | ⟨-, hq⟩ | ⟨z, -⟩
      · rw [z2] at hb1; exact absurd hb1 (kBad_nI hn7 z1)
      · exact hq
      · exact absurd (Or.inl hb1) z
    obtain ⟨hR, hF3⟩ := hq
    dsimp only at hR
    have hG := hG.moveR hF3
    have hL3 := hF3.1
    dsimp only at hL3
    have ho : hp_at L3 f3 (ad 200) _ := ⟨by rw [hL3]; exact ho.1, (hF3.2 _ ho.1 (Or.inr (by omega))).trans ho.2⟩
    refine lv_istore (lv' := [(6, .int r3), (5, .int 1), (0, .ref b), (1, .ref (ad 0)), (2, .ref (ad 100)), (3, .ref (ad 200)), (4, .int (nI (4 * k)))]) hx hb d_L_law_582 hl (by decide) rfl (fun ls hl => ?_)
    refine lv_aload_n hx hb d_L_law_584 rfl (lv_at hl 4 rfl) ?_
    refine hp_callR (hp_runV (As := []) (rest := []) ⟨hx, hb, hml, hown, hg⟩ (c_R_thrown l D tys de sa ht ht3 hR hn7 hm12) (cwV 0 hg (gw_V w615 w616 w617 w7 w618) rfl rfl rfl (by decide +kernel) ⟨Nat.le_of_ble_eq_true rfl, Nat.le_of_ble_eq_true rfl⟩) (s_ok de sa) hK hX h hR.1 rfl rfl rfl hl.1 rfl (Nat.le_of_ble_eq_true rfl) d_L_law_585 ⟨by show _ ≤ 601024; omega, by show _ ≤ 7293034; omega⟩) (fun r1 hp => ?_)
    subst hp
    refine lv_iload hx hb d_L_law_588 (lv_at hl 1 rfl) ?_
    refine lv_icmp_eq (tgt := 595) hx hb d_L_law_590 (by decide) (fun hc => ?_) (fun hc => ?_)
    · skip
      refine lv_iload hx hb d_L_law_595 (lv_at hl 1 rfl) ?_
      refine lv_if_ne (tgt := 612) hx hb d_L_law_597 (by decide) (fun hc2 => ?_) (fun hc2 => ?_)
      · skip
        refine lv_goto (tgt := 654) hx hb d_L_law_612 (by decide) ?_
        exact next E S _ _ _ _ _ _ _ ls ⟨hG, ⟨_, hR⟩, ⟨_, ho⟩, hto, hI1, by omega, by omega, h⟩ (lv_sub hl [2, 3, 4, 5, 6] rfl)
      · skip
        exact absurd hc2 (by decide)
    · skip
      exact absurd rfl hc
  · skip
    obtain ⟨v, hv, hpv⟩ := kBad_not hn7 hb1
    have hlv := hP.2.1 v hv
    by_cases hb2 : (xs (4 * k + 2)) < 0 ∨ nI (S.2.2.1 v).length ≤ (xs (4 * k + 2))
    · skip
      refine lv_aload_n hx hb d_L_law_535 rfl (lv_at hl 1 rfl) ?_
      refine lv_aload_n hx hb d_L_law_536 rfl (lv_at hl 0 rfl) ?_
      refine lv_iload hx hb d_L_law_537 (lv_at hl 4 rfl) ?_
      refine lv_iconst (v := 1) hx hb d_L_law_539 (by decide) ?_
      refine lv_iadd hx hb d_L_law_540 ?_
      rw [show nI (4 * k) + 1 = nI (4 * k + 1) from nI_add (4 * k) 1]
      refine va_sld hx hb hbx hbl hbA h.2.2.1 (hp_ix (j := (4 * k + 1)) (n := N) rfl (by omega) (by omega)).1 d_L_law_541 ?_
      rw [(hp_ix (i := nI (4 * k + 1)) (j := (4 * k + 1)) (n := N) rfl (by omega) (by omega)).2]
      rw [hpv]
      refine lv_aload_n hx hb d_L_law_542 rfl (lv_at hl 0 rfl) ?_
      refine lv_iload hx hb d_L_law_543 (lv_at hl 4 rfl) ?_
      refine lv_iconst (v := 2) hx hb d_L_law_545 (by decide) ?_
      refine lv_iadd hx hb d_L_law_546 ?_
      rw [show nI (4 * k) + 2 = nI (4 * k + 2) from nI_add (4 * k) 2]
      refine va_sld hx hb hbx hbl hbA h.2.2.1 (hp_ix (j := (4 * k + 2)) (n := N) rfl (by omega) (by omega)).1 d_L_law_547 ?_
      rw [(hp_ix (i := nI (4 * k + 2)) (j := (4 * k + 2)) (n := N) rfl (by omega) (by omega)).2]
      refine lv_aload_n hx hb d_L_law_548 rfl (lv_at hl 0 rfl) ?_
      refine lv_iload hx hb d_L_law_549 (lv_at hl 4 rfl) ?_
      refine lv_iconst (v := 3) hx hb d_L_law_551 (by decide) ?_
      refine lv_iadd hx hb d_L_law_552 ?_
      rw [show nI (4 * k) + 3 = nI (4 * k + 3) from nI_add (4 * k) 3]
      refine va_sld hx hb hbx hbl hbA h.2.2.1 (hp_ix (j := (4 * k + 3)) (n := N) rfl (by omega) (by omega)).1 d_L_law_553 ?_
      rw [(hp_ix (i := nI (4 * k + 3)) (j := (4 * k + 3)) (n := N) rfl (by omega) (by omega)).2]
      refine lv_aload_n hx hb d_L_law_554 rfl (lv_at hl 3 rfl) ?_
      refine hp_calli (hp_runSW (n := 5) (As := [.ref (ad 0), .int (nI v), .int (xs (4 * k + 2)), .int (xs (4 * k + 3)), .ref (ad 200)]) (rest := []) ⟨hx, hb, hml, hown, hg⟩ (w_message2 l hoff D tys de sa ht ht1 ht2 hG hv (by omega) hb2) w523 w521 w522 w0 rfl rfl (by decide +kernel) ⟨Nat.le_of_ble_eq_true rfl, Nat.le_of_ble_eq_true rfl⟩ hg (s_ok de sa) hK hX h rfl hl.1 rfl (Nat.le_of_ble_eq_true rfl) d_L_law_555 ⟨by show _ ≤ 601024; omega, by show _ ≤ 7293034; omega⟩) h (fun r1 Ln fn H locs hp h => ?_)
      obtain ⟨hr1, hu⟩ := hp
      obtain ⟨hL1, hf1⟩ := Prod.mk.inj hu
      subst hr1
      have hL1 := hL1.symm
      subst hL1
      have hf1 := hf1.symm
      subst hf1
      refine lv_istore (lv' := [(5, .int 1), (0, .ref b), (1, .ref (ad 0)), (2, .ref (ad 100)), (3, .ref (ad 200)), (4, .int (nI (4 * k)))]) hx hb d_L_law_558 hl (by decide) rfl (fun ls hl => ?_)
      refine lv_aload_n hx hb d_L_law_560 rfl (lv_at hl 3 rfl) ?_
      refine lv_aload_n hx hb d_L_law_561 rfl (lv_at hl 1 rfl) ?_
      refine lv_iload hx hb d_L_law_562 (lv_at hl 5 rfl) ?_
      refine lv_iconst (v := 1) hx hb d_L_law_564 (by decide) ?_
      refine lv_iadd hx hb d_L_law_565 ?_
      rw [show nI (4 * k) + 1 = nI (4 * k + 1) from nI_add (4 * k) 1]
      refine va_sld hx hb hbx hbl hbA h.2.2.1 (hp_ix (j := (4 * k + 1)) (n := N) rfl (by omega) (by omega)).1 d_L_law_566 ?_
      rw [(hp_ix (i := nI (4 * k + 1)) (j := (4 * k + 1)) (n := N) rfl (by omega) (by omega)).2]
      rw [hpv]
      refine lv_aload_n hx hb d_L_law_567 rfl (lv_at hl 1 rfl) ?_
      refine lv_iload hx hb d_L_law_568 (lv_at hl 5 rfl) ?_
      refine lv_iconst (v := 2) hx hb d_L_law_570 (by decide) ?_
      refine lv_iadd hx hb d_L_law_571 ?_
      rw [show nI (4 * k) + 2 = nI (4 * k + 2) from nI_add (4 * k) 2]
      refine va_sld hx hb hbx hbl hbA h.2.2.1 (hp_ix (j := (4 * k + 2)) (n := N) rfl (by omega) (by omega)).1 d_L_law_572 ?_
      rw [(hp_ix (i := nI (4 * k + 2)) (j := (4 * k + 2)) (n := N) rfl (by omega) (by omega)).2]
      refine lv_aload_n hx hb d_L_law_573 rfl (lv_at hl 1 rfl) ?_
      refine lv_iload hx hb d_L_law_574 (lv_at hl 5 rfl) ?_
      refine lv_iconst (v := 3) hx hb d_L_law_576 (by decide) ?_
      refine lv_iadd hx hb d_L_law_577 ?_
      rw [show nI (4 * k) + 3 = nI (4 * k + 3) from nI_add (4 * k) 3]
      refine va_sld hx hb hbx hbl hbA h.2.2.1 (hp_ix (j := (4 * k + 3)) (n := N) rfl (by omega) (by omega)).1 d_L_law_578 ?_
      rw [(hp_ix (i := nI (4 * k + 3)) (j := (4 * k + 3)) (n := N) rfl (by omega) (by omega)).2]
      refine hp_calli (hp_runV (As := [.int (nI v), .int (xs (4 * k + 2)), .int (xs (4 * k + 3))]) (rest := []) ⟨hx, hb, hml, hown, hg⟩ (c_R_message l D tys de sa (w := nI v) (u9 := (xs (4 * k + 2))) (x9 := (xs (4 * k + 3))) ht ht3 hR hn7 hm12 (fun i hi => by have := hP.2.1 i hi; omega)) (cwV 3 hg (gw_V w719 w720 w721 w7 w722) rfl rfl rfl (by decide +kernel) ⟨Nat.le_of_ble_eq_true rfl, Nat.le_of_ble_eq_true rfl⟩) (s_ok de sa) hK hX h hR.1 rfl rfl rfl hl.1 rfl (Nat.le_of_ble_eq_true rfl) d_L_law_579 ⟨by show _ ≤ 601024; omega, by show _ ≤ 7293034; omega⟩) h (fun r3 L3 f3 H locs hp3 h => ?_)
      have hq : kRP cI cZ ad τ L f 1 E S (L3, f3) := by
        rcases hp3 with ⟨v9, i8, m9, q9, z1, -, z3, z2, z4, -⟩ | ⟨-, hq⟩ | ⟨z, -⟩
        · have e1 := (nI_eq (by omega) (by omega)).mp z2
          subst e1
          have hi8 := (List.getElem?_eq_some_iff.mp z3).1
          rw [z4] at hb2; rcases hb2 with z | z
          · exact absurd z (nI_pos (by omega))
          · exact absurd ((nI_leI (by omega) (by omega)).mp z) (by omega)
        · exact hq
        · exact absurd (Or.inr ⟨v, hv, rfl, hb2⟩) z
      obtain ⟨hR, hF3⟩ := hq
      dsimp only at hR
      have hG := hG.moveR hF3
      have hL3 := hF3.1
      dsimp only at hL3
      have ho : hp_at L3 f3 (ad 200) _ := ⟨by rw [hL3]; exact ho.1, (hF3.2 _ ho.1 (Or.inr (by omega))).trans ho.2⟩
      refine lv_istore (lv' := [(6, .int r3), (5, .int 1), (0, .ref b), (1, .ref (ad 0)), (2, .ref (ad 100)), (3, .ref (ad 200)), (4, .int (nI (4 * k)))]) hx hb d_L_law_582 hl (by decide) rfl (fun ls hl => ?_)
      refine lv_aload_n hx hb d_L_law_584 rfl (lv_at hl 4 rfl) ?_
      refine hp_callR (hp_runV (As := []) (rest := []) ⟨hx, hb, hml, hown, hg⟩ (c_R_thrown l D tys de sa ht ht3 hR hn7 hm12) (cwV 0 hg (gw_V w615 w616 w617 w7 w618) rfl rfl rfl (by decide +kernel) ⟨Nat.le_of_ble_eq_true rfl, Nat.le_of_ble_eq_true rfl⟩) (s_ok de sa) hK hX h hR.1 rfl rfl rfl hl.1 rfl (Nat.le_of_ble_eq_true rfl) d_L_law_585 ⟨by show _ ≤ 601024; omega, by show _ ≤ 7293034; omega⟩) (fun r1 hp => ?_)
      subst hp
      refine lv_iload hx hb d_L_law_588 (lv_at hl 1 rfl) ?_
      refine lv_icmp_eq (tgt := 595) hx hb d_L_law_590 (by decide) (fun hc => ?_) (fun hc => ?_)
      · skip
        refine lv_iload hx hb d_L_law_595 (lv_at hl 1 rfl) ?_
        refine lv_if_ne (tgt := 612) hx hb d_L_law_597 (by decide) (fun hc2 => ?_) (fun hc2 => ?_)
        · skip
          refine lv_goto (tgt := 654) hx hb d_L_law_612 (by decide) ?_
          exact next E S _ _ _ _ _ _ _ ls ⟨hG, ⟨_, hR⟩, ⟨_, ho⟩, hto, hI1, by omega, by omega, h⟩ (lv_sub hl [2, 3, 4, 5, 6] rfl)
        · skip
          exact absurd hc2 (by decide)
      · skip
        exact absurd rfl hc
    · skip
      obtain ⟨i9, hi31, hpi⟩ := nI_of (x := (xs (4 * k + 2))) (fun z => hb2 (Or.inl z))
      have hi9 : i9 < (S.2.2.1 v).length := Nat.not_le.mp (fun z => hb2 (Or.inr (by rw [hpi]; exact nI_le z hi31)))
      obtain ⟨q9, hq9⟩ : ∃ q9, (S.2.2.1 v)[i9]? = some q9 := ⟨_, List.getElem?_eq_getElem hi9⟩
      have hnbm : ¬ kBadM E S (nI v) (nI i9) := fun z => by
        rcases z with z | ⟨v8, hv8, hvv, z⟩
        · exact kBad_nI hn7 hv z
        · have e1 := (nI_eq (by omega) (by omega)).mp hvv
          subst e1
          rcases z with z | z
          · exact nI_pos hi31 z
          · exact absurd ((nI_leI (by omega) hi31).mp z) (by omega)
      by_cases hb3 : (xs (4 * k + 3)) < 0 ∨ 4 < (xs (4 * k + 3))
      · skip
        refine lv_aload_n hx hb d_L_law_535 rfl (lv_at hl 1 rfl) ?_
        refine lv_aload_n hx hb d_L_law_536 rfl (lv_at hl 0 rfl) ?_
        refine lv_iload hx hb d_L_law_537 (lv_at hl 4 rfl) ?_
        refine lv_iconst (v := 1) hx hb d_L_law_539 (by decide) ?_
        refine lv_iadd hx hb d_L_law_540 ?_
        rw [show nI (4 * k) + 1 = nI (4 * k + 1) from nI_add (4 * k) 1]
        refine va_sld hx hb hbx hbl hbA h.2.2.1 (hp_ix (j := (4 * k + 1)) (n := N) rfl (by omega) (by omega)).1 d_L_law_541 ?_
        rw [(hp_ix (i := nI (4 * k + 1)) (j := (4 * k + 1)) (n := N) rfl (by omega) (by omega)).2]
        rw [hpv]
        refine lv_aload_n hx hb d_L_law_542 rfl (lv_at hl 0 rfl) ?_
        refine lv_iload hx hb d_L_law_543 (lv_at hl 4 rfl) ?_
        refine lv_iconst (v := 2) hx hb d_L_law_545 (by decide) ?_
        refine lv_iadd hx hb d_L_law_546 ?_
        rw [show nI (4 * k) + 2 = nI (4 * k + 2) from nI_add (4 * k) 2]
        refine va_sld hx hb hbx hbl hbA h.2.2.1 (hp_ix (j := (4 * k + 2)) (n := N) rfl (by omega) (by omega)).1 d_L_law_547 ?_
        rw [(hp_ix (i := nI (4 * k + 2)) (j := (4 * k + 2)) (n := N) rfl (by omega) (by omega)).2]
        rw [hpi]
        refine lv_aload_n hx hb d_L_law_548 rfl (lv_at hl 0 rfl) ?_
        refine lv_iload hx hb d_L_law_549 (lv_at hl 4 rfl) ?_
        refine lv_iconst (v := 3) hx hb d_L_law_551 (by decide) ?_
        refine lv_iadd hx hb d_L_law_552 ?_
        rw [show nI (4 * k) + 3 = nI (4 * k + 3) from nI_add (4 * k) 3]
        refine va_sld hx hb hbx hbl hbA h.2.2.1 (hp_ix (j := (4 * k + 3)) (n := N) rfl (by omega) (by omega)).1 d_L_law_553 ?_
        rw [(hp_ix (i := nI (4 * k + 3)) (j := (4 * k + 3)) (n := N) rfl (by omega) (by omega)).2]
        refine lv_aload_n hx hb d_L_law_554 rfl (lv_at hl 3 rfl) ?_
        refine hp_calli (hp_runSW (n := 5) (As := [.ref (ad 0), .int (nI v), .int (nI i9), .int (xs (4 * k + 3)), .ref (ad 200)]) (rest := []) ⟨hx, hb, hml, hown, hg⟩ (w_message3 l hoff D tys de sa ht ht1 ht2 hG hv (by omega) rfl hq9 hb3) w523 w521 w522 w0 rfl rfl (by decide +kernel) ⟨Nat.le_of_ble_eq_true rfl, Nat.le_of_ble_eq_true rfl⟩ hg (s_ok de sa) hK hX h rfl hl.1 rfl (Nat.le_of_ble_eq_true rfl) d_L_law_555 ⟨by show _ ≤ 601024; omega, by show _ ≤ 7293034; omega⟩) h (fun r1 Ln fn H locs hp h => ?_)
        obtain ⟨hr1, hu⟩ := hp
        obtain ⟨hL1, hf1⟩ := Prod.mk.inj hu
        subst hr1
        have hL1 := hL1.symm
        subst hL1
        have hf1 := hf1.symm
        subst hf1
        refine lv_istore (lv' := [(5, .int 2), (0, .ref b), (1, .ref (ad 0)), (2, .ref (ad 100)), (3, .ref (ad 200)), (4, .int (nI (4 * k)))]) hx hb d_L_law_558 hl (by decide) rfl (fun ls hl => ?_)
        refine lv_aload_n hx hb d_L_law_560 rfl (lv_at hl 3 rfl) ?_
        refine lv_aload_n hx hb d_L_law_561 rfl (lv_at hl 1 rfl) ?_
        refine lv_iload hx hb d_L_law_562 (lv_at hl 5 rfl) ?_
        refine lv_iconst (v := 1) hx hb d_L_law_564 (by decide) ?_
        refine lv_iadd hx hb d_L_law_565 ?_
        rw [show nI (4 * k) + 1 = nI (4 * k + 1) from nI_add (4 * k) 1]
        refine va_sld hx hb hbx hbl hbA h.2.2.1 (hp_ix (j := (4 * k + 1)) (n := N) rfl (by omega) (by omega)).1 d_L_law_566 ?_
        rw [(hp_ix (i := nI (4 * k + 1)) (j := (4 * k + 1)) (n := N) rfl (by omega) (by omega)).2]
        rw [hpv]
        refine lv_aload_n hx hb d_L_law_567 rfl (lv_at hl 1 rfl) ?_
        refine lv_iload hx hb d_L_law_568 (lv_at hl 5 rfl) ?_
        refine lv_iconst (v := 2) hx hb d_L_law_570 (by decide) ?_
        refine lv_iadd hx hb d_L_law_571 ?_
        rw [show nI (4 * k) + 2 = nI (4 * k + 2) from nI_add (4 * k) 2]
        refine va_sld hx hb hbx hbl hbA h.2.2.1 (hp_ix (j := (4 * k + 2)) (n := N) rfl (by omega) (by omega)).1 d_L_law_572 ?_
        rw [(hp_ix (i := nI (4 * k + 2)) (j := (4 * k + 2)) (n := N) rfl (by omega) (by omega)).2]
        rw [hpi]
        refine lv_aload_n hx hb d_L_law_573 rfl (lv_at hl 1 rfl) ?_
        refine lv_iload hx hb d_L_law_574 (lv_at hl 5 rfl) ?_
        refine lv_iconst (v := 3) hx hb d_L_law_576 (by decide) ?_
        refine lv_iadd hx hb d_L_law_577 ?_
        rw [show nI (4 * k) + 3 = nI (4 * k + 3) from nI_add (4 * k) 3]
        refine va_sld hx hb hbx hbl hbA h.2.2.1 (hp_ix (j := (4 * k + 3)) (n := N) rfl (by omega) (by omega)).1 d_L_law_578 ?_
        rw [(hp_ix (i := nI (4 * k + 3)) (j := (4 * k + 3)) (n := N) rfl (by omega) (by omega)).2]
        refine hp_calli (hp_runV (As := [.int (nI v), .int (nI i9), .int (xs (4 * k + 3))]) (rest := []) ⟨hx, hb, hml, hown, hg⟩ (c_R_message l D tys de sa (w := nI v) (u9 := nI i9) (x9 := (xs (4 * k + 3))) ht ht3 hR hn7 hm12 (fun i hi => by have := hP.2.1 i hi; omega)) (cwV 3 hg (gw_V w719 w720 w721 w7 w722) rfl rfl rfl (by decide +kernel) ⟨Nat.le_of_ble_eq_true rfl, Nat.le_of_ble_eq_true rfl⟩) (s_ok de sa) hK hX h hR.1 rfl rfl rfl hl.1 rfl (Nat.le_of_ble_eq_true rfl) d_L_law_579 ⟨by show _ ≤ 601024; omega, by show _ ≤ 7293034; omega⟩) h (fun r3 L3 f3 H locs hp3 h => ?_)
        have hq : kRP cI cZ ad τ L f 2 E S (L3, f3) := by
          rcases hp3 with ⟨v9, i8, m9, q8, -, z1, -, -, -, z2, -⟩ | ⟨z, -⟩ | ⟨-, -, hq⟩
          · rw [z2] at hb3; rcases hb3 with z | z
            · exact absurd z (nI_pos (by omega))
            · exact absurd ((nI_ltI (a := 4) (by omega) (by omega)).mp z) (by omega)
          · exact absurd z hnbm
          · exact hq
        obtain ⟨hR, hF3⟩ := hq
        dsimp only at hR
        have hG := hG.moveR hF3
        have hL3 := hF3.1
        dsimp only at hL3
        have ho : hp_at L3 f3 (ad 200) _ := ⟨by rw [hL3]; exact ho.1, (hF3.2 _ ho.1 (Or.inr (by omega))).trans ho.2⟩
        refine lv_istore (lv' := [(6, .int r3), (5, .int 2), (0, .ref b), (1, .ref (ad 0)), (2, .ref (ad 100)), (3, .ref (ad 200)), (4, .int (nI (4 * k)))]) hx hb d_L_law_582 hl (by decide) rfl (fun ls hl => ?_)
        refine lv_aload_n hx hb d_L_law_584 rfl (lv_at hl 4 rfl) ?_
        refine hp_callR (hp_runV (As := []) (rest := []) ⟨hx, hb, hml, hown, hg⟩ (c_R_thrown l D tys de sa ht ht3 hR hn7 hm12) (cwV 0 hg (gw_V w615 w616 w617 w7 w618) rfl rfl rfl (by decide +kernel) ⟨Nat.le_of_ble_eq_true rfl, Nat.le_of_ble_eq_true rfl⟩) (s_ok de sa) hK hX h hR.1 rfl rfl rfl hl.1 rfl (Nat.le_of_ble_eq_true rfl) d_L_law_585 ⟨by show _ ≤ 601024; omega, by show _ ≤ 7293034; omega⟩) (fun r1 hp => ?_)
        subst hp
        refine lv_iload hx hb d_L_law_588 (lv_at hl 1 rfl) ?_
        refine lv_icmp_eq (tgt := 595) hx hb d_L_law_590 (by decide) (fun hc => ?_) (fun hc => ?_)
        · skip
          refine lv_iload hx hb d_L_law_595 (lv_at hl 1 rfl) ?_
          refine lv_if_ne (tgt := 612) hx hb d_L_law_597 (by decide) (fun hc2 => ?_) (fun hc2 => ?_)
          · skip
            refine lv_goto (tgt := 654) hx hb d_L_law_612 (by decide) ?_
            exact next E S _ _ _ _ _ _ _ ls ⟨hG, ⟨_, hR⟩, ⟨_, ho⟩, hto, hI1, by omega, by omega, h⟩ (lv_sub hl [2, 3, 4, 5, 6] rfl)
          · skip
            exact absurd hc2 (by decide)
        · skip
          exact absurd rfl hc
      · skip
        obtain ⟨w9, hw9, hpm⟩ := nI_of2 (x := (xs (4 * k + 3))) (M := 4) (n := 4) rfl (fun z => hb3 (Or.inl z)) (Int32.not_lt.mp (fun z => hb3 (Or.inr z)))
        refine lv_aload_n hx hb d_L_law_535 rfl (lv_at hl 1 rfl) ?_
        refine lv_aload_n hx hb d_L_law_536 rfl (lv_at hl 0 rfl) ?_
        refine lv_iload hx hb d_L_law_537 (lv_at hl 4 rfl) ?_
        refine lv_iconst (v := 1) hx hb d_L_law_539 (by decide) ?_
        refine lv_iadd hx hb d_L_law_540 ?_
        rw [show nI (4 * k) + 1 = nI (4 * k + 1) from nI_add (4 * k) 1]
        refine va_sld hx hb hbx hbl hbA h.2.2.1 (hp_ix (j := (4 * k + 1)) (n := N) rfl (by omega) (by omega)).1 d_L_law_541 ?_
        rw [(hp_ix (i := nI (4 * k + 1)) (j := (4 * k + 1)) (n := N) rfl (by omega) (by omega)).2]
        rw [hpv]
        refine lv_aload_n hx hb d_L_law_542 rfl (lv_at hl 0 rfl) ?_
        refine lv_iload hx hb d_L_law_543 (lv_at hl 4 rfl) ?_
        refine lv_iconst (v := 2) hx hb d_L_law_545 (by decide) ?_
        refine lv_iadd hx hb d_L_law_546 ?_
        rw [show nI (4 * k) + 2 = nI (4 * k + 2) from nI_add (4 * k) 2]
        refine va_sld hx hb hbx hbl hbA h.2.2.1 (hp_ix (j := (4 * k + 2)) (n := N) rfl (by omega) (by omega)).1 d_L_law_547 ?_
        rw [(hp_ix (i := nI (4 * k + 2)) (j := (4 * k + 2)) (n := N) rfl (by omega) (by omega)).2]
        rw [hpi]
        refine lv_aload_n hx hb d_L_law_548 rfl (lv_at hl 0 rfl) ?_
        refine lv_iload hx hb d_L_law_549 (lv_at hl 4 rfl) ?_
        refine lv_iconst (v := 3) hx hb d_L_law_551 (by decide) ?_
        refine lv_iadd hx hb d_L_law_552 ?_
        rw [show nI (4 * k) + 3 = nI (4 * k + 3) from nI_add (4 * k) 3]
        refine va_sld hx hb hbx hbl hbA h.2.2.1 (hp_ix (j := (4 * k + 3)) (n := N) rfl (by omega) (by omega)).1 d_L_law_553 ?_
        rw [(hp_ix (i := nI (4 * k + 3)) (j := (4 * k + 3)) (n := N) rfl (by omega) (by omega)).2]
        rw [hpm]
        refine lv_aload_n hx hb d_L_law_554 rfl (lv_at hl 3 rfl) ?_
        refine hp_calli (hp_runSW (n := 5) (As := [.ref (ad 0), .int (nI v), .int (nI i9), .int (nI w9), .ref (ad 200)]) (rest := []) ⟨hx, hb, hml, hown, hg⟩ (w_message0 l hoff D tys de sa ht ht1 ht2 ht4 hG ho hto hv (by omega) hq9 hw9) w523 w521 w522 w0 rfl rfl (by decide +kernel) ⟨Nat.le_of_ble_eq_true rfl, Nat.le_of_ble_eq_true rfl⟩ hg (s_ok de sa) hK hX h rfl hl.1 rfl (Nat.le_of_ble_eq_true rfl) d_L_law_555 ⟨by show _ ≤ 601024; omega, by show _ ≤ 7293034; omega⟩) h (fun r1 Ln fn H locs hp h => ?_)
        obtain ⟨hr1, τn, hG, hmv, g9, ho9, hg9⟩ := hp
        dsimp only at hG
        subst hr1
        have hto9 : τn (ad 200) = 200 := ((hmv _ hoL).2 (by omega)).1.trans hto
        have hR := hR.move (o9 := ad 200) hmv hto
        have ho := ho9
        have hto := hto9
        refine lv_istore (lv' := [(5, .int 0), (0, .ref b), (1, .ref (ad 0)), (2, .ref (ad 100)), (3, .ref (ad 200)), (4, .int (nI (4 * k)))]) hx hb d_L_law_558 hl (by decide) rfl (fun ls hl => ?_)
        refine lv_aload_n hx hb d_L_law_560 rfl (lv_at hl 3 rfl) ?_
        refine lv_aload_n hx hb d_L_law_561 rfl (lv_at hl 1 rfl) ?_
        refine lv_iload hx hb d_L_law_562 (lv_at hl 5 rfl) ?_
        refine lv_iconst (v := 1) hx hb d_L_law_564 (by decide) ?_
        refine lv_iadd hx hb d_L_law_565 ?_
        rw [show nI (4 * k) + 1 = nI (4 * k + 1) from nI_add (4 * k) 1]
        refine va_sld hx hb hbx hbl hbA h.2.2.1 (hp_ix (j := (4 * k + 1)) (n := N) rfl (by omega) (by omega)).1 d_L_law_566 ?_
        rw [(hp_ix (i := nI (4 * k + 1)) (j := (4 * k + 1)) (n := N) rfl (by omega) (by omega)).2]
        rw [hpv]
        refine lv_aload_n hx hb d_L_law_567 rfl (lv_at hl 1 rfl) ?_
        refine lv_iload hx hb d_L_law_568 (lv_at hl 5 rfl) ?_
        refine lv_iconst (v := 2) hx hb d_L_law_570 (by decide) ?_
        refine lv_iadd hx hb d_L_law_571 ?_
        rw [show nI (4 * k) + 2 = nI (4 * k + 2) from nI_add (4 * k) 2]
        refine va_sld hx hb hbx hbl hbA h.2.2.1 (hp_ix (j := (4 * k + 2)) (n := N) rfl (by omega) (by omega)).1 d_L_law_572 ?_
        rw [(hp_ix (i := nI (4 * k + 2)) (j := (4 * k + 2)) (n := N) rfl (by omega) (by omega)).2]
        rw [hpi]
        refine lv_aload_n hx hb d_L_law_573 rfl (lv_at hl 1 rfl) ?_
        refine lv_iload hx hb d_L_law_574 (lv_at hl 5 rfl) ?_
        refine lv_iconst (v := 3) hx hb d_L_law_576 (by decide) ?_
        refine lv_iadd hx hb d_L_law_577 ?_
        rw [show nI (4 * k) + 3 = nI (4 * k + 3) from nI_add (4 * k) 3]
        refine va_sld hx hb hbx hbl hbA h.2.2.1 (hp_ix (j := (4 * k + 3)) (n := N) rfl (by omega) (by omega)).1 d_L_law_578 ?_
        rw [(hp_ix (i := nI (4 * k + 3)) (j := (4 * k + 3)) (n := N) rfl (by omega) (by omega)).2]
        rw [hpm]
        refine hp_calli (hp_runV (As := [.int (nI v), .int (nI i9), .int (nI w9)]) (rest := []) ⟨hx, hb, hml, hown, hg⟩ (c_R_message l D tys de sa (w := nI v) (u9 := nI i9) (x9 := nI w9) ht ht3 hR hn7 hm12 (fun i hi => by have := hP.2.1 i hi; omega)) (cwV 3 hg (gw_V w719 w720 w721 w7 w722) rfl rfl rfl (by decide +kernel) ⟨Nat.le_of_ble_eq_true rfl, Nat.le_of_ble_eq_true rfl⟩) (s_ok de sa) hK hX h hR.1 rfl rfl rfl hl.1 rfl (Nat.le_of_ble_eq_true rfl) d_L_law_579 ⟨by show _ ≤ 601024; omega, by show _ ≤ 7293034; omega⟩) h (fun r3 L3 f3 H locs hp3 h => ?_)
        have hqq : r3 = kmf q9 w9 ∧ kRP cI cZ ad τn Ln fn 0 E S (L3, f3) := by
          rcases hp3 with ⟨v9, i8, m9, q8, z1, z2, z3, z4, z5, z6, z7, hq⟩ | ⟨z, -⟩ | ⟨-, z, -⟩
          · have e1 := (nI_eq (by omega) (by omega)).mp z4
            subst e1
            have hi8 := (List.getElem?_eq_some_iff.mp z3).1
            have e2 := (nI_eq (by omega) (by omega)).mp z5
            have e3 := (nI_eq (by omega) (by omega)).mp z6
            subst e2
            subst e3
            cases hq9.symm.trans z3
            exact ⟨z7, hq⟩
          · exact absurd z hnbm
          · rcases z with z | z
            · exact absurd z (nI_pos (by omega))
            · exact absurd ((nI_ltI (a := 4) (by omega) (by omega)).mp z) (by omega)
        obtain ⟨hr3, hq⟩ := hqq
        obtain ⟨hR, hF3⟩ := hq
        dsimp only at hR
        have hG := hG.moveR hF3
        have hL3 := hF3.1
        dsimp only at hL3
        have ho : hp_at L3 f3 (ad 200) _ := ⟨by rw [hL3]; exact ho.1, (hF3.2 _ ho.1 (Or.inr (by omega))).trans ho.2⟩
        subst hr3
        refine lv_istore (lv' := [(6, .int (kmf q9 w9)), (5, .int 0), (0, .ref b), (1, .ref (ad 0)), (2, .ref (ad 100)), (3, .ref (ad 200)), (4, .int (nI (4 * k)))]) hx hb d_L_law_582 hl (by decide) rfl (fun ls hl => ?_)
        refine lv_aload_n hx hb d_L_law_584 rfl (lv_at hl 4 rfl) ?_
        refine hp_callR (hp_runV (As := []) (rest := []) ⟨hx, hb, hml, hown, hg⟩ (c_R_thrown l D tys de sa ht ht3 hR hn7 hm12) (cwV 0 hg (gw_V w615 w616 w617 w7 w618) rfl rfl rfl (by decide +kernel) ⟨Nat.le_of_ble_eq_true rfl, Nat.le_of_ble_eq_true rfl⟩) (s_ok de sa) hK hX h hR.1 rfl rfl rfl hl.1 rfl (Nat.le_of_ble_eq_true rfl) d_L_law_585 ⟨by show _ ≤ 601024; omega, by show _ ≤ 7293034; omega⟩) (fun r1 hp => ?_)
        subst hp
        refine lv_iload hx hb d_L_law_588 (lv_at hl 1 rfl) ?_
        refine lv_icmp_eq (tgt := 595) hx hb d_L_law_590 (by decide) (fun hc => ?_) (fun hc => ?_)
        · skip
          refine lv_iload hx hb d_L_law_595 (lv_at hl 1 rfl) ?_
          refine lv_if_ne (tgt := 612) hx hb d_L_law_597 (by decide) (fun hc2 => ?_) (fun hc2 => ?_)
          · skip
            exact absurd rfl hc2
          · skip
            refine lv_aload_n hx hb d_L_law_600 rfl (lv_at hl 5 rfl) ?_
            refine lv_iconst (v := 0) hx hb d_L_law_601 (by decide) ?_
            refine hp_lald hx hb hK h 4 ho ht4 (show (0 : Int32) = nI 0 from rfl) (by decide) (by decide) d_L_law_602 ?_
            refine lv_iload hx hb d_L_law_603 (lv_at hl 0 rfl) ?_
            refine lv_i2l hx hb d_L_law_605 rfl ?_
            refine W.lcmp hx hb d_L_law_606 ?_
            rw [hg9, show lg_cmp ((kmf q9 w9).toInt64) ((kmf q9 w9).toInt64) = 0 from lg_refl _]
            refine lv_if_eq (tgt := 612) hx hb d_L_law_607 (by decide) (fun hc3 => ?_) (fun hc3 => ?_)
            · skip
              refine lv_goto (tgt := 654) hx hb d_L_law_612 (by decide) ?_
              exact next E S _ _ _ _ _ _ _ ls ⟨hG, ⟨_, hR⟩, ⟨_, ho⟩, hto, hI1, by omega, by omega, h⟩ (lv_sub hl [2, 3, 4, 5, 6] rfl)
            · skip
              exact absurd rfl hc3
        · skip
          exact absurd rfl hc

set_option maxHeartbeats 4000000 in
set_option maxRecDepth 100000 in
theorem lw_c8 {p : Program} {l : Launch} {e : Env} {s : State} {m : MethodId} {below : List Frame} {meth : Method} {c : Code} {Q : State → Prop} {b N k : Nat} {xs : Nat → Int32} {D : va_G} {tys : List (ClassId × FieldType)} {de : Nat} {sa : Nat → Nat} {A : Nat → Prop} {cI cO cN cZ cJ : ClassId} {Iv : Nat → kE → kS → Prop} {ad : Nat → Nat} (hx : p.tables.exec = Jvm.exec) (hb : c.code = code) (hml : c.maxLocals = 7) (hoff : th_Off l) (hg : ∀ w ∈ gw, w.before #[Value.ref b] s = true) (hown : s.vm.findClass "MergingFragmentsLaw" = some m.cls) (hK : va_K D kc tys s) (hX : s_X de sa A s s.heap) (hbx : va_X b N xs s s.heap) (hbl : b < s.heap.size) (hbA : ¬ A b) (ht : tys[0]? = some (cI, .int)) (ht1 : tys[1]? = some (cO, .object "java/lang/Object")) (ht2 : tys[2]? = some (cN, .object "MergingFragments$Node")) (ht3 : tys[3]? = some (cZ, .boolean)) (ht4 : tys[4]? = some (cJ, .long)) (hIv : kIf Iv) (hN : N ≤ 2048) (hk : 4 * k + 4 ≤ N) (next : ∀ (E : kE) (S : kS) (τ : Nat → Nat) (L : List Nat) (f : Nat → va_E) (cx sx : Nat) (H : Heap) (locs : List Loc) (ls : Array Slot), lwS cI cO cN cZ cJ de D A s.heap Iv ad (k + 1) E S τ L f cx sx H locs → lv_has ls 7 [(0, .ref b), (1, .ref (ad 0)), (2, .ref (ad 100)), (3, .ref (ad 200)), (4, .int (nI (4 * k)))] → W p l e room_1 s m #[Value.ref b] below meth c H locs cx sx Q (F0 m 654 ls [])) {E : kE} {S : kS} {τ : Nat → Nat} {L : List Nat} {f : Nat → va_E} {cx sx : Nat} {H : Heap} {locs : List Loc} {ls : Array Slot} (hS : lwS cI cO cN cZ cJ de D A s.heap Iv ad k E S τ L f cx sx H locs) (hl : lv_has ls 7 [(0, .ref b), (1, .ref (ad 0)), (2, .ref (ad 100)), (3, .ref (ad 200)), (4, .int (nI (4 * k)))]) : W p l e room_1 s m #[Value.ref b] below meth c H locs cx sx Q (F0 m 615 ls []) := by
  obtain ⟨hG, ⟨cz, hR⟩, ⟨g0, ho⟩, hto, hI, hcx, hsx, h⟩ := hS
  obtain ⟨hn7, hm12, hP, h41, hno, hI1⟩ := hIv.2.1 k E S hI
  have hroom := hIv.2.2.2.2.2.2 k E S (by omega) hI
  have hW := hP.1.1
  have hoL := ho.1
  refine lv_aload_n hx hb d_L_law_615 rfl (lv_at hl 1 rfl) ?_
  refine hp_callR (hp_runV (As := []) (rest := []) ⟨hx, hb, hml, hown, hg⟩ (c_G_sent l D tys de sa ht ht1 ht2 hG) (cwV 0 hg (gw_V w149 w150 w151 w1 w152) rfl rfl rfl (by decide +kernel) ⟨Nat.le_of_ble_eq_true rfl, Nat.le_of_ble_eq_true rfl⟩) (s_ok de sa) hK hX h hG.1 rfl rfl rfl hl.1 rfl (Nat.le_of_ble_eq_true rfl) d_L_law_616 ⟨by show _ ≤ 601024; omega, by show _ ≤ 7293034; omega⟩) (fun r1 hp => ?_)
  subst hp
  refine lv_aload_n hx hb d_L_law_619 rfl (lv_at hl 2 rfl) ?_
  refine hp_calli (hp_runV (As := []) (rest := [.int S.2.2.2.2.1]) ⟨hx, hb, hml, hown, hg⟩ (c_R_sent l D tys de sa ht ht3 hR hn7 hm12) (cwV 0 hg (gw_V w723 w724 w725 w7 w726) rfl rfl rfl (by decide +kernel) ⟨Nat.le_of_ble_eq_true rfl, Nat.le_of_ble_eq_true rfl⟩) (s_ok de sa) hK hX h hR.1 rfl rfl rfl hl.1 rfl (Nat.le_of_ble_eq_true rfl) d_L_law_620 ⟨by show _ ≤ 601024; omega, by show _ ≤ 7293034; omega⟩) h (fun r3 L3 f3 H locs hp3 h => ?_)
  obtain ⟨hr3, hR, hF3⟩ := hp3
  subst hr3
  dsimp only at hR
  have hG := hG.moveR hF3
  have hL3 := hF3.1
  dsimp only at hL3
  have ho : hp_at L3 f3 (ad 200) _ := ⟨by rw [hL3]; exact ho.1, (hF3.2 _ ho.1 (Or.inr (by omega))).trans ho.2⟩
  refine lv_icmp_eq (tgt := 654) hx hb d_L_law_623 (by decide) (fun hc => ?_) (fun hc => ?_)
  · skip
    exact next E S _ _ _ _ _ _ _ ls ⟨hG, ⟨_, hR⟩, ⟨_, ho⟩, hto, hI1, by omega, by omega, h⟩ (lv_sub hl [0, 1, 2, 3, 4] rfl)
  · skip
    exact absurd rfl hc

set_option maxHeartbeats 4000000 in
set_option maxRecDepth 100000 in
theorem lw_c9 {p : Program} {l : Launch} {e : Env} {s : State} {m : MethodId} {below : List Frame} {meth : Method} {c : Code} {Q : State → Prop} {b N k : Nat} {xs : Nat → Int32} {D : va_G} {tys : List (ClassId × FieldType)} {de : Nat} {sa : Nat → Nat} {A : Nat → Prop} {cI cO cN cZ cJ : ClassId} {Iv : Nat → kE → kS → Prop} {ad : Nat → Nat} (hx : p.tables.exec = Jvm.exec) (hb : c.code = code) (hml : c.maxLocals = 7) (hoff : th_Off l) (hg : ∀ w ∈ gw, w.before #[Value.ref b] s = true) (hown : s.vm.findClass "MergingFragmentsLaw" = some m.cls) (hK : va_K D kc tys s) (hX : s_X de sa A s s.heap) (hbx : va_X b N xs s s.heap) (hbl : b < s.heap.size) (hbA : ¬ A b) (ht : tys[0]? = some (cI, .int)) (ht1 : tys[1]? = some (cO, .object "java/lang/Object")) (ht2 : tys[2]? = some (cN, .object "MergingFragments$Node")) (ht3 : tys[3]? = some (cZ, .boolean)) (ht4 : tys[4]? = some (cJ, .long)) (hIv : kIf Iv) (hN : N ≤ 2048) (hk : 4 * k + 4 ≤ N) (next : ∀ (E : kE) (S : kS) (τ : Nat → Nat) (L : List Nat) (f : Nat → va_E) (cx sx : Nat) (H : Heap) (locs : List Loc) (ls : Array Slot), lwS cI cO cN cZ cJ de D A s.heap Iv ad (k + 1) E S τ L f cx sx H locs → lv_has ls 7 [(0, .ref b), (1, .ref (ad 0)), (2, .ref (ad 100)), (3, .ref (ad 200)), (4, .int (nI (4 * k)))] → W p l e room_1 s m #[Value.ref b] below meth c H locs cx sx Q (F0 m 654 ls [])) {E : kE} {S : kS} {τ : Nat → Nat} {L : List Nat} {f : Nat → va_E} {cx sx : Nat} {H : Heap} {locs : List Loc} {ls : Array Slot} (hS : lwS cI cO cN cZ cJ de D A s.heap Iv ad k E S τ L f cx sx H locs) (hl : lv_has ls 7 [(0, .ref b), (1, .ref (ad 0)), (2, .ref (ad 100)), (3, .ref (ad 200)), (4, .int (nI (4 * k)))]) : W p l e room_1 s m #[Value.ref b] below meth c H locs cx sx Q (F0 m 628 ls []) := by
  obtain ⟨hG, ⟨cz, hR⟩, ⟨g0, ho⟩, hto, hI, hcx, hsx, h⟩ := hS
  obtain ⟨hn7, hm12, hP, h41, hno, hI1⟩ := hIv.2.1 k E S hI
  have hroom := hIv.2.2.2.2.2.2 k E S (by omega) hI
  have hW := hP.1.1
  have hoL := ho.1
  refine lv_aload_n hx hb d_L_law_628 rfl (lv_at hl 1 rfl) ?_
  refine hp_callR (hp_runV (As := []) (rest := []) ⟨hx, hb, hml, hown, hg⟩ (c_G_left l D tys de sa ht ht1 ht2 hG) (cwV 0 hg (gw_V w153 w154 w155 w1 w156) rfl rfl rfl (by decide +kernel) ⟨Nat.le_of_ble_eq_true rfl, Nat.le_of_ble_eq_true rfl⟩) (s_ok de sa) hK hX h hG.1 rfl rfl rfl hl.1 rfl (Nat.le_of_ble_eq_true rfl) d_L_law_629 ⟨by show _ ≤ 601024; omega, by show _ ≤ 7293034; omega⟩) (fun r1 hp => ?_)
  subst hp
  refine lv_aload_n hx hb d_L_law_632 rfl (lv_at hl 2 rfl) ?_
  refine hp_calli (hp_runV (As := []) (rest := [.int (nI (k_left S E.1))]) ⟨hx, hb, hml, hown, hg⟩ (c_R_left l D tys de sa ht ht3 hR hn7 hm12) (cwV 0 hg (gw_V w727 w728 w729 w7 w730) rfl rfl rfl (by decide +kernel) ⟨Nat.le_of_ble_eq_true rfl, Nat.le_of_ble_eq_true rfl⟩) (s_ok de sa) hK hX h hR.1 rfl rfl rfl hl.1 rfl (Nat.le_of_ble_eq_true rfl) d_L_law_633 ⟨by show _ ≤ 601024; omega, by show _ ≤ 7293034; omega⟩) h (fun r3 L3 f3 H locs hp3 h => ?_)
  obtain ⟨hr3, hR, hF3⟩ := hp3
  subst hr3
  dsimp only at hR
  have hG := hG.moveR hF3
  have hL3 := hF3.1
  dsimp only at hL3
  have ho : hp_at L3 f3 (ad 200) _ := ⟨by rw [hL3]; exact ho.1, (hF3.2 _ ho.1 (Or.inr (by omega))).trans ho.2⟩
  refine lv_icmp_eq (tgt := 654) hx hb d_L_law_636 (by decide) (fun hc => ?_) (fun hc => ?_)
  · skip
    exact next E S _ _ _ _ _ _ _ ls ⟨hG, ⟨_, hR⟩, ⟨_, ho⟩, hto, hI1, by omega, by omega, h⟩ (lv_sub hl [0, 1, 2, 3, 4] rfl)
  · skip
    exact absurd rfl hc

set_option maxHeartbeats 4000000 in
set_option maxRecDepth 100000 in
theorem lw_c10 {p : Program} {l : Launch} {e : Env} {s : State} {m : MethodId} {below : List Frame} {meth : Method} {c : Code} {Q : State → Prop} {b N k : Nat} {xs : Nat → Int32} {D : va_G} {tys : List (ClassId × FieldType)} {de : Nat} {sa : Nat → Nat} {A : Nat → Prop} {cI cO cN cZ cJ : ClassId} {Iv : Nat → kE → kS → Prop} {ad : Nat → Nat} (hx : p.tables.exec = Jvm.exec) (hb : c.code = code) (hml : c.maxLocals = 7) (hoff : th_Off l) (hg : ∀ w ∈ gw, w.before #[Value.ref b] s = true) (hown : s.vm.findClass "MergingFragmentsLaw" = some m.cls) (hK : va_K D kc tys s) (hX : s_X de sa A s s.heap) (hbx : va_X b N xs s s.heap) (hbl : b < s.heap.size) (hbA : ¬ A b) (ht : tys[0]? = some (cI, .int)) (ht1 : tys[1]? = some (cO, .object "java/lang/Object")) (ht2 : tys[2]? = some (cN, .object "MergingFragments$Node")) (ht3 : tys[3]? = some (cZ, .boolean)) (ht4 : tys[4]? = some (cJ, .long)) (hIv : kIf Iv) (hN : N ≤ 2048) (hk : 4 * k + 4 ≤ N) (next : ∀ (E : kE) (S : kS) (τ : Nat → Nat) (L : List Nat) (f : Nat → va_E) (cx sx : Nat) (H : Heap) (locs : List Loc) (ls : Array Slot), lwS cI cO cN cZ cJ de D A s.heap Iv ad (k + 1) E S τ L f cx sx H locs → lv_has ls 7 [(0, .ref b), (1, .ref (ad 0)), (2, .ref (ad 100)), (3, .ref (ad 200)), (4, .int (nI (4 * k)))] → W p l e room_1 s m #[Value.ref b] below meth c H locs cx sx Q (F0 m 654 ls [])) {E : kE} {S : kS} {τ : Nat → Nat} {L : List Nat} {f : Nat → va_E} {cx sx : Nat} {H : Heap} {locs : List Loc} {ls : Array Slot} (hS : lwS cI cO cN cZ cJ de D A s.heap Iv ad k E S τ L f cx sx H locs) (hl : lv_has ls 7 [(0, .ref b), (1, .ref (ad 0)), (2, .ref (ad 100)), (3, .ref (ad 200)), (4, .int (nI (4 * k)))]) : W p l e room_1 s m #[Value.ref b] below meth c H locs cx sx Q (F0 m 641 ls []) := by
  obtain ⟨hG, ⟨cz, hR⟩, ⟨g0, ho⟩, hto, hI, hcx, hsx, h⟩ := hS
  obtain ⟨hn7, hm12, hP, h41, hno, hI1⟩ := hIv.2.1 k E S hI
  have hroom := hIv.2.2.2.2.2.2 k E S (by omega) hI
  have hW := hP.1.1
  have hoL := ho.1
  refine lv_aload_n hx hb d_L_law_641 rfl (lv_at hl 1 rfl) ?_
  refine hp_callR (hp_runV (As := []) (rest := []) ⟨hx, hb, hml, hown, hg⟩ (c_G_weight l D tys de sa ht ht1 ht2 hG hW) (cwV 0 hg (gw_V w161 w162 w163 w1 w164) rfl rfl rfl (by decide +kernel) ⟨Nat.le_of_ble_eq_true rfl, Nat.le_of_ble_eq_true rfl⟩) (s_ok de sa) hK hX h hG.1 rfl rfl rfl hl.1 rfl (Nat.le_of_ble_eq_true rfl) d_L_law_642 ⟨by show _ ≤ 601024; omega, by show _ ≤ 7293034; omega⟩) (fun r1 hp => ?_)
  subst hp
  refine lv_aload_n hx hb d_L_law_645 rfl (lv_at hl 2 rfl) ?_
  refine hp_calli (hp_runV (As := []) (rest := [.int (k_wt E S E.2.1)]) ⟨hx, hb, hml, hown, hg⟩ (c_R_weight l D tys de sa ht ht3 hR hn7 hm12) (cwV 0 hg (gw_V w731 w732 w733 w7 w734) rfl rfl rfl (by decide +kernel) ⟨Nat.le_of_ble_eq_true rfl, Nat.le_of_ble_eq_true rfl⟩) (s_ok de sa) hK hX h hR.1 rfl rfl rfl hl.1 rfl (Nat.le_of_ble_eq_true rfl) d_L_law_646 ⟨by show _ ≤ 601024; omega, by show _ ≤ 7293034; omega⟩) h (fun r3 L3 f3 H locs hp3 h => ?_)
  obtain ⟨hr3, hR, hF3⟩ := hp3
  subst hr3
  dsimp only at hR
  have hG := hG.moveR hF3
  have hL3 := hF3.1
  dsimp only at hL3
  have ho : hp_at L3 f3 (ad 200) _ := ⟨by rw [hL3]; exact ho.1, (hF3.2 _ ho.1 (Or.inr (by omega))).trans ho.2⟩
  refine lv_icmp_eq (tgt := 654) hx hb d_L_law_649 (by decide) (fun hc => ?_) (fun hc => ?_)
  · skip
    exact next E S _ _ _ _ _ _ _ ls ⟨hG, ⟨_, hR⟩, ⟨_, ho⟩, hto, hI1, by omega, by omega, h⟩ (lv_sub hl [0, 1, 2, 3, 4] rfl)
  · skip
    exact absurd rfl hc
