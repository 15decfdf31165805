/-! The law's loop and its entry, by program (wip/mk75.py). -/
section LWE
variable {cI cO cN cZ cJ : ClassId} {de : Nat} {ad ad' τ : Nat → Nat} {L L1 : List Nat} {f f1 : Nat → va_E} {code : Int32} {E : kE} {S : kS}
theorem kG.toAd (h : kG cI cO cN de ad τ L f E S) (ha : ∀ k, k < 100 → ad' k = ad k) : kG cI cO cN de ad' τ L f E S := by
  obtain ⟨h0, ⟨g, h1, h1'⟩, h2, h3, h4, h5, h6, h7, ⟨t0, t1, t2, t3, t4⟩, t5, h8⟩ := h
  have e0 := ha 0 (by omega)
  have e1 := ha 1 (by omega)
  have e2 := ha 2 (by omega)
  have e3 := ha 3 (by omega)
  have e4 := ha 4 (by omega)
  refine ⟨by unfold kg; rw [e0, e1, e2, e3, e4]; exact h0, ⟨g, by rw [e1]; exact h1, fun i hi => by rw [ha (10 + i) (by omega)]; exact h1' i hi⟩, by rw [e2]; exact h2, by rw [e3]; exact h3, by rw [e4]; exact h4, fun i hi => by rw [ha (10 + i) (by omega), ha (20 + i) (by omega), ha (30 + i) (by omega)]; exact h5 i hi, fun i hi => by rw [ha (20 + i) (by omega)]; exact h6 i hi, fun i hi => ?_, ⟨by rw [e0]; exact t0, by rw [e1]; exact t1, by rw [e2]; exact t2, by rw [e3]; exact t3, by rw [e4]; exact t4⟩, fun i hi => by rw [ha (10 + i) (by omega), ha (20 + i) (by omega), ha (30 + i) (by omega)]; exact t5 i hi, h8⟩
  obtain ⟨ea, mo, q1, q2⟩ := h7 i hi
  exact ⟨ea, mo, by rw [ha (30 + i) (by omega)]; exact q1, q2⟩
theorem kR.toAd (h : kR cI cZ ad τ L f code E S) (ha : ∀ k, 100 ≤ k → k < 120 → ad' k = ad k) : kR cI cZ ad' τ L f code E S := by
  obtain ⟨h0, h1, h2, h3, h4, h5, ⟨fr, a1, a2, a3, a4⟩, t⟩ := h
  have e : kro ad' code (nI E.1) (nI E.2.1) S.2.2.2.2.1 = kro ad code (nI E.1) (nI E.2.1) S.2.2.2.2.1 := by
    unfold kro
    rw [ha 101 (by omega) (by omega), ha 102 (by omega) (by omega), ha 103 (by omega) (by omega), ha 104 (by omega) (by omega), ha 105 (by omega) (by omega), ha 106 (by omega) (by omega), ha 107 (by omega) (by omega), ha 108 (by omega) (by omega), ha 109 (by omega) (by omega), ha 110 (by omega) (by omega), ha 111 (by omega) (by omega), ha 112 (by omega) (by omega), ha 113 (by omega) (by omega), ha 114 (by omega) (by omega), ha 115 (by omega) (by omega), ha 116 (by omega) (by omega), ha 117 (by omega) (by omega), ha 118 (by omega) (by omega), ha 119 (by omega) (by omega)]
  refine ⟨by rw [e, ha 100 (by omega) (by omega)]; exact h0, by rw [ha 101 (by omega) (by omega)]; exact h1, by rw [ha 102 (by omega) (by omega)]; exact h2, by rw [ha 103 (by omega) (by omega)]; exact h3, fun k hk => by rw [ha (104 + k) (by omega) (by omega)]; exact h4 k hk, by rw [ha 112 (by omega) (by omega)]; exact h5, ⟨fr, by rw [ha 113 (by omega) (by omega)]; exact a1, by rw [ha 114 (by omega) (by omega)]; exact a2, a3, fun c hc => by rw [ha (115 + c) (by omega) (by omega)]; exact a4 c hc⟩, fun k k1 k2 => by rw [ha k k1 k2]; exact t k k1 k2⟩
theorem kR.out {q : Nat} {e : va_E} (h : kR cI cZ ad τ L f code E S) (hin : ∀ k, 100 ≤ k → k < 120 → ad k ∈ L) (hL : L1 = L ++ [q]) (hf : f1 = va_up f q e) (hq : q ∉ L) : kR cI cZ ad (kup τ q 200) L1 f1 code E S := by
  have h' : kR cI cZ ad (kup τ q 200) L f code E S := by
    obtain ⟨h0, h1, h2, h3, h4, h5, h6, t⟩ := h
    exact ⟨h0, h1, h2, h3, h4, h5, h6, fun k k1 k2 => by rw [kup_ne _ _ (by intro z; rw [← z] at hq; exact hq (hin k k1 k2))]; exact t k k1 k2⟩
  refine h'.move (o9 := q) (fun b hb => ⟨by rw [hL]; exact List.mem_append_left _ hb, fun _ => ⟨rfl, fun hbq => by rw [hf, va_up_ne _ _ hbq]⟩⟩) (kup_self _ _ _)
theorem kR.inL (h : kR cI cZ ad τ L f code E S) : ∀ k, 100 ≤ k → k < 120 → ad k ∈ L := fun k k1 k2 => by
  obtain ⟨h0, h1, h2, h3, h4, h5, h6, t⟩ := h
  rcases Nat.lt_or_ge k 113 with z | z
  · rcases (show k = 100 ∨ k = 101 ∨ k = 102 ∨ k = 103 ∨ (104 ≤ k ∧ k < 112) ∨ k = 112 by omega) with rfl | rfl | rfl | rfl | q | rfl
    · exact h0.1
    · obtain ⟨g, z1, -⟩ := h1; exact z1.1
    · obtain ⟨g, z1, -⟩ := h2; exact z1.1
    · obtain ⟨g, z1, -⟩ := h3; exact z1.1
    · obtain ⟨g, z1, -⟩ := h4 (k - 104) (by omega)
      rw [show 104 + (k - 104) = k by omega] at z1
      exact z1.1
    · obtain ⟨g, z1, -⟩ := h5; exact z1.1
  · obtain ⟨fr, ⟨g1, a1, -⟩, ⟨g2, a2, -⟩, -, a4⟩ := h6
    rcases (show k = 113 ∨ k = 114 ∨ (115 ≤ k ∧ k < 120) by omega) with rfl | rfl | q
    · exact a1.1
    · exact a2.1
    · obtain ⟨g, z1, -⟩ := a4 (k - 115) (by omega)
      rw [show 115 + (k - 115) = k by omega] at z1
      exact z1.1
end LWE
theorem lw_gt {N k : Nat} (hN : N ≤ 2048) (hk : 4 * k ≤ 4096) : nI N - 4 < nI (4 * k) ↔ N < 4 * k + 4 := by
  have h4 : (4 : Int32) = nI 4 := rfl
  rcases Nat.lt_or_ge N 4 with z | z
  · refine ⟨fun _ => by omega, fun _ => ?_⟩
    have h1 : nI N - nI 4 < 0 := pk_sneg (by omega) z
    rw [h4]
    exact Int32.lt_of_lt_of_le h1 (nI_pos' (by omega))
  · rw [h4, pk_sub z, nI_ltI (by omega) (by omega)]
    omega
set_option maxHeartbeats 4000000 in
set_option maxRecDepth 100000 in
theorem lw_loop {p : Program} {l : Launch} {e : Env} {s : State} {m : MethodId} {below : List Frame} {meth : Method} {c : Code} {Q : State → Prop} {b N : Nat} {xs : Nat → Int32} {D : va_G} {tys : List (ClassId × FieldType)} {de : Nat} {sa : Nat → Nat} {A : Nat → Prop} {cI cO cN cZ cJ : ClassId} {Iv : Nat → kE → kS → Prop} {ad : Nat → Nat} (hx : p.tables.exec = Jvm.exec) (hb : c.code = code) (hml : c.maxLocals = 7) (hoff : th_Off l) (hg : ∀ w ∈ gw, w.before #[Value.ref b] s = true) (hown : s.vm.findClass "MergingFragmentsLaw" = some m.cls) (hK : va_K D kc tys s) (hX : s_X de sa A s s.heap) (hbx : va_X b N xs s s.heap) (hbl : b < s.heap.size) (hbA : ¬ A b) (ht : tys[0]? = some (cI, .int)) (ht1 : tys[1]? = some (cO, .object "java/lang/Object")) (ht2 : tys[2]? = some (cN, .object "MergingFragments$Node")) (ht3 : tys[3]? = some (cZ, .boolean)) (ht4 : tys[4]? = some (cJ, .long)) (hIv : kIf Iv) (hN : N ≤ 2048) (stop : ∀ (cx sx : Nat) (H : Heap) (locs : List Loc) (ls : Array Slot), cx ≤ 601024 → sx ≤ 7293034 → va_S A s.heap H locs → W p l e room_1 s m #[Value.ref b] below meth c H locs cx sx Q (F0 m 660 ls [])) : ∀ (d k : Nat) (E : kE) (S : kS) (τ : Nat → Nat) (L : List Nat) (f : Nat → va_E) (cx sx : Nat) (H : Heap) (locs : List Loc) (ls : Array Slot), N < 4 * (k + d) + 4 → 4 * k ≤ N → lwS cI cO cN cZ cJ de D A s.heap Iv ad k E S τ L f cx sx H locs → lv_has ls 7 [(0, .ref b), (1, .ref (ad 0)), (2, .ref (ad 100)), (3, .ref (ad 200)), (4, .int (nI (4 * k)))] → W p l e room_1 s m #[Value.ref b] below meth c H locs cx sx Q (F0 m 23 ls []) := by
  intro d
  induction d with
  | zero =>
    intro k E S τ L f cx sx H locs ls hd hkN hS hl
    have h : hp_W D kc A s.heap L f H locs := hS.2.2.2.2.2.2.2
    have hcb : cx ≤ 601024 ∧ sx ≤ 7293034 := by have h1 := hIv.2.2.2.2.2.2 k E S (by omega) hS.2.2.2.2.1; have h2 := hS.2.2.2.2.2.1; have h3 := hS.2.2.2.2.2.2.1; omega
    refine lv_iload hx hb d_L_law_23 (lv_at hl 4 rfl) ?_
    refine lv_aload_n hx hb d_L_law_25 rfl (lv_at hl 0 rfl) ?_
    refine va_slen hx hb hbx hbl hbA h.2.2.1 d_L_law_26 ?_
    rw [show Int32.ofNat N = nI N from rfl]
    refine lv_iconst (v := 4) hx hb d_L_law_27 (by decide) ?_
    refine lv_isub hx hb d_L_law_28 ?_
    refine lv_icmp_gt (tgt := 660) hx hb d_L_law_29 (by decide) (fun hc => ?_) (fun hc => ?_)
    · skip
      exact stop cx sx H locs ls hcb.1 hcb.2 h.2.2.1
    · skip
      have hk : 4 * k + 4 ≤ N := Nat.not_lt.mp (fun z => hc ((lw_gt hN (by omega)).mpr z))
      exact absurd hk (by omega)
  | succ d ih =>
    intro k E S τ L f cx sx H locs ls hd hkN hS hl
    have h : hp_W D kc A s.heap L f H locs := hS.2.2.2.2.2.2.2
    have hcb : cx ≤ 601024 ∧ sx ≤ 7293034 := by have h1 := hIv.2.2.2.2.2.2 k E S (by omega) hS.2.2.2.2.1; have h2 := hS.2.2.2.2.2.1; have h3 := hS.2.2.2.2.2.2.1; omega
    refine lv_iload hx hb d_L_law_23 (lv_at hl 4 rfl) ?_
    refine lv_aload_n hx hb d_L_law_25 rfl (lv_at hl 0 rfl) ?_
    refine va_slen hx hb hbx hbl hbA h.2.2.1 d_L_law_26 ?_
    rw [show Int32.ofNat N = nI N from rfl]
    refine lv_iconst (v := 4) hx hb d_L_law_27 (by decide) ?_
    refine lv_isub hx hb d_L_law_28 ?_
    refine lv_icmp_gt (tgt := 660) hx hb d_L_law_29 (by decide) (fun hc => ?_) (fun hc => ?_)
    · skip
      exact stop cx sx H locs ls hcb.1 hcb.2 h.2.2.1
    · skip
      have hk : 4 * k + 4 ≤ N := Nat.not_lt.mp (fun z => hc ((lw_gt hN (by omega)).mpr z))
      have next : ∀ (E : kE) (S : kS) (τ : Nat → Nat) (L : List Nat) (f : Nat → va_E) (cx sx : Nat) (H : Heap) (locs : List Loc) (ls : Array Slot), lwS cI cO cN cZ cJ de D A s.heap Iv ad (k + 1) E S τ L f cx sx H locs → lv_has ls 7 [(0, .ref b), (1, .ref (ad 0)), (2, .ref (ad 100)), (3, .ref (ad 200)), (4, .int (nI (4 * k)))] → W p l e room_1 s m #[Value.ref b] below meth c H locs cx sx Q (F0 m 654 ls []) := by
        intro E S τ L f cx sx H locs ls hS hl
        refine lv_iinc (k := 4) (v := nI (4 * (k + 1))) (lv' := [(4, .int (nI (4 * (k + 1)))), (0, .ref b), (1, .ref (ad 0)), (2, .ref (ad 100)), (3, .ref (ad 200))]) hx hb d_L_law_654 hl rfl (show nI (4 * k) + Int32.ofInt 4 = nI (4 * (k + 1)) from hp_inc (4 * k) 4) (by decide) rfl (fun ls hl => ?_)
        refine lv_goto (tgt := 23) hx hb d_L_law_657 (by decide) ?_
        exact ih (k + 1) E S τ L f cx sx H locs ls (by omega) (by omega) hS (lv_sub hl [1, 2, 3, 4, 0] rfl)
      refine lv_aload_n hx hb d_L_law_32 rfl (lv_at hl 0 rfl) ?_
      refine lv_iload hx hb d_L_law_33 (lv_at hl 4 rfl) ?_
      refine va_sld hx hb hbx hbl hbA h.2.2.1 (hp_ix (j := (4 * k)) (n := N) rfl (by omega) (by omega)).1 d_L_law_35 ?_
      rw [(hp_ix (i := nI (4 * k)) (j := (4 * k)) (n := N) rfl (by omega) (by omega)).2]
      refine lv_bipush (v := 15) hx hb d_L_law_36 (by decide) ?_
      refine lv_iand hx hb d_L_law_38 ?_
      by_cases h0 : (xs (4 * k) &&& 15) = 0
      · refine lv_tableIn (off := 57) (tgt := 96) hx hb d_L_law_39 (by rw [h0]; decide) (by rw [h0]; decide) (by rw [h0]; decide) (by decide) ?_
        exact lw_c0 hx hb hml hoff hg hown hK hX hbx hbl hbA ht ht1 ht2 ht3 ht4 hIv hN hk next hS hl
      by_cases h1 : (xs (4 * k) &&& 15) = 1
      · refine lv_tableIn (off := 93) (tgt := 132) hx hb d_L_law_39 (by rw [h1]; decide) (by rw [h1]; decide) (by rw [h1]; decide) (by decide) ?_
        exact lw_c1 hx hb hml hoff hg hown hK hX hbx hbl hbA ht ht1 ht2 ht3 ht4 hIv hN hk next hS hl
      by_cases h2 : (xs (4 * k) &&& 15) = 2
      · refine lv_tableIn (off := 173) (tgt := 212) hx hb d_L_law_39 (by rw [h2]; decide) (by rw [h2]; decide) (by rw [h2]; decide) (by decide) ?_
        exact lw_c2 hx hb hml hoff hg hown hK hX hbx hbl hbA ht ht1 ht2 ht3 ht4 hIv hN hk next hS hl
      by_cases h3 : (xs (4 * k) &&& 15) = 3
      · refine lv_tableIn (off := 236) (tgt := 275) hx hb d_L_law_39 (by rw [h3]; decide) (by rw [h3]; decide) (by rw [h3]; decide) (by decide) ?_
        exact lw_c3 hx hb hml hoff hg hown hK hX hbx hbl hbA ht ht1 ht2 ht3 ht4 hIv hN hk next hS hl
      by_cases h4 : (xs (4 * k) &&& 15) = 4
      · refine lv_tableIn (off := 292) (tgt := 331) hx hb d_L_law_39 (by rw [h4]; decide) (by rw [h4]; decide) (by rw [h4]; decide) (by decide) ?_
        exact lw_c4 hx hb hml hoff hg hown hK hX hbx hbl hbA ht ht1 ht2 ht3 ht4 hIv hN hk next hS hl
      by_cases h5 : (xs (4 * k) &&& 15) = 5
      · refine lv_tableIn (off := 360) (tgt := 399) hx hb d_L_law_39 (by rw [h5]; decide) (by rw [h5]; decide) (by rw [h5]; decide) (by decide) ?_
        exact lw_c5 hx hb hml hoff hg hown hK hX hbx hbl hbA ht ht1 ht2 ht3 ht4 hIv hN hk next hS hl
      by_cases h6 : (xs (4 * k) &&& 15) = 6
      · refine lv_tableIn (off := 428) (tgt := 467) hx hb d_L_law_39 (by rw [h6]; decide) (by rw [h6]; decide) (by rw [h6]; decide) (by decide) ?_
        exact lw_c6 hx hb hml hoff hg hown hK hX hbx hbl hbA ht ht1 ht2 ht3 ht4 hIv hN hk next hS hl
      by_cases h7 : (xs (4 * k) &&& 15) = 7
      · refine lv_tableIn (off := 496) (tgt := 535) hx hb d_L_law_39 (by rw [h7]; decide) (by rw [h7]; decide) (by rw [h7]; decide) (by decide) ?_
        exact lw_c7 hx hb hml hoff hg hown hK hX hbx hbl hbA ht ht1 ht2 ht3 ht4 hIv hN hk next hS hl
      by_cases h8 : (xs (4 * k) &&& 15) = 8
      · refine lv_tableIn (off := 576) (tgt := 615) hx hb d_L_law_39 (by rw [h8]; decide) (by rw [h8]; decide) (by rw [h8]; decide) (by decide) ?_
        exact lw_c8 hx hb hml hoff hg hown hK hX hbx hbl hbA ht ht1 ht2 ht3 ht4 hIv hN hk next hS hl
      by_cases h9 : (xs (4 * k) &&& 15) = 9
      · refine lv_tableIn (off := 589) (tgt := 628) hx hb d_L_law_39 (by rw [h9]; decide) (by rw [h9]; decide) (by rw [h9]; decide) (by decide) ?_
        exact lw_c9 hx hb hml hoff hg hown hK hX hbx hbl hbA ht ht1 ht2 ht3 ht4 hIv hN hk next hS hl
      by_cases h10 : (xs (4 * k) &&& 15) = 10
      · refine lv_tableIn (off := 602) (tgt := 641) hx hb d_L_law_39 (by rw [h10]; decide) (by rw [h10]; decide) (by rw [h10]; decide) (by decide) ?_
        exact lw_c10 hx hb hml hoff hg hown hK hX hbx hbl hbA ht ht1 ht2 ht3 ht4 hIv hN hk next hS hl
      refine lv_tableOut (tgt := 654) hx hb d_L_law_39 (tab11 h0 h1 h2 h3 h4 h5 h6 h7 h8 h9 h10) (by decide) ?_
      obtain ⟨z1, z2, z3, z4, z5, z6, z7, z8⟩ := hS
      exact next E S τ L f cx sx H locs ls ⟨z1, z2, z3, z4, (hIv.2.1 k E S z5).2.2.2.2.2, by omega, by omega, z8⟩ (lv_sub hl [0, 1, 2, 3, 4] rfl)

set_option maxHeartbeats 4000000 in
set_option maxRecDepth 100000 in
theorem lw_entry {p : Program} {l : Launch} {e : Env} {s : State} {m : MethodId} {below : List Frame} {meth : Method} {c : Code} {Q : State → Prop} {b N : Nat} {xs : Nat → Int32} {D : va_G} {tys : List (ClassId × FieldType)} {de : Nat} {sa : Nat → Nat} {A : Nat → Prop} {cI cO cN cZ cJ : ClassId} {Iv : Nat → kE → kS → Prop} (hx : p.tables.exec = Jvm.exec) (hb : c.code = code) (hml : c.maxLocals = 7) (hoff : th_Off l) (hg : ∀ w ∈ gw, w.before #[Value.ref b] s = true) (hown : s.vm.findClass "MergingFragmentsLaw" = some m.cls) (hK : va_K D kc tys s) (hX : s_X de sa A s s.heap) (hbx : va_X b N xs s s.heap) (hbl : b < s.heap.size) (hbA : ¬ A b) (ht : tys[0]? = some (cI, .int)) (ht1 : tys[1]? = some (cO, .object "java/lang/Object")) (ht2 : tys[2]? = some (cN, .object "MergingFragments$Node")) (ht3 : tys[3]? = some (cZ, .boolean)) (ht4 : tys[4]? = some (cJ, .long)) (hIv : kIf Iv) (hN : N ≤ 2048) {ls : Array Slot} (stop : ∀ (cx sx : Nat) (H : Heap) (locs : List Loc) (ls : Array Slot), cx ≤ 601024 → sx ≤ 7293034 → va_S A s.heap H locs → W p l e room_1 s m #[Value.ref b] below meth c H locs cx sx Q (F0 m 660 ls [])) (hA : ∀ q : Nat, s.heap.size ≤ q → A q) (hl : lv_has ls 7 [(0, .ref b)]) : W p l e room_1 s m #[Value.ref b] below meth c s.heap [] 0 0 Q (F0 m 0 ls []) := by
  have h : hp_W D kc A s.heap [] (fun _ => .inr (0, [])) s.heap [] := ⟨fun k q hk => absurd hk (by simp [va_pl]), ⟨fun i j p q hi => absurd hi (by simp [va_pl]), fun k q hk => absurd hk (by simp [va_pl])⟩, va_S.rf, hA⟩
  refine hp_new (ci := 0) (fs := [.null, .null, .null, .null, .int 0, .int 0, .int 0]) hx hb hg in_G t_G t_G_ok hown (hg _ w21) (hg _ w22) (hg _ w1) hK h rfl (fun j hj => by rcases (show j = 0 ∨ j = 1 ∨ j = 2 ∨ j = 3 ∨ j = 4 ∨ j = 5 ∨ j = 6 by omega) with rfl | rfl | rfl | rfl | rfl | rfl | rfl <;> rfl) (Nat.le_of_ble_eq_true rfl) (Nat.le_of_ble_eq_true rfl) d_L_law_0 (fun q0 H L1 f1 hq_q0 hL1 hf1 h => ?_)
  have he0 := hp_at.new' hL1 hf1
  refine lv_dup hx hb d_L_law_3 rfl ?_
  refine hp_callv (hp_runI (As := []) (rest := [.ref q0]) ⟨hx, hb, hml, hown, hg⟩ (c_G_init l D tys de sa ht ht1 ht2 he0) (cwI 0 hg (gw_code w25) rfl rfl rfl (hg _ w1) (hg _ w23) (hg _ w24) rfl (by decide +kernel) ⟨Nat.le_of_ble_eq_true rfl, Nat.le_of_ble_eq_true rfl⟩) (s_ok de sa) hK hX h rfl hl.1 rfl (Nat.le_of_ble_eq_true rfl) d_L_law_4 ⟨Nat.le_of_ble_eq_true rfl, Nat.le_of_ble_eq_true rfl⟩) h (fun Lg fg H locs hp h => ?_)
  obtain ⟨ad0, τ0, hq0, hG⟩ := hp
  subst hq0
  dsimp only at hG
  refine lv_astore_n (lv' := [(1, .ref (ad0 0)), (0, .ref b)]) hx hb d_L_law_7 rfl hl (by decide) rfl (fun ls hl => ?_)
  refine hp_new (ci := 3) (fs := [.int 0, .int 0, .int 0, .null, .null, .null, .null, .null, .null, .null, .null, .null, .null, .null, .null, .null, .null, .null, .null, .null, .null, .null, .int 0]) hx hb hg in_R t_R t_R_ok hown (hg _ w538) (hg _ w539) (hg _ w7) hK h rfl (fun j hj => by rcases (show j = 0 ∨ j = 1 ∨ j = 2 ∨ j = 3 ∨ j = 4 ∨ j = 5 ∨ j = 6 ∨ j = 7 ∨ j = 8 ∨ j = 9 ∨ j = 10 ∨ j = 11 ∨ j = 12 ∨ j = 13 ∨ j = 14 ∨ j = 15 ∨ j = 16 ∨ j = 17 ∨ j = 18 ∨ j = 19 ∨ j = 20 ∨ j = 21 ∨ j = 22 by omega) with rfl | rfl | rfl | rfl | rfl | rfl | rfl | rfl | rfl | rfl | rfl | rfl | rfl | rfl | rfl | rfl | rfl | rfl | rfl | rfl | rfl | rfl | rfl <;> rfl) (Nat.le_of_ble_eq_true rfl) (Nat.le_of_ble_eq_true rfl) d_L_law_8 (fun q1 H L11 f11 hq_q1 hL11 hf11 h => ?_)
  have he1 := hp_at.new' hL11 hf11
  refine lv_dup hx hb d_L_law_11 rfl ?_
  have hG := hG.push (t := 100) hL11 hf11 hq_q1
  refine hp_callv (hp_runI (As := []) (rest := [.ref q1]) ⟨hx, hb, hml, hown, hg⟩ (c_R_init l D tys de sa (ad := ad0) (τ := kup τ0 q1 100) ht ht3 he1) (cwI 0 hg (gw_code w542) rfl rfl rfl (hg _ w7) (hg _ w540) (hg _ w541) rfl (by decide +kernel) ⟨Nat.le_of_ble_eq_true rfl, Nat.le_of_ble_eq_true rfl⟩) (s_ok de sa) hK hX h rfl hl.1 rfl (Nat.le_of_ble_eq_true rfl) d_L_law_12 ⟨Nat.le_of_ble_eq_true rfl, Nat.le_of_ble_eq_true rfl⟩) h (fun Lr fr H locs hp h => ?_)
  obtain ⟨ad1, τ1, ha1, hq1, hk1, hR⟩ := hp
  dsimp only at hR hk1
  have hG : kG cI cO cN de ad0 τ1 Lr fr kE0 kS0 := hG.go (fun b e hb he => by
    obtain ⟨z1, z2⟩ := hk1 b he.1
    have z3 := z2 (fun z => by rw [z, kup_self] at hb; omega)
    exact ⟨⟨z1, z3.1.trans he.2⟩, z3.2⟩)
  have hGf := hG.toAd ha1
  have hq1 := hq1.symm
  subst hq1
  have ha0 : ad0 0 = ad1 0 := (ha1 0 (by omega)).symm
  rw [ha0] at hl
  refine lv_astore_n (lv' := [(2, .ref (ad1 100)), (1, .ref (ad1 0)), (0, .ref b)]) hx hb d_L_law_15 rfl hl (by decide) rfl (fun ls hl => ?_)
  refine lv_iconst (v := 1) hx hb d_L_law_16 (by decide) ?_
  refine hp_newa (atype := .long) (ty := .long) (N' := 1) (a0 := (1, .inr (.inl (fun _ => 0)))) hx hb (hg _ w735) rfl hK h 4 ht4 (fun cA => rfl) (by decide) (by decide) (by decide) (Nat.le_of_ble_eq_true rfl) (Nat.le_of_ble_eq_true rfl) d_L_law_17 (fun q2 H L21 f21 hq_q2 hL21 hf21 h => ?_)
  have ho := hp_at.new' hL21 hf21
  have hG := hGf.push (t := 200) hL21 hf21 hq_q2
  have hR := hR.out hR.inL hL21 hf21 hq_q2
  have hGa := kG.toAd hG (ad' := kup ad1 200 q2) (fun k hk => kup_ne _ _ (by omega))
  have hRa := hR.toAd (ad' := kup ad1 200 q2) (fun k _ hk => kup_ne _ _ (by omega))
  have e0 : kup ad1 200 q2 0 = ad1 0 := kup_ne _ _ (by omega)
  have e1 : kup ad1 200 q2 100 = ad1 100 := kup_ne _ _ (by omega)
  have e2 : kup ad1 200 q2 200 = q2 := kup_self _ _ _
  refine lv_astore_n (lv' := [(3, .ref q2), (2, .ref (ad1 100)), (1, .ref (ad1 0)), (0, .ref b)]) hx hb d_L_law_19 rfl hl (by decide) rfl (fun ls hl => ?_)
  refine lv_iconst (v := 0) hx hb d_L_law_20 (by decide) ?_
  refine lv_istore (lv' := [(4, .int 0), (3, .ref q2), (2, .ref (ad1 100)), (1, .ref (ad1 0)), (0, .ref b)]) hx hb d_L_law_21 hl (by decide) rfl (fun ls hl => ?_)
  have hl9 : lv_has ls 7 [(0, .ref b), (1, .ref (kup ad1 200 q2 0)), (2, .ref (kup ad1 200 q2 100)), (3, .ref (kup ad1 200 q2 200)), (4, .int (nI (4 * 0)))] := by rw [e0, e1, e2]; exact lv_sub hl [4, 3, 2, 1, 0] rfl
  exact lw_loop (ad := kup ad1 200 q2) hx hb hml hoff hg hown hK hX hbx hbl hbA ht ht1 ht2 ht3 ht4 hIv hN stop N 0 kE0 kS0 (kup τ1 q2 200) _ _ _ _ _ _ ls (by omega) (by omega) ⟨hGa, ⟨_, hRa⟩, ⟨_, by rw [e2]; exact ho⟩, by rw [e2]; exact kup_self _ _ _, hIv.1, Nat.le_of_ble_eq_true rfl, Nat.le_of_ble_eq_true rfl, h⟩ hl9
