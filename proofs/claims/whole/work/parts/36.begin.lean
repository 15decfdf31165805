/-! begin, by program (wip/mk36.py). -/
/-- one node is another; the rest stays -/
theorem kH.goN {K : Nat} {cI cO cN : ClassId} {de : Nat} {ad τ : Nat → Nat} {L : List Nat} {f : Nat → va_E} {E : kE} {S : kS} {i cap : Nat} {v' z : Nat → Int32} {l : List kM} {τ1 : Nat → Nat} {L1 : List Nat} {f1 : Nat → va_E} (h : kH K cI cO cN de ad τ L f E S) (hi : i < K)
    (hs : ∀ a e, τ a < 100 → τ a ≠ 10 + i → τ a ≠ 20 + i → τ a ≠ 30 + i → τ a ≠ 40 + i → hp_at L f a e → hp_at L1 f1 a e ∧ τ1 a = τ a) (ht : τ1 (ad (10 + i)) = 10 + i ∧ τ1 (ad (20 + i)) = 20 + i ∧ τ1 (ad (30 + i)) = 30 + i)
    (hn : hp_at L1 f1 (ad (10 + i)) (kn i (ad (20 + i)) (ad (30 + i)) v')) (hm : kI cI 12 L1 f1 (ad (20 + i)) 12 z) (hq : kQ cO de ad τ1 L1 f1 i cap l) : kH K cI cO cN de ad τ1 L1 f1 E (kup S.1 i v', kup S.2.1 i z, kup S.2.2.1 i l, kup S.2.2.2.1 i cap, S.2.2.2.2) := by
  obtain ⟨h0, ⟨g, h1, h1'⟩, h2, h3, h4, h5, h6, h7, ⟨t0, t1, t2, t3, t4⟩, t5, h8⟩ := h
  have hK7 := h8.2.2
  obtain ⟨g2, k2, k2'⟩ := h2
  obtain ⟨g3, k3, k3'⟩ := h3
  obtain ⟨g4, k4, k4'⟩ := h4
  have a0 := hs _ _ (by omega) (by omega) (by omega) (by omega) (by omega) h0
  have a1 := hs _ _ (by omega) (by omega) (by omega) (by omega) (by omega) h1
  have a2 := hs _ _ (by omega) (by omega) (by omega) (by omega) (by omega) k2
  have a3 := hs _ _ (by omega) (by omega) (by omega) (by omega) (by omega) k3
  have a4 := hs _ _ (by omega) (by omega) (by omega) (by omega) (by omega) k4
  refine ⟨a0.1, ⟨g, a1.1, h1'⟩, ⟨g2, a2.1, k2'⟩, ⟨g3, a3.1, k3'⟩, ⟨g4, a4.1, k4'⟩, fun k hk => ?_, fun k hk => ?_, fun k hk => ?_, ⟨by rw [a0.2]; exact t0, by rw [a1.2]; exact t1, by rw [a2.2]; exact t2, by rw [a3.2]; exact t3, by rw [a4.2]; exact t4⟩, fun k hk => ?_, h8⟩
  · by_cases hki : k = i
    · subst hki; dsimp only; rw [kup_self]; exact hn
    · dsimp only; rw [kup_ne _ _ hki]
      have := t5 k hk
      exact (hs _ _ (by omega) (by omega) (by omega) (by omega) (by omega) (h5 k hk)).1
  · by_cases hki : k = i
    · subst hki; dsimp only; rw [kup_self]; exact hm
    · dsimp only; rw [kup_ne _ _ hki]
      have := t5 k hk
      exact (h6 k hk).go (fun e he => (hs _ _ (by omega) (by omega) (by omega) (by omega) (by omega) he).1)
  · by_cases hki : k = i
    · subst hki; dsimp only; rw [kup_self, kup_self]; exact hq
    · dsimp only; rw [kup_ne _ _ hki, kup_ne _ _ hki]
      have := t5 k hk
      exact (h7 k hk).go (fun b e hb he => hs b e (by rcases hb with rfl | hb | hb <;> omega) (by rcases hb with rfl | hb | hb <;> omega) (by rcases hb with rfl | hb | hb <;> omega) (by rcases hb with rfl | hb | hb <;> omega) (by rcases hb with rfl | hb | hb <;> omega) he)
  · by_cases hki : k = i
    · subst hki; exact ht
    · have := t5 k hk
      obtain ⟨gg, z1, -⟩ := h6 k hk
      obtain ⟨ea0, mo, z4, -⟩ := h7 k hk
      rw [(hs _ _ (by omega) (by omega) (by omega) (by omega) (by omega) (h5 k hk)).2, (hs _ _ (by omega) (by omega) (by omega) (by omega) (by omega) z1).2, (hs _ _ (by omega) (by omega) (by omega) (by omega) (by omega) z4).2]
      exact this
def k_rst (S : kS) (i : Nat) : kS := (kup S.1 i kv0, kup S.2.1 i (fun _ => -1), kup S.2.2.1 i [], kup S.2.2.2.1 i (S.2.2.2.1 i), S.2.2.2.2)
def k_rsts (S : kS) : Nat → kS
  | 0 => S
  | k + 1 => k_rst (k_rsts S k) k
def k_begin (S : kS) : kS := ((k_rsts S 7).1, (k_rsts S 7).2.1, (k_rsts S 7).2.2.1, (k_rsts S 7).2.2.2.1, 0, (k_rsts S 7).2.2.2.2.2)
/-- behind a node's reset -/
theorem kH.rst {K i ea : Nat} {cI cO cN : ClassId} {de : Nat} {ad τ : Nat → Nat} {L : List Nat} {f : Nat → va_E} {E : kE} {S : kS} {mo : Int32} {u : hp_U} (h : kH K cI cO cN de ad τ L f E S) (hdeL : de ∉ L) (hi : i < K) (hqa : hp_at L f (ad (30 + i)) (ka ea (nI (S.2.2.1 i).length) mo)) (hQr : kQr cO de τ L f i ea (S.2.2.2.1 i) (S.2.2.1 i)) (hu : kr cI cO (ad (10 + i)) i (ad (20 + i)) (ad (30 + i)) ea (S.2.2.1 i).length mo L f u) : kH K cI cO cN de ad τ u.1 u.2 E (k_rst S i) ∧ kFr τ L f τ u := by
  obtain ⟨u1, u2, ⟨g1, u3, u3'⟩, u4, u5, u6, u7⟩ := hu
  have hK7 := h.2.2.2.2.2.2.2.2.2.2.2.2
  have t := h.2.2.2.2.2.2.2.2.2.1 i hi
  have hnd := h.2.2.2.2.2.1 i hi
  obtain ⟨gm, hm, -⟩ := h.2.2.2.2.2.2.1 i hi
  have hea : ∀ b, b ∈ L → τ b ≠ 40 + i → b ≠ ea := fun b hb hb2 z => by
    rcases hQr with ⟨z1, -⟩ | ⟨z1, -⟩
    · exact hdeL (z1 ▸ z ▸ hb)
    · exact hb2 (z ▸ z1)
  have o : ∀ b e, hp_at L f b e → τ b ≠ 10 + i → τ b ≠ 20 + i → τ b ≠ 30 + i → τ b ≠ 40 + i → hp_at u.1 u.2 b e := fun b e hb h1 h2 h3 h4 =>
    ⟨by rw [u1]; exact hb.1, (u5 b (fun z => h1 (by rw [z]; exact t.1)) (fun z => h2 (by rw [z]; exact t.2.1)) (fun z => h3 (by rw [z]; exact t.2.2)) (hea b hb.1 h4)).trans hb.2⟩
  refine ⟨h.goN hi (fun a e _ x1 x2 x3 x4 x5 => ⟨o a e x5 x1 x2 x3 x4, rfl⟩) t ⟨by rw [u1]; exact hnd.1, u2⟩ ⟨g1, ⟨by rw [u1]; exact hm.1, u3⟩, u3'⟩ ⟨ea, mo + 1, ⟨by rw [u1]; exact hqa.1, u4⟩, ?_⟩, fun b hb => ⟨by rw [u1]; exact hb, fun hb2 => ⟨u5 b (fun z => by rw [z] at hb2; omega) (fun z => by rw [z] at hb2; omega) (fun z => by rw [z] at hb2; omega) (hea b hb (by omega)), rfl⟩⟩⟩
  rcases hQr with ⟨z1, z2, z3⟩ | ⟨z1, z2, z3, g, z4, z5⟩
  · exact Or.inl ⟨z1, rfl, z3⟩
  · obtain ⟨g2, z6⟩ := u7 _ g z4
    exact Or.inr ⟨z1, z2, Nat.zero_le _, g2, ⟨by rw [u1]; exact z4.1, z6⟩, fun k x hx => by simp at hx⟩
set_option maxHeartbeats 4000000 in
set_option maxRecDepth 100000 in
theorem c_G_begin (l : Launch) (D : va_G) (tys : List (ClassId × FieldType)) (de : Nat) (sa : Nat → Nat) {L : List Nat} {f : Nat → va_E} {n : Nat} {ad τ : Nat → Nat} {E : kE} {S : kS} {cI cO cN : ClassId} (ht : tys[0]? = some (cI, .int)) (ht1 : tys[1]? = some (cO, .object "java/lang/Object")) (ht2 : tys[2]? = some (cN, .object "MergingFragments$Node")) (hG : kG cI cO cN de ad τ L f E S) (h1n : 1 ≤ n) (hn7 : n ≤ 7) (hlen : ∀ i, i < 7 → (S.2.2.1 i).length < 2 ^ 19) : hp_Mv l y_G_begin (gw_ws y_G_begin b_G_begin 3 none) { frames := 5, cells := 0, slots := 0, locals := 115 } D kc tys (s_X de sa) [.ref (ad 0), .int (nI n)] L f (kP cI cO cN de ad τ L f (n, 0, E.2.2) (k_begin S)) 0 0 := by
  refine hp_ofW (Qc := fun A => va_Qv (kP cI cO cN de ad τ L f (n, 0, E.2.2) (k_begin S)) (hp_B D kc A) A) (fr := fun A => A) (ret := none) (by decide) rfl (Nat.le_of_ble_eq_true rfl) ?_
  intro p e s m below meth c ls A hx hb hml hr hts hown hlk hnm hl hK hX h
  have hg : ∀ w ∈ gw, w.before _ s = true := fun w hw => hts w (List.mem_cons_of_mem _ hw)
  have hown : s.vm.findClass "MergingFragments" = some m.cls := hown
  have hnm : meth.name = "begin" := hnm
  have hl : lv_has ls 3 [(0, .ref (ad 0)), (1, .int (nI n))] := hl
  have hF : kFr τ L f τ (L, f) := kFr.rf
  refine lv_iload_n hx hb d_G_begin_0 rfl (lv_at hl 1 rfl) ?_
  refine lv_iconst (v := 1) hx hb d_G_begin_1 (by decide) ?_
  refine lv_icmp_lt (tgt := 11) hx hb d_G_begin_2 (by decide) (fun hc => ?_) (fun hc => ?_)
  · skip
    exact absurd (show (1 : Int32) ≤ nI n from nI_le (a := 1) h1n (by omega)) (Int32.not_le.mpr hc)
  · skip
    refine lv_iload_n hx hb d_G_begin_5 rfl (lv_at hl 1 rfl) ?_
    refine lv_bipush (v := 7) hx hb d_G_begin_6 (by decide) ?_
    refine lv_icmp_le (tgt := 21) hx hb d_G_begin_8 (by decide) (fun hc2 => ?_) (fun hc2 => ?_)
    · skip
      refine lv_iconst (v := 0) hx hb d_G_begin_21 (by decide) ?_
      refine lv_istore_n (lv' := [(2, .int 0), (0, .ref (ad 0)), (1, .int (nI n))]) hx hb d_G_begin_22 rfl hl (by decide) rfl (fun ls hl => ?_)
      have key : ∀ (d k : Nat) (T : kS) (Lk : List Nat) (fk : Nat → va_E) (H : Heap) (locs : List Loc) (ls : Array Slot), k + d = 7 → T = k_rsts S k → (∀ i, i < 7 → (T.2.2.1 i).length < 2 ^ 19) → kG cI cO cN de ad τ Lk fk E T → kFr τ L f τ (Lk, fk) → lv_has ls 3 [(2, .int (nI k)), (0, .ref (ad 0)), (1, .int (nI n))] → hp_W D kc A s.heap Lk fk H locs → W p l e { frames := 5, cells := 0, slots := 0, locals := 115 } s m ([.ref (ad 0), .int (nI n)] : List Value).toArray below meth c H locs 0 0 (MQ below (va_Qv (kP cI cO cN de ad τ L f (n, 0, E.2.2) (k_begin S)) (hp_B D kc A) A) ([.ref (ad 0), .int (nI n)] : List Value).toArray s 0 0 A) (F0 m 23 ls []) := by
        intro d
        induction d with
        | zero =>
          intro k T Lk fk H locs ls hkd hT hlen hG hF hl h
          refine lv_iload_n hx hb d_G_begin_23 rfl (lv_at hl 0 rfl) ?_
          refine lv_bipush (v := 7) hx hb d_G_begin_24 (by decide) ?_
          refine lv_icmp_ge (tgt := 44) hx hb d_G_begin_26 (by decide) (fun hc3 => ?_) (fun hc3 => ?_)
          · skip
            have hk7 : k = 7 := by omega
            subst hk7
            subst hT
            have he := hG.1
            refine lv_aload_n hx hb d_G_begin_44 rfl (lv_at hl 1 rfl) ?_
            refine lv_iload_n hx hb d_G_begin_45 rfl (lv_at hl 2 rfl) ?_
            refine hp_put (ty := .int) (v := .int (nI n)) (fs' := [.ref (ad 1), .ref (ad 2), .ref (ad 3), .ref (ad 4), .int (nI n), .int (nI E.2.1), .int (k_rsts S 7).2.2.2.2.1]) hx hb hg in_G t_G t_G_ok n_G hown hK h he rfl 4 (by decide) (hg _ w131) (fun _ z => z) rfl (by decide +kernel) rfl rfl (Nat.le_of_ble_eq_true rfl) rfl d_G_begin_46 (fun H locs f1 hf1 h => ?_)
            have hF := hF.trans (kFr.w (L := Lk) hf1 hG.2.2.2.2.2.2.2.2.1.1 (by omega) (by omega))
            have hG := hG.wO (f1 := f1) (n := n) (m := E.2.1) (sc := (k_rsts S 7).2.2.2.2.1) hn7 (Nat.le_refl _) hf1
            have he := hG.1
            refine lv_aload_n hx hb d_G_begin_49 rfl (lv_at hl 1 rfl) ?_
            refine lv_iconst (v := 0) hx hb d_G_begin_50 (by decide) ?_
            refine hp_put (ty := .int) (v := .int 0) (fs' := [.ref (ad 1), .ref (ad 2), .ref (ad 3), .ref (ad 4), .int (nI n), .int 0, .int (k_rsts S 7).2.2.2.2.1]) hx hb hg in_G t_G t_G_ok n_G hown hK h he rfl 5 (by decide) (hg _ w132) (fun _ z => z) rfl (by decide +kernel) rfl rfl (Nat.le_of_ble_eq_true rfl) rfl d_G_begin_51 (fun H locs f2 hf2 h => ?_)
            have hF := hF.trans (kFr.w (L := Lk) hf2 hG.2.2.2.2.2.2.2.2.1.1 (by omega) (by omega))
            have hG := hG.wO (f1 := f2) (n := n) (m := 0) (sc := (k_rsts S 7).2.2.2.2.1) hn7 (Nat.zero_le _) hf2
            have he := hG.1
            refine lv_aload_n hx hb d_G_begin_54 rfl (lv_at hl 1 rfl) ?_
            refine lv_iconst (v := 0) hx hb d_G_begin_55 (by decide) ?_
            refine hp_put (ty := .int) (v := .int 0) (fs' := [.ref (ad 1), .ref (ad 2), .ref (ad 3), .ref (ad 4), .int (nI n), .int (nI 0), .int 0]) hx hb hg in_G t_G t_G_ok n_G hown hK h he rfl 6 (by decide) (hg _ w133) (fun _ z => z) rfl (by decide +kernel) rfl rfl (Nat.le_of_ble_eq_true rfl) rfl d_G_begin_56 (fun H locs f3 hf3 h => ?_)
            have hF := hF.trans (kFr.w (L := Lk) hf3 hG.2.2.2.2.2.2.2.2.1.1 (by omega) (by omega))
            have hG := hG.wO (f1 := f3) (n := n) (m := 0) (sc := 0) hn7 (Nat.le_refl _) hf3
            exact hp_vret hx hb hr hlk h ⟨_, hG, hF⟩ (by omega) (by omega) d_G_begin_59
          · skip
            exact absurd (show (7 : Int32) ≤ nI k from nI_le (a := 7) (by omega) (by omega)) hc3
        | succ d ih =>
          intro k T Lk fk H locs ls hkd hT hlen hG hF hl h
          refine lv_iload_n hx hb d_G_begin_23 rfl (lv_at hl 0 rfl) ?_
          refine lv_bipush (v := 7) hx hb d_G_begin_24 (by decide) ?_
          refine lv_icmp_ge (tgt := 44) hx hb d_G_begin_26 (by decide) (fun hc3 => ?_) (fun hc3 => ?_)
          · skip
            exact absurd hc3 (nI_ge (b := 7) (by omega) (by decide))
          · skip
            have hk7 : k < 7 := by omega
            have he := hG.1
            obtain ⟨gn, hn, hn1⟩ := hG.2.1
            have hnd := hG.2.2.2.2.2.1 k hk7
            obtain ⟨gm, hm, hm1⟩ := hG.2.2.2.2.2.2.1 k hk7
            obtain ⟨ea, mo, hqa, hQr⟩ := hG.2.2.2.2.2.2.2.1 k hk7
            have hdeL : de ∉ Lk := fun z => s_de hX (h.inA ⟨z, rfl⟩)
            have tk := hG.2.2.2.2.2.2.2.2.2.1 k hk7
            have hea : ∀ b, b ∈ Lk → τ b ≠ 40 + k → b ≠ ea := fun b hb hb2 z => by
              rcases hQr with ⟨z1, -⟩ | ⟨z1, -⟩
              · exact hdeL (z1 ▸ z ▸ hb)
              · exact hb2 (z ▸ z1)
            have hE : (T.2.2.1 k).length = 0 ∨ ∃ (cap : Nat) (g : Nat → Option Nat), hp_at Lk fk ea (.inl (cO, cap, .inr (.inr (.inr (.inr g))))) ∧ (T.2.2.1 k).length ≤ cap ∧ cap < 2 ^ 31 := by
              rcases hQr with ⟨-, z2, -⟩ | ⟨-, z2, z3, g, z4, -⟩
              · exact Or.inl (by rw [z2]; rfl)
              · exact Or.inr ⟨_, g, z4, z3, by omega⟩
            refine lv_aload_n hx hb d_G_begin_29 rfl (lv_at hl 1 rfl) ?_
            refine hp_get (v := .ref (ad 1)) hx hb hg in_G hown hK h he rfl 0 (by decide) (hg _ w127) (fun _ z => z) rfl d_G_begin_30 ?_
            refine lv_iload_n hx hb d_G_begin_33 rfl (lv_at hl 0 rfl) ?_
            refine hp_aald (j := k) hx hb hK h 2 hn ht2 rfl (by omega) (by decide) (hn1 k (by omega)) d_G_begin_34 ?_
            refine hp_callv (hp_runVN (As := []) (rest := []) ⟨hx, hb, hml, hown, hg⟩ (c_N_reset l D tys de sa (k := (T.2.2.1 k).length) ht ht1 (by have := hlen k hk7; omega) (kne tk.1 tk.2.1 (by omega)) (kne tk.1 tk.2.2 (by omega)) (kne tk.2.1 tk.2.2 (by omega)) (hea _ hnd.1 (by omega)) (hea _ hm.1 (by omega)) (hea _ hqa.1 (by omega)) hnd hm hqa hE) ⟨va_cnB 0 hg (gw_code w66) rfl rfl rfl (s_Nw hX n241) (hg _ w2) (by decide +kernel) ⟨Nat.le_of_ble_eq_true rfl, Nat.le_of_ble_eq_true rfl⟩, hg _ w65, hg _ ws0⟩ (s_ok de sa) hK hX h hnd rfl rfl rfl hl.1 rfl (Nat.le_of_ble_eq_true rfl) d_G_begin_35 ⟨Nat.le_refl _, Nat.le_refl _⟩) h (fun Ln fn H locs hp h => ?_)
            obtain ⟨hG, hFn⟩ := hG.rst hdeL hk7 hqa hQr hp
            have hF := hF.trans hFn
            dsimp only at hG
            refine lv_iinc (k := 0) (v := (nI (k + 1))) (lv' := [(2, .int (nI (k + 1))), (0, .ref (ad 0)), (1, .int (nI n))]) hx hb d_G_begin_38 hl rfl (hp_inc k 1) (by decide) rfl (fun ls hl => ?_)
            refine lv_goto (tgt := 23) hx hb d_G_begin_41 (by decide) ?_
            exact ih (k + 1) (k_rst T k) _ _ H locs ls (by omega) (by rw [hT]; rfl) (fun i hi => by
              show (kup T.2.2.1 k [] i).length < 2 ^ 19
              by_cases z : i = k
              · rw [z, kup_self]; simp
              · rw [kup_ne _ _ z]; exact hlen i hi) hG hF (lv_sub hl [0, 1, 2] rfl) h
      have hl0 : lv_has ls 3 [(2, .int (nI 0)), (0, .ref (ad 0)), (1, .int (nI n))] := lv_sub hl [0, 1, 2] rfl
      exact key 7 0 S _ _ _ _ ls (by omega) rfl hlen hG hF hl0 h
    · skip
      exact absurd (show nI n ≤ (7 : Int32) from nI_le (b := 7) hn7 (by decide)) hc2
