/-! Arrays.fill, ArrayList.clear, by program (wip/mk13.py). -/
theorem hp_updlt {g : Nat → Int32} {x : Int32} {j : Nat} (h : ∀ i, i < j → g i = x) : ∀ i, i < j + 1 → upd g j x i = x := by
  intro i hi
  by_cases e : i = j
  · subst e; exact pk_us
  · rw [pk_un e]; exact h i (by omega)
set_option maxHeartbeats 4000000 in
set_option maxRecDepth 100000 in
theorem c_As_fill (l : Launch) (D : va_G) (tys : List (ClassId × FieldType)) (de : Nat) (sa : Nat → Nat) {L : List Nat} {f : Nat → va_E} {a n : Nat} {x : Int32} {g : Nat → Int32} {cI : ClassId} (ht : tys[0]? = some (cI, .int)) (hn : n < 2 ^ 31) (hm : hp_at L f a (.inl (cI, n, .inl g))) : hp_Mv l y_As_fill (gw_ws y_As_fill b_As_fill 4 none) { frames := 0, cells := 0, slots := 0, locals := 0 } D kc tys (s_X de sa) [.ref a, .int x] L f (fun u => ∃ g', u = (L, va_up f a (.inl (cI, n, .inl g'))) ∧ ∀ i, i < n → g' i = x) 0 0 := by
  refine hp_ofW (Qc := fun A => va_Qv (fun u => ∃ g', u = (L, va_up f a (.inl (cI, n, .inl g'))) ∧ ∀ i, i < n → g' i = x) (hp_B D kc A) A) (fr := fun A => A) (ret := none) (by decide) rfl (Nat.le_of_ble_eq_true rfl) ?_
  intro p e s m below meth c ls A hx hb hml hr hts hown hlk hnm hl hK hX h
  have hg : ∀ w ∈ gw, w.before _ s = true := fun w hw => hts w (List.mem_cons_of_mem _ hw)
  have hown : s.vm.findClass "java/util/Arrays" = some m.cls := hown
  have hnm : meth.name = "fill" := hnm
  have hl : lv_has ls 4 [(0, .ref a), (1, .int x)] := hl
  refine lv_iconst (v := 0) hx hb d_As_fill_0 (by decide) ?_
  refine lv_istore_n (lv' := [(2, .int 0), (0, .ref a), (1, .int x)]) hx hb d_As_fill_1 rfl hl (by decide) rfl (fun ls hl => ?_)
  refine lv_aload_n hx hb d_As_fill_2 rfl (lv_at hl 1 rfl) ?_
  refine hp_alen (v := nI n) hx hb hK h 0 hm ht rfl d_As_fill_3 ?_
  refine lv_istore_n (lv' := [(3, .int (nI n)), (2, .int 0), (0, .ref a), (1, .int x)]) hx hb d_As_fill_4 rfl hl (by decide) rfl (fun ls hl => ?_)
  have key : ∀ (k j : Nat) (g1 : Nat → Int32) (f1 : Nat → va_E) (H : Heap) (locs : List Loc) (ls : Array Slot), j + k = n → lv_has ls 4 [(2, .int (nI j)), (3, .int (nI n)), (0, .ref a), (1, .int x)] → f1 = va_up f a (.inl (cI, n, .inl g1)) → hp_at L f1 a (.inl (cI, n, .inl g1)) → (∀ i, i < j → g1 i = x) → hp_W D kc A s.heap L f1 H locs → W p l e { frames := 0, cells := 0, slots := 0, locals := 0 } s m ([.ref a, .int x] : List Value).toArray below meth c H locs 0 0 (MQ below (va_Qv (fun u => ∃ g', u = (L, va_up f a (.inl (cI, n, .inl g'))) ∧ ∀ i, i < n → g' i = x) (hp_B D kc A) A) ([.ref a, .int x] : List Value).toArray s 0 0 A) (F0 m 5 ls []) := by
    intro k
    induction k with
    | zero =>
      intro j g1 f1 H locs ls hjk hl hf1 hm hgx h
      refine lv_iload_n hx hb d_As_fill_5 rfl (lv_at hl 0 rfl) ?_
      refine lv_iload_n hx hb d_As_fill_6 rfl (lv_at hl 1 rfl) ?_
      refine lv_icmp_ge (tgt := 20) hx hb d_As_fill_7 (by decide) (fun hc => ?_) (fun hc => ?_)
      · skip
        exact hp_vret hx hb hr hlk h ⟨g1, by rw [hf1], fun i hi => hgx i (by omega)⟩ (by omega) (by omega) d_As_fill_20
      · skip
        exact absurd (nI_le (by omega) (by omega)) hc
    | succ k ih =>
      intro j g1 f1 H locs ls hjk hl hf1 hm hgx h
      refine lv_iload_n hx hb d_As_fill_5 rfl (lv_at hl 0 rfl) ?_
      refine lv_iload_n hx hb d_As_fill_6 rfl (lv_at hl 1 rfl) ?_
      refine lv_icmp_ge (tgt := 20) hx hb d_As_fill_7 (by decide) (fun hc => ?_) (fun hc => ?_)
      · skip
        exact absurd hc (nI_ge (by omega) hn)
      · skip
        refine lv_aload_n hx hb d_As_fill_10 rfl (lv_at hl 2 rfl) ?_
        refine lv_iload_n hx hb d_As_fill_11 rfl (lv_at hl 0 rfl) ?_
        refine lv_iload_n hx hb d_As_fill_12 rfl (lv_at hl 3 rfl) ?_
        refine hp_iast hx hb hK h 0 hm ht rfl (by omega) hn d_As_fill_13 (fun H locs f2 hf2 h => ?_)
        have hm := hm.self' hf2
        refine lv_iinc (k := 0) (v := (nI (j + 1))) (lv' := [(2, .int (nI (j + 1))), (3, .int (nI n)), (0, .ref a), (1, .int x)]) hx hb d_As_fill_14 hl rfl (hp_inc j 1) (by decide) rfl (fun ls hl => ?_)
        refine lv_goto (tgt := 5) hx hb d_As_fill_17 (by decide) ?_
        exact ih (j + 1) (upd g1 j x) f2 H locs ls (by omega) hl (by rw [hf2, hf1, bx_uu]) hm (hp_updlt hgx) h
  have hl0 : lv_has ls 4 [(2, .int (nI 0)), (3, .int (nI n)), (0, .ref a), (1, .int x)] := by rw [nI_0]; exact lv_sub hl [1, 0, 2, 3] rfl
  exact key n 0 g f _ _ ls (by omega) hl0 (hp_upself hm).symm hm (fun i hi => absurd hi (by omega)) h

set_option maxHeartbeats 4000000 in
set_option maxRecDepth 100000 in
theorem c_A_clear (l : Launch) (D : va_G) (tys : List (ClassId × FieldType)) (de : Nat) (sa : Nat → Nat) {L : List Nat} {f : Nat → va_E} {a ea k : Nat} {mo : Int32} {cO : ClassId} (ht : tys[1]? = some (cO, .object "java/lang/Object")) (hk : k < 2 ^ 31) (he : hp_at L f a (ka ea (nI k) mo)) (hE : k = 0 ∨ ∃ (cap : Nat) (g : Nat → Option Nat), hp_at L f ea (.inl (cO, cap, .inr (.inr (.inr (.inr g))))) ∧ k ≤ cap ∧ cap < 2 ^ 31 ∧ a ≠ ea) : hp_Mv l y_A_clear (gw_ws y_A_clear b_A_clear 4 none) { frames := 0, cells := 0, slots := 0, locals := 0 } D kc tys (s_X de sa) [.ref a] L f (fun u : hp_U => u.1 = L ∧ u.2 a = ka ea 0 (mo + 1) ∧ (∀ b, b ≠ a → b ≠ ea → u.2 b = f b) ∧ (k = 0 → u.2 = va_up f a (ka ea 0 (mo + 1))) ∧ (∀ cap g, hp_at L f ea (.inl (cO, cap, .inr (.inr (.inr (.inr g))))) → a ≠ ea → ∃ g', u.2 ea = .inl (cO, cap, .inr (.inr (.inr (.inr g')))))) 0 0 := by
  refine hp_ofW (Qc := fun A => va_Qv (fun u : hp_U => u.1 = L ∧ u.2 a = ka ea 0 (mo + 1) ∧ (∀ b, b ≠ a → b ≠ ea → u.2 b = f b) ∧ (k = 0 → u.2 = va_up f a (ka ea 0 (mo + 1))) ∧ (∀ cap g, hp_at L f ea (.inl (cO, cap, .inr (.inr (.inr (.inr g))))) → a ≠ ea → ∃ g', u.2 ea = .inl (cO, cap, .inr (.inr (.inr (.inr g')))))) (hp_B D kc A) A) (fr := fun A => A) (ret := none) (by decide) rfl (Nat.le_of_ble_eq_true rfl) ?_
  intro p e s m below meth c ls A hx hb hml hr hts hown hlk hnm hl hK hX h
  have hg : ∀ w ∈ gw, w.before _ s = true := fun w hw => hts w (List.mem_cons_of_mem _ hw)
  have hown : s.vm.findClass "java/util/ArrayList" = some m.cls := hown
  have hnm : meth.name = "clear" := hnm
  have hl : lv_has ls 4 [(0, .ref a)] := hl
  refine lv_aload_n hx hb d_A_clear_0 rfl (lv_at hl 0 rfl) ?_
  refine lv_dup hx hb d_A_clear_1 rfl ?_
  refine hp_get (v := .int mo) hx hb hg in_A hown hK h he rfl 2 (by decide) (hg _ w53) (fun x9 h9 => u_same (hg _ w54) x9 h9) rfl d_A_clear_2 ?_
  refine lv_iconst (v := 1) hx hb d_A_clear_5 (by decide) ?_
  refine lv_iadd hx hb d_A_clear_6 ?_
  refine hp_put (ty := .int) (v := .int (mo + 1)) (fs' := [.ref ea, .int (nI k), .int (mo + 1)]) hx hb hg in_A t_A t_A_ok n_A hown hK h he rfl 2 (by decide) (hg _ w53) (fun x9 h9 => u_same (hg _ w54) x9 h9) rfl (by decide +kernel) rfl rfl (Nat.le_of_ble_eq_true rfl) rfl d_A_clear_7 (fun H locs f1 hf1 h => ?_)
  have he := he.self' hf1
  refine lv_aload_n hx hb d_A_clear_10 rfl (lv_at hl 0 rfl) ?_
  refine hp_get (v := .ref ea) hx hb hg in_A hown hK h he rfl 0 (by decide) (hg _ w50) (fun _ z => z) rfl d_A_clear_11 ?_
  refine lv_astore_n (lv' := [(1, .ref ea), (0, .ref a)]) hx hb d_A_clear_14 rfl hl (by decide) rfl (fun ls hl => ?_)
  refine lv_aload_n hx hb d_A_clear_15 rfl (lv_at hl 1 rfl) ?_
  refine hp_get (v := .int (nI k)) hx hb hg in_A hown hK h he rfl 1 (by decide) (hg _ w51) (fun _ z => z) rfl d_A_clear_16 ?_
  refine lv_istore_n (lv' := [(2, .int (nI k)), (1, .ref ea), (0, .ref a)]) hx hb d_A_clear_19 rfl hl (by decide) rfl (fun ls hl => ?_)
  refine lv_aload_n hx hb d_A_clear_20 rfl (lv_at hl 2 rfl) ?_
  refine lv_iconst (v := 0) hx hb d_A_clear_21 (by decide) ?_
  refine lv_dup_x1 hx hb d_A_clear_22 rfl rfl ?_
  refine hp_put (ty := .int) (v := .int 0) (fs' := [.ref ea, .int 0, .int (mo + 1)]) hx hb hg in_A t_A t_A_ok n_A hown hK h he rfl 1 (by decide) (hg _ w51) (fun _ z => z) rfl (by decide +kernel) rfl rfl (Nat.le_of_ble_eq_true rfl) rfl d_A_clear_23 (fun H locs f2 hf2 h => ?_)
  have he := he.self' hf2
  refine lv_istore_n (lv' := [(3, .int 0), (2, .int (nI k)), (1, .ref ea), (0, .ref a)]) hx hb d_A_clear_26 rfl hl (by decide) rfl (fun ls hl => ?_)
  rcases hE with h0 | ⟨cap, g, hE, hkc, hcap, hne⟩
  · skip
    subst h0
    refine lv_iload_n hx hb d_A_clear_27 rfl (lv_at hl 0 rfl) ?_
    refine lv_iload_n hx hb d_A_clear_28 rfl (lv_at hl 1 rfl) ?_
    refine lv_icmp_ge (tgt := 42) hx hb d_A_clear_29 (by decide) (fun hc => ?_) (fun hc => ?_)
    · skip
      exact hp_vret hx hb hr hlk h ⟨rfl, by dsimp only; rw [hf2, va_up_self], fun b h1 h2 => by dsimp only; rw [hf2, hf1, bx_uu, va_up_ne _ _ h1], fun _ => by dsimp only; rw [hf2, hf1, bx_uu], fun cap g hq hne => ⟨g, by dsimp only; rw [hf2, hf1, bx_uu, va_up_ne _ _ (Ne.symm hne)]; exact hq.2⟩⟩ (by omega) (by omega) d_A_clear_42
    · skip
      exact absurd (by decide) hc
  · by_cases hk0 : k = 0
    · have h0 := hk0
      subst h0
      refine lv_iload_n hx hb d_A_clear_27 rfl (lv_at hl 0 rfl) ?_
      refine lv_iload_n hx hb d_A_clear_28 rfl (lv_at hl 1 rfl) ?_
      refine lv_icmp_ge (tgt := 42) hx hb d_A_clear_29 (by decide) (fun hc => ?_) (fun hc => ?_)
      · skip
        exact hp_vret hx hb hr hlk h ⟨rfl, by dsimp only; rw [hf2, va_up_self], fun b h1 h2 => by dsimp only; rw [hf2, hf1, bx_uu, va_up_ne _ _ h1], fun _ => by dsimp only; rw [hf2, hf1, bx_uu], fun cap g hq hne => ⟨g, by dsimp only; rw [hf2, hf1, bx_uu, va_up_ne _ _ (Ne.symm hne)]; exact hq.2⟩⟩ (by omega) (by omega) d_A_clear_42
      · skip
        exact absurd (by decide) hc
    · have hkz : ∀ {P : Prop}, k = 0 → P := fun hz => absurd hz hk0
      have key : ∀ (d j : Nat) (g1 : Nat → Option Nat) (f3 : Nat → va_E) (H : Heap) (locs : List Loc) (ls : Array Slot), j + d = k → lv_has ls 4 [(3, .int (nI j)), (2, .int (nI k)), (1, .ref ea), (0, .ref a)] → f3 = va_up (va_up f a (ka ea 0 (mo + 1))) ea (.inl (cO, cap, .inr (.inr (.inr (.inr g1))))) → hp_at L f3 ea (.inl (cO, cap, .inr (.inr (.inr (.inr g1))))) → hp_W D kc A s.heap L f3 H locs → W p l e { frames := 0, cells := 0, slots := 0, locals := 0 } s m ([.ref a] : List Value).toArray below meth c H locs 0 0 (MQ below (va_Qv (fun u : hp_U => u.1 = L ∧ u.2 a = ka ea 0 (mo + 1) ∧ (∀ b, b ≠ a → b ≠ ea → u.2 b = f b) ∧ (k = 0 → u.2 = va_up f a (ka ea 0 (mo + 1))) ∧ (∀ cap g, hp_at L f ea (.inl (cO, cap, .inr (.inr (.inr (.inr g))))) → a ≠ ea → ∃ g', u.2 ea = .inl (cO, cap, .inr (.inr (.inr (.inr g')))))) (hp_B D kc A) A) ([.ref a] : List Value).toArray s 0 0 A) (F0 m 27 ls []) := by
        intro d
        induction d with
        | zero =>
          intro j g1 f3 H locs ls hjk hl hf3 hm h
          refine lv_iload_n hx hb d_A_clear_27 rfl (lv_at hl 0 rfl) ?_
          refine lv_iload_n hx hb d_A_clear_28 rfl (lv_at hl 1 rfl) ?_
          refine lv_icmp_ge (tgt := 42) hx hb d_A_clear_29 (by decide) (fun hc => ?_) (fun hc => ?_)
          · skip
            exact hp_vret hx hb hr hlk h ⟨rfl, by dsimp only; rw [hf3, va_up_ne _ _ hne, va_up_self], fun b h1 h2 => by dsimp only; rw [hf3, va_up_ne _ _ h2, va_up_ne _ _ h1], fun hz => hkz hz, fun cap2 g2 hq _ => ⟨g1, by have := hq.2.symm.trans hE.2; cases this; dsimp only; rw [hf3, va_up_self]⟩⟩ (by omega) (by omega) d_A_clear_42
          · skip
            exact absurd (nI_le (by omega) (by omega)) hc
        | succ d ih =>
          intro j g1 f3 H locs ls hjk hl hf3 hm h
          refine lv_iload_n hx hb d_A_clear_27 rfl (lv_at hl 0 rfl) ?_
          refine lv_iload_n hx hb d_A_clear_28 rfl (lv_at hl 1 rfl) ?_
          refine lv_icmp_ge (tgt := 42) hx hb d_A_clear_29 (by decide) (fun hc => ?_) (fun hc => ?_)
          · skip
            exact absurd hc (nI_ge (by omega) hk)
          · skip
            refine lv_aload_n hx hb d_A_clear_32 rfl (lv_at hl 2 rfl) ?_
            refine lv_iload_n hx hb d_A_clear_33 rfl (lv_at hl 0 rfl) ?_
            refine lv_null hx hb d_A_clear_34 ?_
            refine hp_aastN hx hb hK h 1 hm ht rfl (by omega) hcap d_A_clear_35 (fun H locs f4 hf4 h => ?_)
            have hm := hm.self' hf4
            refine lv_iinc (k := 0) (v := (nI (j + 1))) (lv' := [(3, .int (nI (j + 1))), (2, .int (nI k)), (1, .ref ea), (0, .ref a)]) hx hb d_A_clear_36 hl rfl (hp_inc j 1) (by decide) rfl (fun ls hl => ?_)
            refine lv_goto (tgt := 27) hx hb d_A_clear_39 (by decide) ?_
            exact ih (j + 1) (va_up g1 j none) f4 H locs ls (by omega) hl (by rw [hf4, hf3, bx_uu]) hm h
      have hE2 := (hE.ne' hf1 (Ne.symm hne)).ne' hf2 (Ne.symm hne)
      have hl0 : lv_has ls 4 [(3, .int (nI 0)), (2, .int (nI k)), (1, .ref ea), (0, .ref a)] := by rw [nI_0]; exact lv_sub hl [0, 1, 2, 3] rfl
      exact key k 0 g f2 _ _ ls (by omega) hl0 (by rw [← hp_upself hE2, hf2, hf1, bx_uu]) hE2 h
