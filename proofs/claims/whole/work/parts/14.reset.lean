/-! Node.reset, Node(int), by program (wip/mk14.py). -/
def kv0 : Nat → Int32 := fun k => match k with
  | 4 => -1
  | 5 => -1
  | 6 => 100
  | 7 => -1
  | _ => 0
/-- a node's cells behind reset: what lies where; nothing else has changed -/
def kr (cI cO : ClassId) (a i ma qa ea k : Nat) (mo : Int32) (L : List Nat) (f : Nat → va_E) (u : hp_U) : Prop :=
  u.1 = L ∧ u.2 a = kn i ma qa kv0 ∧ (∃ g' : Nat → Int32, u.2 ma = .inl (cI, 12, .inl g') ∧ ∀ i, i < 12 → g' i = -1) ∧ u.2 qa = ka ea 0 (mo + 1) ∧
  (∀ b, b ≠ a → b ≠ ma → b ≠ qa → b ≠ ea → u.2 b = f b) ∧ (k = 0 → u.2 ea = f ea) ∧ (∀ cap g, hp_at L f ea (.inl (cO, cap, .inr (.inr (.inr (.inr g))))) → ∃ g', u.2 ea = .inl (cO, cap, .inr (.inr (.inr (.inr g')))))
set_option maxHeartbeats 4000000 in
set_option maxRecDepth 100000 in
theorem c_N_reset (l : Launch) (D : va_G) (tys : List (ClassId × FieldType)) (de : Nat) (sa : Nat → Nat) {L : List Nat} {f : Nat → va_E} {a i ma qa ea k : Nat} {v g0 : Nat → Int32} {mo : Int32} {cI cO : ClassId} (ht : tys[0]? = some (cI, .int)) (ht1 : tys[1]? = some (cO, .object "java/lang/Object")) (hk : k < 2 ^ 31) (h1 : a ≠ ma) (h2 : a ≠ qa) (h3 : ma ≠ qa) (h4 : a ≠ ea) (h5 : ma ≠ ea) (h6 : qa ≠ ea) (he : hp_at L f a (kn i ma qa v)) (hm : hp_at L f ma (.inl (cI, 12, .inl g0))) (hq : hp_at L f qa (ka ea (nI k) mo)) (hE : k = 0 ∨ ∃ (cap : Nat) (g : Nat → Option Nat), hp_at L f ea (.inl (cO, cap, .inr (.inr (.inr (.inr g))))) ∧ k ≤ cap ∧ cap < 2 ^ 31) : hp_Mv l y_N_reset (gw_ws y_N_reset b_N_reset 1 none) { frames := 1, cells := 0, slots := 0, locals := 24 } D kc tys (s_X de sa) [.ref a] L f (kr cI cO a i ma qa ea k mo L f) 0 0 := by
  refine hp_ofW (Qc := fun A => va_Qv (kr cI cO a i ma qa ea k mo L f) (hp_B D kc A) A) (fr := fun A => A) (ret := none) (by decide) rfl (Nat.le_of_ble_eq_true rfl) ?_
  intro p e s m below meth c ls A hx hb hml hr hts hown hlk hnm hl hK hX h
  have hg : ∀ w ∈ gw, w.before _ s = true := fun w hw => hts w (List.mem_cons_of_mem _ hw)
  have hown : s.vm.findClass "MergingFragments$Node" = some m.cls := hown
  have hnm : meth.name = "reset" := hnm
  have hl : lv_has ls 1 [(0, .ref a)] := hl
  refine lv_aload_n hx hb d_N_reset_0 rfl (lv_at hl 0 rfl) ?_
  refine hp_get (v := .ref ma) hx hb hg in_N hown hK h he rfl 1 (by decide) (hg _ w80) (fun _ z => z) rfl d_N_reset_1 ?_
  refine lv_iconst (v := (-1)) hx hb d_N_reset_4 (by decide) ?_
  refine hp_callv (hp_runS (As := [.ref ma, .int (-1)]) (rest := []) ⟨hx, hb, hml, hown, hg⟩ (c_As_fill l D tys de sa ht (by decide) hm) (va_cwS 2 hg (gw_S w67 w68 w6 w69) rfl rfl rfl (by decide +kernel) ⟨Nat.le_of_ble_eq_true rfl, Nat.le_of_ble_eq_true rfl⟩) (s_ok de sa) hK hX h rfl hl.1 rfl (Nat.le_of_ble_eq_true rfl) d_N_reset_5 ⟨Nat.le_of_ble_eq_true rfl, Nat.le_of_ble_eq_true rfl⟩) h (fun L1 f1 H locs hp h => ?_)
  obtain ⟨g1, hp1, hgx⟩ := hp
  obtain ⟨hL1, hf1⟩ := Prod.mk.inj hp1
  have hL1 := hL1.symm
  subst hL1
  have he := he.ne' hf1 h1
  have hm := hm.self' hf1
  have hq := hq.ne' hf1 (Ne.symm h3)
  have hE : k = 0 ∨ ∃ (cap : Nat) (g : Nat → Option Nat), hp_at L f1 ea (.inl (cO, cap, .inr (.inr (.inr (.inr g))))) ∧ k ≤ cap ∧ cap < 2 ^ 31 ∧ qa ≠ ea := hE.imp id (fun ⟨cap, g, z1, z2, z3⟩ => ⟨cap, g, z1.ne' hf1 (Ne.symm h5), z2, z3, h6⟩)
  refine lv_aload_n hx hb d_N_reset_8 rfl (lv_at hl 0 rfl) ?_
  refine hp_get (v := .ref qa) hx hb hg in_N hown hK h he rfl 2 (by decide) (hg _ w82) (fun _ z => z) rfl d_N_reset_9 ?_
  refine hp_callv (hp_runV (As := []) (rest := []) ⟨hx, hb, hml, hown, hg⟩ (c_A_clear l D tys de sa ht1 hk hq hE) (cwV 0 hg (gw_V w70 w71 w72 w5 w73) rfl rfl rfl (by decide +kernel) ⟨Nat.le_of_ble_eq_true rfl, Nat.le_of_ble_eq_true rfl⟩) (s_ok de sa) hK hX h hq rfl rfl rfl hl.1 rfl (Nat.le_of_ble_eq_true rfl) d_N_reset_12 ⟨Nat.le_of_ble_eq_true rfl, Nat.le_of_ble_eq_true rfl⟩) h (fun L2 f2 H locs hp h => ?_)
  have hL2 : L = L2 := hp.1.symm
  subst hL2
  obtain ⟨-, hq2, ho2, hz2, ha2⟩ := hp
  have he : hp_at L f2 a (kn i ma qa v) := ⟨he.1, (ho2 a h2 h4).trans he.2⟩
  have hm : hp_at L f2 ma (.inl (cI, 12, .inl g1)) := ⟨hm.1, (ho2 ma h3 h5).trans hm.2⟩
  have hq : hp_at L f2 qa (ka ea 0 (mo + 1)) := ⟨hq.1, hq2⟩
  refine lv_aload_n hx hb d_N_reset_15 rfl (lv_at hl 0 rfl) ?_
  refine lv_iconst (v := 0) hx hb d_N_reset_16 (by decide) ?_
  refine hp_put (ty := .int) (v := .int 0) (fs' := [.int (nI i), .ref ma, .ref qa, .int 0, .int (v 1), .int (v 2), .int (v 3), .int (v 4), .int (v 5), .int (v 6), .int (v 7), .int (v 8)]) hx hb hg in_N t_N t_N_ok n_N hown hK h he rfl 3 (by decide) (hg _ w84) (fun _ z => z) rfl (by decide +kernel) rfl rfl (Nat.le_of_ble_eq_true rfl) rfl d_N_reset_17 (fun H locs f3 hf3 h => ?_)
  have he := he.self' hf3
  refine lv_aload_n hx hb d_N_reset_20 rfl (lv_at hl 0 rfl) ?_
  refine lv_iconst (v := 0) hx hb d_N_reset_21 (by decide) ?_
  refine hp_put (ty := .int) (v := .int 0) (fs' := [.int (nI i), .ref ma, .ref qa, .int 0, .int 0, .int (v 2), .int (v 3), .int (v 4), .int (v 5), .int (v 6), .int (v 7), .int (v 8)]) hx hb hg in_N t_N t_N_ok n_N hown hK h he rfl 4 (by decide) (hg _ w86) (fun _ z => z) rfl (by decide +kernel) rfl rfl (Nat.le_of_ble_eq_true rfl) rfl d_N_reset_22 (fun H locs f4 hf4 h => ?_)
  have he := he.self' hf4
  refine lv_aload_n hx hb d_N_reset_25 rfl (lv_at hl 0 rfl) ?_
  refine lv_iconst (v := 0) hx hb d_N_reset_26 (by decide) ?_
  refine hp_put (ty := .int) (v := .int 0) (fs' := [.int (nI i), .ref ma, .ref qa, .int 0, .int 0, .int 0, .int (v 3), .int (v 4), .int (v 5), .int (v 6), .int (v 7), .int (v 8)]) hx hb hg in_N t_N t_N_ok n_N hown hK h he rfl 5 (by decide) (hg _ w88) (fun _ z => z) rfl (by decide +kernel) rfl rfl (Nat.le_of_ble_eq_true rfl) rfl d_N_reset_27 (fun H locs f5 hf5 h => ?_)
  have he := he.self' hf5
  refine lv_aload_n hx hb d_N_reset_30 rfl (lv_at hl 0 rfl) ?_
  refine lv_iconst (v := 0) hx hb d_N_reset_31 (by decide) ?_
  refine hp_put (ty := .int) (v := .int 0) (fs' := [.int (nI i), .ref ma, .ref qa, .int 0, .int 0, .int 0, .int 0, .int (v 4), .int (v 5), .int (v 6), .int (v 7), .int (v 8)]) hx hb hg in_N t_N t_N_ok n_N hown hK h he rfl 6 (by decide) (hg _ w90) (fun _ z => z) rfl (by decide +kernel) rfl rfl (Nat.le_of_ble_eq_true rfl) rfl d_N_reset_32 (fun H locs f6 hf6 h => ?_)
  have he := he.self' hf6
  refine lv_aload_n hx hb d_N_reset_35 rfl (lv_at hl 0 rfl) ?_
  refine lv_iconst (v := (-1)) hx hb d_N_reset_36 (by decide) ?_
  refine hp_put (ty := .int) (v := .int (-1)) (fs' := [.int (nI i), .ref ma, .ref qa, .int 0, .int 0, .int 0, .int 0, .int (-1), .int (v 5), .int (v 6), .int (v 7), .int (v 8)]) hx hb hg in_N t_N t_N_ok n_N hown hK h he rfl 7 (by decide) (hg _ w92) (fun _ z => z) rfl (by decide +kernel) rfl rfl (Nat.le_of_ble_eq_true rfl) rfl d_N_reset_37 (fun H locs f7 hf7 h => ?_)
  have he := he.self' hf7
  refine lv_aload_n hx hb d_N_reset_40 rfl (lv_at hl 0 rfl) ?_
  refine lv_iconst (v := (-1)) hx hb d_N_reset_41 (by decide) ?_
  refine hp_put (ty := .int) (v := .int (-1)) (fs' := [.int (nI i), .ref ma, .ref qa, .int 0, .int 0, .int 0, .int 0, .int (-1), .int (v 5), .int (v 6), .int (-1), .int (v 8)]) hx hb hg in_N t_N t_N_ok n_N hown hK h he rfl 10 (by decide) (hg _ w98) (fun _ z => z) rfl (by decide +kernel) rfl rfl (Nat.le_of_ble_eq_true rfl) rfl d_N_reset_42 (fun H locs f8 hf8 h => ?_)
  have he := he.self' hf8
  refine lv_aload_n hx hb d_N_reset_45 rfl (lv_at hl 0 rfl) ?_
  refine lv_iconst (v := 0) hx hb d_N_reset_46 (by decide) ?_
  refine hp_put (ty := .boolean) (v := .int 0) (fs' := [.int (nI i), .ref ma, .ref qa, .int 0, .int 0, .int 0, .int 0, .int (-1), .int (v 5), .int (v 6), .int (-1), .int 0]) hx hb hg in_N t_N t_N_ok n_N hown hK h he rfl 11 (by decide) (hg _ w100) (fun _ z => z) rfl (by decide +kernel) rfl rfl (Nat.le_of_ble_eq_true rfl) rfl d_N_reset_47 (fun H locs f9 hf9 h => ?_)
  have he := he.self' hf9
  refine lv_aload_n hx hb d_N_reset_50 rfl (lv_at hl 0 rfl) ?_
  refine hp_callv (hp_runV (As := []) (rest := []) ⟨hx, hb, hml, hown, hg⟩ (c_N_forgetBest l D tys de sa (i := i) (ma := ma) (qa := qa) (v := upd (upd (upd (upd (upd (upd (upd v 0 0) 1 0) 2 0) 3 0) 4 (-1)) 7 (-1)) 8 0) he) (cwV 0 hg (gw_V w74 w76 ws1 w2 w77) rfl rfl rfl (by decide +kernel) ⟨Nat.le_of_ble_eq_true rfl, Nat.le_of_ble_eq_true rfl⟩) (s_ok de sa) hK hX h he rfl rfl rfl hl.1 rfl (Nat.le_of_ble_eq_true rfl) d_N_reset_51 ⟨Nat.le_of_ble_eq_true rfl, Nat.le_of_ble_eq_true rfl⟩) h (fun L3 ff H locs hp h => ?_)
  obtain ⟨hL3, hff⟩ := Prod.mk.inj hp
  have hL3 := hL3.symm
  subst hL3
  have hall : ff = va_up f2 a (kn i ma qa kv0) := by
    rw [hff, hf9, hf8, hf7, hf6, hf5, hf4, hf3, bx_uu, bx_uu, bx_uu, bx_uu, bx_uu, bx_uu, bx_uu]
    rfl
  have hot : ∀ b, b ≠ a → ff b = f2 b := fun b hb => by rw [hall, va_up_ne _ _ hb]
  exact hp_vret hx hb hr hlk h ⟨rfl, by dsimp only; rw [hall, va_up_self], ⟨g1, (hot ma (Ne.symm h1)).trans hm.2, hgx⟩, (hot qa (Ne.symm h2)).trans hq.2, fun b b1 b2 b3 b4 => (hot b b1).trans ((ho2 b b3 b4).trans (by rw [hf1, va_up_ne _ _ b2])), fun hz => (hot ea (Ne.symm h4)).trans (by rw [show f2 = _ from hz2 hz, va_up_ne _ _ (Ne.symm h6), hf1, va_up_ne _ _ (Ne.symm h5)]), fun cap g hg9 => by
        obtain ⟨g3, hg3⟩ := ha2 cap g (hg9.ne' hf1 (Ne.symm h5)) h6
        exact ⟨g3, (hot ea (Ne.symm h4)).trans hg3⟩⟩ (by omega) (by omega) d_N_reset_54
