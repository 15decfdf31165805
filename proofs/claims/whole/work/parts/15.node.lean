/-! Node(int), by program (wip/mk15.py). -/
theorem hp_W.inA {D : va_G} {cl : List vw_C} {A : Nat → Prop} {H0 H : Heap} {L : List Nat} {f : Nat → va_E} {locs : List Loc} (h : hp_W D cl A H0 L f H locs) {a : Nat} {e : va_E} (ha : hp_at L f a e) : A a := by
  obtain ⟨k, hk⟩ := ha.i
  exact h.2.1.2 k _ hk
theorem s_de {de : Nat} {sa : Nat → Nat} {A : Nat → Prop} {s : State} {H : Heap} (h : s_X de sa A s H) : ¬ A de := by
  obtain ⟨cell, _, _, _, _, _, _, h7⟩ := h.2.2.2.2.1
  exact h7
/-- a new node's cells -/
def kN (cI : ClassId) (de a i : Nat) (L : List Nat) (f : Nat → va_E) (u : hp_U) : Prop :=
  ∃ ma qa : Nat, ma ∉ L ∧ qa ∉ L ∧ ma ≠ qa ∧ u.1 = (L ++ [ma]) ++ [qa] ∧ u.2 a = kn i ma qa kv0 ∧ (∃ g' : Nat → Int32, u.2 ma = .inl (cI, 12, .inl g') ∧ ∀ i, i < 12 → g' i = -1) ∧ u.2 qa = ka de 0 1 ∧ ∀ b, b ≠ a → b ≠ ma → b ≠ qa → u.2 b = f b
set_option maxHeartbeats 4000000 in
set_option maxRecDepth 100000 in
theorem c_N_init (l : Launch) (D : va_G) (tys : List (ClassId × FieldType)) (de : Nat) (sa : Nat → Nat) {L : List Nat} {f : Nat → va_E} {a i : Nat} {cI cO : ClassId} (ht : tys[0]? = some (cI, .int)) (ht1 : tys[1]? = some (cO, .object "java/lang/Object")) (he : hp_at L f a (.inr (1, [.int 0, .null, .null, .int 0, .int 0, .int 0, .int 0, .int 0, .int 0, .int 0, .int 0, .int 0]))) : hp_Mv l y_N_init (gw_ws y_N_init b_N_init 2 none) { frames := 4, cells := 2, slots := 15, locals := 72 } D kc tys (s_X de sa) [.ref a, .int (nI i)] L f (kN cI de a i L f) 2 15 := by
  refine hp_ofW (Qc := fun A => va_Qv (kN cI de a i L f) (hp_B D kc A) A) (fr := fun A => A) (ret := none) (by decide) rfl (Nat.le_of_ble_eq_true rfl) ?_
  intro p e s m below meth c ls A hx hb hml hr hts hown hlk hnm hl hK hX h
  have hg : ∀ w ∈ gw, w.before _ s = true := fun w hw => hts w (List.mem_cons_of_mem _ hw)
  have hown : s.vm.findClass "MergingFragments$Node" = some m.cls := hown
  have hnm : meth.name = "<init>" := hnm
  have hl : lv_has ls 2 [(0, .ref a), (1, .int (nI i))] := hl
  refine lv_aload_n hx hb d_N_init_0 rfl (lv_at hl 0 rfl) ?_
  refine W.objInit hx hb hown (hg _ w35) (hg _ w27) (hg _ w28) rfl (by rw [hml]; exact hl.1) rfl d_N_init_1 (Nat.le_of_ble_eq_true rfl) (Nat.le_of_ble_eq_true rfl) ?_
  refine W.eq (g2 := F0 m 4 ls []) rfl ?_
  refine lv_aload_n hx hb d_N_init_4 rfl (lv_at hl 0 rfl) ?_
  refine lv_bipush (v := 12) hx hb d_N_init_5 (by decide) ?_
  refine hp_newa (atype := .int) (ty := .int) (N' := 12) (a0 := (12, .inl (fun _ => 0))) hx hb (hg _ w62) rfl hK h 0 ht (fun cA => rfl) (by decide) (by decide) (by decide) (Nat.le_of_ble_eq_true rfl) (Nat.le_of_ble_eq_true rfl) d_N_init_7 (fun ma H L1 f1 hq_ma hL1 hf1 h => ?_)
  have ne_a_ma : a ≠ ma := fun z => hq_ma (z ▸ he.1)
  have he := he.push' hL1 hf1 hq_ma
  have hm := hp_at.new' hL1 hf1
  refine hp_putF (ty := (.array .int)) (v := .ref ma) (fs' := [.int 0, .ref ma, .null, .int 0, .int 0, .int 0, .int 0, .int 0, .int 0, .int 0, .int 0, .int 0]) hx hb hg in_N t_N t_N_ok n_N hown hK h he rfl 1 (by decide) (hg _ w80) (fun _ z => z) rfl hnm rfl (by decide +kernel) rfl rfl (Nat.le_of_ble_eq_true rfl) rfl d_N_init_9 (fun H locs f2 hf2 h => ?_)
  have he := he.self' hf2
  have hm := hm.ne' hf2 (Ne.symm ne_a_ma)
  refine lv_aload_n hx hb d_N_init_12 rfl (lv_at hl 0 rfl) ?_
  refine hp_new (ci := 4) (fs := [.null, .int 0, .int 0]) hx hb hg in_A t_A t_A_ok hown (hg _ w36) (hg _ w37) (hg _ w5) hK h rfl (fun j hj => by rcases (show j = 0 ∨ j = 1 ∨ j = 2 by omega) with rfl | rfl | rfl <;> rfl) (Nat.le_of_ble_eq_true rfl) (Nat.le_of_ble_eq_true rfl) d_N_init_13 (fun qa H L3 f3 hq_qa hL3 hf3 h => ?_)
  have ne_a_qa : a ≠ qa := fun z => hq_qa (z ▸ he.1)
  have he := he.push' hL3 hf3 hq_qa
  have ne_ma_qa : ma ≠ qa := fun z => hq_qa (z ▸ hm.1)
  have hm := hm.push' hL3 hf3 hq_qa
  have hq := hp_at.new' hL3 hf3
  refine lv_dup hx hb d_N_init_16 rfl ?_
  refine hp_callv (hp_runI (As := []) (rest := [.ref qa, .ref a]) ⟨hx, hb, hml, hown, hg⟩ (c_A_init l D tys de sa hq) (cwI 0 hg (gw_code w40) rfl rfl rfl (hg _ w5) (hg _ w38) (hg _ w39) rfl (by decide +kernel) ⟨Nat.le_of_ble_eq_true rfl, Nat.le_of_ble_eq_true rfl⟩) (s_ok de sa) hK hX h rfl hl.1 rfl (Nat.le_of_ble_eq_true rfl) d_N_init_17 ⟨Nat.le_of_ble_eq_true rfl, Nat.le_of_ble_eq_true rfl⟩) h (fun Lx f4 H locs hp h => ?_)
  obtain ⟨hLx, hf4⟩ := Prod.mk.inj hp
  have hLx := hLx.symm
  subst hLx
  have he := he.ne' hf4 ne_a_qa
  have hm := hm.ne' hf4 ne_ma_qa
  have hq := hq.self' hf4
  refine hp_putF (ty := (.object "java/util/ArrayList")) (v := .ref qa) (fs' := [.int 0, .ref ma, .ref qa, .int 0, .int 0, .int 0, .int 0, .int 0, .int 0, .int 0, .int 0, .int 0]) hx hb hg in_N t_N t_N_ok n_N hown hK h he rfl 2 (by decide) (hg _ w82) (fun _ z => z) rfl hnm rfl (by decide +kernel) rfl rfl (Nat.le_of_ble_eq_true rfl) rfl d_N_init_20 (fun H locs f5 hf5 h => ?_)
  have he := he.self' hf5
  have hm := hm.ne' hf5 (Ne.symm ne_a_ma)
  have hq := hq.ne' hf5 (Ne.symm ne_a_qa)
  refine lv_aload_n hx hb d_N_init_23 rfl (lv_at hl 0 rfl) ?_
  refine lv_iload_n hx hb d_N_init_24 rfl (lv_at hl 1 rfl) ?_
  refine hp_putF (ty := .int) (v := .int (nI i)) (fs' := [.int (nI i), .ref ma, .ref qa, .int 0, .int 0, .int 0, .int 0, .int 0, .int 0, .int 0, .int 0, .int 0]) hx hb hg in_N t_N t_N_ok n_N hown hK h he rfl 0 (by decide) (hg _ w78) (fun _ z => z) rfl hnm rfl (by decide +kernel) rfl rfl (Nat.le_of_ble_eq_true rfl) rfl d_N_init_25 (fun H locs f6 hf6 h => ?_)
  have he := he.self' hf6
  have hm := hm.ne' hf6 (Ne.symm ne_a_ma)
  have hq := hq.ne' hf6 (Ne.symm ne_a_qa)
  refine lv_aload_n hx hb d_N_init_28 rfl (lv_at hl 0 rfl) ?_
  have hdA := s_de hX
  have hd_a : a ≠ de := fun z => hdA (z ▸ h.inA he)
  have hd_ma : ma ≠ de := fun z => hdA (z ▸ h.inA hm)
  have hd_qa : qa ≠ de := fun z => hdA (z ▸ h.inA hq)
  refine hp_callv (hp_runV (As := []) (rest := []) ⟨hx, hb, hml, hown, hg⟩ (c_N_reset l D tys de sa (i := i) (ma := ma) (qa := qa) (ea := de) (k := 0) (mo := 0) (v := fun _ => 0) ht ht1 (by decide) ne_a_ma ne_a_qa ne_ma_qa hd_a hd_ma hd_qa he hm hq (Or.inl rfl)) (cwV 0 hg (gw_V w63 w65 ws0 w2 w66) rfl rfl rfl (by decide +kernel) ⟨Nat.le_of_ble_eq_true rfl, Nat.le_of_ble_eq_true rfl⟩) (s_ok de sa) hK hX h he rfl rfl rfl hl.1 rfl (Nat.le_of_ble_eq_true rfl) d_N_init_29 ⟨Nat.le_of_ble_eq_true rfl, Nat.le_of_ble_eq_true rfl⟩) h (fun L9 f9 H locs hp h => ?_)
  obtain ⟨hL9, p1, p2, p3, p4, p5, -⟩ := hp
  have hf6q : ∀ b, b ≠ a → b ≠ ma → b ≠ qa → f9 b = f b := fun b b1 b2 b3 => by
    have e1 : f9 b = f6 b := by
      by_cases hb : b = de
      · subst hb; exact p5 rfl
      · exact p4 b b1 b2 b3 hb
    rw [e1, hf6, va_up_ne _ _ b1, hf5, va_up_ne _ _ b1, hf4, va_up_ne _ _ b3, hf3, va_up_ne _ _ b3, hf2, va_up_ne _ _ b1, hf1, va_up_ne _ _ b2]
  exact hp_vret hx hb hr hlk h ⟨ma, qa, hq_ma, fun z => hq_qa (by rw [hL1]; exact List.mem_append_left _ z), ne_ma_qa, by dsimp only at hL9 ⊢; rw [hL9, hL3, hL1], p1, p2, p3, hf6q⟩ (by omega) (by omega) d_N_init_32
