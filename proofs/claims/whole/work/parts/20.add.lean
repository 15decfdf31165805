/-! ArrayList.grow, add, by program (wip/mk20.py). -/
def kcap (k cap : Nat) : Nat := if k = cap then (if cap = 0 then 10 else cap + cap / 2) else cap
def kmc (k cap : Nat) : Nat := if k = cap then 1 else 0
def kms (k cap : Nat) : Nat := if k = cap then kcap k cap else 0
set_option maxHeartbeats 4000000 in
set_option maxRecDepth 100000 in
theorem c_A_grow1 (l : Launch) (D : va_G) (tys : List (ClassId × FieldType)) (de : Nat) (sa : Nat → Nat) {L : List Nat} {f : Nat → va_E} {a ea k cp : Nat} {mo : Int32} {g : Nat → Option Nat} {cO : ClassId} (ht1 : tys[1]? = some (cO, .object "java/lang/Object")) (he : hp_at L f a (ka ea (nI k) mo)) (hE : (ea = de ∧ k = 0 ∧ cp = 10) ∨ (hp_at L f ea (kar cO k g) ∧ (∀ j y, j < k → g j = some y → ∃ x, hp_at L f y (km x)) ∧ 10 ≤ k ∧ k < 2 ^ 20 ∧ cp = k + k / 2)) : hp_Mr l y_A_grow1 (gw_ws y_A_grow1 b_A_grow1 4 (some (.array (.object "java/lang/Object")))) { frames := 3, cells := 1, slots := cp, locals := 74 } D kc tys (s_X de sa) [.ref a, .int (nI (k + 1))] L f (fun r u => r ∉ L ∧ ∃ g' : Nat → Option Nat, u = (L ++ [r], va_up (va_up f r (kar cO cp g')) a (ka r (nI k) mo)) ∧ ∀ j, j < k → g' j = g j) 1 cp := by
  refine hp_ofW (Qc := fun A => va_Qr (fun _ => True) (hp_Br D kc A (fun r u => r ∉ L ∧ ∃ g' : Nat → Option Nat, u = (L ++ [r], va_up (va_up f r (kar cO cp g')) a (ka r (nI k) mo)) ∧ ∀ j, j < k → g' j = g j)) A) (fr := fun A => A) (ret := (some (.array (.object "java/lang/Object")))) (by decide) rfl (Nat.le_of_ble_eq_true rfl) ?_
  intro p e s m below meth c ls A hx hb hml hr hts hown hlk hnm hl hK hX h
  have hg : ∀ w ∈ gw, w.before _ s = true := fun w hw => hts w (List.mem_cons_of_mem _ hw)
  have hown : s.vm.findClass "java/util/ArrayList" = some m.cls := hown
  have hnm : meth.name = "grow" := hnm
  have hl : lv_has ls 4 [(0, .ref a), (1, .int (nI (k + 1)))] := hl
  rcases hE with ⟨hea, hk0, hcp⟩ | ⟨hE, hel, hk10, hk20, hcp⟩
  · skip
    subst hk0 hcp
    rw [hea] at he
    have hl : lv_has ls 4 [(0, .ref a), (1, .int (nI (0 + 1)))] := hl
    refine lv_aload_n hx hb d_A_grow1_0 rfl (lv_at hl 0 rfl) ?_
    refine hp_get (v := .ref de) hx hb hg in_A hown hK h he rfl 0 (by decide) (hg _ w50) (fun _ z => z) rfl d_A_grow1_1 ?_
    refine va_tlen (v := 0) hx hb hX.2.2.2.2.1 h.2.2.1 rfl d_A_grow1_4 ?_
    refine lv_istore_n (lv' := [(2, .int 0), (0, .ref a), (1, .int (nI (0 + 1)))]) hx hb d_A_grow1_5 rfl hl (by decide) rfl (fun ls hl => ?_)
    refine lv_iload_n hx hb d_A_grow1_6 rfl (lv_at hl 0 rfl) ?_
    refine lv_if_gt (tgt := 20) hx hb d_A_grow1_7 (by decide) (fun hc => ?_) (fun hc => ?_)
    · skip
      exact absurd hc (by decide)
    · skip
      refine lv_aload_n hx hb d_A_grow1_10 rfl (lv_at hl 1 rfl) ?_
      refine hp_get (v := .ref de) hx hb hg in_A hown hK h he rfl 0 (by decide) (hg _ w50) (fun _ z => z) rfl d_A_grow1_11 ?_
      refine va_gets hx hb hX.2.2.2.1 h.2.2.1 hown (hg _ w48) (fun _ z => z) d_A_grow1_14 ?_
      refine lv_acmp_eq (rx := some de) (ry := some de) (tgt := 45) hx hb d_A_grow1_17 (by decide) (fun _ => ?_) (fun z => absurd rfl z)
      refine lv_aload_n hx hb d_A_grow1_45 rfl (lv_at hl 1 rfl) ?_
      refine lv_bipush (v := 10) hx hb d_A_grow1_46 (by decide) ?_
      refine lv_iload_n hx hb d_A_grow1_48 rfl (lv_at hl 2 rfl) ?_
      refine va_mmax hx hb (by rw [hml]; exact hl.1.symm) hown (hg _ w398) (hg _ w365) (hg _ w17) (hg _ w366) (Nat.le_of_ble_eq_true rfl) (Nat.le_of_ble_eq_true rfl) (Nat.le_of_ble_eq_true rfl) (Nat.le_of_ble_eq_true rfl) d_A_grow1_49 ?_
      rw [show (if (10 : Int32) < nI (0 + 1) then nI (0 + 1) else 10) = nI 10 by decide]
      refine hp_newq (N' := 10) hx hb hown (hg _ w399) (s_Nw hX n390) hK h 1 ht1 (by decide) (by decide) (by decide) (Nat.le_of_ble_eq_true rfl) (Nat.le_of_ble_eq_true rfl) d_A_grow1_52 (fun q H L1 f1 hq hL1 hf1 h => ?_)
      have he := he.push' hL1 hf1 hq
      refine lv_dup_x1 hx hb d_A_grow1_55 rfl rfl ?_
      refine hp_put (ty := (.array (.object "java/lang/Object"))) (v := .ref q) (fs' := [.ref q, .int (nI 0), .int mo]) hx hb hg in_A t_A t_A_ok n_A hown hK h he rfl 0 (by decide) (hg _ w50) (fun _ z => z) rfl (by decide +kernel) rfl rfl (Nat.le_of_ble_eq_true rfl) rfl d_A_grow1_56 (fun H locs f2 hf2 h => ?_)
      have he := he.self' hf2
      exact hp_aret hx hb hr (by first | exact Or.inl ⟨_, rfl⟩ | exact Or.inr ⟨_, rfl⟩) hlk h ⟨hq, fun _ => none, by rw [hL1, hf2, hf1], fun j hj => absurd hj (by omega)⟩ (by omega) (by omega) d_A_grow1_59
  · skip
    have ne_a_ea : a ≠ ea := he.apart hE (fun z => by cases z)
    refine lv_aload_n hx hb d_A_grow1_0 rfl (lv_at hl 0 rfl) ?_
    refine hp_get (v := .ref ea) hx hb hg in_A hown hK h he rfl 0 (by decide) (hg _ w50) (fun _ z => z) rfl d_A_grow1_1 ?_
    refine hp_alen (v := nI k) hx hb hK h 1 hE ht1 rfl d_A_grow1_4 ?_
    refine lv_istore_n (lv' := [(2, .int (nI k)), (0, .ref a), (1, .int (nI (k + 1)))]) hx hb d_A_grow1_5 rfl hl (by decide) rfl (fun ls hl => ?_)
    refine lv_iload_n hx hb d_A_grow1_6 rfl (lv_at hl 0 rfl) ?_
    refine lv_if_gt (tgt := 20) hx hb d_A_grow1_7 (by decide) (fun hc => ?_) (fun hc => ?_)
    · skip
      refine lv_iload_n hx hb d_A_grow1_20 rfl (lv_at hl 0 rfl) ?_
      refine lv_iload_n hx hb d_A_grow1_21 rfl (lv_at hl 2 rfl) ?_
      refine lv_iload_n hx hb d_A_grow1_22 rfl (lv_at hl 0 rfl) ?_
      refine lv_isub hx hb d_A_grow1_23 ?_
      rw [show nI (k + 1) - nI k = nI 1 from by rw [pk_sub (by omega)]; congr 1; omega]
      refine lv_iload_n hx hb d_A_grow1_24 rfl (lv_at hl 0 rfl) ?_
      refine lv_iconst (v := 1) hx hb d_A_grow1_25 (by decide) ?_
      refine lv_ishr hx hb d_A_grow1_26 ?_
      rw [show nI k >>> ((1 : Int32) &&& 31) = nI (k / 2) from by have z := pk_shrN (n := k) (by omega) ((1 : Int32) &&& 31) 1 (by decide); rw [Nat.pow_one] at z; exact z]
      refine hp_callR (hp_runS (As := [.int (nI k), .int (nI 1), .int (nI (k / 2))]) (rest := []) ⟨hx, hb, hml, hown, hg⟩ (c_Su_newLength l D tys de sa (L := L) (f := f) (x := k) (y := 1) (z := k / 2) (by omega) (by omega)) (va_cwS 3 hg (gw_S w361 w362 w16 w363) rfl rfl rfl (by decide +kernel) ⟨Nat.le_of_ble_eq_true rfl, Nat.le_of_ble_eq_true rfl⟩) (s_ok de sa) hK hX h rfl hl.1 rfl (Nat.le_of_ble_eq_true rfl) d_A_grow1_27 ⟨by dsimp only; omega, by dsimp only; omega⟩) (fun r1 hp => ?_)
      subst hp
      rw [show k + max 1 (k / 2) = cp by omega]
      refine lv_istore_n (lv' := [(3, .int (nI cp)), (2, .int (nI k)), (0, .ref a), (1, .int (nI (k + 1)))]) hx hb d_A_grow1_30 rfl hl (by decide) rfl (fun ls hl => ?_)
      refine lv_aload_n hx hb d_A_grow1_31 rfl (lv_at hl 2 rfl) ?_
      refine lv_aload_n hx hb d_A_grow1_32 rfl (lv_at hl 2 rfl) ?_
      refine hp_get (v := .ref ea) hx hb hg in_A hown hK h he rfl 0 (by decide) (hg _ w50) (fun _ z => z) rfl d_A_grow1_33 ?_
      refine lv_iload_n hx hb d_A_grow1_36 rfl (lv_at hl 0 rfl) ?_
      refine hp_callr (hp_runS (As := [.ref ea, .int (nI cp)]) (rest := [.ref a]) ⟨hx, hb, hml, hown, hg⟩ (c_As_copyOf0 l D tys de sa ht1 hE hel (n2 := cp) (by omega) (by omega)) (va_cwS 2 hg (gw_S w371 w372 w6 w373) rfl rfl rfl (by decide +kernel) ⟨Nat.le_of_ble_eq_true rfl, Nat.le_of_ble_eq_true rfl⟩) (s_ok de sa) hK hX h rfl hl.1 rfl (Nat.le_of_ble_eq_true rfl) d_A_grow1_37 ⟨by dsimp only; omega, by dsimp only; omega⟩) h (fun r1 L1 f1 H locs hp h => ?_)
      obtain ⟨hq, g1, hp1, hg1⟩ := hp
      obtain ⟨hL1, hf1⟩ := Prod.mk.inj hp1
      have he := he.push' hL1 hf1 hq
      refine lv_dup_x1 hx hb d_A_grow1_40 rfl rfl ?_
      refine hp_put (ty := (.array (.object "java/lang/Object"))) (v := .ref r1) (fs' := [.ref r1, .int (nI k), .int mo]) hx hb hg in_A t_A t_A_ok n_A hown hK h he rfl 0 (by decide) (hg _ w50) (fun _ z => z) rfl (by decide +kernel) rfl rfl (Nat.le_of_ble_eq_true rfl) rfl d_A_grow1_41 (fun H locs f2 hf2 h => ?_)
      have he := he.self' hf2
      exact hp_aret hx hb hr (by first | exact Or.inl ⟨_, rfl⟩ | exact Or.inr ⟨_, rfl⟩) hlk h ⟨hq, g1, by rw [hL1, hf2, hf1], hg1⟩ (by omega) (by omega) d_A_grow1_44
    · skip
      exact absurd (show (0 : Int32) < nI k from nI_lt (a := 0) (by omega) (by omega)) hc

set_option maxHeartbeats 4000000 in
set_option maxRecDepth 100000 in
theorem c_A_grow0 (l : Launch) (D : va_G) (tys : List (ClassId × FieldType)) (de : Nat) (sa : Nat → Nat) {L : List Nat} {f : Nat → va_E} {a ea k cp : Nat} {mo : Int32} {g : Nat → Option Nat} {cO : ClassId} (ht1 : tys[1]? = some (cO, .object "java/lang/Object")) (he : hp_at L f a (ka ea (nI k) mo)) (hE : (ea = de ∧ k = 0 ∧ cp = 10) ∨ (hp_at L f ea (kar cO k g) ∧ (∀ j y, j < k → g j = some y → ∃ x, hp_at L f y (km x)) ∧ 10 ≤ k ∧ k < 2 ^ 20 ∧ cp = k + k / 2)) (hk : k < 2 ^ 20) : hp_Mr l y_A_grow0 (gw_ws y_A_grow0 b_A_grow0 1 (some (.array (.object "java/lang/Object")))) { frames := 4, cells := 1, slots := cp, locals := 97 } D kc tys (s_X de sa) [.ref a] L f (fun r u => r ∉ L ∧ ∃ g' : Nat → Option Nat, u = (L ++ [r], va_up (va_up f r (kar cO cp g')) a (ka r (nI k) mo)) ∧ ∀ j, j < k → g' j = g j) 1 cp := by
  refine hp_ofW (Qc := fun A => va_Qr (fun _ => True) (hp_Br D kc A (fun r u => r ∉ L ∧ ∃ g' : Nat → Option Nat, u = (L ++ [r], va_up (va_up f r (kar cO cp g')) a (ka r (nI k) mo)) ∧ ∀ j, j < k → g' j = g j)) A) (fr := fun A => A) (ret := (some (.array (.object "java/lang/Object")))) (by decide) rfl (Nat.le_of_ble_eq_true rfl) ?_
  intro p e s m below meth c ls A hx hb hml hr hts hown hlk hnm hl hK hX h
  have hg : ∀ w ∈ gw, w.before _ s = true := fun w hw => hts w (List.mem_cons_of_mem _ hw)
  have hown : s.vm.findClass "java/util/ArrayList" = some m.cls := hown
  have hnm : meth.name = "grow" := hnm
  have hl : lv_has ls 1 [(0, .ref a)] := hl
  refine lv_aload_n hx hb d_A_grow0_0 rfl (lv_at hl 0 rfl) ?_
  refine lv_aload_n hx hb d_A_grow0_1 rfl (lv_at hl 0 rfl) ?_
  refine hp_get (v := .int (nI k)) hx hb hg in_A hown hK h he rfl 1 (by decide) (hg _ w51) (fun _ z => z) rfl d_A_grow0_2 ?_
  refine lv_iconst (v := 1) hx hb d_A_grow0_5 (by decide) ?_
  refine lv_iadd hx hb d_A_grow0_6 ?_
  rw [nI_1]
  refine hp_callr (hp_runV (As := [.int (nI (k + 1))]) (rest := []) ⟨hx, hb, hml, hown, hg⟩ (c_A_grow1 l D tys de sa ht1 he hE) (cwV 1 hg (gw_V w357 w359 ws11 w5 w360) rfl rfl rfl (by decide +kernel) ⟨Nat.le_of_ble_eq_true rfl, Nat.le_of_ble_eq_true rfl⟩) (s_ok de sa) hK hX h he rfl rfl rfl hl.1 rfl (Nat.le_of_ble_eq_true rfl) d_A_grow0_7 ⟨by dsimp only; omega, by dsimp only; omega⟩) h (fun r1 L1 f1 H locs hp h => ?_)
  exact hp_aret hx hb hr (by first | exact Or.inl ⟨_, rfl⟩ | exact Or.inr ⟨_, rfl⟩) hlk h hp (by omega) (by omega) d_A_grow0_10

set_option maxHeartbeats 4000000 in
set_option maxRecDepth 100000 in
theorem c_A_add1 (l : Launch) (D : va_G) (tys : List (ClassId × FieldType)) (de : Nat) (sa : Nat → Nat) {L : List Nat} {f : Nat → va_E} {a y ea k cap : Nat} {x : kM} {mo : Int32} {g : Nat → Option Nat} {cO : ClassId} (ht1 : tys[1]? = some (cO, .object "java/lang/Object")) (he : hp_at L f a (ka ea (nI k) mo)) (hy : hp_at L f y (km x)) (hE : (ea = de ∧ k = 0 ∧ cap = 0) ∨ (hp_at L f ea (kar cO cap g) ∧ (∀ j z, j < k → g j = some z → ∃ x, hp_at L f z (km x)) ∧ k ≤ cap ∧ 10 ≤ cap ∧ cap < 2 ^ 20)) : hp_Mv l y_A_add1 (gw_ws y_A_add1 b_A_add1 4 none) { frames := 5, cells := kmc k cap, slots := kms k cap, locals := 117 } D kc tys (s_X de sa) [.ref a, .ref y, .ref ea, .int (nI k)] L f (fun u : hp_U => ∃ (ea' : Nat) (g' : Nat → Option Nat), ((k ≠ cap ∧ ea' = ea ∧ u.1 = L) ∨ (k = cap ∧ ea' ∉ L ∧ u.1 = L ++ [ea'])) ∧ u.2 a = ka ea' (nI (k + 1)) mo ∧ u.2 ea' = kar cO (kcap k cap) g' ∧ (∀ b, b ∈ L → b ≠ a → b ≠ ea → u.2 b = f b) ∧ (∀ j, j < k → g' j = g j) ∧ g' k = some y) (kmc k cap) (kms k cap) := by
  refine hp_ofW (Qc := fun A => va_Qv (fun u : hp_U => ∃ (ea' : Nat) (g' : Nat → Option Nat), ((k ≠ cap ∧ ea' = ea ∧ u.1 = L) ∨ (k = cap ∧ ea' ∉ L ∧ u.1 = L ++ [ea'])) ∧ u.2 a = ka ea' (nI (k + 1)) mo ∧ u.2 ea' = kar cO (kcap k cap) g' ∧ (∀ b, b ∈ L → b ≠ a → b ≠ ea → u.2 b = f b) ∧ (∀ j, j < k → g' j = g j) ∧ g' k = some y) (hp_B D kc A) A) (fr := fun A => A) (ret := none) (by decide) rfl (Nat.le_of_ble_eq_true rfl) ?_
  intro p e s m below meth c ls A hx hb hml hr hts hown hlk hnm hl hK hX h
  have hg : ∀ w ∈ gw, w.before _ s = true := fun w hw => hts w (List.mem_cons_of_mem _ hw)
  have hown : s.vm.findClass "java/util/ArrayList" = some m.cls := hown
  have hnm : meth.name = "add" := hnm
  have hl : lv_has ls 4 [(0, .ref a), (1, .ref y), (2, .ref ea), (3, .int (nI k))] := hl
  have ne_a_y : a ≠ y := he.apart hy (fun z => by cases z)
  rcases hE with ⟨hea, hk0, hcp⟩ | ⟨hE, hel, hkc, hc10, hc20⟩
  · skip
    have hkcap : k = cap := by omega
    obtain ⟨cp, hcp0⟩ : ∃ cp : Nat, cp = 10 := ⟨_, rfl⟩
    have hcp8 : cp = kcap k cap := by unfold kcap; rw [if_pos hkcap, if_pos hcp, hcp0]
    have hmc9 : kmc k cap = 1 := if_pos hkcap
    have hms9 : kms k cap = cp := by unfold kms; rw [if_pos hkcap, hcp8]
    have hcp := hcp8
    have hk20 : k < 2 ^ 20 := by omega
    refine lv_iload_n hx hb d_A_add1_0 rfl (lv_at hl 3 rfl) ?_
    refine lv_aload_n hx hb d_A_add1_1 rfl (lv_at hl 2 rfl) ?_
    have hT9 : va_T (.object "java/lang/Object") ea 0 (fun _ => .null) A s s.heap := by rw [hea]; exact hX.2.2.2.2.1
    refine va_tlen (v := 0) hx hb hT9 h.2.2.1 rfl d_A_add1_2 ?_
    refine lv_icmp_ne (tgt := 11) hx hb d_A_add1_3 (by decide) (fun hc => ?_) (fun hc => ?_)
    · skip
      exact absurd (show nI k = 0 by rw [hk0]; rfl) hc
    · skip
      refine lv_aload_n hx hb d_A_add1_6 rfl (lv_at hl 0 rfl) ?_
      refine hp_callr (hp_runV (As := []) (rest := []) ⟨hx, hb, hml, hown, hg⟩ (c_A_grow0 l D tys de sa ht1 (g := g) (cp := cp) he (Or.inl ⟨hea, hk0, hcp0⟩) (by omega)) (cwV 0 hg (gw_V w353 w355 ws10 w5 w356) rfl rfl rfl (by decide +kernel) ⟨Nat.le_of_ble_eq_true rfl, Nat.le_of_ble_eq_true rfl⟩) (s_ok de sa) hK hX h he rfl rfl rfl hl.1 rfl (Nat.le_of_ble_eq_true rfl) d_A_add1_7 ⟨by show _ ≤ kmc k cap; rw [hmc9]; omega, by show _ ≤ kms k cap; rw [hms9]; omega⟩) h (fun r1 L1 f1 H locs hp h => ?_)
      obtain ⟨hq, g1, hp1, hg1⟩ := hp
      obtain ⟨hL1, hf1⟩ := Prod.mk.inj hp1
      have hr9 : f1 r1 = kar cO cp g1 := by rw [hf1, va_up_ne _ _ (show r1 ≠ a from fun z => hq (z ▸ he.1)), va_up_self]
      have har : hp_at L1 f1 r1 (kar cO cp g1) := ⟨by rw [hL1]; exact List.mem_append_right _ (List.mem_singleton.mpr rfl), hr9⟩
      have ne_a_r1 : a ≠ r1 := fun z => hq (z ▸ he.1)
      have ha9 : hp_at L1 f1 a (ka r1 (nI k) mo) := ⟨by rw [hL1]; exact List.mem_append_left _ he.1, by rw [hf1, va_up_self]⟩
      have hy : hp_at L1 f1 y (km x) := ⟨by rw [hL1]; exact List.mem_append_left _ hy.1, by rw [hf1, va_up_ne _ _ (Ne.symm ne_a_y), va_up_ne _ _ (show y ≠ r1 from fun z => hq (z ▸ hy.1))]; exact hy.2⟩
      have he := ha9
      refine lv_astore_n (lv' := [(2, .ref r1), (0, .ref a), (1, .ref y), (3, .int (nI k))]) hx hb d_A_add1_10 rfl hl (by decide) rfl (fun ls hl => ?_)
      refine lv_aload_n hx hb d_A_add1_11 rfl (lv_at hl 0 rfl) ?_
      refine lv_iload_n hx hb d_A_add1_12 rfl (lv_at hl 3 rfl) ?_
      refine lv_aload_n hx hb d_A_add1_13 rfl (lv_at hl 2 rfl) ?_
      refine hp_aastO hx hb hK h 1 har ht1 (s_Nw hX n744) hy rfl rfl (j := k) (by omega) (by omega) d_A_add1_14 (fun H locs f2 hf2 h => ?_)
      have he := he.ne' hf2 ne_a_r1
      refine lv_aload_n hx hb d_A_add1_15 rfl (lv_at hl 1 rfl) ?_
      refine lv_iload_n hx hb d_A_add1_16 rfl (lv_at hl 3 rfl) ?_
      refine lv_iconst (v := 1) hx hb d_A_add1_17 (by decide) ?_
      refine lv_iadd hx hb d_A_add1_18 ?_
      rw [nI_1]
      refine hp_put (ty := .int) (v := .int (nI (k + 1))) (fs' := [.ref r1, .int (nI (k + 1)), .int mo]) hx hb hg in_A t_A t_A_ok n_A hown hK h he rfl 1 (by decide) (hg _ w51) (fun _ z => z) rfl (by decide +kernel) rfl rfl (Nat.le_of_ble_eq_true rfl) rfl d_A_add1_19 (fun H locs f3 hf3 h => ?_)
      have he := he.self' hf3
      exact hp_vret hx hb hr hlk h ⟨r1, va_up g1 k (some y), Or.inr ⟨hkcap, hq, hL1⟩, by dsimp only; rw [hf3, va_up_self], by dsimp only; rw [hf3, va_up_ne _ _ (Ne.symm ne_a_r1), hf2, va_up_self, hcp], fun b hb hba hbe => by have hbr : b ≠ r1 := (fun z => hq (z ▸ hb)); dsimp only; rw [hf3, va_up_ne _ _ hba, hf2, va_up_ne _ _ hbr, hf1, va_up_ne _ _ hba, va_up_ne _ _ hbr], fun j hj => by rw [va_up_ne _ _ (by omega)]; exact hg1 j hj, va_up_self _ _ _⟩ (by rw [hmc9]; omega) (by rw [hms9]; omega) d_A_add1_22
  · skip
    have ne_a_ea : a ≠ ea := he.apart hE (fun z => by cases z)
    refine lv_iload_n hx hb d_A_add1_0 rfl (lv_at hl 3 rfl) ?_
    refine lv_aload_n hx hb d_A_add1_1 rfl (lv_at hl 2 rfl) ?_
    refine hp_alen (v := nI cap) hx hb hK h 1 hE ht1 rfl d_A_add1_2 ?_
    refine lv_icmp_ne (tgt := 11) hx hb d_A_add1_3 (by decide) (fun hc => ?_) (fun hc => ?_)
    · skip
      have hkcap : k ≠ cap := fun z => hc (by rw [z])
      have hcp : kcap k cap = cap := if_neg hkcap
      have hmc9 : kmc k cap = 0 := if_neg hkcap
      have hms9 : kms k cap = 0 := if_neg hkcap
      refine lv_aload_n hx hb d_A_add1_11 rfl (lv_at hl 2 rfl) ?_
      refine lv_iload_n hx hb d_A_add1_12 rfl (lv_at hl 3 rfl) ?_
      refine lv_aload_n hx hb d_A_add1_13 rfl (lv_at hl 1 rfl) ?_
      refine hp_aastO hx hb hK h 1 hE ht1 (s_Nw hX n744) hy rfl rfl (j := k) (by omega) (by omega) d_A_add1_14 (fun H locs f1 hf1 h => ?_)
      have he := he.ne' hf1 ne_a_ea
      refine lv_aload_n hx hb d_A_add1_15 rfl (lv_at hl 0 rfl) ?_
      refine lv_iload_n hx hb d_A_add1_16 rfl (lv_at hl 3 rfl) ?_
      refine lv_iconst (v := 1) hx hb d_A_add1_17 (by decide) ?_
      refine lv_iadd hx hb d_A_add1_18 ?_
      rw [nI_1]
      refine hp_put (ty := .int) (v := .int (nI (k + 1))) (fs' := [.ref ea, .int (nI (k + 1)), .int mo]) hx hb hg in_A t_A t_A_ok n_A hown hK h he rfl 1 (by decide) (hg _ w51) (fun _ z => z) rfl (by decide +kernel) rfl rfl (Nat.le_of_ble_eq_true rfl) rfl d_A_add1_19 (fun H locs f2 hf2 h => ?_)
      have he := he.self' hf2
      exact hp_vret hx hb hr hlk h ⟨ea, va_up g k (some y), Or.inl ⟨hkcap, rfl, rfl⟩, by dsimp only; rw [hf2, va_up_self], by dsimp only; rw [hf2, va_up_ne _ _ (Ne.symm ne_a_ea), hf1, va_up_self, hcp], fun b hb hba hbe => by dsimp only; rw [hf2, va_up_ne _ _ hba, hf1, va_up_ne _ _ hbe], fun j hj => va_up_ne _ _ (by omega), va_up_self _ _ _⟩ (by omega) (by omega) d_A_add1_22
    · skip
      have hkcap : k = cap := (nI_eq (by omega) (by omega)).mp hc
      obtain ⟨cp, hcp0⟩ : ∃ cp : Nat, cp = k + k / 2 := ⟨_, rfl⟩
      have hcp : cp = kcap k cap := by unfold kcap; rw [if_pos hkcap, if_neg (by omega), hcp0, hkcap]
      have hmc9 : kmc k cap = 1 := if_pos hkcap
      have hms9 : kms k cap = cp := by unfold kms; rw [if_pos hkcap, hcp]
      have hk20 : k < 2 ^ 20 := by omega
      refine lv_aload_n hx hb d_A_add1_6 rfl (lv_at hl 0 rfl) ?_
      refine hp_callr (hp_runV (As := []) (rest := []) ⟨hx, hb, hml, hown, hg⟩ (c_A_grow0 l D tys de sa ht1 (g := g) (cp := cp) he (Or.inr ⟨hkcap ▸ hE, hel, by omega, by omega, hcp0⟩) (by omega)) (cwV 0 hg (gw_V w353 w355 ws10 w5 w356) rfl rfl rfl (by decide +kernel) ⟨Nat.le_of_ble_eq_true rfl, Nat.le_of_ble_eq_true rfl⟩) (s_ok de sa) hK hX h he rfl rfl rfl hl.1 rfl (Nat.le_of_ble_eq_true rfl) d_A_add1_7 ⟨by show _ ≤ kmc k cap; rw [hmc9]; omega, by show _ ≤ kms k cap; rw [hms9]; omega⟩) h (fun r1 L1 f1 H locs hp h => ?_)
      obtain ⟨hq, g1, hp1, hg1⟩ := hp
      obtain ⟨hL1, hf1⟩ := Prod.mk.inj hp1
      have hr9 : f1 r1 = kar cO cp g1 := by rw [hf1, va_up_ne _ _ (show r1 ≠ a from fun z => hq (z ▸ he.1)), va_up_self]
      have har : hp_at L1 f1 r1 (kar cO cp g1) := ⟨by rw [hL1]; exact List.mem_append_right _ (List.mem_singleton.mpr rfl), hr9⟩
      have ne_a_r1 : a ≠ r1 := fun z => hq (z ▸ he.1)
      have ha9 : hp_at L1 f1 a (ka r1 (nI k) mo) := ⟨by rw [hL1]; exact List.mem_append_left _ he.1, by rw [hf1, va_up_self]⟩
      have hy : hp_at L1 f1 y (km x) := ⟨by rw [hL1]; exact List.mem_append_left _ hy.1, by rw [hf1, va_up_ne _ _ (Ne.symm ne_a_y), va_up_ne _ _ (show y ≠ r1 from fun z => hq (z ▸ hy.1))]; exact hy.2⟩
      have he := ha9
      refine lv_astore_n (lv' := [(2, .ref r1), (0, .ref a), (1, .ref y), (3, .int (nI k))]) hx hb d_A_add1_10 rfl hl (by decide) rfl (fun ls hl => ?_)
      refine lv_aload_n hx hb d_A_add1_11 rfl (lv_at hl 0 rfl) ?_
      refine lv_iload_n hx hb d_A_add1_12 rfl (lv_at hl 3 rfl) ?_
      refine lv_aload_n hx hb d_A_add1_13 rfl (lv_at hl 2 rfl) ?_
      refine hp_aastO hx hb hK h 1 har ht1 (s_Nw hX n744) hy rfl rfl (j := k) (by omega) (by omega) d_A_add1_14 (fun H locs f2 hf2 h => ?_)
      have he := he.ne' hf2 ne_a_r1
      refine lv_aload_n hx hb d_A_add1_15 rfl (lv_at hl 1 rfl) ?_
      refine lv_iload_n hx hb d_A_add1_16 rfl (lv_at hl 3 rfl) ?_
      refine lv_iconst (v := 1) hx hb d_A_add1_17 (by decide) ?_
      refine lv_iadd hx hb d_A_add1_18 ?_
      rw [nI_1]
      refine hp_put (ty := .int) (v := .int (nI (k + 1))) (fs' := [.ref r1, .int (nI (k + 1)), .int mo]) hx hb hg in_A t_A t_A_ok n_A hown hK h he rfl 1 (by decide) (hg _ w51) (fun _ z => z) rfl (by decide +kernel) rfl rfl (Nat.le_of_ble_eq_true rfl) rfl d_A_add1_19 (fun H locs f3 hf3 h => ?_)
      have he := he.self' hf3
      exact hp_vret hx hb hr hlk h ⟨r1, va_up g1 k (some y), Or.inr ⟨hkcap, hq, hL1⟩, by dsimp only; rw [hf3, va_up_self], by dsimp only; rw [hf3, va_up_ne _ _ (Ne.symm ne_a_r1), hf2, va_up_self, hcp], fun b hb hba hbe => by have hbr : b ≠ r1 := (fun z => hq (z ▸ hb)); dsimp only; rw [hf3, va_up_ne _ _ hba, hf2, va_up_ne _ _ hbr, hf1, va_up_ne _ _ hba, va_up_ne _ _ hbr], fun j hj => by rw [va_up_ne _ _ (by omega)]; exact hg1 j hj, va_up_self _ _ _⟩ (by rw [hmc9]; omega) (by rw [hms9]; omega) d_A_add1_22

set_option maxHeartbeats 4000000 in
set_option maxRecDepth 100000 in
theorem c_A_add0 (l : Launch) (D : va_G) (tys : List (ClassId × FieldType)) (de : Nat) (sa : Nat → Nat) {L : List Nat} {f : Nat → va_E} {a y ea k cap : Nat} {x : kM} {mo : Int32} {g : Nat → Option Nat} {cO : ClassId} (ht1 : tys[1]? = some (cO, .object "java/lang/Object")) (he : hp_at L f a (ka ea (nI k) mo)) (hy : hp_at L f y (km x)) (hE : (ea = de ∧ k = 0 ∧ cap = 0) ∨ (hp_at L f ea (kar cO cap g) ∧ (∀ j z, j < k → g j = some z → ∃ x, hp_at L f z (km x)) ∧ k ≤ cap ∧ 10 ≤ cap ∧ cap < 2 ^ 20)) : hp_Mi l y_A_add0 (gw_ws y_A_add0 b_A_add0 2 (some .boolean)) { frames := 6, cells := kmc k cap, slots := kms k cap, locals := 140 } D kc tys (s_X de sa) [.ref a, .ref y] L f (fun r (u : hp_U) => r = 1 ∧ ∃ (ea' : Nat) (g' : Nat → Option Nat), ((k ≠ cap ∧ ea' = ea ∧ u.1 = L) ∨ (k = cap ∧ ea' ∉ L ∧ u.1 = L ++ [ea'])) ∧ u.2 a = ka ea' (nI (k + 1)) (mo + 1) ∧ u.2 ea' = kar cO (kcap k cap) g' ∧ (∀ b, b ∈ L → b ≠ a → b ≠ ea → u.2 b = f b) ∧ (∀ j, j < k → g' j = g j) ∧ g' k = some y) (kmc k cap) (kms k cap) := by
  refine hp_ofW (Qc := fun A => va_Qi (fun r (u : hp_U) => r = 1 ∧ ∃ (ea' : Nat) (g' : Nat → Option Nat), ((k ≠ cap ∧ ea' = ea ∧ u.1 = L) ∨ (k = cap ∧ ea' ∉ L ∧ u.1 = L ++ [ea'])) ∧ u.2 a = ka ea' (nI (k + 1)) (mo + 1) ∧ u.2 ea' = kar cO (kcap k cap) g' ∧ (∀ b, b ∈ L → b ≠ a → b ≠ ea → u.2 b = f b) ∧ (∀ j, j < k → g' j = g j) ∧ g' k = some y) (hp_B D kc A) A) (fr := fun A => A) (ret := (some .boolean)) (by decide) rfl (Nat.le_of_ble_eq_true rfl) ?_
  intro p e s m below meth c ls A hx hb hml hr hts hown hlk hnm hl hK hX h
  have hg : ∀ w ∈ gw, w.before _ s = true := fun w hw => hts w (List.mem_cons_of_mem _ hw)
  have hown : s.vm.findClass "java/util/ArrayList" = some m.cls := hown
  have hnm : meth.name = "add" := hnm
  have hl : lv_has ls 2 [(0, .ref a), (1, .ref y)] := hl
  have he0 := he
  have ne_a_y : a ≠ y := he.apart hy (fun z => by cases z)
  refine lv_aload_n hx hb d_A_add0_0 rfl (lv_at hl 0 rfl) ?_
  refine lv_dup hx hb d_A_add0_1 rfl ?_
  refine hp_get (v := .int mo) hx hb hg in_A hown hK h he rfl 2 (by decide) (hg _ w53) (fun x9 h9 => u_same (hg _ w54) x9 h9) rfl d_A_add0_2 ?_
  refine lv_iconst (v := 1) hx hb d_A_add0_5 (by decide) ?_
  refine lv_iadd hx hb d_A_add0_6 ?_
  refine hp_put (ty := .int) (v := .int (mo + 1)) (fs' := [.ref ea, .int (nI k), .int (mo + 1)]) hx hb hg in_A t_A t_A_ok n_A hown hK h he rfl 2 (by decide) (hg _ w53) (fun x9 h9 => u_same (hg _ w54) x9 h9) rfl (by decide +kernel) rfl rfl (Nat.le_of_ble_eq_true rfl) rfl d_A_add0_7 (fun H locs f1 hf1 h => ?_)
  have he := he.self' hf1
  refine lv_aload_n hx hb d_A_add0_10 rfl (lv_at hl 0 rfl) ?_
  refine lv_aload_n hx hb d_A_add0_11 rfl (lv_at hl 1 rfl) ?_
  refine lv_aload_n hx hb d_A_add0_12 rfl (lv_at hl 0 rfl) ?_
  refine hp_get (v := .ref ea) hx hb hg in_A hown hK h he rfl 0 (by decide) (hg _ w50) (fun _ z => z) rfl d_A_add0_13 ?_
  refine lv_aload_n hx hb d_A_add0_16 rfl (lv_at hl 0 rfl) ?_
  refine hp_get (v := .int (nI k)) hx hb hg in_A hown hK h he rfl 1 (by decide) (hg _ w51) (fun _ z => z) rfl d_A_add0_17 ?_
  have hy := hy.ne' hf1 (Ne.symm ne_a_y)
  have hE : (ea = de ∧ k = 0 ∧ cap = 0) ∨ (hp_at L f1 ea (kar cO cap g) ∧ (∀ j z, j < k → g j = some z → ∃ x, hp_at L f1 z (km x)) ∧ k ≤ cap ∧ 10 ≤ cap ∧ cap < 2 ^ 20) := hE.imp id (fun ⟨z1, z2, z3⟩ => ⟨z1.ne' hf1 (z1.apart he0 (fun z => by cases z)), fun j z hj hz => by obtain ⟨x, hx9⟩ := z2 j z hj hz; exact ⟨x, hx9.ne' hf1 (hx9.apart he0 (fun z => by cases z))⟩, z3⟩)
  refine hp_callv (hp_runV (As := [.ref y, .ref ea, .int (nI k)]) (rest := []) ⟨hx, hb, hml, hown, hg⟩ (c_A_add1 l D tys de sa ht1 he hy hE) (cwV 3 hg (gw_V w349 w351 ws9 w5 w352) rfl rfl rfl (by decide +kernel) ⟨Nat.le_of_ble_eq_true rfl, Nat.le_of_ble_eq_true rfl⟩) (s_ok de sa) hK hX h he rfl rfl rfl hl.1 rfl (Nat.le_of_ble_eq_true rfl) d_A_add0_20 ⟨by dsimp only; omega, by dsimp only; omega⟩) h (fun L2 f2 H locs hp h => ?_)
  obtain ⟨ea1, g1, p1, p2, p3, p4, p5, p6⟩ := hp
  refine lv_iconst (v := 1) hx hb d_A_add0_23 (by decide) ?_
  exact hp_zret hx hb hr hlk h rfl ⟨rfl, ea1, g1, p1, p2, p3, fun b hb hba hbe => (p4 b hb hba hbe).trans (by rw [hf1, va_up_ne _ _ hba]), p5, p6⟩ (by omega) (by omega) d_A_add0_24

set_option maxHeartbeats 4000000 in
set_option maxRecDepth 100000 in
theorem c_N_putBack (l : Launch) (D : va_G) (tys : List (ClassId × FieldType)) (de : Nat) (sa : Nat → Nat) {L : List Nat} {f : Nat → va_E} {nd i ma a y ea k cap : Nat} {v : Nat → Int32} {x : kM} {mo : Int32} {g : Nat → Option Nat} {cO : ClassId} (hnd : hp_at L f nd (kn i ma a v)) (ht1 : tys[1]? = some (cO, .object "java/lang/Object")) (he : hp_at L f a (ka ea (nI k) mo)) (hy : hp_at L f y (km x)) (hE : (ea = de ∧ k = 0 ∧ cap = 0) ∨ (hp_at L f ea (kar cO cap g) ∧ (∀ j z, j < k → g j = some z → ∃ x, hp_at L f z (km x)) ∧ k ≤ cap ∧ 10 ≤ cap ∧ cap < 2 ^ 20)) : hp_Mv l y_N_putBack (gw_ws y_N_putBack b_N_putBack 2 none) { frames := 7, cells := kmc k cap, slots := kms k cap, locals := 161 } D kc tys (s_X de sa) [.ref nd, .ref y] L f (fun u : hp_U => ∃ (ea' : Nat) (g' : Nat → Option Nat), ((k ≠ cap ∧ ea' = ea ∧ u.1 = L) ∨ (k = cap ∧ ea' ∉ L ∧ u.1 = L ++ [ea'])) ∧ u.2 a = ka ea' (nI (k + 1)) (mo + 1) ∧ u.2 ea' = kar cO (kcap k cap) g' ∧ (∀ b, b ∈ L → b ≠ a → b ≠ ea → u.2 b = f b) ∧ (∀ j, j < k → g' j = g j) ∧ g' k = some y) (kmc k cap) (kms k cap) := by
  refine hp_ofW (Qc := fun A => va_Qv (fun u : hp_U => ∃ (ea' : Nat) (g' : Nat → Option Nat), ((k ≠ cap ∧ ea' = ea ∧ u.1 = L) ∨ (k = cap ∧ ea' ∉ L ∧ u.1 = L ++ [ea'])) ∧ u.2 a = ka ea' (nI (k + 1)) (mo + 1) ∧ u.2 ea' = kar cO (kcap k cap) g' ∧ (∀ b, b ∈ L → b ≠ a → b ≠ ea → u.2 b = f b) ∧ (∀ j, j < k → g' j = g j) ∧ g' k = some y) (hp_B D kc A) A) (fr := fun A => A) (ret := none) (by decide) rfl (Nat.le_of_ble_eq_true rfl) ?_
  intro p e s m below meth c ls A hx hb hml hr hts hown hlk hnm hl hK hX h
  have hg : ∀ w ∈ gw, w.before _ s = true := fun w hw => hts w (List.mem_cons_of_mem _ hw)
  have hown : s.vm.findClass "MergingFragments$Node" = some m.cls := hown
  have hnm : meth.name = "putBack" := hnm
  have hl : lv_has ls 2 [(0, .ref nd), (1, .ref y)] := hl
  refine lv_aload_n hx hb d_N_putBack_0 rfl (lv_at hl 0 rfl) ?_
  refine hp_get (v := .ref a) hx hb hg in_N hown hK h hnd rfl 2 (by decide) (hg _ w82) (fun _ z => z) rfl d_N_putBack_1 ?_
  refine lv_aload_n hx hb d_N_putBack_4 rfl (lv_at hl 1 rfl) ?_
  refine hp_calli (hp_runV (As := [.ref y]) (rest := []) ⟨hx, hb, hml, hown, hg⟩ (c_A_add0 l D tys de sa ht1 he hy hE) (cwV 1 hg (gw_V w446 w346 w347 w5 w348) rfl rfl rfl (by decide +kernel) ⟨Nat.le_of_ble_eq_true rfl, Nat.le_of_ble_eq_true rfl⟩) (s_ok de sa) hK hX h he rfl rfl rfl hl.1 rfl (Nat.le_of_ble_eq_true rfl) d_N_putBack_5 ⟨by dsimp only; omega, by dsimp only; omega⟩) h (fun r1 L1 f1 H locs hp h => ?_)
  refine lv_pop hx hb d_N_putBack_8 rfl ?_
  exact hp_vret hx hb hr hlk h hp.2 (by omega) (by omega) d_N_putBack_9
