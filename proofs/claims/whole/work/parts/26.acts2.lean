/-! reportIfReady, testLightest, moveCore, by program (wip/mk26.py). -/
theorem k_fld_self {S : kS} {x k : Nat} {a : Int32} : (k_fld S x k a).1 x k = a := by
  show kup S.1 x (upd (S.1 x) k a) x k = a
  rw [kup_self]
  exact pk_us
theorem k_fld_ne {S : kS} {x k k' : Nat} {a : Int32} (h : k' ≠ k) : (k_fld S x k a).1 x k' = S.1 x k' := by
  show kup S.1 x (upd (S.1 x) k a) x k' = S.1 x k'
  rw [kup_self]
  exact pk_un h
theorem k_test0 {E : kE} {S : kS} {x : Nat} (h1 : k_lb E S x E.2.1 = none) : k_test E S x = k_report E (k_fld S x 7 (-1)) x := by
  unfold k_test
  rw [h1]
theorem k_test1 {E : kE} {S : kS} {x j : Nat} (h1 : k_lb E S x E.2.1 = some j) : k_test E S x = k_post E (k_fld S x 7 (nI j)) x (2, (k_fld S x 7 (nI j)).1 x 7, (k_fld S x 7 (nI j)).1 x 1, (k_fld S x 7 (nI j)).1 x 2, 0) := by
  unfold k_test
  rw [h1]
set_option maxHeartbeats 4000000 in
set_option maxRecDepth 100000 in
theorem c_G_reportIfReady (l : Launch) (D : va_G) (tys : List (ClassId × FieldType)) (de : Nat) (sa : Nat → Nat) {L : List Nat} {f : Nat → va_E} {x : Nat} {ad τ : Nat → Nat} {E : kE} {S : kS} {cI cO cN : ClassId} (ht : tys[0]? = some (cI, .int)) (ht1 : tys[1]? = some (cO, .object "java/lang/Object")) (ht2 : tys[2]? = some (cN, .object "MergingFragments$Node")) (hG : kG cI cO cN de ad τ L f E S) (hx7 : x < 7) (hW : kWE E) (hlen : ∀ i, i < 7 → (S.2.2.1 i).length < 2 ^ 19) (hwi : S.1 x 3 = 0 → S.1 x 7 = -1 → ∃ j, j < E.2.1 ∧ S.1 x 4 = nI j) : hp_Mv l y_G_reportIfReady (gw_ws y_G_reportIfReady b_G_reportIfReady 2 none) { frames := 8, cells := k_cu (k_report E S x) - k_cu S, slots := k_su (k_report E S x) - k_su S, locals := 185 } D kc tys (s_X de sa) [.ref (ad 0), .ref (ad (10 + x))] L f (kP cI cO cN de ad τ L f E (k_report E S x)) (k_cu (k_report E S x) - k_cu S) (k_su (k_report E S x) - k_su S) := by
  refine hp_ofW (Qc := fun A => va_Qv (kP cI cO cN de ad τ L f E (k_report E S x)) (hp_B D kc A) A) (fr := fun A => A) (ret := none) (by decide) rfl (Nat.le_of_ble_eq_true rfl) ?_
  intro p e s m below meth c ls A hx hb hml hr hts hown hlk hnm hl hK hX h
  have hg : ∀ w ∈ gw, w.before _ s = true := fun w hw => hts w (List.mem_cons_of_mem _ hw)
  have hown : s.vm.findClass "MergingFragments" = some m.cls := hown
  have hnm : meth.name = "reportIfReady" := hnm
  have hl : lv_has ls 2 [(0, .ref (ad 0)), (1, .ref (ad (10 + x)))] := hl
  have hm12 : E.2.1 ≤ 12 := hG.2.2.2.2.2.2.2.2.2.2.2.1
  have hF : kFr τ L f τ (L, f) := kFr.rf
  have he := hG.1
  have hnd := hG.2.2.2.2.2.1 x hx7
  obtain ⟨gm, hm, hm1⟩ := hG.2.2.2.2.2.2.1 x hx7
  refine lv_aload_n hx hb d_G_reportIfReady_0 rfl (lv_at hl 1 rfl) ?_
  refine hp_getN (v := .int (S.1 x 3)) hx hb hg in_N hown hK h hnd rfl 6 (by decide) (s_N hX n91) (fun _ z => z) rfl d_G_reportIfReady_1 ?_
  refine lv_if_ne (tgt := 43) hx hb d_G_reportIfReady_4 (by decide) (fun hc => ?_) (fun hc => ?_)
  · skip
    exact hp_vret hx hb hr hlk h (by rw [show k_report E S x = S from if_neg (fun z => hc z.1)]; exact ⟨_, hG, hF⟩) (Nat.zero_le _) (Nat.zero_le _) d_G_reportIfReady_43
  · skip
    refine lv_aload_n hx hb d_G_reportIfReady_7 rfl (lv_at hl 1 rfl) ?_
    refine hp_getN (v := .int (S.1 x 7)) hx hb hg in_N hown hK h hnd rfl 10 (by decide) (s_N hX n99) (fun _ z => z) rfl d_G_reportIfReady_8 ?_
    refine lv_iconst (v := (-1)) hx hb d_G_reportIfReady_11 (by decide) ?_
    refine lv_icmp_ne (tgt := 43) hx hb d_G_reportIfReady_12 (by decide) (fun hc2 => ?_) (fun hc2 => ?_)
    · skip
      exact hp_vret hx hb hr hlk h (by rw [show k_report E S x = S from if_neg (fun z => hc2 z.2)]; exact ⟨_, hG, hF⟩) (Nat.zero_le _) (Nat.zero_le _) d_G_reportIfReady_43
    · skip
      obtain ⟨j, hj, hwj⟩ := hwi hc hc2
      have hS9 : k_report E S x = k_post E (k_fld S x 0 2) x (5, (k_fld S x 0 2).1 x 4, (k_fld S x 0 2).1 x 6, 0, 0) := if_pos ⟨hc, hc2⟩
      have hqj : (k_fld S x 0 2).1 x 4 = nI j := (k_fld_ne (by decide)).trans hwj
      refine lv_aload_n hx hb d_G_reportIfReady_15 rfl (lv_at hl 1 rfl) ?_
      refine lv_iconst (v := 2) hx hb d_G_reportIfReady_16 (by decide) ?_
      refine hp_putN (ty := .int) (v := .int 2) (fs' := [.int (nI x), .ref (ad (20 + x)), .ref (ad (30 + x)), .int 2, .int (S.1 x 1), .int (S.1 x 2), .int (S.1 x 3), .int (S.1 x 4), .int (S.1 x 5), .int (S.1 x 6), .int (S.1 x 7), .int (S.1 x 8)]) hx hb hg in_N t_N t_N_ok n_N hown hK h hnd rfl 3 (by decide) (s_N hX n85) (fun _ z => z) rfl (by decide +kernel) rfl rfl (Nat.le_of_ble_eq_true rfl) rfl d_G_reportIfReady_17 (fun H locs f1 hf1 h => ?_)
      have hFs := kFr.w (L := L) hf1 (hG.2.2.2.2.2.2.2.2.2.1 x hx7).1 (by omega) (by omega)
      have hF := hF.trans hFs
      have hG : kG cI cO cN de ad _ L f1 E (k_fld S x 0 2) := hG.wN hx7 (v' := upd (S.1 x) 0 2) hf1
      have he := hG.1
      have hnd := hG.2.2.2.2.2.1 x hx7
      obtain ⟨gm, hm, hm1⟩ := hG.2.2.2.2.2.2.1 x hx7
      have hcu : k_cu (k_report E S x) = k_cu (k_fld S x 0 2) + 1 + k_qc (k_use (k_fld S x 0 2) 1 5) (k_to E x j) := by rw [hS9]; exact k_post_cu hqj (by omega)
      have hsu : k_su (k_report E S x) = k_su (k_fld S x 0 2) + 5 + k_qs (k_use (k_fld S x 0 2) 1 5) (k_to E x j) := by rw [hS9]; exact k_post_su hqj (by omega)
      have hcu0 : k_cu (k_fld S x 0 2) = k_cu S := rfl
      have hsu0 : k_su (k_fld S x 0 2) = k_su S := rfl
      refine lv_aload_n hx hb d_G_reportIfReady_20 rfl (lv_at hl 0 rfl) ?_
      refine lv_aload_n hx hb d_G_reportIfReady_21 rfl (lv_at hl 1 rfl) ?_
      refine hp_new (ci := 2) (fs := [.int 0, .int 0, .int 0, .int 0, .int 0]) hx hb hg in_M t_M t_M_ok hown (hg _ w312) (hg _ w313) (hg _ w15) hK h rfl (fun j hj => by rcases (show j = 0 ∨ j = 1 ∨ j = 2 ∨ j = 3 ∨ j = 4 by omega) with rfl | rfl | rfl | rfl | rfl <;> rfl) (by dsimp only; omega) (by dsimp only; omega) d_G_reportIfReady_22 (fun y0 H Ly0 fy0 hq_y0 hL_y0 hf_y0 h => ?_)
      have he := he.push' hL_y0 hf_y0 hq_y0
      have hnd := hnd.push' hL_y0 hf_y0 hq_y0
      have hm := hm.push' hL_y0 hf_y0 hq_y0
      have hy0 := hp_at.new' hL_y0 hf_y0
      refine lv_dup hx hb d_G_reportIfReady_25 rfl ?_
      refine lv_iconst (v := 5) hx hb d_G_reportIfReady_26 (by decide) ?_
      refine lv_aload_n hx hb d_G_reportIfReady_27 rfl (lv_at hl 1 rfl) ?_
      refine hp_getN (v := .int ((k_fld S x 0 2).1 x 4)) hx hb hg in_N hown hK h hnd rfl 7 (by decide) (s_N hX n93) (fun _ z => z) rfl d_G_reportIfReady_28 ?_
      refine lv_aload_n hx hb d_G_reportIfReady_31 rfl (lv_at hl 1 rfl) ?_
      refine hp_getN (v := .int ((k_fld S x 0 2).1 x 6)) hx hb hg in_N hown hK h hnd rfl 9 (by decide) (s_N hX n97) (fun _ z => z) rfl d_G_reportIfReady_32 ?_
      refine lv_iconst (v := 0) hx hb d_G_reportIfReady_35 (by decide) ?_
      refine lv_iconst (v := 0) hx hb d_G_reportIfReady_36 (by decide) ?_
      refine hp_callv (hp_runIN (As := [.int 5, .int ((k_fld S x 0 2).1 x 4), .int ((k_fld S x 0 2).1 x 6), .int 0, .int 0]) (rest := [.ref y0, .ref (ad (10 + x)), .ref (ad 0)]) ⟨hx, hb, hml, hown, hg⟩ (c_M_init l D tys de sa hy0) ⟨va_cnB 5 hg (gw_code w316) rfl rfl rfl (s_Nw hX n314) (hg _ w15) (by decide +kernel) ⟨Nat.le_of_ble_eq_true rfl, Nat.le_of_ble_eq_true rfl⟩, rfl, hg _ w315⟩ (s_ok de sa) hK hX h rfl hl.1 rfl (Nat.le_of_ble_eq_true rfl) d_G_reportIfReady_37 ⟨by dsimp only; omega, by dsimp only; omega⟩) h (fun Lm fz0 H locs hp h => ?_)
      obtain ⟨hLm, hfm⟩ := Prod.mk.inj hp
      have hLm := hLm.symm
      subst hLm
      have hfy0 : fz0 = va_up f1 y0 (km (5, ((k_fld S x 0 2).1 x 4), ((k_fld S x 0 2).1 x 6), 0, 0)) := by rw [hfm, hf_y0, bx_uu]
      have hy0 : hp_at Ly0 fz0 y0 (km (5, ((k_fld S x 0 2).1 x 4), ((k_fld S x 0 2).1 x 6), 0, 0)) := hp_at.new' hL_y0 hfy0
      have hFs := hG.fpush (t := 5) hL_y0 hfy0 hq_y0
      have hF := hF.trans hFs
      have hG : kG cI cO cN de ad _ Ly0 fz0 E (k_use (k_fld S x 0 2) 1 5) := hG.push (t := 5) hL_y0 hfy0 hq_y0
      refine hp_callv (hp_runV (As := [.ref (ad (10 + x)), .ref y0]) (rest := []) ⟨hx, hb, hml, hown, hg⟩ (c_G_send l D tys de sa (j := j) ht ht1 ht2 hG hx7 hy0 (kup_self _ _ _) hqj hj rfl (k_to7 hW hj) (hW.1 _ hj) (hlen _ (k_to7 hW hj))) (cwV 2 hg (gw_V w337 w339 ws8 w1 w340) rfl rfl rfl (by decide +kernel) ⟨Nat.le_of_ble_eq_true rfl, Nat.le_of_ble_eq_true rfl⟩) (s_ok de sa) hK hX h (hG.1) rfl rfl rfl hl.1 rfl (Nat.le_of_ble_eq_true rfl) d_G_reportIfReady_40 ⟨by dsimp only; omega, by dsimp only; omega⟩) h (fun Ls0 fs0 H locs hp h => ?_)
      obtain ⟨τs0, hG, hF1⟩ := hp
      dsimp only at hG
      have hFs := hF1
      have hF := hF.trans hFs
      have he := hG.1
      have hnd := hG.2.2.2.2.2.1 x hx7
      obtain ⟨gm, hm, hm1⟩ := hG.2.2.2.2.2.2.1 x hx7
      exact hp_vret hx hb hr hlk h (by rw [hS9]; exact ⟨_, hG, hF⟩) (by omega) (by omega) d_G_reportIfReady_43

set_option maxHeartbeats 4000000 in
set_option maxRecDepth 100000 in
theorem c_G_testLightest (l : Launch) (D : va_G) (tys : List (ClassId × FieldType)) (de : Nat) (sa : Nat → Nat) {L : List Nat} {f : Nat → va_E} {x : Nat} {ad τ : Nat → Nat} {E : kE} {S : kS} {cI cO cN : ClassId} (ht : tys[0]? = some (cI, .int)) (ht1 : tys[1]? = some (cO, .object "java/lang/Object")) (ht2 : tys[2]? = some (cN, .object "MergingFragments$Node")) (hG : kG cI cO cN de ad τ L f E S) (hx7 : x < 7) (hW : kWE E) (hlen : ∀ i, i < 7 → (S.2.2.1 i).length < 2 ^ 19) (hwi : S.1 x 3 = 0 → k_lb E S x E.2.1 = none → ∃ j, j < E.2.1 ∧ S.1 x 4 = nI j) : hp_Mv l y_G_testLightest (gw_ws y_G_testLightest b_G_testLightest 2 none) { frames := 9, cells := k_cu (k_test E S x) - k_cu S, slots := k_su (k_test E S x) - k_su S, locals := 206 } D kc tys (s_X de sa) [.ref (ad 0), .ref (ad (10 + x))] L f (kP cI cO cN de ad τ L f E (k_test E S x)) (k_cu (k_test E S x) - k_cu S) (k_su (k_test E S x) - k_su S) := by
  refine hp_ofW (Qc := fun A => va_Qv (kP cI cO cN de ad τ L f E (k_test E S x)) (hp_B D kc A) A) (fr := fun A => A) (ret := none) (by decide) rfl (Nat.le_of_ble_eq_true rfl) ?_
  intro p e s m below meth c ls A hx hb hml hr hts hown hlk hnm hl hK hX h
  have hg : ∀ w ∈ gw, w.before _ s = true := fun w hw => hts w (List.mem_cons_of_mem _ hw)
  have hown : s.vm.findClass "MergingFragments" = some m.cls := hown
  have hnm : meth.name = "testLightest" := hnm
  have hl : lv_has ls 2 [(0, .ref (ad 0)), (1, .ref (ad (10 + x)))] := hl
  have hm12 : E.2.1 ≤ 12 := hG.2.2.2.2.2.2.2.2.2.2.2.1
  have hF : kFr τ L f τ (L, f) := kFr.rf
  have he := hG.1
  have hnd := hG.2.2.2.2.2.1 x hx7
  obtain ⟨gm, hm, hm1⟩ := hG.2.2.2.2.2.2.1 x hx7
  refine lv_aload_n hx hb d_G_testLightest_0 rfl (lv_at hl 1 rfl) ?_
  refine lv_aload_n hx hb d_G_testLightest_1 rfl (lv_at hl 0 rfl) ?_
  refine lv_aload_n hx hb d_G_testLightest_2 rfl (lv_at hl 1 rfl) ?_
  refine hp_callR (hp_runV (As := [.ref (ad (10 + x))]) (rest := [.ref (ad (10 + x))]) ⟨hx, hb, hml, hown, hg⟩ (c_G_lightestBasic l D tys de sa ht ht1 ht2 hG hx7) (cwV 1 hg (gw_V w308 w310 ws7 w1 w311) rfl rfl rfl (by decide +kernel) ⟨Nat.le_of_ble_eq_true rfl, Nat.le_of_ble_eq_true rfl⟩) (s_ok de sa) hK hX h he rfl rfl rfl hl.1 rfl (Nat.le_of_ble_eq_true rfl) d_G_testLightest_3 ⟨Nat.le_of_ble_eq_true rfl, Nat.le_of_ble_eq_true rfl⟩) (fun r1 hp => ?_)
  cases ho : k_lb E S x E.2.1 with
  | none =>
    have hS9 := k_test0 (E := E) (S := S) (x := x) ho
    rw [ho] at hp
    have hp : r1 = -1 := hp
    subst hp
    refine hp_putN (ty := .int) (v := .int (-1)) (fs' := [.int (nI x), .ref (ad (20 + x)), .ref (ad (30 + x)), .int (S.1 x 0), .int (S.1 x 1), .int (S.1 x 2), .int (S.1 x 3), .int (S.1 x 4), .int (S.1 x 5), .int (S.1 x 6), .int (-1), .int (S.1 x 8)]) hx hb hg in_N t_N t_N_ok n_N hown hK h hnd rfl 10 (by decide) (s_N hX n99) (fun _ z => z) rfl (by decide +kernel) rfl rfl (Nat.le_of_ble_eq_true rfl) rfl d_G_testLightest_6 (fun H locs f1 hf1 h => ?_)
    have hFs := kFr.w (L := L) hf1 (hG.2.2.2.2.2.2.2.2.2.1 x hx7).1 (by omega) (by omega)
    have hF := hF.trans hFs
    have hG : kG cI cO cN de ad _ L f1 E (k_fld S x 7 (-1)) := hG.wN hx7 (v' := upd (S.1 x) 7 (-1)) hf1
    have he := hG.1
    have hnd := hG.2.2.2.2.2.1 x hx7
    obtain ⟨gm, hm, hm1⟩ := hG.2.2.2.2.2.2.1 x hx7
    refine lv_aload_n hx hb d_G_testLightest_9 rfl (lv_at hl 1 rfl) ?_
    refine hp_getN (v := .int ((k_fld S x 7 (-1)).1 x 7)) hx hb hg in_N hown hK h hnd rfl 10 (by decide) (s_N hX n99) (fun _ z => z) rfl d_G_testLightest_10 ?_
    refine lv_iconst (v := (-1)) hx hb d_G_testLightest_13 (by decide) ?_
    have hcu : k_cu (k_test E S x) = k_cu (k_report E (k_fld S x 7 (-1)) x) := by rw [hS9]
    have hsu : k_su (k_test E S x) = k_su (k_report E (k_fld S x 7 (-1)) x) := by rw [hS9]
    have hcu0 : k_cu (k_fld S x 7 (-1)) = k_cu S := rfl
    have hsu0 : k_su (k_fld S x 7 (-1)) = k_su S := rfl
    refine lv_icmp_eq (tgt := 46) hx hb d_G_testLightest_14 (by decide) (fun hc2 => ?_) (fun hc2 => ?_)
    · skip
      refine lv_aload_n hx hb d_G_testLightest_46 rfl (lv_at hl 0 rfl) ?_
      refine lv_aload_n hx hb d_G_testLightest_47 rfl (lv_at hl 1 rfl) ?_
      refine hp_callv (hp_runV (As := [.ref (ad (10 + x))]) (rest := []) ⟨hx, hb, hml, hown, hg⟩ (c_G_reportIfReady l D tys de sa ht ht1 ht2 hG hx7 hW hlen (fun a1 _ => by obtain ⟨j, hj, hwj⟩ := hwi ((k_fld_ne (by decide)).symm.trans a1) ho; exact ⟨j, hj, (k_fld_ne (by decide)).trans hwj⟩)) (cwV 1 hg (gw_V w464 w466 ws18 w1 w467) rfl rfl rfl (by decide +kernel) ⟨Nat.le_of_ble_eq_true rfl, Nat.le_of_ble_eq_true rfl⟩) (s_ok de sa) hK hX h (hG.1) rfl rfl rfl hl.1 rfl (Nat.le_of_ble_eq_true rfl) d_G_testLightest_48 ⟨by dsimp only; omega, by dsimp only; omega⟩) h (fun L2 f2 H locs hp h => ?_)
      obtain ⟨τ2, hG, hF1⟩ := hp
      exact hp_vret hx hb hr hlk h (by rw [hS9]; exact ⟨_, hG, hF.trans hF1⟩) (by omega) (by omega) d_G_testLightest_51
    · skip
      exact absurd k_fld_self hc2
  | some j =>
    have hS9 := k_test1 (E := E) (S := S) (x := x) ho
    have hj := (k_lb_lt ho).1
    rw [ho] at hp
    have hp : r1 = nI j := hp
    subst hp
    refine hp_putN (ty := .int) (v := .int (nI j)) (fs' := [.int (nI x), .ref (ad (20 + x)), .ref (ad (30 + x)), .int (S.1 x 0), .int (S.1 x 1), .int (S.1 x 2), .int (S.1 x 3), .int (S.1 x 4), .int (S.1 x 5), .int (S.1 x 6), .int (nI j), .int (S.1 x 8)]) hx hb hg in_N t_N t_N_ok n_N hown hK h hnd rfl 10 (by decide) (s_N hX n99) (fun _ z => z) rfl (by decide +kernel) rfl rfl (Nat.le_of_ble_eq_true rfl) rfl d_G_testLightest_6 (fun H locs f1 hf1 h => ?_)
    have hFs := kFr.w (L := L) hf1 (hG.2.2.2.2.2.2.2.2.2.1 x hx7).1 (by omega) (by omega)
    have hF := hF.trans hFs
    have hG : kG cI cO cN de ad _ L f1 E (k_fld S x 7 (nI j)) := hG.wN hx7 (v' := upd (S.1 x) 7 (nI j)) hf1
    have he := hG.1
    have hnd := hG.2.2.2.2.2.1 x hx7
    obtain ⟨gm, hm, hm1⟩ := hG.2.2.2.2.2.2.1 x hx7
    refine lv_aload_n hx hb d_G_testLightest_9 rfl (lv_at hl 1 rfl) ?_
    refine hp_getN (v := .int ((k_fld S x 7 (nI j)).1 x 7)) hx hb hg in_N hown hK h hnd rfl 10 (by decide) (s_N hX n99) (fun _ z => z) rfl d_G_testLightest_10 ?_
    refine lv_iconst (v := (-1)) hx hb d_G_testLightest_13 (by decide) ?_
    have hqj : (k_fld S x 7 (nI j)).1 x 7 = nI j := k_fld_self
    refine lv_icmp_eq (tgt := 46) hx hb d_G_testLightest_14 (by decide) (fun hc2 => ?_) (fun hc2 => ?_)
    · skip
      exact absurd (hqj.symm.trans hc2) (nI_ne1 (by omega))
    · skip
      have hcu : k_cu (k_test E S x) = k_cu (k_fld S x 7 (nI j)) + 1 + k_qc (k_use (k_fld S x 7 (nI j)) 1 5) (k_to E x j) := by rw [hS9]; exact k_post_cu hqj (by omega)
      have hsu : k_su (k_test E S x) = k_su (k_fld S x 7 (nI j)) + 5 + k_qs (k_use (k_fld S x 7 (nI j)) 1 5) (k_to E x j) := by rw [hS9]; exact k_post_su hqj (by omega)
      have hcu0 : k_cu (k_fld S x 7 (nI j)) = k_cu S := rfl
      have hsu0 : k_su (k_fld S x 7 (nI j)) = k_su S := rfl
      refine lv_aload_n hx hb d_G_testLightest_17 rfl (lv_at hl 0 rfl) ?_
      refine lv_aload_n hx hb d_G_testLightest_18 rfl (lv_at hl 1 rfl) ?_
      refine hp_new (ci := 2) (fs := [.int 0, .int 0, .int 0, .int 0, .int 0]) hx hb hg in_M t_M t_M_ok hown (hg _ w312) (hg _ w313) (hg _ w15) hK h rfl (fun j hj => by rcases (show j = 0 ∨ j = 1 ∨ j = 2 ∨ j = 3 ∨ j = 4 by omega) with rfl | rfl | rfl | rfl | rfl <;> rfl) (by dsimp only; omega) (by dsimp only; omega) d_G_testLightest_19 (fun y0 H Ly0 fy0 hq_y0 hL_y0 hf_y0 h => ?_)
      have he := he.push' hL_y0 hf_y0 hq_y0
      have hnd := hnd.push' hL_y0 hf_y0 hq_y0
      have hm := hm.push' hL_y0 hf_y0 hq_y0
      have hy0 := hp_at.new' hL_y0 hf_y0
      refine lv_dup hx hb d_G_testLightest_22 rfl ?_
      refine lv_iconst (v := 2) hx hb d_G_testLightest_23 (by decide) ?_
      refine lv_aload_n hx hb d_G_testLightest_24 rfl (lv_at hl 1 rfl) ?_
      refine hp_getN (v := .int ((k_fld S x 7 (nI j)).1 x 7)) hx hb hg in_N hown hK h hnd rfl 10 (by decide) (s_N hX n99) (fun _ z => z) rfl d_G_testLightest_25 ?_
      refine lv_aload_n hx hb d_G_testLightest_28 rfl (lv_at hl 1 rfl) ?_
      refine hp_getN (v := .int ((k_fld S x 7 (nI j)).1 x 1)) hx hb hg in_N hown hK h hnd rfl 4 (by decide) (s_N hX n87) (fun _ z => z) rfl d_G_testLightest_29 ?_
      refine lv_aload_n hx hb d_G_testLightest_32 rfl (lv_at hl 1 rfl) ?_
      refine hp_getN (v := .int ((k_fld S x 7 (nI j)).1 x 2)) hx hb hg in_N hown hK h hnd rfl 5 (by decide) (s_N hX n89) (fun _ z => z) rfl d_G_testLightest_33 ?_
      refine lv_iconst (v := 0) hx hb d_G_testLightest_36 (by decide) ?_
      refine hp_callv (hp_runIN (As := [.int 2, .int ((k_fld S x 7 (nI j)).1 x 7), .int ((k_fld S x 7 (nI j)).1 x 1), .int ((k_fld S x 7 (nI j)).1 x 2), .int 0]) (rest := [.ref y0, .ref (ad (10 + x)), .ref (ad 0)]) ⟨hx, hb, hml, hown, hg⟩ (c_M_init l D tys de sa hy0) ⟨va_cnB 5 hg (gw_code w316) rfl rfl rfl (s_Nw hX n314) (hg _ w15) (by decide +kernel) ⟨Nat.le_of_ble_eq_true rfl, Nat.le_of_ble_eq_true rfl⟩, rfl, hg _ w315⟩ (s_ok de sa) hK hX h rfl hl.1 rfl (Nat.le_of_ble_eq_true rfl) d_G_testLightest_37 ⟨by dsimp only; omega, by dsimp only; omega⟩) h (fun Lm fz0 H locs hp h => ?_)
      obtain ⟨hLm, hfm⟩ := Prod.mk.inj hp
      have hLm := hLm.symm
      subst hLm
      have hfy0 : fz0 = va_up f1 y0 (km (2, ((k_fld S x 7 (nI j)).1 x 7), ((k_fld S x 7 (nI j)).1 x 1), ((k_fld S x 7 (nI j)).1 x 2), 0)) := by rw [hfm, hf_y0, bx_uu]
      have hy0 : hp_at Ly0 fz0 y0 (km (2, ((k_fld S x 7 (nI j)).1 x 7), ((k_fld S x 7 (nI j)).1 x 1), ((k_fld S x 7 (nI j)).1 x 2), 0)) := hp_at.new' hL_y0 hfy0
      have hFs := hG.fpush (t := 5) hL_y0 hfy0 hq_y0
      have hF := hF.trans hFs
      have hG : kG cI cO cN de ad _ Ly0 fz0 E (k_use (k_fld S x 7 (nI j)) 1 5) := hG.push (t := 5) hL_y0 hfy0 hq_y0
      refine hp_callv (hp_runV (As := [.ref (ad (10 + x)), .ref y0]) (rest := []) ⟨hx, hb, hml, hown, hg⟩ (c_G_send l D tys de sa (j := j) ht ht1 ht2 hG hx7 hy0 (kup_self _ _ _) hqj hj rfl (k_to7 hW hj) (hW.1 _ hj) (hlen _ (k_to7 hW hj))) (cwV 2 hg (gw_V w337 w339 ws8 w1 w340) rfl rfl rfl (by decide +kernel) ⟨Nat.le_of_ble_eq_true rfl, Nat.le_of_ble_eq_true rfl⟩) (s_ok de sa) hK hX h (hG.1) rfl rfl rfl hl.1 rfl (Nat.le_of_ble_eq_true rfl) d_G_testLightest_40 ⟨by dsimp only; omega, by dsimp only; omega⟩) h (fun Ls0 fs0 H locs hp h => ?_)
      obtain ⟨τs0, hG, hF1⟩ := hp
      dsimp only at hG
      have hFs := hF1
      have hF := hF.trans hFs
      have he := hG.1
      have hnd := hG.2.2.2.2.2.1 x hx7
      obtain ⟨gm, hm, hm1⟩ := hG.2.2.2.2.2.2.1 x hx7
      refine lv_goto (tgt := 51) hx hb d_G_testLightest_43 (by decide) ?_
      exact hp_vret hx hb hr hlk h (by rw [hS9]; exact ⟨_, hG, hF⟩) (by omega) (by omega) d_G_testLightest_51

set_option maxHeartbeats 4000000 in
set_option maxRecDepth 100000 in
theorem c_G_moveCore (l : Launch) (D : va_G) (tys : List (ClassId × FieldType)) (de : Nat) (sa : Nat → Nat) {L : List Nat} {f : Nat → va_E} {x : Nat} {j : Nat} {ad τ : Nat → Nat} {E : kE} {S : kS} {cI cO cN : ClassId} (ht : tys[0]? = some (cI, .int)) (ht1 : tys[1]? = some (cO, .object "java/lang/Object")) (ht2 : tys[2]? = some (cN, .object "MergingFragments$Node")) (hG : kG cI cO cN de ad τ L f E S) (hx7 : x < 7) (hW : kWE E) (hlen : ∀ i, i < 7 → (S.2.2.1 i).length < 2 ^ 19) (hj : j < E.2.1) (hbj : S.1 x 5 = nI j) : hp_Mv l y_G_moveCore (gw_ws y_G_moveCore b_G_moveCore 2 none) { frames := 8, cells := k_cu (k_move E S x) - k_cu S, slots := k_su (k_move E S x) - k_su S, locals := 185 } D kc tys (s_X de sa) [.ref (ad 0), .ref (ad (10 + x))] L f (kP cI cO cN de ad τ L f E (k_move E S x)) (k_cu (k_move E S x) - k_cu S) (k_su (k_move E S x) - k_su S) := by
  refine hp_ofW (Qc := fun A => va_Qv (kP cI cO cN de ad τ L f E (k_move E S x)) (hp_B D kc A) A) (fr := fun A => A) (ret := none) (by decide) rfl (Nat.le_of_ble_eq_true rfl) ?_
  intro p e s m below meth c ls A hx hb hml hr hts hown hlk hnm hl hK hX h
  have hg : ∀ w ∈ gw, w.before _ s = true := fun w hw => hts w (List.mem_cons_of_mem _ hw)
  have hown : s.vm.findClass "MergingFragments" = some m.cls := hown
  have hnm : meth.name = "moveCore" := hnm
  have hl : lv_has ls 2 [(0, .ref (ad 0)), (1, .ref (ad (10 + x)))] := hl
  have hm12 : E.2.1 ≤ 12 := hG.2.2.2.2.2.2.2.2.2.2.2.1
  have hF : kFr τ L f τ (L, f) := kFr.rf
  have he := hG.1
  have hnd := hG.2.2.2.2.2.1 x hx7
  obtain ⟨gm, hm, hm1⟩ := hG.2.2.2.2.2.2.1 x hx7
  have hkx : kx (S.1 x 5) = j := by rw [hbj]; exact kx_nI (by omega)
  refine lv_aload_n hx hb d_G_moveCore_0 rfl (lv_at hl 1 rfl) ?_
  refine hp_getN (v := .int (S.1 x 5)) hx hb hg in_N hown hK h hnd rfl 8 (by decide) (s_N hX n95) (fun _ z => z) rfl d_G_moveCore_1 ?_
  refine lv_iconst (v := (-1)) hx hb d_G_moveCore_4 (by decide) ?_
  refine lv_icmp_ne (tgt := 9) hx hb d_G_moveCore_5 (by decide) (fun hc => ?_) (fun hc => ?_)
  · skip
    refine lv_aload_n hx hb d_G_moveCore_9 rfl (lv_at hl 1 rfl) ?_
    refine hp_getN (v := .ref (ad (20 + x))) hx hb hg in_N hown hK h hnd rfl 1 (by decide) (s_N hX n81) (fun _ z => z) rfl d_G_moveCore_10 ?_
    refine lv_aload_n hx hb d_G_moveCore_13 rfl (lv_at hl 1 rfl) ?_
    refine hp_getN (v := .int (S.1 x 5)) hx hb hg in_N hown hK h hnd rfl 8 (by decide) (s_N hX n95) (fun _ z => z) rfl d_G_moveCore_14 ?_
    rw [hbj]
    refine hp_iald hx hb hK h 0 hm ht rfl (by omega) (by decide) d_G_moveCore_17 ?_
    rw [show gm j = S.2.1 x j from hm1 j (by omega)]
    refine lv_iconst (v := 1) hx hb d_G_moveCore_18 (by decide) ?_
    refine lv_icmp_ne (tgt := 46) hx hb d_G_moveCore_19 (by decide) (fun hc2 => ?_) (fun hc2 => ?_)
    · skip
      have hS9 : k_move E S x = k_mark (k_post E S x (0, S.1 x 5, S.1 x 1, 0, 0)) x j 1 := by unfold k_move; rw [if_neg (by rw [hkx]; exact hc2), hkx]
      have hcu : k_cu (k_move E S x) = k_cu S + 1 + k_qc (k_use S 1 5) (k_to E x j) := by rw [hS9]; exact k_post_cu hbj (by omega)
      have hsu : k_su (k_move E S x) = k_su S + 5 + k_qs (k_use S 1 5) (k_to E x j) := by rw [hS9]; exact k_post_su hbj (by omega)
      have hcu0 : k_cu S = k_cu S := rfl
      have hsu0 : k_su S = k_su S := rfl
      refine lv_aload_n hx hb d_G_moveCore_46 rfl (lv_at hl 0 rfl) ?_
      refine lv_aload_n hx hb d_G_moveCore_47 rfl (lv_at hl 1 rfl) ?_
      refine hp_new (ci := 2) (fs := [.int 0, .int 0, .int 0, .int 0, .int 0]) hx hb hg in_M t_M t_M_ok hown (hg _ w312) (hg _ w313) (hg _ w15) hK h rfl (fun j hj => by rcases (show j = 0 ∨ j = 1 ∨ j = 2 ∨ j = 3 ∨ j = 4 by omega) with rfl | rfl | rfl | rfl | rfl <;> rfl) (by dsimp only; omega) (by dsimp only; omega) d_G_moveCore_48 (fun y0 H Ly0 fy0 hq_y0 hL_y0 hf_y0 h => ?_)
      have he := he.push' hL_y0 hf_y0 hq_y0
      have hnd := hnd.push' hL_y0 hf_y0 hq_y0
      have hm := hm.push' hL_y0 hf_y0 hq_y0
      have hy0 := hp_at.new' hL_y0 hf_y0
      refine lv_dup hx hb d_G_moveCore_51 rfl ?_
      refine lv_iconst (v := 0) hx hb d_G_moveCore_52 (by decide) ?_
      refine lv_aload_n hx hb d_G_moveCore_53 rfl (lv_at hl 1 rfl) ?_
      refine hp_getN (v := .int (S.1 x 5)) hx hb hg in_N hown hK h hnd rfl 8 (by decide) (s_N hX n95) (fun _ z => z) rfl d_G_moveCore_54 ?_
      refine lv_aload_n hx hb d_G_moveCore_57 rfl (lv_at hl 1 rfl) ?_
      refine hp_getN (v := .int (S.1 x 1)) hx hb hg in_N hown hK h hnd rfl 4 (by decide) (s_N hX n87) (fun _ z => z) rfl d_G_moveCore_58 ?_
      refine lv_iconst (v := 0) hx hb d_G_moveCore_61 (by decide) ?_
      refine lv_iconst (v := 0) hx hb d_G_moveCore_62 (by decide) ?_
      refine hp_callv (hp_runIN (As := [.int 0, .int (S.1 x 5), .int (S.1 x 1), .int 0, .int 0]) (rest := [.ref y0, .ref (ad (10 + x)), .ref (ad 0)]) ⟨hx, hb, hml, hown, hg⟩ (c_M_init l D tys de sa hy0) ⟨va_cnB 5 hg (gw_code w316) rfl rfl rfl (s_Nw hX n314) (hg _ w15) (by decide +kernel) ⟨Nat.le_of_ble_eq_true rfl, Nat.le_of_ble_eq_true rfl⟩, rfl, hg _ w315⟩ (s_ok de sa) hK hX h rfl hl.1 rfl (Nat.le_of_ble_eq_true rfl) d_G_moveCore_63 ⟨by dsimp only; omega, by dsimp only; omega⟩) h (fun Lm fz0 H locs hp h => ?_)
      obtain ⟨hLm, hfm⟩ := Prod.mk.inj hp
      have hLm := hLm.symm
      subst hLm
      have hfy0 : fz0 = va_up f y0 (km (0, (S.1 x 5), (S.1 x 1), 0, 0)) := by rw [hfm, hf_y0, bx_uu]
      have hy0 : hp_at Ly0 fz0 y0 (km (0, (S.1 x 5), (S.1 x 1), 0, 0)) := hp_at.new' hL_y0 hfy0
      have hFs := hG.fpush (t := 5) hL_y0 hfy0 hq_y0
      have hF := hF.trans hFs
      have hG : kG cI cO cN de ad _ Ly0 fz0 E (k_use S 1 5) := hG.push (t := 5) hL_y0 hfy0 hq_y0
      refine hp_callv (hp_runV (As := [.ref (ad (10 + x)), .ref y0]) (rest := []) ⟨hx, hb, hml, hown, hg⟩ (c_G_send l D tys de sa (j := j) ht ht1 ht2 hG hx7 hy0 (kup_self _ _ _) hbj hj rfl (k_to7 hW hj) (hW.1 _ hj) (hlen _ (k_to7 hW hj))) (cwV 2 hg (gw_V w337 w339 ws8 w1 w340) rfl rfl rfl (by decide +kernel) ⟨Nat.le_of_ble_eq_true rfl, Nat.le_of_ble_eq_true rfl⟩) (s_ok de sa) hK hX h (hG.1) rfl rfl rfl hl.1 rfl (Nat.le_of_ble_eq_true rfl) d_G_moveCore_66 ⟨by dsimp only; omega, by dsimp only; omega⟩) h (fun Ls0 fs0 H locs hp h => ?_)
      obtain ⟨τs0, hG, hF1⟩ := hp
      dsimp only at hG
      have hFs := hF1
      have hF := hF.trans hFs
      have he := hG.1
      have hnd := hG.2.2.2.2.2.1 x hx7
      obtain ⟨gm, hm, hm1⟩ := hG.2.2.2.2.2.2.1 x hx7
      refine lv_aload_n hx hb d_G_moveCore_69 rfl (lv_at hl 1 rfl) ?_
      refine hp_getN (v := .ref (ad (20 + x))) hx hb hg in_N hown hK h hnd rfl 1 (by decide) (s_N hX n81) (fun _ z => z) rfl d_G_moveCore_70 ?_
      refine lv_aload_n hx hb d_G_moveCore_73 rfl (lv_at hl 1 rfl) ?_
      refine hp_getN (v := .int ((k_post E S x (0, (S.1 x 5), (S.1 x 1), 0, 0)).1 x 5)) hx hb hg in_N hown hK h hnd rfl 8 (by decide) (s_N hX n95) (fun _ z => z) rfl d_G_moveCore_74 ?_
      rw [show (k_post E S x (0, S.1 x 5, S.1 x 1, 0, 0)).1 x 5 = nI j from hbj]
      refine lv_iconst (v := 1) hx hb d_G_moveCore_77 (by decide) ?_
      refine hp_iast hx hb hK h 0 hm ht rfl (by omega) (by decide) d_G_moveCore_78 (fun H locs f1 hf1 h => ?_)
      have hFs := kFr.w (L := Ls0) hf1 (hG.2.2.2.2.2.2.2.2.2.1 x hx7).2.1 (by omega) (by omega)
      have hF := hF.trans hFs
      have hG : kG cI cO cN de ad _ Ls0 f1 E (k_mark (k_post E S x (0, (S.1 x 5), (S.1 x 1), 0, 0)) x j 1) := hG.wM hx7 (z := upd ((k_post E S x (0, (S.1 x 5), (S.1 x 1), 0, 0)).2.1 x) j 1) hf1 (kupd hm1)
      have he := hG.1
      have hnd := hG.2.2.2.2.2.1 x hx7
      obtain ⟨gm, hm, hm1⟩ := hG.2.2.2.2.2.2.1 x hx7
      exact hp_vret hx hb hr hlk h (by rw [hS9]; exact ⟨_, hG, hF⟩) (by omega) (by omega) d_G_moveCore_79
    · skip
      have hS9 : k_move E S x = k_post E S x (6, S.1 x 5, 0, 0, 0) := by unfold k_move; rw [if_pos (by rw [hkx]; exact hc2)]
      have hcu : k_cu (k_move E S x) = k_cu S + 1 + k_qc (k_use S 1 5) (k_to E x j) := by rw [hS9]; exact k_post_cu hbj (by omega)
      have hsu : k_su (k_move E S x) = k_su S + 5 + k_qs (k_use S 1 5) (k_to E x j) := by rw [hS9]; exact k_post_su hbj (by omega)
      have hcu0 : k_cu S = k_cu S := rfl
      have hsu0 : k_su S = k_su S := rfl
      refine lv_aload_n hx hb d_G_moveCore_22 rfl (lv_at hl 0 rfl) ?_
      refine lv_aload_n hx hb d_G_moveCore_23 rfl (lv_at hl 1 rfl) ?_
      refine hp_new (ci := 2) (fs := [.int 0, .int 0, .int 0, .int 0, .int 0]) hx hb hg in_M t_M t_M_ok hown (hg _ w312) (hg _ w313) (hg _ w15) hK h rfl (fun j hj => by rcases (show j = 0 ∨ j = 1 ∨ j = 2 ∨ j = 3 ∨ j = 4 by omega) with rfl | rfl | rfl | rfl | rfl <;> rfl) (by dsimp only; omega) (by dsimp only; omega) d_G_moveCore_24 (fun y1 H Ly1 fy1 hq_y1 hL_y1 hf_y1 h => ?_)
      have he := he.push' hL_y1 hf_y1 hq_y1
      have hnd := hnd.push' hL_y1 hf_y1 hq_y1
      have hm := hm.push' hL_y1 hf_y1 hq_y1
      have hy1 := hp_at.new' hL_y1 hf_y1
      refine lv_dup hx hb d_G_moveCore_27 rfl ?_
      refine lv_bipush (v := 6) hx hb d_G_moveCore_28 (by decide) ?_
      refine lv_aload_n hx hb d_G_moveCore_30 rfl (lv_at hl 1 rfl) ?_
      refine hp_getN (v := .int (S.1 x 5)) hx hb hg in_N hown hK h hnd rfl 8 (by decide) (s_N hX n95) (fun _ z => z) rfl d_G_moveCore_31 ?_
      refine lv_iconst (v := 0) hx hb d_G_moveCore_34 (by decide) ?_
      refine lv_iconst (v := 0) hx hb d_G_moveCore_35 (by decide) ?_
      refine lv_iconst (v := 0) hx hb d_G_moveCore_36 (by decide) ?_
      refine hp_callv (hp_runIN (As := [.int 6, .int (S.1 x 5), .int 0, .int 0, .int 0]) (rest := [.ref y1, .ref (ad (10 + x)), .ref (ad 0)]) ⟨hx, hb, hml, hown, hg⟩ (c_M_init l D tys de sa hy1) ⟨va_cnB 5 hg (gw_code w316) rfl rfl rfl (s_Nw hX n314) (hg _ w15) (by decide +kernel) ⟨Nat.le_of_ble_eq_true rfl, Nat.le_of_ble_eq_true rfl⟩, rfl, hg _ w315⟩ (s_ok de sa) hK hX h rfl hl.1 rfl (Nat.le_of_ble_eq_true rfl) d_G_moveCore_37 ⟨by dsimp only; omega, by dsimp only; omega⟩) h (fun Lm fz1 H locs hp h => ?_)
      obtain ⟨hLm, hfm⟩ := Prod.mk.inj hp
      have hLm := hLm.symm
      subst hLm
      have hfy1 : fz1 = va_up f y1 (km (6, (S.1 x 5), 0, 0, 0)) := by rw [hfm, hf_y1, bx_uu]
      have hy1 : hp_at Ly1 fz1 y1 (km (6, (S.1 x 5), 0, 0, 0)) := hp_at.new' hL_y1 hfy1
      have hFs := hG.fpush (t := 5) hL_y1 hfy1 hq_y1
      have hF := hF.trans hFs
      have hG : kG cI cO cN de ad _ Ly1 fz1 E (k_use S 1 5) := hG.push (t := 5) hL_y1 hfy1 hq_y1
      refine hp_callv (hp_runV (As := [.ref (ad (10 + x)), .ref y1]) (rest := []) ⟨hx, hb, hml, hown, hg⟩ (c_G_send l D tys de sa (j := j) ht ht1 ht2 hG hx7 hy1 (kup_self _ _ _) hbj hj rfl (k_to7 hW hj) (hW.1 _ hj) (hlen _ (k_to7 hW hj))) (cwV 2 hg (gw_V w337 w339 ws8 w1 w340) rfl rfl rfl (by decide +kernel) ⟨Nat.le_of_ble_eq_true rfl, Nat.le_of_ble_eq_true rfl⟩) (s_ok de sa) hK hX h (hG.1) rfl rfl rfl hl.1 rfl (Nat.le_of_ble_eq_true rfl) d_G_moveCore_40 ⟨by dsimp only; omega, by dsimp only; omega⟩) h (fun Ls1 fs1 H locs hp h => ?_)
      obtain ⟨τs1, hG, hF1⟩ := hp
      dsimp only at hG
      have hFs := hF1
      have hF := hF.trans hFs
      have he := hG.1
      have hnd := hG.2.2.2.2.2.1 x hx7
      obtain ⟨gm, hm, hm1⟩ := hG.2.2.2.2.2.2.1 x hx7
      refine lv_goto (tgt := 79) hx hb d_G_moveCore_43 (by decide) ?_
      exact hp_vret hx hb hr hlk h (by rw [hS9]; exact ⟨_, hG, hF⟩) (by omega) (by omega) d_G_moveCore_79
  · skip
    exact absurd (hbj.symm.trans hc) (nI_ne1 (by omega))
