/-! handleTest, handleReport, by program (wip/mk29.py). -/
theorem k_tst_le {E : kE} {S : kS} {x : Nat} {q : kM} : k_cu (k_wake E S x) ≤ k_cu (k_tst E S x q) ∧ k_su (k_wake E S x) ≤ k_su (k_tst E S x q) := by
  unfold k_tst
  split
  · exact ⟨Nat.le_add_right _ _, Nat.le_add_right _ _⟩
  · split
    · split
      · exact (k_test_le (E := E) (S := k_rej (k_wake E S x) x (kx q.2.1)))
      · exact (k_post_le (E := E) (S := k_rej (k_wake E S x) x (kx q.2.1)))
    · exact k_post_le
theorem k_rej_fld {S : kS} {x j : Nat} : (k_rej S x j).1 = S.1 := rfl
theorem k_move_le {E : kE} {S : kS} {x : Nat} : k_cu S ≤ k_cu (k_move E S x) ∧ k_su S ≤ k_su (k_move E S x) := by
  unfold k_move
  split
  · exact k_post_le
  · exact (k_post_le (E := E) (S := S) (x := x) (q := (0, S.1 x 5, S.1 x 1, 0, 0)))
theorem k_move_len {E : kE} {S : kS} {x : Nat} (i : Nat) : ((k_move E S x).2.2.1 i).length ≤ (S.2.2.1 i).length + 1 := by
  unfold k_move
  split
  · exact k_post_len i
  · exact (k_post_len (E := E) (S := S) (x := x) (q := (0, S.1 x 5, S.1 x 1, 0, 0)) i)
set_option maxHeartbeats 4000000 in
set_option maxRecDepth 100000 in
theorem c_G_handleTest (l : Launch) (D : va_G) (tys : List (ClassId × FieldType)) (de : Nat) (sa : Nat → Nat) {L : List Nat} {f : Nat → va_E} {x y j : Nat} {q : kM} {ad τ : Nat → Nat} {E : kE} {S : kS} {cI cO cN : ClassId} (ht : tys[0]? = some (cI, .int)) (ht1 : tys[1]? = some (cO, .object "java/lang/Object")) (ht2 : tys[2]? = some (cN, .object "MergingFragments$Node")) (hG : kG cI cO cN de ad τ L f E S) (hx7 : x < 7) (hW : kWE E) (hlen : ∀ i, i < 7 → (S.2.2.1 i).length + 40 < 2 ^ 19) (hy : hp_at L f y (km q)) (hyt : τ y = 5) (hqj : q.2.1 = nI j) (hj : j < E.2.1) (hwi : S.1 x 7 = nI j → ∃ i, i < E.2.1 ∧ S.1 x 4 = nI i) : hp_Mv l y_G_handleTest (gw_ws y_G_handleTest b_G_handleTest 4 none) { frames := 10, cells := k_cu (k_tst E S x q) - k_cu S, slots := k_su (k_tst E S x q) - k_su S, locals := 227 } D kc tys (s_X de sa) [.ref (ad 0), .ref (ad (10 + x)), .ref y] L f (kP cI cO cN de ad τ L f E (k_tst E S x q)) (k_cu (k_tst E S x q) - k_cu S) (k_su (k_tst E S x q) - k_su S) := by
  refine hp_ofW (Qc := fun A => va_Qv (kP cI cO cN de ad τ L f E (k_tst E S x q)) (hp_B D kc A) A) (fr := fun A => A) (ret := none) (by decide) rfl (Nat.le_of_ble_eq_true rfl) ?_
  intro p e s m below meth c ls A hx hb hml hr hts hown hlk hnm hl hK hX h
  have hg : ∀ w ∈ gw, w.before _ s = true := fun w hw => hts w (List.mem_cons_of_mem _ hw)
  have hown : s.vm.findClass "MergingFragments" = some m.cls := hown
  have hnm : meth.name = "handleTest" := hnm
  have hl : lv_has ls 4 [(0, .ref (ad 0)), (1, .ref (ad (10 + x))), (2, .ref y)] := hl
  have hm12 : E.2.1 ≤ 12 := hG.2.2.2.2.2.2.2.2.2.2.2.1
  have hF : kFr τ L f τ (L, f) := kFr.rf
  have he := hG.1
  have hnd := hG.2.2.2.2.2.1 x hx7
  obtain ⟨gm, hm, hm1⟩ := hG.2.2.2.2.2.2.1 x hx7
  have hkx : kx q.2.1 = j := by rw [hqj]; exact kx_nI (by omega)
  have hle := k_wake_le (E := E) (S := S) (x := x)
  have hle2 := k_tst_le (E := E) (S := S) (x := x) (q := q)
  refine lv_aload_n hx hb d_G_handleTest_0 rfl (lv_at hl 0 rfl) ?_
  refine lv_aload_n hx hb d_G_handleTest_1 rfl (lv_at hl 1 rfl) ?_
  refine hp_callv (hp_runV (As := [.ref (ad (10 + x))]) (rest := []) ⟨hx, hb, hml, hown, hg⟩ (c_G_wakeIfAsleep l D tys de sa ht ht1 ht2 hG hx7 hW (fun i hi => (Nat.lt_of_le_of_lt (Nat.le_add_right _ 40) (hlen i hi))) ) (cwV 1 hg (gw_V w304 w306 ws6 w1 w307) rfl rfl rfl (by decide +kernel) ⟨Nat.le_of_ble_eq_true rfl, Nat.le_of_ble_eq_true rfl⟩) (s_ok de sa) hK hX h (hG.1) rfl rfl rfl hl.1 rfl (Nat.le_of_ble_eq_true rfl) d_G_handleTest_2 ⟨by dsimp only; omega, by dsimp only; omega⟩) h (fun Lc0 fc0 H locs hp h => ?_)
  obtain ⟨τc0, hG, hFc⟩ := hp
  dsimp only at hG
  have hFs := hFc
  obtain ⟨hy, hyt⟩ := hFs.msg hy hyt
  have hF := hF.trans hFs
  have hlen : ∀ i, i < 7 → ((k_wake E S x).2.2.1 i).length + 39 < 2 ^ 19 := fun i hi => by have z1 : ((S).2.2.1 i).length + 40 < 2 ^ 19 := hlen i hi; have z2 := k_wake_len (E := E) (S := S) (x := x) i; omega
  have he := hG.1
  have hnd := hG.2.2.2.2.2.1 x hx7
  obtain ⟨gm, hm, hm1⟩ := hG.2.2.2.2.2.2.1 x hx7
  refine lv_aload_n hx hb d_G_handleTest_5 rfl (lv_at hl 2 rfl) ?_
  refine hp_callR (hp_runV (As := []) (rest := []) ⟨hx, hb, hml, hown, hg⟩ (c_M_over l D tys de sa hy) (cwV 0 hg (gw_V w341 w342 w343 w15 w344) rfl rfl rfl (by decide +kernel) ⟨Nat.le_of_ble_eq_true rfl, Nat.le_of_ble_eq_true rfl⟩) (s_ok de sa) hK hX h hy rfl rfl rfl hl.1 rfl (Nat.le_of_ble_eq_true rfl) d_G_handleTest_6 ⟨by dsimp only; omega, by dsimp only; omega⟩) (fun r1 hp => ?_)
  subst hp
  rw [hqj]
  refine lv_istore_n (lv' := [(3, .int (nI j)), (0, .ref (ad 0)), (1, .ref (ad (10 + x))), (2, .ref y)]) hx hb d_G_handleTest_9 rfl hl (by decide) rfl (fun ls hl => ?_)
  refine lv_aload_n hx hb d_G_handleTest_10 rfl (lv_at hl 3 rfl) ?_
  refine hp_callR (hp_runV (As := []) (rest := []) ⟨hx, hb, hml, hown, hg⟩ (c_M_first l D tys de sa hy) (cwV 0 hg (gw_V w438 w439 w440 w15 w441) rfl rfl rfl (by decide +kernel) ⟨Nat.le_of_ble_eq_true rfl, Nat.le_of_ble_eq_true rfl⟩) (s_ok de sa) hK hX h hy rfl rfl rfl hl.1 rfl (Nat.le_of_ble_eq_true rfl) d_G_handleTest_11 ⟨by dsimp only; omega, by dsimp only; omega⟩) (fun r1 hp => ?_)
  subst hp
  refine lv_aload_n hx hb d_G_handleTest_14 rfl (lv_at hl 2 rfl) ?_
  refine hp_getN (v := .int ((k_wake E S x).1 x 1)) hx hb hg in_N hown hK h hnd rfl 4 (by decide) (s_N hX n87) (fun _ z => z) rfl d_G_handleTest_15 ?_
  refine lv_icmp_le (tgt := 29) hx hb d_G_handleTest_18 (by decide) (fun hc => ?_) (fun hc => ?_)
  · skip
    refine lv_aload_n hx hb d_G_handleTest_29 rfl (lv_at hl 3 rfl) ?_
    refine hp_callR (hp_runV (As := []) (rest := []) ⟨hx, hb, hml, hown, hg⟩ (c_M_second l D tys de sa hy) (cwV 0 hg (gw_V w451 w452 w453 w15 w454) rfl rfl rfl (by decide +kernel) ⟨Nat.le_of_ble_eq_true rfl, Nat.le_of_ble_eq_true rfl⟩) (s_ok de sa) hK hX h hy rfl rfl rfl hl.1 rfl (Nat.le_of_ble_eq_true rfl) d_G_handleTest_30 ⟨by dsimp only; omega, by dsimp only; omega⟩) (fun r1 hp => ?_)
    subst hp
    refine lv_aload_n hx hb d_G_handleTest_33 rfl (lv_at hl 2 rfl) ?_
    refine hp_getN (v := .int ((k_wake E S x).1 x 2)) hx hb hg in_N hown hK h hnd rfl 5 (by decide) (s_N hX n89) (fun _ z => z) rfl d_G_handleTest_34 ?_
    refine lv_icmp_eq (tgt := 60) hx hb d_G_handleTest_37 (by decide) (fun hc2 => ?_) (fun hc2 => ?_)
    · skip
      refine lv_aload_n hx hb d_G_handleTest_60 rfl (lv_at hl 2 rfl) ?_
      refine lv_iload_n hx hb d_G_handleTest_61 rfl (lv_at hl 0 rfl) ?_
      refine hp_callv (hp_runVN (As := [.int (nI j)]) (rest := []) ⟨hx, hb, hml, hown, hg⟩ (c_N_rejectIfBasic l D tys de sa (j := j) ht (kne (hG.2.2.2.2.2.2.2.2.2.1 x hx7).1 (hG.2.2.2.2.2.2.2.2.2.1 x hx7).2.1 (by omega)) (by omega) hnd hm) ⟨va_cnB 1 hg (gw_code w475) rfl rfl rfl (s_Nw hX n472) (hg _ w2) (by decide +kernel) ⟨Nat.le_of_ble_eq_true rfl, Nat.le_of_ble_eq_true rfl⟩, hg _ w474, hg _ ws20⟩ (s_ok de sa) hK hX h hnd rfl rfl rfl hl.1 rfl (Nat.le_of_ble_eq_true rfl) d_G_handleTest_62 ⟨by dsimp only; omega, by dsimp only; omega⟩) h (fun Ln fn1 H locs hp h => ?_)
      obtain ⟨hLn, hfn⟩ := Prod.mk.inj hp
      have hLn := hLn.symm
      subst hLn
      have hFs := kFr.w (L := Lc0) hfn (hG.2.2.2.2.2.2.2.2.2.1 x hx7).2.1 (by omega) (by omega)
      obtain ⟨hy, hyt⟩ := hFs.msg hy hyt
      have hF := hF.trans hFs
      have hG : kG cI cO cN de ad _ Lc0 fn1 E (k_rej (k_wake E S x) x j) := hG.wM hx7 hfn (fun i hi => by rw [show gm j = (k_wake E S x).2.1 x j from hm1 j (by omega)]; split; exact kupd hm1 i hi; exact hm1 i hi)
      have he := hG.1
      have hnd := hG.2.2.2.2.2.1 x hx7
      obtain ⟨gm, hm, hm1⟩ := hG.2.2.2.2.2.2.1 x hx7
      refine lv_aload_n hx hb d_G_handleTest_65 rfl (lv_at hl 2 rfl) ?_
      refine hp_getN (v := .int ((k_rej (k_wake E S x) x j).1 x 7)) hx hb hg in_N hown hK h hnd rfl 10 (by decide) (s_N hX n99) (fun _ z => z) rfl d_G_handleTest_66 ?_
      refine lv_iload_n hx hb d_G_handleTest_69 rfl (lv_at hl 0 rfl) ?_
      refine lv_icmp_eq (tgt := 93) hx hb d_G_handleTest_70 (by decide) (fun hc3 => ?_) (fun hc3 => ?_)
      · skip
        have hS9 : k_tst E S x q = k_test E (k_rej (k_wake E S x) x j) x := by unfold k_tst; rw [if_neg (Int32.not_lt.mpr hc), if_pos hc2, hkx, if_pos hc3]
        have hcu : k_cu (k_tst E S x q) = k_cu (k_test E (k_rej (k_wake E S x) x j) x) := by rw [hS9]
        have hsu : k_su (k_tst E S x q) = k_su (k_test E (k_rej (k_wake E S x) x j) x) := by rw [hS9]
        have hcu0 : k_cu (k_rej (k_wake E S x) x j) = k_cu (k_wake E S x) := rfl
        have hsu0 : k_su (k_rej (k_wake E S x) x j) = k_su (k_wake E S x) := rfl
        have hw4 : (k_wake E S x).1 x 7 = nI j := hc3
        refine lv_aload_n hx hb d_G_handleTest_93 rfl (lv_at hl 1 rfl) ?_
        refine lv_aload_n hx hb d_G_handleTest_94 rfl (lv_at hl 2 rfl) ?_
        refine hp_callv (hp_runV (As := [.ref (ad (10 + x))]) (rest := []) ⟨hx, hb, hml, hown, hg⟩ (c_G_testLightest l D tys de sa ht ht1 ht2 hG hx7 hW (fun i hi => (Nat.lt_of_le_of_lt (Nat.le_add_right _ 39) (hlen i hi))) (fun _ _ => by obtain ⟨i, hi, hwj⟩ := hwi ((k_wake_fld (by decide)).symm.trans hw4); exact ⟨i, hi, (k_wake_fld (E := E) (S := S) (x := x) (k := 4) (by decide)).trans hwj⟩)) (cwV 1 hg (gw_V w460 w462 ws17 w1 w463) rfl rfl rfl (by decide +kernel) ⟨Nat.le_of_ble_eq_true rfl, Nat.le_of_ble_eq_true rfl⟩) (s_ok de sa) hK hX h (hG.1) rfl rfl rfl hl.1 rfl (Nat.le_of_ble_eq_true rfl) d_G_handleTest_95 ⟨by dsimp only; omega, by dsimp only; omega⟩) h (fun Lc2 fc2 H locs hp h => ?_)
        obtain ⟨τc2, hG, hFc⟩ := hp
        dsimp only at hG
        have hFs := hFc
        obtain ⟨hy, hyt⟩ := hFs.msg hy hyt
        have hF := hF.trans hFs
        have hlen : ∀ i, i < 7 → ((k_test E (k_rej (k_wake E S x) x j) x).2.2.1 i).length + 38 < 2 ^ 19 := fun i hi => by have z1 : (((k_rej (k_wake E S x) x j)).2.2.1 i).length + 39 < 2 ^ 19 := hlen i hi; have z2 := k_test_len (E := E) (S := (k_rej (k_wake E S x) x j)) (x := x) i; omega
        have he := hG.1
        have hnd := hG.2.2.2.2.2.1 x hx7
        obtain ⟨gm, hm, hm1⟩ := hG.2.2.2.2.2.2.1 x hx7
        exact hp_vret hx hb hr hlk h (by rw [hS9]; exact ⟨_, hG, hF⟩) (by omega) (by omega) d_G_handleTest_98
      · skip
        have hS9 : k_tst E S x q = k_post E (k_rej (k_wake E S x) x j) x (4, nI j, 0, 0, 0) := by unfold k_tst; rw [if_neg (Int32.not_lt.mpr hc), if_pos hc2, hkx, if_neg hc3]
        have hcu : k_cu (k_tst E S x q) = k_cu (k_rej (k_wake E S x) x j) + 1 + k_qc (k_use (k_rej (k_wake E S x) x j) 1 5) (k_to E x j) := by rw [hS9]; exact k_post_cu rfl (by omega)
        have hsu : k_su (k_tst E S x q) = k_su (k_rej (k_wake E S x) x j) + 5 + k_qs (k_use (k_rej (k_wake E S x) x j) 1 5) (k_to E x j) := by rw [hS9]; exact k_post_su rfl (by omega)
        have hcu0 : k_cu (k_rej (k_wake E S x) x j) = k_cu (k_wake E S x) := rfl
        have hsu0 : k_su (k_rej (k_wake E S x) x j) = k_su (k_wake E S x) := rfl
        refine lv_aload_n hx hb d_G_handleTest_73 rfl (lv_at hl 1 rfl) ?_
        refine lv_aload_n hx hb d_G_handleTest_74 rfl (lv_at hl 2 rfl) ?_
        refine hp_new (ci := 2) (fs := [.int 0, .int 0, .int 0, .int 0, .int 0]) hx hb hg in_M t_M t_M_ok hown (hg _ w312) (hg _ w313) (hg _ w15) hK h rfl (fun j hj => by rcases (show j = 0 ∨ j = 1 ∨ j = 2 ∨ j = 3 ∨ j = 4 by omega) with rfl | rfl | rfl | rfl | rfl <;> rfl) (by dsimp only; omega) (by dsimp only; omega) d_G_handleTest_75 (fun y3 H Ly3 fy3 hq_y3 hL_y3 hf_y3 h => ?_)
        have he := he.push' hL_y3 hf_y3 hq_y3
        have hnd := hnd.push' hL_y3 hf_y3 hq_y3
        have hm := hm.push' hL_y3 hf_y3 hq_y3
        have hy3 := hp_at.new' hL_y3 hf_y3
        refine lv_dup hx hb d_G_handleTest_78 rfl ?_
        refine lv_iconst (v := 4) hx hb d_G_handleTest_79 (by decide) ?_
        refine lv_iload_n hx hb d_G_handleTest_80 rfl (lv_at hl 0 rfl) ?_
        refine lv_iconst (v := 0) hx hb d_G_handleTest_81 (by decide) ?_
        refine lv_iconst (v := 0) hx hb d_G_handleTest_82 (by decide) ?_
        refine lv_iconst (v := 0) hx hb d_G_handleTest_83 (by decide) ?_
        refine hp_callv (hp_runIN (As := [.int 4, .int (nI j), .int 0, .int 0, .int 0]) (rest := [.ref y3, .ref (ad (10 + x)), .ref (ad 0)]) ⟨hx, hb, hml, hown, hg⟩ (c_M_init l D tys de sa hy3) ⟨va_cnB 5 hg (gw_code w316) rfl rfl rfl (s_Nw hX n314) (hg _ w15) (by decide +kernel) ⟨Nat.le_of_ble_eq_true rfl, Nat.le_of_ble_eq_true rfl⟩, rfl, hg _ w315⟩ (s_ok de sa) hK hX h rfl hl.1 rfl (Nat.le_of_ble_eq_true rfl) d_G_handleTest_84 ⟨by dsimp only; omega, by dsimp only; omega⟩) h (fun Lm fz3 H locs hp h => ?_)
        obtain ⟨hLm, hfm⟩ := Prod.mk.inj hp
        have hLm := hLm.symm
        subst hLm
        have hfy3 : fz3 = va_up fn1 y3 (km (4, (nI j), 0, 0, 0)) := by rw [hfm, hf_y3, bx_uu]
        have hy3 : hp_at Ly3 fz3 y3 (km (4, (nI j), 0, 0, 0)) := hp_at.new' hL_y3 hfy3
        have hFs := hG.fpush (t := 5) hL_y3 hfy3 hq_y3
        obtain ⟨hy, hyt⟩ := hFs.msg hy hyt
        have hF := hF.trans hFs
        have hG : kG cI cO cN de ad _ Ly3 fz3 E (k_use (k_rej (k_wake E S x) x j) 1 5) := hG.push (t := 5) hL_y3 hfy3 hq_y3
        refine hp_callv (hp_runV (As := [.ref (ad (10 + x)), .ref y3]) (rest := []) ⟨hx, hb, hml, hown, hg⟩ (c_G_send l D tys de sa (j := j) ht ht1 ht2 hG hx7 hy3 (kup_self _ _ _) rfl hj rfl (k_to7 hW hj) (hW.1 _ hj) (Nat.lt_of_le_of_lt (Nat.le_add_right _ 39) (hlen _ (k_to7 hW hj)))) (cwV 2 hg (gw_V w337 w339 ws8 w1 w340) rfl rfl rfl (by decide +kernel) ⟨Nat.le_of_ble_eq_true rfl, Nat.le_of_ble_eq_true rfl⟩) (s_ok de sa) hK hX h (hG.1) rfl rfl rfl hl.1 rfl (Nat.le_of_ble_eq_true rfl) d_G_handleTest_87 ⟨by dsimp only; omega, by dsimp only; omega⟩) h (fun Ls3 fs3 H locs hp h => ?_)
        obtain ⟨τs3, hG, hF1⟩ := hp
        dsimp only at hG
        have hFs := hF1
        obtain ⟨hy, hyt⟩ := hFs.msg hy hyt
        have hF := hF.trans hFs
        have hlen : ∀ i, i < 7 → ((k_post E (k_rej (k_wake E S x) x j) x (4, (nI j), 0, 0, 0)).2.2.1 i).length + 38 < 2 ^ 19 := fun i hi => by have z1 : (((k_rej (k_wake E S x) x j)).2.2.1 i).length + 39 < 2 ^ 19 := hlen i hi; have z2 := k_post_len (E := E) (S := (k_rej (k_wake E S x) x j)) (x := x) (q := (4, (nI j), 0, 0, 0)) i; omega
        have he := hG.1
        have hnd := hG.2.2.2.2.2.1 x hx7
        obtain ⟨gm, hm, hm1⟩ := hG.2.2.2.2.2.2.1 x hx7
        refine lv_goto (tgt := 98) hx hb d_G_handleTest_90 (by decide) ?_
        exact hp_vret hx hb hr hlk h (by rw [hS9]; exact ⟨_, hG, hF⟩) (by omega) (by omega) d_G_handleTest_98
    · skip
      have hS9 : k_tst E S x q = k_post E (k_wake E S x) x (3, nI j, 0, 0, 0) := by unfold k_tst; rw [if_neg (Int32.not_lt.mpr hc), if_neg hc2, hkx]
      have hcu : k_cu (k_tst E S x q) = k_cu (k_wake E S x) + 1 + k_qc (k_use (k_wake E S x) 1 5) (k_to E x j) := by rw [hS9]; exact k_post_cu rfl (by omega)
      have hsu : k_su (k_tst E S x q) = k_su (k_wake E S x) + 5 + k_qs (k_use (k_wake E S x) 1 5) (k_to E x j) := by rw [hS9]; exact k_post_su rfl (by omega)
      have hcu0 : k_cu (k_wake E S x) = k_cu (k_wake E S x) := rfl
      have hsu0 : k_su (k_wake E S x) = k_su (k_wake E S x) := rfl
      refine lv_aload_n hx hb d_G_handleTest_40 rfl (lv_at hl 1 rfl) ?_
      refine lv_aload_n hx hb d_G_handleTest_41 rfl (lv_at hl 2 rfl) ?_
      refine hp_new (ci := 2) (fs := [.int 0, .int 0, .int 0, .int 0, .int 0]) hx hb hg in_M t_M t_M_ok hown (hg _ w312) (hg _ w313) (hg _ w15) hK h rfl (fun j hj => by rcases (show j = 0 ∨ j = 1 ∨ j = 2 ∨ j = 3 ∨ j = 4 by omega) with rfl | rfl | rfl | rfl | rfl <;> rfl) (by dsimp only; omega) (by dsimp only; omega) d_G_handleTest_42 (fun y4 H Ly4 fy4 hq_y4 hL_y4 hf_y4 h => ?_)
      have he := he.push' hL_y4 hf_y4 hq_y4
      have hnd := hnd.push' hL_y4 hf_y4 hq_y4
      have hm := hm.push' hL_y4 hf_y4 hq_y4
      have hy4 := hp_at.new' hL_y4 hf_y4
      refine lv_dup hx hb d_G_handleTest_45 rfl ?_
      refine lv_iconst (v := 3) hx hb d_G_handleTest_46 (by decide) ?_
      refine lv_iload_n hx hb d_G_handleTest_47 rfl (lv_at hl 0 rfl) ?_
      refine lv_iconst (v := 0) hx hb d_G_handleTest_48 (by decide) ?_
      refine lv_iconst (v := 0) hx hb d_G_handleTest_49 (by decide) ?_
      refine lv_iconst (v := 0) hx hb d_G_handleTest_50 (by decide) ?_
      refine hp_callv (hp_runIN (As := [.int 3, .int (nI j), .int 0, .int 0, .int 0]) (rest := [.ref y4, .ref (ad (10 + x)), .ref (ad 0)]) ⟨hx, hb, hml, hown, hg⟩ (c_M_init l D tys de sa hy4) ⟨va_cnB 5 hg (gw_code w316) rfl rfl rfl (s_Nw hX n314) (hg _ w15) (by decide +kernel) ⟨Nat.le_of_ble_eq_true rfl, Nat.le_of_ble_eq_true rfl⟩, rfl, hg _ w315⟩ (s_ok de sa) hK hX h rfl hl.1 rfl (Nat.le_of_ble_eq_true rfl) d_G_handleTest_51 ⟨by dsimp only; omega, by dsimp only; omega⟩) h (fun Lm fz4 H locs hp h => ?_)
      obtain ⟨hLm, hfm⟩ := Prod.mk.inj hp
      have hLm := hLm.symm
      subst hLm
      have hfy4 : fz4 = va_up fc0 y4 (km (3, (nI j), 0, 0, 0)) := by rw [hfm, hf_y4, bx_uu]
      have hy4 : hp_at Ly4 fz4 y4 (km (3, (nI j), 0, 0, 0)) := hp_at.new' hL_y4 hfy4
      have hFs := hG.fpush (t := 5) hL_y4 hfy4 hq_y4
      obtain ⟨hy, hyt⟩ := hFs.msg hy hyt
      have hF := hF.trans hFs
      have hG : kG cI cO cN de ad _ Ly4 fz4 E (k_use (k_wake E S x) 1 5) := hG.push (t := 5) hL_y4 hfy4 hq_y4
      refine hp_callv (hp_runV (As := [.ref (ad (10 + x)), .ref y4]) (rest := []) ⟨hx, hb, hml, hown, hg⟩ (c_G_send l D tys de sa (j := j) ht ht1 ht2 hG hx7 hy4 (kup_self _ _ _) rfl hj rfl (k_to7 hW hj) (hW.1 _ hj) (Nat.lt_of_le_of_lt (Nat.le_add_right _ 39) (hlen _ (k_to7 hW hj)))) (cwV 2 hg (gw_V w337 w339 ws8 w1 w340) rfl rfl rfl (by decide +kernel) ⟨Nat.le_of_ble_eq_true rfl, Nat.le_of_ble_eq_true rfl⟩) (s_ok de sa) hK hX h (hG.1) rfl rfl rfl hl.1 rfl (Nat.le_of_ble_eq_true rfl) d_G_handleTest_54 ⟨by dsimp only; omega, by dsimp only; omega⟩) h (fun Ls4 fs4 H locs hp h => ?_)
      obtain ⟨τs4, hG, hF1⟩ := hp
      dsimp only at hG
      have hFs := hF1
      obtain ⟨hy, hyt⟩ := hFs.msg hy hyt
      have hF := hF.trans hFs
      have hlen : ∀ i, i < 7 → ((k_post E (k_wake E S x) x (3, (nI j), 0, 0, 0)).2.2.1 i).length + 38 < 2 ^ 19 := fun i hi => by have z1 : (((k_wake E S x)).2.2.1 i).length + 39 < 2 ^ 19 := hlen i hi; have z2 := k_post_len (E := E) (S := (k_wake E S x)) (x := x) (q := (3, (nI j), 0, 0, 0)) i; omega
      have he := hG.1
      have hnd := hG.2.2.2.2.2.1 x hx7
      obtain ⟨gm, hm, hm1⟩ := hG.2.2.2.2.2.2.1 x hx7
      refine lv_goto (tgt := 98) hx hb d_G_handleTest_57 (by decide) ?_
      exact hp_vret hx hb hr hlk h (by rw [hS9]; exact ⟨_, hG, hF⟩) (by omega) (by omega) d_G_handleTest_98
  · skip
    refine lv_aload_n hx hb d_G_handleTest_21 rfl (lv_at hl 2 rfl) ?_
    refine lv_aload_n hx hb d_G_handleTest_22 rfl (lv_at hl 3 rfl) ?_
    have hS9 : (k_tst E S x q) = k_add (k_wake E S x) x q := by unfold k_tst; rw [if_pos (Int32.not_le.mp hc)]
    have hcu : k_cu (k_tst E S x q) = k_cu (k_wake E S x) + k_qc (k_wake E S x) x := by rw [hS9]; exact k_add_cu.1
    have hsu : k_su (k_tst E S x q) = k_su (k_wake E S x) + k_qs (k_wake E S x) x := by rw [hS9]; exact k_add_cu.2
    obtain ⟨ea, mo, hqa, hQr⟩ := hG.2.2.2.2.2.2.2.1 x hx7
    obtain ⟨g, hE, hel, htea⟩ := hQr.e
    have hdeL : de ∉ Lc0 := fun z => s_de hX (h.inA ⟨z, rfl⟩)
    refine hp_callv (hp_runVN (As := [.ref y]) (rest := []) ⟨hx, hb, hml, hown, hg⟩ (c_N_putBack l D tys de sa (k := ((k_wake E S x).2.2.1 x).length) (cap := (k_wake E S x).2.2.2.1 x) hnd ht1 hqa hy hE) ⟨va_cnB 1 hg (gw_code w445) rfl rfl rfl (s_Nw hX n442) (hg _ w2) (by decide +kernel) ⟨Nat.le_of_ble_eq_true rfl, Nat.le_of_ble_eq_true rfl⟩, hg _ w444, hg _ ws15⟩ (s_ok de sa) hK hX h hnd rfl rfl rfl hl.1 rfl (Nat.le_of_ble_eq_true rfl) d_G_handleTest_23 ⟨by show _ ≤ k_cu (k_tst E S x q) - k_cu S; unfold k_qc at hcu; omega, by show _ ≤ k_su (k_tst E S x q) - k_su S; unfold k_qs at hsu; omega⟩) h (fun Lp fp H locs hp h => ?_)
    obtain ⟨τp, hG, hFp⟩ := kH.qadd (u := (Lp, fp)) hqa hQr hG hdeL hx7 (Nat.lt_of_le_of_lt (Nat.le_add_right _ 39) (hlen _ hx7)) hy hyt hel htea hp
    dsimp only at hG
    have hFs := hFp
    obtain ⟨hy, hyt⟩ := hFs.msg hy hyt
    have hF := hF.trans hFs
    refine lv_goto (tgt := 98) hx hb d_G_handleTest_26 (by decide) ?_
    exact hp_vret hx hb hr hlk h (by rw [hS9]; exact ⟨_, hG, hF⟩) (by unfold k_qc at hcu; omega) (by unfold k_qs at hsu; omega) d_G_handleTest_98

set_option maxHeartbeats 4000000 in
set_option maxRecDepth 100000 in
theorem c_G_handleReport (l : Launch) (D : va_G) (tys : List (ClassId × FieldType)) (de : Nat) (sa : Nat → Nat) {L : List Nat} {f : Nat → va_E} {x y j : Nat} {q : kM} {ad τ : Nat → Nat} {E : kE} {S : kS} {cI cO cN : ClassId} (ht : tys[0]? = some (cI, .int)) (ht1 : tys[1]? = some (cO, .object "java/lang/Object")) (ht2 : tys[2]? = some (cN, .object "MergingFragments$Node")) (hG : kG cI cO cN de ad τ L f E S) (hx7 : x < 7) (hW : kWE E) (hlen : ∀ i, i < 7 → (S.2.2.1 i).length + 40 < 2 ^ 19) (hy : hp_at L f y (km q)) (hyt : τ y = 5) (hqj : q.2.1 = nI j) (hj : j < E.2.1) (hwi : ¬ q.2.1 = S.1 x 4 → ∃ i, i < E.2.1 ∧ S.1 x 4 = nI i) (hbe : q.2.1 = S.1 x 4 → ¬ S.1 x 0 = 1 → S.1 x 6 < q.2.2.1 → ∃ i, i < E.2.1 ∧ S.1 x 5 = nI i) : hp_Mv l y_G_handleReport (gw_ws y_G_handleReport b_G_handleReport 4 none) { frames := 9, cells := k_cu (k_rep E S x q) - k_cu S, slots := k_su (k_rep E S x q) - k_su S, locals := 206 } D kc tys (s_X de sa) [.ref (ad 0), .ref (ad (10 + x)), .ref y] L f (kP cI cO cN de ad τ L f E (k_rep E S x q)) (k_cu (k_rep E S x q) - k_cu S) (k_su (k_rep E S x q) - k_su S) := by
  refine hp_ofW (Qc := fun A => va_Qv (kP cI cO cN de ad τ L f E (k_rep E S x q)) (hp_B D kc A) A) (fr := fun A => A) (ret := none) (by decide) rfl (Nat.le_of_ble_eq_true rfl) ?_
  intro p e s m below meth c ls A hx hb hml hr hts hown hlk hnm hl hK hX h
  have hg : ∀ w ∈ gw, w.before _ s = true := fun w hw => hts w (List.mem_cons_of_mem _ hw)
  have hown : s.vm.findClass "MergingFragments" = some m.cls := hown
  have hnm : meth.name = "handleReport" := hnm
  have hl : lv_has ls 4 [(0, .ref (ad 0)), (1, .ref (ad (10 + x))), (2, .ref y)] := hl
  have hm12 : E.2.1 ≤ 12 := hG.2.2.2.2.2.2.2.2.2.2.2.1
  have hF : kFr τ L f τ (L, f) := kFr.rf
  have he := hG.1
  have hnd := hG.2.2.2.2.2.1 x hx7
  obtain ⟨gm, hm, hm1⟩ := hG.2.2.2.2.2.2.1 x hx7
  refine lv_aload_n hx hb d_G_handleReport_0 rfl (lv_at hl 2 rfl) ?_
  refine hp_callR (hp_runV (As := []) (rest := []) ⟨hx, hb, hml, hown, hg⟩ (c_M_first l D tys de sa hy) (cwV 0 hg (gw_V w438 w439 w440 w15 w441) rfl rfl rfl (by decide +kernel) ⟨Nat.le_of_ble_eq_true rfl, Nat.le_of_ble_eq_true rfl⟩) (s_ok de sa) hK hX h hy rfl rfl rfl hl.1 rfl (Nat.le_of_ble_eq_true rfl) d_G_handleReport_1 ⟨by dsimp only; omega, by dsimp only; omega⟩) (fun r1 hp => ?_)
  subst hp
  refine lv_istore_n (lv' := [(3, .int q.2.2.1), (0, .ref (ad 0)), (1, .ref (ad (10 + x))), (2, .ref y)]) hx hb d_G_handleReport_4 rfl hl (by decide) rfl (fun ls hl => ?_)
  refine lv_aload_n hx hb d_G_handleReport_5 rfl (lv_at hl 3 rfl) ?_
  refine hp_callR (hp_runV (As := []) (rest := []) ⟨hx, hb, hml, hown, hg⟩ (c_M_over l D tys de sa hy) (cwV 0 hg (gw_V w341 w342 w343 w15 w344) rfl rfl rfl (by decide +kernel) ⟨Nat.le_of_ble_eq_true rfl, Nat.le_of_ble_eq_true rfl⟩) (s_ok de sa) hK hX h hy rfl rfl rfl hl.1 rfl (Nat.le_of_ble_eq_true rfl) d_G_handleReport_6 ⟨by dsimp only; omega, by dsimp only; omega⟩) (fun r1 hp => ?_)
  subst hp
  refine lv_aload_n hx hb d_G_handleReport_9 rfl (lv_at hl 2 rfl) ?_
  refine hp_getN (v := .int (S.1 x 4)) hx hb hg in_N hown hK h hnd rfl 7 (by decide) (s_N hX n93) (fun _ z => z) rfl d_G_handleReport_10 ?_
  refine lv_icmp_eq (tgt := 43) hx hb d_G_handleReport_13 (by decide) (fun hc => ?_) (fun hc => ?_)
  · skip
    refine lv_aload_n hx hb d_G_handleReport_43 rfl (lv_at hl 2 rfl) ?_
    refine hp_getN (v := .int (S.1 x 0)) hx hb hg in_N hown hK h hnd rfl 3 (by decide) (s_N hX n85) (fun _ z => z) rfl d_G_handleReport_44 ?_
    refine lv_iconst (v := 1) hx hb d_G_handleReport_47 (by decide) ?_
    refine lv_icmp_ne (tgt := 59) hx hb d_G_handleReport_48 (by decide) (fun hc2 => ?_) (fun hc2 => ?_)
    · skip
      refine lv_iload_n hx hb d_G_handleReport_59 rfl (lv_at hl 0 rfl) ?_
      refine lv_aload_n hx hb d_G_handleReport_60 rfl (lv_at hl 2 rfl) ?_
      refine hp_getN (v := .int (S.1 x 6)) hx hb hg in_N hown hK h hnd rfl 9 (by decide) (s_N hX n97) (fun _ z => z) rfl d_G_handleReport_61 ?_
      refine lv_icmp_le (tgt := 75) hx hb d_G_handleReport_64 (by decide) (fun hc3 => ?_) (fun hc3 => ?_)
      · skip
        refine lv_iload_n hx hb d_G_handleReport_75 rfl (lv_at hl 0 rfl) ?_
        refine lv_bipush (v := 100) hx hb d_G_handleReport_76 (by decide) ?_
        refine lv_icmp_ne (tgt := 86) hx hb d_G_handleReport_78 (by decide) (fun hc4 => ?_) (fun hc4 => ?_)
        · skip
          exact hp_vret hx hb hr hlk h (by rw [show k_rep E S x q = S from by unfold k_rep; rw [if_pos hc, if_neg hc2, if_neg (Int32.not_lt.mpr hc3), if_neg hc4]]; exact ⟨_, hG, hF⟩) (Nat.zero_le _) (Nat.zero_le _) d_G_handleReport_86
        · skip
          refine lv_aload_n hx hb d_G_handleReport_81 rfl (lv_at hl 2 rfl) ?_
          refine lv_iconst (v := 1) hx hb d_G_handleReport_82 (by decide) ?_
          refine hp_putN (ty := .boolean) (v := .int 1) (fs' := [.int (nI x), .ref (ad (20 + x)), .ref (ad (30 + x)), .int (S.1 x 0), .int (S.1 x 1), .int (S.1 x 2), .int (S.1 x 3), .int (S.1 x 4), .int (S.1 x 5), .int (S.1 x 6), .int (S.1 x 7), .int 1]) hx hb hg in_N t_N t_N_ok n_N hown hK h hnd rfl 11 (by decide) (s_N hX n101) (fun _ z => z) rfl (by decide +kernel) rfl rfl (Nat.le_of_ble_eq_true rfl) rfl d_G_handleReport_83 (fun H locs f1 hf1 h => ?_)
          have hFs := kFr.w (L := L) hf1 (hG.2.2.2.2.2.2.2.2.2.1 x hx7).1 (by omega) (by omega)
          obtain ⟨hy, hyt⟩ := hFs.msg hy hyt
          have hF := hF.trans hFs
          have hG : kG cI cO cN de ad _ L f1 E (k_fld S x 8 1) := hG.wN hx7 (v' := upd (S.1 x) 8 1) hf1
          have he := hG.1
          have hnd := hG.2.2.2.2.2.1 x hx7
          obtain ⟨gm, hm, hm1⟩ := hG.2.2.2.2.2.2.1 x hx7
          exact hp_vret hx hb hr hlk h (by rw [show k_rep E S x q = k_fld S x 8 1 from by unfold k_rep; rw [if_pos hc, if_neg hc2, if_neg (Int32.not_lt.mpr hc3), if_pos hc4]]; exact ⟨_, hG, hF⟩) (Nat.zero_le _) (Nat.zero_le _) d_G_handleReport_86
      · skip
        have hS9 : k_rep E S x q = k_move E S x := by unfold k_rep; rw [if_pos hc, if_neg hc2, if_pos (Int32.not_le.mp hc3)]
        have hcu : k_cu (k_rep E S x q) = k_cu (k_move E S x) := by rw [hS9]
        have hsu : k_su (k_rep E S x q) = k_su (k_move E S x) := by rw [hS9]
        obtain ⟨jb, hjb, hbj⟩ := hbe hc hc2 (Int32.not_le.mp hc3)
        refine lv_aload_n hx hb d_G_handleReport_67 rfl (lv_at hl 1 rfl) ?_
        refine lv_aload_n hx hb d_G_handleReport_68 rfl (lv_at hl 2 rfl) ?_
        refine hp_callv (hp_runV (As := [.ref (ad (10 + x))]) (rest := []) ⟨hx, hb, hml, hown, hg⟩ (c_G_moveCore l D tys de sa ht ht1 ht2 hG hx7 hW (fun i hi => (Nat.lt_of_le_of_lt (Nat.le_add_right _ 40) (hlen i hi))) hjb hbj) (cwV 1 hg (gw_V w492 w494 ws25 w1 w495) rfl rfl rfl (by decide +kernel) ⟨Nat.le_of_ble_eq_true rfl, Nat.le_of_ble_eq_true rfl⟩) (s_ok de sa) hK hX h (hG.1) rfl rfl rfl hl.1 rfl (Nat.le_of_ble_eq_true rfl) d_G_handleReport_69 ⟨by dsimp only; omega, by dsimp only; omega⟩) h (fun Lc0 fc0 H locs hp h => ?_)
        obtain ⟨τc0, hG, hFc⟩ := hp
        dsimp only at hG
        have hFs := hFc
        obtain ⟨hy, hyt⟩ := hFs.msg hy hyt
        have hF := hF.trans hFs
        have hlen : ∀ i, i < 7 → ((k_move E S x).2.2.1 i).length + 39 < 2 ^ 19 := fun i hi => by have z1 : ((S).2.2.1 i).length + 40 < 2 ^ 19 := hlen i hi; have z2 := k_move_len (E := E) (S := S) (x := x) i; omega
        have he := hG.1
        have hnd := hG.2.2.2.2.2.1 x hx7
        obtain ⟨gm, hm, hm1⟩ := hG.2.2.2.2.2.2.1 x hx7
        refine lv_goto (tgt := 86) hx hb d_G_handleReport_72 (by decide) ?_
        exact hp_vret hx hb hr hlk h (by rw [hS9]; exact ⟨_, hG, hF⟩) (by omega) (by omega) d_G_handleReport_86
    · skip
      refine lv_aload_n hx hb d_G_handleReport_51 rfl (lv_at hl 2 rfl) ?_
      refine lv_aload_n hx hb d_G_handleReport_52 rfl (lv_at hl 3 rfl) ?_
      have hS9 : (k_rep E S x q) = k_add S x q := by unfold k_rep; rw [if_pos hc, if_pos hc2]
      have hcu : k_cu (k_rep E S x q) = k_cu S + k_qc S x := by rw [hS9]; exact k_add_cu.1
      have hsu : k_su (k_rep E S x q) = k_su S + k_qs S x := by rw [hS9]; exact k_add_cu.2
      obtain ⟨ea, mo, hqa, hQr⟩ := hG.2.2.2.2.2.2.2.1 x hx7
      obtain ⟨g, hE, hel, htea⟩ := hQr.e
      have hdeL : de ∉ L := fun z => s_de hX (h.inA ⟨z, rfl⟩)
      refine hp_callv (hp_runVN (As := [.ref y]) (rest := []) ⟨hx, hb, hml, hown, hg⟩ (c_N_putBack l D tys de sa (k := (S.2.2.1 x).length) (cap := S.2.2.2.1 x) hnd ht1 hqa hy hE) ⟨va_cnB 1 hg (gw_code w445) rfl rfl rfl (s_Nw hX n442) (hg _ w2) (by decide +kernel) ⟨Nat.le_of_ble_eq_true rfl, Nat.le_of_ble_eq_true rfl⟩, hg _ w444, hg _ ws15⟩ (s_ok de sa) hK hX h hnd rfl rfl rfl hl.1 rfl (Nat.le_of_ble_eq_true rfl) d_G_handleReport_53 ⟨by show _ ≤ k_cu (k_rep E S x q) - k_cu S; unfold k_qc at hcu; omega, by show _ ≤ k_su (k_rep E S x q) - k_su S; unfold k_qs at hsu; omega⟩) h (fun Lp fp H locs hp h => ?_)
      obtain ⟨τp, hG, hFp⟩ := kH.qadd (u := (Lp, fp)) hqa hQr hG hdeL hx7 (Nat.lt_of_le_of_lt (Nat.le_add_right _ 40) (hlen _ hx7)) hy hyt hel htea hp
      dsimp only at hG
      have hFs := hFp
      obtain ⟨hy, hyt⟩ := hFs.msg hy hyt
      have hF := hF.trans hFs
      refine lv_goto (tgt := 86) hx hb d_G_handleReport_56 (by decide) ?_
      exact hp_vret hx hb hr hlk h (by rw [hS9]; exact ⟨_, hG, hF⟩) (by unfold k_qc at hcu; omega) (by unfold k_qs at hsu; omega) d_G_handleReport_86
  · skip
    have hS9 : k_rep E S x q = k_report E (k_best (k_fld S x 3 (S.1 x 3 - 1)) x q.2.1 q.2.2.1) x := if_neg hc
    have hcu : k_cu (k_rep E S x q) = k_cu (k_report E (k_best (k_fld S x 3 (S.1 x 3 - 1)) x q.2.1 q.2.2.1) x) := by rw [hS9]
    have hsu : k_su (k_rep E S x q) = k_su (k_report E (k_best (k_fld S x 3 (S.1 x 3 - 1)) x q.2.1 q.2.2.1) x) := by rw [hS9]
    have hcu0 : k_cu (k_best (k_fld S x 3 (S.1 x 3 - 1)) x q.2.1 q.2.2.1) = k_cu S := rfl
    have hsu0 : k_su (k_best (k_fld S x 3 (S.1 x 3 - 1)) x q.2.1 q.2.2.1) = k_su S := rfl
    refine lv_aload_n hx hb d_G_handleReport_16 rfl (lv_at hl 2 rfl) ?_
    refine lv_dup hx hb d_G_handleReport_17 rfl ?_
    refine hp_getN (v := .int (S.1 x 3)) hx hb hg in_N hown hK h hnd rfl 6 (by decide) (s_N hX n91) (fun _ z => z) rfl d_G_handleReport_18 ?_
    refine lv_iconst (v := 1) hx hb d_G_handleReport_21 (by decide) ?_
    refine lv_isub hx hb d_G_handleReport_22 ?_
    refine hp_putN (ty := .int) (v := .int ((S.1 x 3) - 1)) (fs' := [.int (nI x), .ref (ad (20 + x)), .ref (ad (30 + x)), .int (S.1 x 0), .int (S.1 x 1), .int (S.1 x 2), .int ((S.1 x 3) - 1), .int (S.1 x 4), .int (S.1 x 5), .int (S.1 x 6), .int (S.1 x 7), .int (S.1 x 8)]) hx hb hg in_N t_N t_N_ok n_N hown hK h hnd rfl 6 (by decide) (s_N hX n91) (fun _ z => z) rfl (by decide +kernel) rfl rfl (Nat.le_of_ble_eq_true rfl) rfl d_G_handleReport_23 (fun H locs f1 hf1 h => ?_)
    have hFs := kFr.w (L := L) hf1 (hG.2.2.2.2.2.2.2.2.2.1 x hx7).1 (by omega) (by omega)
    obtain ⟨hy, hyt⟩ := hFs.msg hy hyt
    have hF := hF.trans hFs
    have hG : kG cI cO cN de ad _ L f1 E (k_fld S x 3 (S.1 x 3 - 1)) := hG.wN hx7 (v' := upd (S.1 x) 3 (S.1 x 3 - 1)) hf1
    have he := hG.1
    have hnd := hG.2.2.2.2.2.1 x hx7
    obtain ⟨gm, hm, hm1⟩ := hG.2.2.2.2.2.2.1 x hx7
    refine lv_aload_n hx hb d_G_handleReport_26 rfl (lv_at hl 2 rfl) ?_
    refine lv_aload_n hx hb d_G_handleReport_27 rfl (lv_at hl 3 rfl) ?_
    refine hp_callR (hp_runV (As := []) (rest := [.ref (ad (10 + x))]) ⟨hx, hb, hml, hown, hg⟩ (c_M_over l D tys de sa hy) (cwV 0 hg (gw_V w341 w342 w343 w15 w344) rfl rfl rfl (by decide +kernel) ⟨Nat.le_of_ble_eq_true rfl, Nat.le_of_ble_eq_true rfl⟩) (s_ok de sa) hK hX h hy rfl rfl rfl hl.1 rfl (Nat.le_of_ble_eq_true rfl) d_G_handleReport_28 ⟨by dsimp only; omega, by dsimp only; omega⟩) (fun r1 hp => ?_)
    subst hp
    refine lv_iload_n hx hb d_G_handleReport_31 rfl (lv_at hl 0 rfl) ?_
    refine hp_callv (hp_runVN (As := [.int q.2.1, .int q.2.2.1]) (rest := []) ⟨hx, hb, hml, hown, hg⟩ (c_N_improveBest l D tys de sa (v := (k_fld S x 3 (S.1 x 3 - 1)).1 x) (x := q.2.1) (y := q.2.2.1) hnd) ⟨va_cnB 2 hg (gw_code w483) rfl rfl rfl (s_Nw hX n480) (hg _ w2) (by decide +kernel) ⟨Nat.le_of_ble_eq_true rfl, Nat.le_of_ble_eq_true rfl⟩, hg _ w482, hg _ ws22⟩ (s_ok de sa) hK hX h hnd rfl rfl rfl hl.1 rfl (Nat.le_of_ble_eq_true rfl) d_G_handleReport_32 ⟨by dsimp only; omega, by dsimp only; omega⟩) h (fun Ln fn2 H locs hp h => ?_)
    obtain ⟨hLn, hfn⟩ := Prod.mk.inj hp
    have hLn := hLn.symm
    subst hLn
    have hFs := kFr.w (L := L) hfn (hG.2.2.2.2.2.2.2.2.2.1 x hx7).1 (by omega) (by omega)
    obtain ⟨hy, hyt⟩ := hFs.msg hy hyt
    have hF := hF.trans hFs
    have hG : kG cI cO cN de ad _ L fn2 E (k_best (k_fld S x 3 (S.1 x 3 - 1)) x q.2.1 q.2.2.1) := hG.wN hx7 hfn
    have he := hG.1
    have hnd := hG.2.2.2.2.2.1 x hx7
    obtain ⟨gm, hm, hm1⟩ := hG.2.2.2.2.2.2.1 x hx7
    refine lv_aload_n hx hb d_G_handleReport_35 rfl (lv_at hl 1 rfl) ?_
    refine lv_aload_n hx hb d_G_handleReport_36 rfl (lv_at hl 2 rfl) ?_
    refine hp_callv (hp_runV (As := [.ref (ad (10 + x))]) (rest := []) ⟨hx, hb, hml, hown, hg⟩ (c_G_reportIfReady l D tys de sa ht ht1 ht2 hG hx7 hW (fun i hi => (Nat.lt_of_le_of_lt (Nat.le_add_right _ 40) (hlen i hi))) (fun _ _ => by obtain ⟨i, hi, hwj⟩ := hwi hc; exact ⟨i, hi, (k_best_ne (by decide) (by decide)).trans ((k_fld_ne (by decide)).trans hwj)⟩)) (cwV 1 hg (gw_V w464 w466 ws18 w1 w467) rfl rfl rfl (by decide +kernel) ⟨Nat.le_of_ble_eq_true rfl, Nat.le_of_ble_eq_true rfl⟩) (s_ok de sa) hK hX h (hG.1) rfl rfl rfl hl.1 rfl (Nat.le_of_ble_eq_true rfl) d_G_handleReport_37 ⟨by dsimp only; omega, by dsimp only; omega⟩) h (fun Lc3 fc3 H locs hp h => ?_)
    obtain ⟨τc3, hG, hFc⟩ := hp
    dsimp only at hG
    have hFs := hFc
    obtain ⟨hy, hyt⟩ := hFs.msg hy hyt
    have hF := hF.trans hFs
    have hlen : ∀ i, i < 7 → ((k_report E (k_best (k_fld S x 3 (S.1 x 3 - 1)) x q.2.1 q.2.2.1) x).2.2.1 i).length + 39 < 2 ^ 19 := fun i hi => by have z1 : (((k_best (k_fld S x 3 (S.1 x 3 - 1)) x q.2.1 q.2.2.1)).2.2.1 i).length + 40 < 2 ^ 19 := hlen i hi; have z2 := k_report_len (E := E) (S := (k_best (k_fld S x 3 (S.1 x 3 - 1)) x q.2.1 q.2.2.1)) (x := x) i; omega
    have he := hG.1
    have hnd := hG.2.2.2.2.2.1 x hx7
    obtain ⟨gm, hm, hm1⟩ := hG.2.2.2.2.2.2.1 x hx7
    refine lv_goto (tgt := 86) hx hb d_G_handleReport_40 (by decide) ?_
    exact hp_vret hx hb hr hlk h (by rw [hS9]; exact ⟨_, hG, hF⟩) (by omega) (by omega) d_G_handleReport_86
