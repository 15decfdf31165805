/-! handleAccept, handleReject, handleConnect, handleTest, by program (wip/mk27.py). -/
theorem kFr.msg {τ τ' : Nat → Nat} {L : List Nat} {f : Nat → va_E} {u : hp_U} {y : Nat} {q : kM} (h : kFr τ L f τ' u) (hy : hp_at L f y (km q)) (ht : τ y = 5) : hp_at u.1 u.2 y (km q) ∧ τ' y = 5 := by
  obtain ⟨h1, h2⟩ := h y hy.1
  obtain ⟨h3, h4⟩ := h2 (Or.inr ht)
  exact ⟨⟨h1, h3.trans hy.2⟩, h4.trans ht⟩
theorem k_post_len {E : kE} {S : kS} {x : Nat} {q : kM} (i : Nat) : ((k_post E S x q).2.2.1 i).length ≤ (S.2.2.1 i).length + 1 := by
  show (kup S.2.2.1 (k_to E x (kx q.2.1)) (S.2.2.1 (k_to E x (kx q.2.1)) ++ [q]) i).length ≤ _
  by_cases h : i = k_to E x (kx q.2.1)
  · rw [h, kup_self]; simp
  · rw [kup_ne _ _ h]; omega
theorem k_post_le {E : kE} {S : kS} {x : Nat} {q : kM} : k_cu S ≤ k_cu (k_post E S x q) ∧ k_su S ≤ k_su (k_post E S x q) := by
  refine ⟨?_, ?_⟩
  · show k_cu S ≤ k_cu S + 1 + kmc _ _
    omega
  · show k_su S ≤ k_su S + 5 + kms _ _
    omega
theorem k_wake_le {E : kE} {S : kS} {x : Nat} : k_cu S ≤ k_cu (k_wake E S x) ∧ k_su S ≤ k_su (k_wake E S x) := by
  unfold k_wake
  split
  · split
    · exact ⟨Nat.le_refl _, Nat.le_refl _⟩
    · exact k_post_le
  · exact ⟨Nat.le_refl _, Nat.le_refl _⟩
theorem k_wake_len {E : kE} {S : kS} {x : Nat} (i : Nat) : ((k_wake E S x).2.2.1 i).length ≤ (S.2.2.1 i).length + 1 := by
  unfold k_wake
  split
  · split
    · exact Nat.le_succ _
    · exact k_post_len i
  · omega
theorem k_report_le {E : kE} {S : kS} {x : Nat} : k_cu S ≤ k_cu (k_report E S x) ∧ k_su S ≤ k_su (k_report E S x) := by
  unfold k_report
  split
  · exact k_post_le
  · exact ⟨Nat.le_refl _, Nat.le_refl _⟩
theorem k_test_le {E : kE} {S : kS} {x : Nat} : k_cu S ≤ k_cu (k_test E S x) ∧ k_su S ≤ k_su (k_test E S x) := by
  unfold k_test
  split
  · exact (k_report_le (E := E) (S := k_fld S x 7 (-1)) (x := x))
  · exact k_post_le
theorem k_report_len {E : kE} {S : kS} {x : Nat} (i : Nat) : ((k_report E S x).2.2.1 i).length ≤ (S.2.2.1 i).length + 1 := by
  unfold k_report
  split
  · exact k_post_len i
  · omega
theorem k_test_len {E : kE} {S : kS} {x : Nat} (i : Nat) : ((k_test E S x).2.2.1 i).length ≤ (S.2.2.1 i).length + 1 := by
  unfold k_test
  split
  · exact k_report_len i
  · exact k_post_len i
/-- a better best -/
def k_best (S : kS) (x : Nat) (e w : Int32) : kS := (kup S.1 x (if w < S.1 x 6 then upd (upd (S.1 x) 5 e) 6 w else S.1 x), S.2)
def k_rej (S : kS) (x j : Nat) : kS := (S.1, kup S.2.1 x (if S.2.1 x j = 0 then upd (S.2.1 x) j 2 else S.2.1 x), S.2.2)
def k_acc (E : kE) (S : kS) (x : Nat) (q : kM) : kS := k_report E (k_best (k_fld S x 7 (-1)) x q.2.1 (E.2.2.2.2 (kx q.2.1))) x
def k_rjt (E : kE) (S : kS) (x : Nat) (q : kM) : kS := k_test E (k_rej S x (kx q.2.1)) x
theorem k_best_ne {S : kS} {x k : Nat} {e w : Int32} (h5 : k ≠ 5) (h6 : k ≠ 6) : (k_best S x e w).1 x k = S.1 x k := by
  show kup S.1 x _ x k = _
  rw [kup_self]
  split
  · rw [pk_un h6, pk_un h5]
  · rfl
set_option maxHeartbeats 4000000 in
set_option maxRecDepth 100000 in
theorem c_G_handleAccept (l : Launch) (D : va_G) (tys : List (ClassId × FieldType)) (de : Nat) (sa : Nat → Nat) {L : List Nat} {f : Nat → va_E} {x y j : Nat} {q : kM} {ad τ : Nat → Nat} {E : kE} {S : kS} {cI cO cN : ClassId} (ht : tys[0]? = some (cI, .int)) (ht1 : tys[1]? = some (cO, .object "java/lang/Object")) (ht2 : tys[2]? = some (cN, .object "MergingFragments$Node")) (hG : kG cI cO cN de ad τ L f E S) (hx7 : x < 7) (hW : kWE E) (hlen : ∀ i, i < 7 → (S.2.2.1 i).length + 40 < 2 ^ 19) (hy : hp_at L f y (km q)) (hyt : τ y = 5) (hqj : q.2.1 = nI j) (hj : j < E.2.1) (hwi : ∃ i, i < E.2.1 ∧ S.1 x 4 = nI i) : hp_Mv l y_G_handleAccept (gw_ws y_G_handleAccept b_G_handleAccept 3 none) { frames := 9, cells := k_cu (k_acc E S x q) - k_cu S, slots := k_su (k_acc E S x q) - k_su S, locals := 206 } D kc tys (s_X de sa) [.ref (ad 0), .ref (ad (10 + x)), .ref y] L f (kP cI cO cN de ad τ L f E (k_acc E S x q)) (k_cu (k_acc E S x q) - k_cu S) (k_su (k_acc E S x q) - k_su S) := by
  refine hp_ofW (Qc := fun A => va_Qv (kP cI cO cN de ad τ L f E (k_acc E S x q)) (hp_B D kc A) A) (fr := fun A => A) (ret := none) (by decide) rfl (Nat.le_of_ble_eq_true rfl) ?_
  intro p e s m below meth c ls A hx hb hml hr hts hown hlk hnm hl hK hX h
  have hg : ∀ w ∈ gw, w.before _ s = true := fun w hw => hts w (List.mem_cons_of_mem _ hw)
  have hown : s.vm.findClass "MergingFragments" = some m.cls := hown
  have hnm : meth.name = "handleAccept" := hnm
  have hl : lv_has ls 3 [(0, .ref (ad 0)), (1, .ref (ad (10 + x))), (2, .ref y)] := hl
  have hm12 : E.2.1 ≤ 12 := hG.2.2.2.2.2.2.2.2.2.2.2.1
  have hF : kFr τ L f τ (L, f) := kFr.rf
  have he := hG.1
  obtain ⟨go, ho, ho1⟩ := hG.2.2.1
  obtain ⟨gtw, htw, htw1⟩ := hG.2.2.2.1
  obtain ⟨gw, hw, hw1⟩ := hG.2.2.2.2.1
  have hnd := hG.2.2.2.2.2.1 x hx7
  obtain ⟨gm, hm, hm1⟩ := hG.2.2.2.2.2.2.1 x hx7
  have hkx : kx q.2.1 = j := by rw [hqj]; exact kx_nI (by omega)
  have hS9 : k_acc E S x q = k_report E (k_best (k_fld S x 7 (-1)) x (nI j) (E.2.2.2.2 j)) x := by unfold k_acc; rw [hkx, hqj]
  have hcu : k_cu (k_acc E S x q) = k_cu (k_report E (k_best (k_fld S x 7 (-1)) x (nI j) (E.2.2.2.2 j)) x) := by rw [hS9]
  have hsu : k_su (k_acc E S x q) = k_su (k_report E (k_best (k_fld S x 7 (-1)) x (nI j) (E.2.2.2.2 j)) x) := by rw [hS9]
  have hcu0 : k_cu (k_best (k_fld S x 7 (-1)) x (nI j) (E.2.2.2.2 j)) = k_cu S := rfl
  have hsu0 : k_su (k_best (k_fld S x 7 (-1)) x (nI j) (E.2.2.2.2 j)) = k_su S := rfl
  refine lv_aload_n hx hb d_G_handleAccept_0 rfl (lv_at hl 1 rfl) ?_
  refine lv_iconst (v := (-1)) hx hb d_G_handleAccept_1 (by decide) ?_
  refine hp_putN (ty := .int) (v := .int (-1)) (fs' := [.int (nI x), .ref (ad (20 + x)), .ref (ad (30 + x)), .int (S.1 x 0), .int (S.1 x 1), .int (S.1 x 2), .int (S.1 x 3), .int (S.1 x 4), .int (S.1 x 5), .int (S.1 x 6), .int (-1), .int (S.1 x 8)]) hx hb hg in_N t_N t_N_ok n_N hown hK h hnd rfl 10 (by decide) (s_N hX n99) (fun _ z => z) rfl (by decide +kernel) rfl rfl (Nat.le_of_ble_eq_true rfl) rfl d_G_handleAccept_2 (fun H locs f1 hf1 h => ?_)
  have hFs := kFr.w (L := L) hf1 (hG.2.2.2.2.2.2.2.2.2.1 x hx7).1 (by omega) (by omega)
  obtain ⟨hy, hyt⟩ := hFs.msg hy hyt
  have hF := hF.trans hFs
  have hG : kG cI cO cN de ad _ L f1 E (k_fld S x 7 (-1)) := hG.wN hx7 (v' := upd (S.1 x) 7 (-1)) hf1
  have he := hG.1
  obtain ⟨go, ho, ho1⟩ := hG.2.2.1
  obtain ⟨gtw, htw, htw1⟩ := hG.2.2.2.1
  obtain ⟨gw, hw, hw1⟩ := hG.2.2.2.2.1
  have hnd := hG.2.2.2.2.2.1 x hx7
  obtain ⟨gm, hm, hm1⟩ := hG.2.2.2.2.2.2.1 x hx7
  refine lv_aload_n hx hb d_G_handleAccept_5 rfl (lv_at hl 1 rfl) ?_
  refine lv_aload_n hx hb d_G_handleAccept_6 rfl (lv_at hl 2 rfl) ?_
  refine hp_callR (hp_runV (As := []) (rest := [.ref (ad (10 + x))]) ⟨hx, hb, hml, hown, hg⟩ (c_M_over l D tys de sa hy) (cwV 0 hg (gw_V w341 w342 w343 w15 w344) rfl rfl rfl (by decide +kernel) ⟨Nat.le_of_ble_eq_true rfl, Nat.le_of_ble_eq_true rfl⟩) (s_ok de sa) hK hX h hy rfl rfl rfl hl.1 rfl (Nat.le_of_ble_eq_true rfl) d_G_handleAccept_7 ⟨by dsimp only; omega, by dsimp only; omega⟩) (fun r1 hp => ?_)
  subst hp
  rw [hqj]
  refine lv_aload_n hx hb d_G_handleAccept_10 rfl (lv_at hl 0 rfl) ?_
  refine hp_get (v := .ref (ad 4)) hx hb hg in_G hown hK h he rfl 3 (by decide) (hg _ w130) (fun _ z => z) rfl d_G_handleAccept_11 ?_
  refine lv_aload_n hx hb d_G_handleAccept_14 rfl (lv_at hl 2 rfl) ?_
  refine hp_callR (hp_runV (As := []) (rest := [.ref (ad 4), .int (nI j), .ref (ad (10 + x))]) ⟨hx, hb, hml, hown, hg⟩ (c_M_over l D tys de sa hy) (cwV 0 hg (gw_V w341 w342 w343 w15 w344) rfl rfl rfl (by decide +kernel) ⟨Nat.le_of_ble_eq_true rfl, Nat.le_of_ble_eq_true rfl⟩) (s_ok de sa) hK hX h hy rfl rfl rfl hl.1 rfl (Nat.le_of_ble_eq_true rfl) d_G_handleAccept_15 ⟨by dsimp only; omega, by dsimp only; omega⟩) (fun r1 hp => ?_)
  subst hp
  rw [hqj]
  refine hp_iald hx hb hK h 0 hw ht rfl (by omega) (by decide) d_G_handleAccept_18 ?_
  rw [show gw j = E.2.2.2.2 j from hw1 j hj]
  refine hp_callv (hp_runVN (As := [.int (nI j), .int (E.2.2.2.2 j)]) (rest := []) ⟨hx, hb, hml, hown, hg⟩ (c_N_improveBest l D tys de sa (v := (k_fld S x 7 (-1)).1 x) (x := nI j) (y := E.2.2.2.2 j) hnd) ⟨va_cnB 2 hg (gw_code w483) rfl rfl rfl (s_Nw hX n480) (hg _ w2) (by decide +kernel) ⟨Nat.le_of_ble_eq_true rfl, Nat.le_of_ble_eq_true rfl⟩, hg _ w482, hg _ ws22⟩ (s_ok de sa) hK hX h hnd rfl rfl rfl hl.1 rfl (Nat.le_of_ble_eq_true rfl) d_G_handleAccept_19 ⟨by dsimp only; omega, by dsimp only; omega⟩) h (fun Ln fn0 H locs hp h => ?_)
  obtain ⟨hLn, hfn⟩ := Prod.mk.inj hp
  have hLn := hLn.symm
  subst hLn
  have hFs := kFr.w (L := L) hfn (hG.2.2.2.2.2.2.2.2.2.1 x hx7).1 (by omega) (by omega)
  obtain ⟨hy, hyt⟩ := hFs.msg hy hyt
  have hF := hF.trans hFs
  have hG : kG cI cO cN de ad _ L fn0 E (k_best (k_fld S x 7 (-1)) x (nI j) (E.2.2.2.2 j)) := hG.wN hx7 hfn
  have he := hG.1
  obtain ⟨go, ho, ho1⟩ := hG.2.2.1
  obtain ⟨gtw, htw, htw1⟩ := hG.2.2.2.1
  obtain ⟨gw, hw, hw1⟩ := hG.2.2.2.2.1
  have hnd := hG.2.2.2.2.2.1 x hx7
  obtain ⟨gm, hm, hm1⟩ := hG.2.2.2.2.2.2.1 x hx7
  refine lv_aload_n hx hb d_G_handleAccept_22 rfl (lv_at hl 0 rfl) ?_
  refine lv_aload_n hx hb d_G_handleAccept_23 rfl (lv_at hl 1 rfl) ?_
  refine hp_callv (hp_runV (As := [.ref (ad (10 + x))]) (rest := []) ⟨hx, hb, hml, hown, hg⟩ (c_G_reportIfReady l D tys de sa ht ht1 ht2 hG hx7 hW (fun i hi => (Nat.lt_of_le_of_lt (Nat.le_add_right _ 40) (hlen i hi))) (fun _ _ => by obtain ⟨i, hi, hwj⟩ := hwi; exact ⟨i, hi, (k_best_ne (by decide) (by decide)).trans ((k_fld_ne (by decide)).trans hwj)⟩)) (cwV 1 hg (gw_V w464 w466 ws18 w1 w467) rfl rfl rfl (by decide +kernel) ⟨Nat.le_of_ble_eq_true rfl, Nat.le_of_ble_eq_true rfl⟩) (s_ok de sa) hK hX h (hG.1) rfl rfl rfl hl.1 rfl (Nat.le_of_ble_eq_true rfl) d_G_handleAccept_24 ⟨by dsimp only; omega, by dsimp only; omega⟩) h (fun Lc1 fc1 H locs hp h => ?_)
  obtain ⟨τc1, hG, hFc⟩ := hp
  dsimp only at hG
  have hFs := hFc
  obtain ⟨hy, hyt⟩ := hFs.msg hy hyt
  have hF := hF.trans hFs
  have hlen : ∀ i, i < 7 → ((k_report E (k_best (k_fld S x 7 (-1)) x (nI j) (E.2.2.2.2 j)) x).2.2.1 i).length + 39 < 2 ^ 19 := fun i hi => by have z1 : (((k_best (k_fld S x 7 (-1)) x (nI j) (E.2.2.2.2 j))).2.2.1 i).length + 40 < 2 ^ 19 := hlen i hi; have z2 := k_report_len (E := E) (S := (k_best (k_fld S x 7 (-1)) x (nI j) (E.2.2.2.2 j))) (x := x) i; omega
  have he := hG.1
  obtain ⟨go, ho, ho1⟩ := hG.2.2.1
  obtain ⟨gtw, htw, htw1⟩ := hG.2.2.2.1
  obtain ⟨gw, hw, hw1⟩ := hG.2.2.2.2.1
  have hnd := hG.2.2.2.2.2.1 x hx7
  obtain ⟨gm, hm, hm1⟩ := hG.2.2.2.2.2.2.1 x hx7
  exact hp_vret hx hb hr hlk h (by rw [hS9]; exact ⟨_, hG, hF⟩) (by omega) (by omega) d_G_handleAccept_27

set_option maxHeartbeats 4000000 in
set_option maxRecDepth 100000 in
theorem c_G_handleReject (l : Launch) (D : va_G) (tys : List (ClassId × FieldType)) (de : Nat) (sa : Nat → Nat) {L : List Nat} {f : Nat → va_E} {x y j : Nat} {q : kM} {ad τ : Nat → Nat} {E : kE} {S : kS} {cI cO cN : ClassId} (ht : tys[0]? = some (cI, .int)) (ht1 : tys[1]? = some (cO, .object "java/lang/Object")) (ht2 : tys[2]? = some (cN, .object "MergingFragments$Node")) (hG : kG cI cO cN de ad τ L f E S) (hx7 : x < 7) (hW : kWE E) (hlen : ∀ i, i < 7 → (S.2.2.1 i).length + 40 < 2 ^ 19) (hy : hp_at L f y (km q)) (hyt : τ y = 5) (hqj : q.2.1 = nI j) (hj : j < E.2.1) (hwi : ∃ i, i < E.2.1 ∧ S.1 x 4 = nI i) : hp_Mv l y_G_handleReject (gw_ws y_G_handleReject b_G_handleReject 3 none) { frames := 10, cells := k_cu (k_rjt E S x q) - k_cu S, slots := k_su (k_rjt E S x q) - k_su S, locals := 227 } D kc tys (s_X de sa) [.ref (ad 0), .ref (ad (10 + x)), .ref y] L f (kP cI cO cN de ad τ L f E (k_rjt E S x q)) (k_cu (k_rjt E S x q) - k_cu S) (k_su (k_rjt E S x q) - k_su S) := by
  refine hp_ofW (Qc := fun A => va_Qv (kP cI cO cN de ad τ L f E (k_rjt E S x q)) (hp_B D kc A) A) (fr := fun A => A) (ret := none) (by decide) rfl (Nat.le_of_ble_eq_true rfl) ?_
  intro p e s m below meth c ls A hx hb hml hr hts hown hlk hnm hl hK hX h
  have hg : ∀ w ∈ gw, w.before _ s = true := fun w hw => hts w (List.mem_cons_of_mem _ hw)
  have hown : s.vm.findClass "MergingFragments" = some m.cls := hown
  have hnm : meth.name = "handleReject" := hnm
  have hl : lv_has ls 3 [(0, .ref (ad 0)), (1, .ref (ad (10 + x))), (2, .ref y)] := hl
  have hm12 : E.2.1 ≤ 12 := hG.2.2.2.2.2.2.2.2.2.2.2.1
  have hF : kFr τ L f τ (L, f) := kFr.rf
  have he := hG.1
  have hnd := hG.2.2.2.2.2.1 x hx7
  obtain ⟨gm, hm, hm1⟩ := hG.2.2.2.2.2.2.1 x hx7
  have hkx : kx q.2.1 = j := by rw [hqj]; exact kx_nI (by omega)
  have hS9 : k_rjt E S x q = k_test E (k_rej S x j) x := by unfold k_rjt; rw [hkx]
  have hcu : k_cu (k_rjt E S x q) = k_cu (k_test E (k_rej S x j) x) := by rw [hS9]
  have hsu : k_su (k_rjt E S x q) = k_su (k_test E (k_rej S x j) x) := by rw [hS9]
  have hcu0 : k_cu (k_rej S x j) = k_cu S := rfl
  have hsu0 : k_su (k_rej S x j) = k_su S := rfl
  refine lv_aload_n hx hb d_G_handleReject_0 rfl (lv_at hl 1 rfl) ?_
  refine lv_aload_n hx hb d_G_handleReject_1 rfl (lv_at hl 2 rfl) ?_
  refine hp_callR (hp_runV (As := []) (rest := [.ref (ad (10 + x))]) ⟨hx, hb, hml, hown, hg⟩ (c_M_over l D tys de sa hy) (cwV 0 hg (gw_V w341 w342 w343 w15 w344) rfl rfl rfl (by decide +kernel) ⟨Nat.le_of_ble_eq_true rfl, Nat.le_of_ble_eq_true rfl⟩) (s_ok de sa) hK hX h hy rfl rfl rfl hl.1 rfl (Nat.le_of_ble_eq_true rfl) d_G_handleReject_2 ⟨by dsimp only; omega, by dsimp only; omega⟩) (fun r1 hp => ?_)
  subst hp
  rw [hqj]
  refine hp_callv (hp_runVN (As := [.int (nI j)]) (rest := []) ⟨hx, hb, hml, hown, hg⟩ (c_N_rejectIfBasic l D tys de sa (j := j) ht (kne (hG.2.2.2.2.2.2.2.2.2.1 x hx7).1 (hG.2.2.2.2.2.2.2.2.2.1 x hx7).2.1 (by omega)) (by omega) hnd hm) ⟨va_cnB 1 hg (gw_code w475) rfl rfl rfl (s_Nw hX n472) (hg _ w2) (by decide +kernel) ⟨Nat.le_of_ble_eq_true rfl, Nat.le_of_ble_eq_true rfl⟩, hg _ w474, hg _ ws20⟩ (s_ok de sa) hK hX h hnd rfl rfl rfl hl.1 rfl (Nat.le_of_ble_eq_true rfl) d_G_handleReject_5 ⟨by dsimp only; omega, by dsimp only; omega⟩) h (fun Ln fn0 H locs hp h => ?_)
  obtain ⟨hLn, hfn⟩ := Prod.mk.inj hp
  have hLn := hLn.symm
  subst hLn
  have hFs := kFr.w (L := L) hfn (hG.2.2.2.2.2.2.2.2.2.1 x hx7).2.1 (by omega) (by omega)
  obtain ⟨hy, hyt⟩ := hFs.msg hy hyt
  have hF := hF.trans hFs
  have hG : kG cI cO cN de ad _ L fn0 E (k_rej S x j) := hG.wM hx7 hfn (fun i hi => by rw [show gm j = S.2.1 x j from hm1 j (by omega)]; split; exact kupd hm1 i hi; exact hm1 i hi)
  have he := hG.1
  have hnd := hG.2.2.2.2.2.1 x hx7
  obtain ⟨gm, hm, hm1⟩ := hG.2.2.2.2.2.2.1 x hx7
  refine lv_aload_n hx hb d_G_handleReject_8 rfl (lv_at hl 0 rfl) ?_
  refine lv_aload_n hx hb d_G_handleReject_9 rfl (lv_at hl 1 rfl) ?_
  refine hp_callv (hp_runV (As := [.ref (ad (10 + x))]) (rest := []) ⟨hx, hb, hml, hown, hg⟩ (c_G_testLightest l D tys de sa ht ht1 ht2 hG hx7 hW (fun i hi => (Nat.lt_of_le_of_lt (Nat.le_add_right _ 40) (hlen i hi))) (fun _ _ => hwi)) (cwV 1 hg (gw_V w460 w462 ws17 w1 w463) rfl rfl rfl (by decide +kernel) ⟨Nat.le_of_ble_eq_true rfl, Nat.le_of_ble_eq_true rfl⟩) (s_ok de sa) hK hX h (hG.1) rfl rfl rfl hl.1 rfl (Nat.le_of_ble_eq_true rfl) d_G_handleReject_10 ⟨by dsimp only; omega, by dsimp only; omega⟩) h (fun Lc1 fc1 H locs hp h => ?_)
  obtain ⟨τc1, hG, hFc⟩ := hp
  dsimp only at hG
  have hFs := hFc
  obtain ⟨hy, hyt⟩ := hFs.msg hy hyt
  have hF := hF.trans hFs
  have hlen : ∀ i, i < 7 → ((k_test E (k_rej S x j) x).2.2.1 i).length + 39 < 2 ^ 19 := fun i hi => by have z1 : (((k_rej S x j)).2.2.1 i).length + 40 < 2 ^ 19 := hlen i hi; have z2 := k_test_len (E := E) (S := (k_rej S x j)) (x := x) i; omega
  have he := hG.1
  have hnd := hG.2.2.2.2.2.1 x hx7
  obtain ⟨gm, hm, hm1⟩ := hG.2.2.2.2.2.2.1 x hx7
  exact hp_vret hx hb hr hlk h (by rw [hS9]; exact ⟨_, hG, hF⟩) (by omega) (by omega) d_G_handleReject_13
