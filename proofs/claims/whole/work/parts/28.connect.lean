/-! handleConnect, handleTest, handleReport, by program (wip/mk28.py). -/
/-- INITIATE goes out over j, with the node's own numbers -/
def k_ini1 (E : kE) (S : kS) (x j : Nat) : kS :=
  if (k_post E S x (1, nI j, S.1 x 1, S.1 x 2, S.1 x 0)).1 x 0 = 1 then k_fld (k_post E S x (1, nI j, S.1 x 1, S.1 x 2, S.1 x 0)) x 3 ((k_post E S x (1, nI j, S.1 x 1, S.1 x 2, S.1 x 0)).1 x 3 + 1) else k_post E S x (1, nI j, S.1 x 1, S.1 x 2, S.1 x 0)
theorem k_ini1_cu {E : kE} {S : kS} {x j : Nat} (hj : j < 2 ^ 31) : k_cu (k_ini1 E S x j) = k_cu S + 1 + k_qc (k_use S 1 5) (k_to E x j) ∧ k_su (k_ini1 E S x j) = k_su S + 5 + k_qs (k_use S 1 5) (k_to E x j) := by
  unfold k_ini1
  split
  · exact ⟨k_post_cu (q := (1, nI j, S.1 x 1, S.1 x 2, S.1 x 0)) rfl hj, k_post_su (q := (1, nI j, S.1 x 1, S.1 x 2, S.1 x 0)) rfl hj⟩
  · exact ⟨k_post_cu rfl hj, k_post_su rfl hj⟩
theorem k_ini1_len {E : kE} {S : kS} {x j : Nat} (i : Nat) : ((k_ini1 E S x j).2.2.1 i).length ≤ (S.2.2.1 i).length + 1 := by
  unfold k_ini1
  split
  · exact (k_post_len (q := (1, nI j, S.1 x 1, S.1 x 2, S.1 x 0)) i)
  · exact k_post_len i
def k_conn (E : kE) (S : kS) (x : Nat) (q : kM) : kS :=
  if q.2.2.1 < (k_wake E S x).1 x 1 then k_ini1 E (k_mark (k_wake E S x) x (kx q.2.1) 1) x (kx q.2.1)
  else if (k_wake E S x).2.1 x (kx q.2.1) = 0 then k_add (k_wake E S x) x q
  else k_post E (k_wake E S x) x (1, nI (kx q.2.1), (k_wake E S x).1 x 1 + 1, E.2.2.2.2 (kx q.2.1), 1)
def k_tst (E : kE) (S : kS) (x : Nat) (q : kM) : kS :=
  if (k_wake E S x).1 x 1 < q.2.2.1 then k_add (k_wake E S x) x q
  else if q.2.2.2.1 = (k_wake E S x).1 x 2 then (if (k_rej (k_wake E S x) x (kx q.2.1)).1 x 7 = nI (kx q.2.1) then k_test E (k_rej (k_wake E S x) x (kx q.2.1)) x else k_post E (k_rej (k_wake E S x) x (kx q.2.1)) x (4, nI (kx q.2.1), 0, 0, 0))
  else k_post E (k_wake E S x) x (3, nI (kx q.2.1), 0, 0, 0)
def k_rep (E : kE) (S : kS) (x : Nat) (q : kM) : kS :=
  if q.2.1 = S.1 x 4 then (if S.1 x 0 = 1 then k_add S x q else if S.1 x 6 < q.2.2.1 then k_move E S x else if q.2.2.1 = 100 then k_fld S x 8 1 else S)
  else k_report E (k_best (k_fld S x 3 (S.1 x 3 - 1)) x q.2.1 q.2.2.1) x
theorem k_post_fld {E : kE} {S : kS} {x : Nat} {q : kM} : (k_post E S x q).1 = S.1 := rfl
theorem k_wake_fld {E : kE} {S : kS} {x k : Nat} (h : k ≠ 0) : (k_wake E S x).1 x k = S.1 x k := by
  unfold k_wake
  split
  · split
    · exact k_fld_ne h
    · exact k_fld_ne h
  · rfl
theorem k_add_cu {S : kS} {x : Nat} {q : kM} : k_cu (k_add S x q) = k_cu S + k_qc S x ∧ k_su (k_add S x q) = k_su S + k_qs S x := ⟨rfl, rfl⟩
theorem k_conn_le {E : kE} {S : kS} {x : Nat} {q : kM} : k_cu S ≤ k_cu (k_conn E S x q) ∧ k_cu (k_wake E S x) ≤ k_cu (k_conn E S x q) ∧ k_su (k_wake E S x) ≤ k_su (k_conn E S x q) := by
  have hle := k_wake_le (E := E) (S := S) (x := x)
  have h2 : k_cu (k_wake E S x) ≤ k_cu (k_conn E S x q) ∧ k_su (k_wake E S x) ≤ k_su (k_conn E S x q) := by
    unfold k_conn
    split
    · unfold k_ini1
      split
      · exact (k_post_le (E := E) (S := k_mark (k_wake E S x) x (kx q.2.1) 1))
      · exact (k_post_le (E := E) (S := k_mark (k_wake E S x) x (kx q.2.1) 1))
    · split
      · exact ⟨Nat.le_add_right _ _, Nat.le_add_right _ _⟩
      · exact k_post_le
  omega
set_option maxHeartbeats 4000000 in
set_option maxRecDepth 100000 in
theorem c_G_handleConnect (l : Launch) (D : va_G) (tys : List (ClassId × FieldType)) (de : Nat) (sa : Nat → Nat) {L : List Nat} {f : Nat → va_E} {x y j : Nat} {q : kM} {ad τ : Nat → Nat} {E : kE} {S : kS} {cI cO cN : ClassId} (ht : tys[0]? = some (cI, .int)) (ht1 : tys[1]? = some (cO, .object "java/lang/Object")) (ht2 : tys[2]? = some (cN, .object "MergingFragments$Node")) (hG : kG cI cO cN de ad τ L f E S) (hx7 : x < 7) (hW : kWE E) (hlen : ∀ i, i < 7 → (S.2.2.1 i).length + 40 < 2 ^ 19) (hy : hp_at L f y (km q)) (hyt : τ y = 5) (hqj : q.2.1 = nI j) (hj : j < E.2.1) : hp_Mv l y_G_handleConnect (gw_ws y_G_handleConnect b_G_handleConnect 4 none) { frames := 9, cells := k_cu (k_conn E S x q) - k_cu S, slots := k_su (k_conn E S x q) - k_su S, locals := 207 } D kc tys (s_X de sa) [.ref (ad 0), .ref (ad (10 + x)), .ref y] L f (kP cI cO cN de ad τ L f E (k_conn E S x q)) (k_cu (k_conn E S x q) - k_cu S) (k_su (k_conn E S x q) - k_su S) := by
  refine hp_ofW (Qc := fun A => va_Qv (kP cI cO cN de ad τ L f E (k_conn E S x q)) (hp_B D kc A) A) (fr := fun A => A) (ret := none) (by decide) rfl (Nat.le_of_ble_eq_true rfl) ?_
  intro p e s m below meth c ls A hx hb hml hr hts hown hlk hnm hl hK hX h
  have hg : ∀ w ∈ gw, w.before _ s = true := fun w hw => hts w (List.mem_cons_of_mem _ hw)
  have hown : s.vm.findClass "MergingFragments" = some m.cls := hown
  have hnm : meth.name = "handleConnect" := hnm
  have hl : lv_has ls 4 [(0, .ref (ad 0)), (1, .ref (ad (10 + x))), (2, .ref y)] := hl
  have hm12 : E.2.1 ≤ 12 := hG.2.2.2.2.2.2.2.2.2.2.2.1
  have hF : kFr τ L f τ (L, f) := kFr.rf
  have he := hG.1
  obtain ⟨go, ho, ho1⟩ := hG.2.2.1
  obtain ⟨gtw, htw, htw1⟩ := hG.2.2.2.1
  obtain ⟨gw, hw, hw1⟩ := hG.2.2.2.2.1
  have hnd := hG.2.2.2.2.2.1 x hx7
  obtain ⟨gm, hm, hm1⟩ := hG.2.2.2.2.2.2.1 x hx7
  have hkx : kx q.2.1 = j := by rw [hqj]; exact kx_nI (by omega)
  have hle := k_wake_le (E := E) (S := S) (x := x)
  refine lv_aload_n hx hb d_G_handleConnect_0 rfl (lv_at hl 0 rfl) ?_
  refine lv_aload_n hx hb d_G_handleConnect_1 rfl (lv_at hl 1 rfl) ?_
  have hcuW : k_cu S ≤ k_cu (k_conn E S x q) ∧ k_cu (k_wake E S x) ≤ k_cu (k_conn E S x q) ∧ k_su (k_wake E S x) ≤ k_su (k_conn E S x q) := k_conn_le
  refine hp_callv (hp_runV (As := [.ref (ad (10 + x))]) (rest := []) ⟨hx, hb, hml, hown, hg⟩ (c_G_wakeIfAsleep l D tys de sa ht ht1 ht2 hG hx7 hW (fun i hi => (Nat.lt_of_le_of_lt (Nat.le_add_right _ 40) (hlen i hi))) ) (cwV 1 hg (gw_V w304 w306 ws6 w1 w307) rfl rfl rfl (by decide +kernel) ⟨Nat.le_of_ble_eq_true rfl, Nat.le_of_ble_eq_true rfl⟩) (s_ok de sa) hK hX h (hG.1) rfl rfl rfl hl.1 rfl (Nat.le_of_ble_eq_true rfl) d_G_handleConnect_2 ⟨by dsimp only; omega, by dsimp only; omega⟩) h (fun Lc0 fc0 H locs hp h => ?_)
  obtain ⟨τc0, hG, hFc⟩ := hp
  dsimp only at hG
  have hFs := hFc
  obtain ⟨hy, hyt⟩ := hFs.msg hy hyt
  have hF := hF.trans hFs
  have hlen : ∀ i, i < 7 → ((k_wake E S x).2.2.1 i).length + 39 < 2 ^ 19 := fun i hi => by have z1 : ((S).2.2.1 i).length + 40 < 2 ^ 19 := hlen i hi; have z2 := k_wake_len (E := E) (S := S) (x := x) i; omega
  have he := hG.1
  obtain ⟨go, ho, ho1⟩ := hG.2.2.1
  obtain ⟨gtw, htw, htw1⟩ := hG.2.2.2.1
  obtain ⟨gw, hw, hw1⟩ := hG.2.2.2.2.1
  have hnd := hG.2.2.2.2.2.1 x hx7
  obtain ⟨gm, hm, hm1⟩ := hG.2.2.2.2.2.2.1 x hx7
  refine lv_aload_n hx hb d_G_handleConnect_5 rfl (lv_at hl 2 rfl) ?_
  refine hp_callR (hp_runV (As := []) (rest := []) ⟨hx, hb, hml, hown, hg⟩ (c_M_over l D tys de sa hy) (cwV 0 hg (gw_V w341 w342 w343 w15 w344) rfl rfl rfl (by decide +kernel) ⟨Nat.le_of_ble_eq_true rfl, Nat.le_of_ble_eq_true rfl⟩) (s_ok de sa) hK hX h hy rfl rfl rfl hl.1 rfl (Nat.le_of_ble_eq_true rfl) d_G_handleConnect_6 ⟨by dsimp only; omega, by dsimp only; omega⟩) (fun r1 hp => ?_)
  subst hp
  rw [hqj]
  refine lv_istore_n (lv' := [(3, .int (nI j)), (0, .ref (ad 0)), (1, .ref (ad (10 + x))), (2, .ref y)]) hx hb d_G_handleConnect_9 rfl hl (by decide) rfl (fun ls hl => ?_)
  refine lv_aload_n hx hb d_G_handleConnect_10 rfl (lv_at hl 3 rfl) ?_
  refine hp_callR (hp_runV (As := []) (rest := []) ⟨hx, hb, hml, hown, hg⟩ (c_M_first l D tys de sa hy) (cwV 0 hg (gw_V w438 w439 w440 w15 w441) rfl rfl rfl (by decide +kernel) ⟨Nat.le_of_ble_eq_true rfl, Nat.le_of_ble_eq_true rfl⟩) (s_ok de sa) hK hX h hy rfl rfl rfl hl.1 rfl (Nat.le_of_ble_eq_true rfl) d_G_handleConnect_11 ⟨by dsimp only; omega, by dsimp only; omega⟩) (fun r1 hp => ?_)
  subst hp
  refine lv_aload_n hx hb d_G_handleConnect_14 rfl (lv_at hl 2 rfl) ?_
  refine hp_getN (v := .int ((k_wake E S x).1 x 1)) hx hb hg in_N hown hK h hnd rfl 4 (by decide) (s_N hX n87) (fun _ z => z) rfl d_G_handleConnect_15 ?_
  refine lv_icmp_ge (tgt := 75) hx hb d_G_handleConnect_18 (by decide) (fun hc => ?_) (fun hc => ?_)
  · skip
    refine lv_aload_n hx hb d_G_handleConnect_75 rfl (lv_at hl 2 rfl) ?_
    refine hp_getN (v := .ref (ad (20 + x))) hx hb hg in_N hown hK h hnd rfl 1 (by decide) (s_N hX n81) (fun _ z => z) rfl d_G_handleConnect_76 ?_
    refine lv_iload_n hx hb d_G_handleConnect_79 rfl (lv_at hl 0 rfl) ?_
    refine hp_iald hx hb hK h 0 hm ht rfl (by omega) (by decide) d_G_handleConnect_80 ?_
    rw [show gm j = (k_wake E S x).2.1 x j from hm1 j (by omega)]
    refine lv_if_ne (tgt := 92) hx hb d_G_handleConnect_81 (by decide) (fun hc2 => ?_) (fun hc2 => ?_)
    · skip
      have hS9 : k_conn E S x q = k_post E (k_wake E S x) x (1, nI j, (k_wake E S x).1 x 1 + 1, E.2.2.2.2 j, 1) := by unfold k_conn; rw [if_neg (Int32.not_lt.mpr hc), if_neg (by rw [hkx]; exact hc2), hkx]
      have hcu : k_cu (k_conn E S x q) = k_cu (k_wake E S x) + 1 + k_qc (k_use (k_wake E S x) 1 5) (k_to E x j) := by rw [hS9]; exact k_post_cu rfl (by omega)
      have hsu : k_su (k_conn E S x q) = k_su (k_wake E S x) + 5 + k_qs (k_use (k_wake E S x) 1 5) (k_to E x j) := by rw [hS9]; exact k_post_su rfl (by omega)
      have hcu0 : k_cu (k_wake E S x) = k_cu (k_wake E S x) := rfl
      have hsu0 : k_su (k_wake E S x) = k_su (k_wake E S x) := rfl
      refine lv_aload_n hx hb d_G_handleConnect_92 rfl (lv_at hl 1 rfl) ?_
      refine lv_aload_n hx hb d_G_handleConnect_93 rfl (lv_at hl 2 rfl) ?_
      refine hp_new (ci := 2) (fs := [.int 0, .int 0, .int 0, .int 0, .int 0]) hx hb hg in_M t_M t_M_ok hown (hg _ w312) (hg _ w313) (hg _ w15) hK h rfl (fun j hj => by rcases (show j = 0 ∨ j = 1 ∨ j = 2 ∨ j = 3 ∨ j = 4 by omega) with rfl | rfl | rfl | rfl | rfl <;> rfl) (by dsimp only; omega) (by dsimp only; omega) d_G_handleConnect_94 (fun y1 H Ly1 fy1 hq_y1 hL_y1 hf_y1 h => ?_)
      have he := he.push' hL_y1 hf_y1 hq_y1
      have ho := ho.push' hL_y1 hf_y1 hq_y1
      have htw := htw.push' hL_y1 hf_y1 hq_y1
      have hw := hw.push' hL_y1 hf_y1 hq_y1
      have hnd := hnd.push' hL_y1 hf_y1 hq_y1
      have hm := hm.push' hL_y1 hf_y1 hq_y1
      have hy1 := hp_at.new' hL_y1 hf_y1
      refine lv_dup hx hb d_G_handleConnect_97 rfl ?_
      refine lv_iconst (v := 1) hx hb d_G_handleConnect_98 (by decide) ?_
      refine lv_iload_n hx hb d_G_handleConnect_99 rfl (lv_at hl 0 rfl) ?_
      refine lv_aload_n hx hb d_G_handleConnect_100 rfl (lv_at hl 2 rfl) ?_
      refine hp_getN (v := .int ((k_wake E S x).1 x 1)) hx hb hg in_N hown hK h hnd rfl 4 (by decide) (s_N hX n87) (fun _ z => z) rfl d_G_handleConnect_101 ?_
      refine lv_iconst (v := 1) hx hb d_G_handleConnect_104 (by decide) ?_
      refine lv_iadd hx hb d_G_handleConnect_105 ?_
      refine lv_aload_n hx hb d_G_handleConnect_106 rfl (lv_at hl 1 rfl) ?_
      refine hp_get (v := .ref (ad 4)) hx hb hg in_G hown hK h he rfl 3 (by decide) (hg _ w130) (fun _ z => z) rfl d_G_handleConnect_107 ?_
      refine lv_iload_n hx hb d_G_handleConnect_110 rfl (lv_at hl 0 rfl) ?_
      refine hp_iald hx hb hK h 0 hw ht rfl (by omega) (by decide) d_G_handleConnect_111 ?_
      rw [show gw j = E.2.2.2.2 j from hw1 j hj]
      refine lv_iconst (v := 1) hx hb d_G_handleConnect_112 (by decide) ?_
      refine hp_callv (hp_runIN (As := [.int 1, .int (nI j), .int (((k_wake E S x).1 x 1) + 1), .int (E.2.2.2.2 j), .int 1]) (rest := [.ref y1, .ref (ad (10 + x)), .ref (ad 0)]) ⟨hx, hb, hml, hown, hg⟩ (c_M_init l D tys de sa hy1) ⟨va_cnB 5 hg (gw_code w316) rfl rfl rfl (s_Nw hX n314) (hg _ w15) (by decide +kernel) ⟨Nat.le_of_ble_eq_true rfl, Nat.le_of_ble_eq_true rfl⟩, rfl, hg _ w315⟩ (s_ok de sa) hK hX h rfl hl.1 rfl (Nat.le_of_ble_eq_true rfl) d_G_handleConnect_113 ⟨by dsimp only; omega, by dsimp only; omega⟩) h (fun Lm fz1 H locs hp h => ?_)
      obtain ⟨hLm, hfm⟩ := Prod.mk.inj hp
      have hLm := hLm.symm
      subst hLm
      have hfy1 : fz1 = va_up fc0 y1 (km (1, (nI j), (((k_wake E S x).1 x 1) + 1), (E.2.2.2.2 j), 1)) := by rw [hfm, hf_y1, bx_uu]
      have hy1 : hp_at Ly1 fz1 y1 (km (1, (nI j), (((k_wake E S x).1 x 1) + 1), (E.2.2.2.2 j), 1)) := hp_at.new' hL_y1 hfy1
      have hFs := hG.fpush (t := 5) hL_y1 hfy1 hq_y1
      obtain ⟨hy, hyt⟩ := hFs.msg hy hyt
      have hF := hF.trans hFs
      have hG : kG cI cO cN de ad _ Ly1 fz1 E (k_use (k_wake E S x) 1 5) := hG.push (t := 5) hL_y1 hfy1 hq_y1
      refine hp_callv (hp_runV (As := [.ref (ad (10 + x)), .ref y1]) (rest := []) ⟨hx, hb, hml, hown, hg⟩ (c_G_send l D tys de sa (j := j) ht ht1 ht2 hG hx7 hy1 (kup_self _ _ _) rfl hj rfl (k_to7 hW hj) (hW.1 _ hj) (Nat.lt_of_le_of_lt (Nat.le_add_right _ 39) (hlen _ (k_to7 hW hj)))) (cwV 2 hg (gw_V w337 w339 ws8 w1 w340) rfl rfl rfl (by decide +kernel) ⟨Nat.le_of_ble_eq_true rfl, Nat.le_of_ble_eq_true rfl⟩) (s_ok de sa) hK hX h (hG.1) rfl rfl rfl hl.1 rfl (Nat.le_of_ble_eq_true rfl) d_G_handleConnect_116 ⟨by dsimp only; omega, by dsimp only; omega⟩) h (fun Ls1 fs1 H locs hp h => ?_)
      obtain ⟨τs1, hG, hF1⟩ := hp
      dsimp only at hG
      have hFs := hF1
      obtain ⟨hy, hyt⟩ := hFs.msg hy hyt
      have hF := hF.trans hFs
      have hlen : ∀ i, i < 7 → ((k_post E (k_wake E S x) x (1, (nI j), (((k_wake E S x).1 x 1) + 1), (E.2.2.2.2 j), 1)).2.2.1 i).length + 38 < 2 ^ 19 := fun i hi => by have z1 : (((k_wake E S x)).2.2.1 i).length + 39 < 2 ^ 19 := hlen i hi; have z2 := k_post_len (E := E) (S := (k_wake E S x)) (x := x) (q := (1, (nI j), (((k_wake E S x).1 x 1) + 1), (E.2.2.2.2 j), 1)) i; omega
      have he := hG.1
      obtain ⟨go, ho, ho1⟩ := hG.2.2.1
      obtain ⟨gtw, htw, htw1⟩ := hG.2.2.2.1
      obtain ⟨gw, hw, hw1⟩ := hG.2.2.2.2.1
      have hnd := hG.2.2.2.2.2.1 x hx7
      obtain ⟨gm, hm, hm1⟩ := hG.2.2.2.2.2.2.1 x hx7
      exact hp_vret hx hb hr hlk h (by rw [hS9]; exact ⟨_, hG, hF⟩) (by omega) (by omega) d_G_handleConnect_119
    · skip
      refine lv_aload_n hx hb d_G_handleConnect_84 rfl (lv_at hl 2 rfl) ?_
      refine lv_aload_n hx hb d_G_handleConnect_85 rfl (lv_at hl 3 rfl) ?_
      have hS9 : (k_conn E S x q) = k_add (k_wake E S x) x q := by unfold k_conn; rw [if_neg (Int32.not_lt.mpr hc), if_pos (by rw [hkx]; exact hc2)]
      have hcu : k_cu (k_conn E S x q) = k_cu (k_wake E S x) + k_qc (k_wake E S x) x := by rw [hS9]; exact k_add_cu.1
      have hsu : k_su (k_conn E S x q) = k_su (k_wake E S x) + k_qs (k_wake E S x) x := by rw [hS9]; exact k_add_cu.2
      obtain ⟨ea, mo, hqa, hQr⟩ := hG.2.2.2.2.2.2.2.1 x hx7
      obtain ⟨g, hE, hel, htea⟩ := hQr.e
      have hdeL : de ∉ Lc0 := fun z => s_de hX (h.inA ⟨z, rfl⟩)
      refine hp_callv (hp_runVN (As := [.ref y]) (rest := []) ⟨hx, hb, hml, hown, hg⟩ (c_N_putBack l D tys de sa (k := ((k_wake E S x).2.2.1 x).length) (cap := (k_wake E S x).2.2.2.1 x) hnd ht1 hqa hy hE) ⟨va_cnB 1 hg (gw_code w445) rfl rfl rfl (s_Nw hX n442) (hg _ w2) (by decide +kernel) ⟨Nat.le_of_ble_eq_true rfl, Nat.le_of_ble_eq_true rfl⟩, hg _ w444, hg _ ws15⟩ (s_ok de sa) hK hX h hnd rfl rfl rfl hl.1 rfl (Nat.le_of_ble_eq_true rfl) d_G_handleConnect_86 ⟨by show _ ≤ k_cu (k_conn E S x q) - k_cu S; unfold k_qc at hcu; omega, by show _ ≤ k_su (k_conn E S x q) - k_su S; unfold k_qs at hsu; omega⟩) h (fun Lp fp H locs hp h => ?_)
      obtain ⟨τp, hG, hFp⟩ := kH.qadd (u := (Lp, fp)) hqa hQr hG hdeL hx7 (Nat.lt_of_le_of_lt (Nat.le_add_right _ 39) (hlen _ hx7)) hy hyt hel htea hp
      dsimp only at hG
      have hFs := hFp
      obtain ⟨hy, hyt⟩ := hFs.msg hy hyt
      have hF := hF.trans hFs
      refine lv_goto (tgt := 119) hx hb d_G_handleConnect_89 (by decide) ?_
      exact hp_vret hx hb hr hlk h (by rw [hS9]; exact ⟨_, hG, hF⟩) (by unfold k_qc at hcu; omega) (by unfold k_qs at hsu; omega) d_G_handleConnect_119
  · skip
    refine lv_aload_n hx hb d_G_handleConnect_21 rfl (lv_at hl 2 rfl) ?_
    refine hp_getN (v := .ref (ad (20 + x))) hx hb hg in_N hown hK h hnd rfl 1 (by decide) (s_N hX n81) (fun _ z => z) rfl d_G_handleConnect_22 ?_
    refine lv_iload_n hx hb d_G_handleConnect_25 rfl (lv_at hl 0 rfl) ?_
    refine lv_iconst (v := 1) hx hb d_G_handleConnect_26 (by decide) ?_
    refine hp_iast hx hb hK h 0 hm ht rfl (by omega) (by decide) d_G_handleConnect_27 (fun H locs f1 hf1 h => ?_)
    have hFs := kFr.w (L := Lc0) hf1 (hG.2.2.2.2.2.2.2.2.2.1 x hx7).2.1 (by omega) (by omega)
    obtain ⟨hy, hyt⟩ := hFs.msg hy hyt
    have hF := hF.trans hFs
    have hG : kG cI cO cN de ad _ Lc0 f1 E (k_mark (k_wake E S x) x j 1) := hG.wM hx7 (z := upd ((k_wake E S x).2.1 x) j 1) hf1 (kupd hm1)
    have he := hG.1
    obtain ⟨go, ho, ho1⟩ := hG.2.2.1
    obtain ⟨gtw, htw, htw1⟩ := hG.2.2.2.1
    obtain ⟨gw, hw, hw1⟩ := hG.2.2.2.2.1
    have hnd := hG.2.2.2.2.2.1 x hx7
    obtain ⟨gm, hm, hm1⟩ := hG.2.2.2.2.2.2.1 x hx7
    have hS9 : k_conn E S x q = k_ini1 E (k_mark (k_wake E S x) x j 1) x j := by unfold k_conn; rw [if_pos (Int32.not_le.mp hc), hkx]
    have hcu : k_cu (k_conn E S x q) = _ := (congrArg k_cu hS9).trans (k_ini1_cu (by omega)).1
    have hsu : k_su (k_conn E S x q) = _ := (congrArg k_su hS9).trans (k_ini1_cu (by omega)).2
    have hcu0 : k_cu (k_mark (k_wake E S x) x j 1) = k_cu (k_wake E S x) := rfl
    have hsu0 : k_su (k_mark (k_wake E S x) x j 1) = k_su (k_wake E S x) := rfl
    refine lv_aload_n hx hb d_G_handleConnect_28 rfl (lv_at hl 1 rfl) ?_
    refine lv_aload_n hx hb d_G_handleConnect_29 rfl (lv_at hl 2 rfl) ?_
    refine hp_new (ci := 2) (fs := [.int 0, .int 0, .int 0, .int 0, .int 0]) hx hb hg in_M t_M t_M_ok hown (hg _ w312) (hg _ w313) (hg _ w15) hK h rfl (fun j hj => by rcases (show j = 0 ∨ j = 1 ∨ j = 2 ∨ j = 3 ∨ j = 4 by omega) with rfl | rfl | rfl | rfl | rfl <;> rfl) (by dsimp only; omega) (by dsimp only; omega) d_G_handleConnect_30 (fun y3 H Ly3 fy3 hq_y3 hL_y3 hf_y3 h => ?_)
    have he := he.push' hL_y3 hf_y3 hq_y3
    have ho := ho.push' hL_y3 hf_y3 hq_y3
    have htw := htw.push' hL_y3 hf_y3 hq_y3
    have hw := hw.push' hL_y3 hf_y3 hq_y3
    have hnd := hnd.push' hL_y3 hf_y3 hq_y3
    have hm := hm.push' hL_y3 hf_y3 hq_y3
    have hy3 := hp_at.new' hL_y3 hf_y3
    refine lv_dup hx hb d_G_handleConnect_33 rfl ?_
    refine lv_iconst (v := 1) hx hb d_G_handleConnect_34 (by decide) ?_
    refine lv_iload_n hx hb d_G_handleConnect_35 rfl (lv_at hl 0 rfl) ?_
    refine lv_aload_n hx hb d_G_handleConnect_36 rfl (lv_at hl 2 rfl) ?_
    refine hp_getN (v := .int ((k_mark (k_wake E S x) x j 1).1 x 1)) hx hb hg in_N hown hK h hnd rfl 4 (by decide) (s_N hX n87) (fun _ z => z) rfl d_G_handleConnect_37 ?_
    refine lv_aload_n hx hb d_G_handleConnect_40 rfl (lv_at hl 2 rfl) ?_
    refine hp_getN (v := .int ((k_mark (k_wake E S x) x j 1).1 x 2)) hx hb hg in_N hown hK h hnd rfl 5 (by decide) (s_N hX n89) (fun _ z => z) rfl d_G_handleConnect_41 ?_
    refine lv_aload_n hx hb d_G_handleConnect_44 rfl (lv_at hl 2 rfl) ?_
    refine hp_getN (v := .int ((k_mark (k_wake E S x) x j 1).1 x 0)) hx hb hg in_N hown hK h hnd rfl 3 (by decide) (s_N hX n85) (fun _ z => z) rfl d_G_handleConnect_45 ?_
    refine hp_callv (hp_runIN (As := [.int 1, .int (nI j), .int ((k_mark (k_wake E S x) x j 1).1 x 1), .int ((k_mark (k_wake E S x) x j 1).1 x 2), .int ((k_mark (k_wake E S x) x j 1).1 x 0)]) (rest := [.ref y3, .ref (ad (10 + x)), .ref (ad 0)]) ⟨hx, hb, hml, hown, hg⟩ (c_M_init l D tys de sa hy3) ⟨va_cnB 5 hg (gw_code w316) rfl rfl rfl (s_Nw hX n314) (hg _ w15) (by decide +kernel) ⟨Nat.le_of_ble_eq_true rfl, Nat.le_of_ble_eq_true rfl⟩, rfl, hg _ w315⟩ (s_ok de sa) hK hX h rfl hl.1 rfl (Nat.le_of_ble_eq_true rfl) d_G_handleConnect_48 ⟨by dsimp only; omega, by dsimp only; omega⟩) h (fun Lm fz3 H locs hp h => ?_)
    obtain ⟨hLm, hfm⟩ := Prod.mk.inj hp
    have hLm := hLm.symm
    subst hLm
    have hfy3 : fz3 = va_up f1 y3 (km (1, (nI j), ((k_mark (k_wake E S x) x j 1).1 x 1), ((k_mark (k_wake E S x) x j 1).1 x 2), ((k_mark (k_wake E S x) x j 1).1 x 0))) := by rw [hfm, hf_y3, bx_uu]
    have hy3 : hp_at Ly3 fz3 y3 (km (1, (nI j), ((k_mark (k_wake E S x) x j 1).1 x 1), ((k_mark (k_wake E S x) x j 1).1 x 2), ((k_mark (k_wake E S x) x j 1).1 x 0))) := hp_at.new' hL_y3 hfy3
    have hFs := hG.fpush (t := 5) hL_y3 hfy3 hq_y3
    obtain ⟨hy, hyt⟩ := hFs.msg hy hyt
    have hF := hF.trans hFs
    have hG : kG cI cO cN de ad _ Ly3 fz3 E (k_use (k_mark (k_wake E S x) x j 1) 1 5) := hG.push (t := 5) hL_y3 hfy3 hq_y3
    refine hp_callv (hp_runV (As := [.ref (ad (10 + x)), .ref y3]) (rest := []) ⟨hx, hb, hml, hown, hg⟩ (c_G_send l D tys de sa (j := j) ht ht1 ht2 hG hx7 hy3 (kup_self _ _ _) rfl hj rfl (k_to7 hW hj) (hW.1 _ hj) (Nat.lt_of_le_of_lt (Nat.le_add_right _ 39) (hlen _ (k_to7 hW hj)))) (cwV 2 hg (gw_V w337 w339 ws8 w1 w340) rfl rfl rfl (by decide +kernel) ⟨Nat.le_of_ble_eq_true rfl, Nat.le_of_ble_eq_true rfl⟩) (s_ok de sa) hK hX h (hG.1) rfl rfl rfl hl.1 rfl (Nat.le_of_ble_eq_true rfl) d_G_handleConnect_51 ⟨by dsimp only; omega, by dsimp only; omega⟩) h (fun Ls3 fs3 H locs hp h => ?_)
    obtain ⟨τs3, hG, hF1⟩ := hp
    dsimp only at hG
    have hFs := hF1
    obtain ⟨hy, hyt⟩ := hFs.msg hy hyt
    have hF := hF.trans hFs
    have hlen : ∀ i, i < 7 → ((k_post E (k_mark (k_wake E S x) x j 1) x (1, (nI j), ((k_mark (k_wake E S x) x j 1).1 x 1), ((k_mark (k_wake E S x) x j 1).1 x 2), ((k_mark (k_wake E S x) x j 1).1 x 0))).2.2.1 i).length + 38 < 2 ^ 19 := fun i hi => by have z1 : (((k_mark (k_wake E S x) x j 1)).2.2.1 i).length + 39 < 2 ^ 19 := hlen i hi; have z2 := k_post_len (E := E) (S := (k_mark (k_wake E S x) x j 1)) (x := x) (q := (1, (nI j), ((k_mark (k_wake E S x) x j 1).1 x 1), ((k_mark (k_wake E S x) x j 1).1 x 2), ((k_mark (k_wake E S x) x j 1).1 x 0))) i; omega
    have he := hG.1
    obtain ⟨go, ho, ho1⟩ := hG.2.2.1
    obtain ⟨gtw, htw, htw1⟩ := hG.2.2.2.1
    obtain ⟨gw, hw, hw1⟩ := hG.2.2.2.2.1
    have hnd := hG.2.2.2.2.2.1 x hx7
    obtain ⟨gm, hm, hm1⟩ := hG.2.2.2.2.2.2.1 x hx7
    refine lv_aload_n hx hb d_G_handleConnect_54 rfl (lv_at hl 2 rfl) ?_
    refine hp_getN (v := .int ((k_post E (k_mark (k_wake E S x) x j 1) x (1, (nI j), ((k_mark (k_wake E S x) x j 1).1 x 1), ((k_mark (k_wake E S x) x j 1).1 x 2), ((k_mark (k_wake E S x) x j 1).1 x 0))).1 x 0)) hx hb hg in_N hown hK h hnd rfl 3 (by decide) (s_N hX n85) (fun _ z => z) rfl d_G_handleConnect_55 ?_
    refine lv_iconst (v := 1) hx hb d_G_handleConnect_58 (by decide) ?_
    refine lv_icmp_ne (tgt := 119) hx hb d_G_handleConnect_59 (by decide) (fun hc2 => ?_) (fun hc2 => ?_)
    · skip
      exact hp_vret hx hb hr hlk h (by rw [hS9, show k_ini1 E (k_mark (k_wake E S x) x j 1) x j = _ from if_neg hc2]; exact ⟨_, hG, hF⟩) (by omega) (by omega) d_G_handleConnect_119
    · skip
      refine lv_aload_n hx hb d_G_handleConnect_62 rfl (lv_at hl 2 rfl) ?_
      refine lv_dup hx hb d_G_handleConnect_63 rfl ?_
      refine hp_getN (v := .int ((k_post E (k_mark (k_wake E S x) x j 1) x (1, (nI j), ((k_mark (k_wake E S x) x j 1).1 x 1), ((k_mark (k_wake E S x) x j 1).1 x 2), ((k_mark (k_wake E S x) x j 1).1 x 0))).1 x 3)) hx hb hg in_N hown hK h hnd rfl 6 (by decide) (s_N hX n91) (fun _ z => z) rfl d_G_handleConnect_64 ?_
      refine lv_iconst (v := 1) hx hb d_G_handleConnect_67 (by decide) ?_
      refine lv_iadd hx hb d_G_handleConnect_68 ?_
      refine hp_putN (ty := .int) (v := .int (((k_post E (k_mark (k_wake E S x) x j 1) x (1, (nI j), ((k_mark (k_wake E S x) x j 1).1 x 1), ((k_mark (k_wake E S x) x j 1).1 x 2), ((k_mark (k_wake E S x) x j 1).1 x 0))).1 x 3) + 1)) (fs' := [.int (nI x), .ref (ad (20 + x)), .ref (ad (30 + x)), .int ((k_post E (k_mark (k_wake E S x) x j 1) x (1, (nI j), ((k_mark (k_wake E S x) x j 1).1 x 1), ((k_mark (k_wake E S x) x j 1).1 x 2), ((k_mark (k_wake E S x) x j 1).1 x 0))).1 x 0), .int ((k_post E (k_mark (k_wake E S x) x j 1) x (1, (nI j), ((k_mark (k_wake E S x) x j 1).1 x 1), ((k_mark (k_wake E S x) x j 1).1 x 2), ((k_mark (k_wake E S x) x j 1).1 x 0))).1 x 1), .int ((k_post E (k_mark (k_wake E S x) x j 1) x (1, (nI j), ((k_mark (k_wake E S x) x j 1).1 x 1), ((k_mark (k_wake E S x) x j 1).1 x 2), ((k_mark (k_wake E S x) x j 1).1 x 0))).1 x 2), .int (((k_post E (k_mark (k_wake E S x) x j 1) x (1, (nI j), ((k_mark (k_wake E S x) x j 1).1 x 1), ((k_mark (k_wake E S x) x j 1).1 x 2), ((k_mark (k_wake E S x) x j 1).1 x 0))).1 x 3) + 1), .int ((k_post E (k_mark (k_wake E S x) x j 1) x (1, (nI j), ((k_mark (k_wake E S x) x j 1).1 x 1), ((k_mark (k_wake E S x) x j 1).1 x 2), ((k_mark (k_wake E S x) x j 1).1 x 0))).1 x 4), .int ((k_post E (k_mark (k_wake E S x) x j 1) x (1, (nI j), ((k_mark (k_wake E S x) x j 1).1 x 1), ((k_mark (k_wake E S x) x j 1).1 x 2), ((k_mark (k_wake E S x) x j 1).1 x 0))).1 x 5), .int ((k_post E (k_mark (k_wake E S x) x j 1) x (1, (nI j), ((k_mark (k_wake E S x) x j 1).1 x 1), ((k_mark (k_wake E S x) x j 1).1 x 2), ((k_mark (k_wake E S x) x j 1).1 x 0))).1 x 6), .int ((k_post E (k_mark (k_wake E S x) x j 1) x (1, (nI j), ((k_mark (k_wake E S x) x j 1).1 x 1), ((k_mark (k_wake E S x) x j 1).1 x 2), ((k_mark (k_wake E S x) x j 1).1 x 0))).1 x 7), .int ((k_post E (k_mark (k_wake E S x) x j 1) x (1, (nI j), ((k_mark (k_wake E S x) x j 1).1 x 1), ((k_mark (k_wake E S x) x j 1).1 x 2), ((k_mark (k_wake E S x) x j 1).1 x 0))).1 x 8)]) hx hb hg in_N t_N t_N_ok n_N hown hK h hnd rfl 6 (by decide) (s_N hX n91) (fun _ z => z) rfl (by decide +kernel) rfl rfl (Nat.le_of_ble_eq_true rfl) rfl d_G_handleConnect_69 (fun H locs f2 hf2 h => ?_)
      have hFs := kFr.w (L := Ls3) hf2 (hG.2.2.2.2.2.2.2.2.2.1 x hx7).1 (by omega) (by omega)
      obtain ⟨hy, hyt⟩ := hFs.msg hy hyt
      have hF := hF.trans hFs
      have hG : kG cI cO cN de ad _ Ls3 f2 E (k_fld (k_post E (k_mark (k_wake E S x) x j 1) x (1, (nI j), ((k_mark (k_wake E S x) x j 1).1 x 1), ((k_mark (k_wake E S x) x j 1).1 x 2), ((k_mark (k_wake E S x) x j 1).1 x 0))) x 3 ((k_post E (k_mark (k_wake E S x) x j 1) x (1, (nI j), ((k_mark (k_wake E S x) x j 1).1 x 1), ((k_mark (k_wake E S x) x j 1).1 x 2), ((k_mark (k_wake E S x) x j 1).1 x 0))).1 x 3 + 1)) := hG.wN hx7 (v' := upd ((k_post E (k_mark (k_wake E S x) x j 1) x (1, (nI j), ((k_mark (k_wake E S x) x j 1).1 x 1), ((k_mark (k_wake E S x) x j 1).1 x 2), ((k_mark (k_wake E S x) x j 1).1 x 0))).1 x) 3 ((k_post E (k_mark (k_wake E S x) x j 1) x (1, (nI j), ((k_mark (k_wake E S x) x j 1).1 x 1), ((k_mark (k_wake E S x) x j 1).1 x 2), ((k_mark (k_wake E S x) x j 1).1 x 0))).1 x 3 + 1)) hf2
      have he := hG.1
      obtain ⟨go, ho, ho1⟩ := hG.2.2.1
      obtain ⟨gtw, htw, htw1⟩ := hG.2.2.2.1
      obtain ⟨gw, hw, hw1⟩ := hG.2.2.2.2.1
      have hnd := hG.2.2.2.2.2.1 x hx7
      obtain ⟨gm, hm, hm1⟩ := hG.2.2.2.2.2.2.1 x hx7
      refine lv_goto (tgt := 119) hx hb d_G_handleConnect_72 (by decide) ?_
      exact hp_vret hx hb hr hlk h (by rw [hS9, show k_ini1 E (k_mark (k_wake E S x) x j 1) x j = _ from if_pos hc2]; exact ⟨_, hG, hF⟩) (by omega) (by omega) d_G_handleConnect_119
