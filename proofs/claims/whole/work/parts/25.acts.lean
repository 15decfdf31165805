/-! wakeIfAsleep, reportIfReady, testLightest, moveCore, by program (wip/mk25.py). -/
/-- the ends of an edge are nodes -/
def kWE (E : kE) : Prop := (∀ j, j < E.2.1 → E.2.2.1 j < 2 ^ 31) ∧ ∀ j, j < E.2.1 → E.2.2.1 j < 7 ∧ E.2.2.2.1 j < 7
theorem k_to7 {E : kE} {x j : Nat} (h : kWE E) (hj : j < E.2.1) : k_to E x j < 7 := by
  unfold k_to
  split
  · exact (h.2 j hj).2
  · exact (h.2 j hj).1
theorem kupd {g z : Nat → Int32} {j : Nat} {a : Int32} (h : ∀ i, i < 12 → g i = z i) : ∀ i, i < 12 → upd g j a i = upd z j a i := by
  intro i hi
  by_cases e : i = j
  · subst e; rw [pk_us, pk_us]
  · rw [pk_un e, pk_un e]; exact h i hi
theorem k_post_cu {E : kE} {S : kS} {x j : Nat} {q : kM} (hqj : q.2.1 = nI j) (hj : j < 2 ^ 31) : k_cu (k_post E S x q) = k_cu S + 1 + k_qc (k_use S 1 5) (k_to E x j) := by
  unfold k_post k_send
  rw [hqj, kx_nI hj]
  rfl
theorem k_post_su {E : kE} {S : kS} {x j : Nat} {q : kM} (hqj : q.2.1 = nI j) (hj : j < 2 ^ 31) : k_su (k_post E S x q) = k_su S + 5 + k_qs (k_use S 1 5) (k_to E x j) := by
  unfold k_post k_send
  rw [hqj, kx_nI hj]
  rfl
def k_wake (E : kE) (S : kS) (x : Nat) : kS :=
  if S.1 x 0 = 0 then (match k_lb E (k_fld S x 0 2) x E.2.1 with
    | none => k_fld S x 0 2
    | some j => k_post E (k_mark (k_fld S x 0 2) x j 1) x (0, nI j, 0, 0, 0)) else S
theorem k_wake0 {E : kE} {S : kS} {x : Nat} (h : ¬ S.1 x 0 = 0) : k_wake E S x = S := if_neg h
theorem k_wake1 {E : kE} {S : kS} {x : Nat} (h : S.1 x 0 = 0) (h1 : k_lb E (k_fld S x 0 2) x E.2.1 = none) : k_wake E S x = k_fld S x 0 2 := by
  unfold k_wake
  rw [if_pos h, h1]
theorem k_wake2 {E : kE} {S : kS} {x j : Nat} (h : S.1 x 0 = 0) (h1 : k_lb E (k_fld S x 0 2) x E.2.1 = some j) : k_wake E S x = k_post E (k_mark (k_fld S x 0 2) x j 1) x (0, nI j, 0, 0, 0) := by
  unfold k_wake
  rw [if_pos h, h1]
def k_report (E : kE) (S : kS) (x : Nat) : kS :=
  if S.1 x 3 = 0 ∧ S.1 x 7 = -1 then k_post E (k_fld S x 0 2) x (5, (k_fld S x 0 2).1 x 4, (k_fld S x 0 2).1 x 6, 0, 0) else S
def k_test (E : kE) (S : kS) (x : Nat) : kS :=
  match k_lb E S x E.2.1 with
    | none => k_report E (k_fld S x 7 (-1)) x
    | some j => k_post E (k_fld S x 7 (nI j)) x (2, (k_fld S x 7 (nI j)).1 x 7, (k_fld S x 7 (nI j)).1 x 1, (k_fld S x 7 (nI j)).1 x 2, 0)
def k_move (E : kE) (S : kS) (x : Nat) : kS :=
  if S.2.1 x (kx (S.1 x 5)) = 1 then k_post E S x (6, S.1 x 5, 0, 0, 0) else k_mark (k_post E S x (0, S.1 x 5, S.1 x 1, 0, 0)) x (kx (S.1 x 5)) 1
set_option maxHeartbeats 4000000 in
set_option maxRecDepth 100000 in
theorem c_G_wakeIfAsleep (l : Launch) (D : va_G) (tys : List (ClassId × FieldType)) (de : Nat) (sa : Nat → Nat) {L : List Nat} {f : Nat → va_E} {x : Nat} {ad τ : Nat → Nat} {E : kE} {S : kS} {cI cO cN : ClassId} (ht : tys[0]? = some (cI, .int)) (ht1 : tys[1]? = some (cO, .object "java/lang/Object")) (ht2 : tys[2]? = some (cN, .object "MergingFragments$Node")) (hG : kG cI cO cN de ad τ L f E S) (hx7 : x < 7) (hW : kWE E) (hlen : ∀ i, i < 7 → (S.2.2.1 i).length < 2 ^ 19) : hp_Mv l y_G_wakeIfAsleep (gw_ws y_G_wakeIfAsleep b_G_wakeIfAsleep 3 none) { frames := 8, cells := k_cu (k_wake E S x) - k_cu S, slots := k_su (k_wake E S x) - k_su S, locals := 185 } D kc tys (s_X de sa) [.ref (ad 0), .ref (ad (10 + x))] L f (kP cI cO cN de ad τ L f E (k_wake E S x)) (k_cu (k_wake E S x) - k_cu S) (k_su (k_wake E S x) - k_su S) := by
  refine hp_ofW (Qc := fun A => va_Qv (kP cI cO cN de ad τ L f E (k_wake E S x)) (hp_B D kc A) A) (fr := fun A => A) (ret := none) (by decide) rfl (Nat.le_of_ble_eq_true rfl) ?_
  intro p e s m below meth c ls A hx hb hml hr hts hown hlk hnm hl hK hX h
  have hg : ∀ w ∈ gw, w.before _ s = true := fun w hw => hts w (List.mem_cons_of_mem _ hw)
  have hown : s.vm.findClass "MergingFragments" = some m.cls := hown
  have hnm : meth.name = "wakeIfAsleep" := hnm
  have hl : lv_has ls 3 [(0, .ref (ad 0)), (1, .ref (ad (10 + x)))] := hl
  have hm12 : E.2.1 ≤ 12 := hG.2.2.2.2.2.2.2.2.2.2.2.1
  have hF : kFr τ L f τ (L, f) := kFr.rf
  have he := hG.1
  have hnd := hG.2.2.2.2.2.1 x hx7
  obtain ⟨gm, hm, hm1⟩ := hG.2.2.2.2.2.2.1 x hx7
  refine lv_aload_n hx hb d_G_wakeIfAsleep_0 rfl (lv_at hl 1 rfl) ?_
  refine hp_getN (v := .int (S.1 x 0)) hx hb hg in_N hown hK h hnd rfl 3 (by decide) (s_N hX n85) (fun _ z => z) rfl d_G_wakeIfAsleep_1 ?_
  refine lv_if_eq (tgt := 8) hx hb d_G_wakeIfAsleep_4 (by decide) (fun hc => ?_) (fun hc => ?_)
  · skip
    refine lv_aload_n hx hb d_G_wakeIfAsleep_8 rfl (lv_at hl 1 rfl) ?_
    refine lv_iconst (v := 2) hx hb d_G_wakeIfAsleep_9 (by decide) ?_
    refine hp_putN (ty := .int) (v := .int 2) (fs' := [.int (nI x), .ref (ad (20 + x)), .ref (ad (30 + x)), .int 2, .int (S.1 x 1), .int (S.1 x 2), .int (S.1 x 3), .int (S.1 x 4), .int (S.1 x 5), .int (S.1 x 6), .int (S.1 x 7), .int (S.1 x 8)]) hx hb hg in_N t_N t_N_ok n_N hown hK h hnd rfl 3 (by decide) (s_N hX n85) (fun _ z => z) rfl (by decide +kernel) rfl rfl (Nat.le_of_ble_eq_true rfl) rfl d_G_wakeIfAsleep_10 (fun H locs f1 hf1 h => ?_)
    have hFs := kFr.w (L := L) hf1 (hG.2.2.2.2.2.2.2.2.2.1 x hx7).1 (by omega) (by omega)
    have hF := hF.trans hFs
    have hG : kG cI cO cN de ad _ L f1 E (k_fld S x 0 2) := hG.wN hx7 (v' := upd (S.1 x) 0 2) hf1
    have he := hG.1
    have hnd := hG.2.2.2.2.2.1 x hx7
    obtain ⟨gm, hm, hm1⟩ := hG.2.2.2.2.2.2.1 x hx7
    refine lv_aload_n hx hb d_G_wakeIfAsleep_13 rfl (lv_at hl 0 rfl) ?_
    refine lv_aload_n hx hb d_G_wakeIfAsleep_14 rfl (lv_at hl 1 rfl) ?_
    refine hp_callR (hp_runV (As := [.ref (ad (10 + x))]) (rest := []) ⟨hx, hb, hml, hown, hg⟩ (c_G_lightestBasic l D tys de sa ht ht1 ht2 hG hx7) (cwV 1 hg (gw_V w308 w310 ws7 w1 w311) rfl rfl rfl (by decide +kernel) ⟨Nat.le_of_ble_eq_true rfl, Nat.le_of_ble_eq_true rfl⟩) (s_ok de sa) hK hX h he rfl rfl rfl hl.1 rfl (Nat.le_of_ble_eq_true rfl) d_G_wakeIfAsleep_15 ⟨Nat.le_of_ble_eq_true rfl, Nat.le_of_ble_eq_true rfl⟩) (fun r1 hp => ?_)
    cases ho : k_lb E (k_fld S x 0 2) x E.2.1 with
    | none =>
      have hS9 := k_wake1 (E := E) (S := S) (x := x) hc ho
      rw [ho] at hp
      have hp : r1 = -1 := hp
      subst hp
      refine lv_istore_n (lv' := [(2, .int (-1)), (0, .ref (ad 0)), (1, .ref (ad (10 + x)))]) hx hb d_G_wakeIfAsleep_18 rfl hl (by decide) rfl (fun ls hl => ?_)
      refine lv_iload_n hx hb d_G_wakeIfAsleep_19 rfl (lv_at hl 0 rfl) ?_
      refine lv_iconst (v := (-1)) hx hb d_G_wakeIfAsleep_20 (by decide) ?_
      refine lv_icmp_eq (tgt := 48) hx hb d_G_wakeIfAsleep_21 (by decide) (fun hc2 => ?_) (fun hc2 => ?_)
      · skip
        exact hp_vret hx hb hr hlk h (by rw [hS9]; exact ⟨_, hG, hF⟩) (Nat.zero_le _) (Nat.zero_le _) d_G_wakeIfAsleep_48
      · skip
        exact absurd rfl hc2
    | some j =>
      have hS9 := k_wake2 (E := E) (S := S) (x := x) hc ho
      have hj := (k_lb_lt ho).1
      rw [ho] at hp
      have hp : r1 = nI j := hp
      subst hp
      refine lv_istore_n (lv' := [(2, .int (nI j)), (0, .ref (ad 0)), (1, .ref (ad (10 + x)))]) hx hb d_G_wakeIfAsleep_18 rfl hl (by decide) rfl (fun ls hl => ?_)
      refine lv_iload_n hx hb d_G_wakeIfAsleep_19 rfl (lv_at hl 0 rfl) ?_
      refine lv_iconst (v := (-1)) hx hb d_G_wakeIfAsleep_20 (by decide) ?_
      refine lv_icmp_eq (tgt := 48) hx hb d_G_wakeIfAsleep_21 (by decide) (fun hc2 => ?_) (fun hc2 => ?_)
      · skip
        exact absurd hc2 (nI_ne1 (by omega))
      · skip
        refine lv_aload_n hx hb d_G_wakeIfAsleep_24 rfl (lv_at hl 2 rfl) ?_
        refine hp_getN (v := .ref (ad (20 + x))) hx hb hg in_N hown hK h hnd rfl 1 (by decide) (s_N hX n81) (fun _ z => z) rfl d_G_wakeIfAsleep_25 ?_
        refine lv_iload_n hx hb d_G_wakeIfAsleep_28 rfl (lv_at hl 0 rfl) ?_
        refine lv_iconst (v := 1) hx hb d_G_wakeIfAsleep_29 (by decide) ?_
        refine hp_iast hx hb hK h 0 hm ht rfl (by omega) (by decide) d_G_wakeIfAsleep_30 (fun H locs f2 hf2 h => ?_)
        have hFs := kFr.w (L := L) hf2 (hG.2.2.2.2.2.2.2.2.2.1 x hx7).2.1 (by omega) (by omega)
        have hF := hF.trans hFs
        have hG : kG cI cO cN de ad _ L f2 E (k_mark (k_fld S x 0 2) x j 1) := hG.wM hx7 (z := upd ((k_fld S x 0 2).2.1 x) j 1) hf2 (kupd hm1)
        have he := hG.1
        have hnd := hG.2.2.2.2.2.1 x hx7
        obtain ⟨gm, hm, hm1⟩ := hG.2.2.2.2.2.2.1 x hx7
        have hcu : k_cu (k_wake E S x) = k_cu (k_mark (k_fld S x 0 2) x j 1) + 1 + k_qc (k_use (k_mark (k_fld S x 0 2) x j 1) 1 5) (k_to E x j) := by rw [hS9]; exact k_post_cu rfl (by omega)
        have hsu : k_su (k_wake E S x) = k_su (k_mark (k_fld S x 0 2) x j 1) + 5 + k_qs (k_use (k_mark (k_fld S x 0 2) x j 1) 1 5) (k_to E x j) := by rw [hS9]; exact k_post_su rfl (by omega)
        have hcu0 : k_cu (k_mark (k_fld S x 0 2) x j 1) = k_cu S := rfl
        have hsu0 : k_su (k_mark (k_fld S x 0 2) x j 1) = k_su S := rfl
        refine lv_aload_n hx hb d_G_wakeIfAsleep_31 rfl (lv_at hl 1 rfl) ?_
        refine lv_aload_n hx hb d_G_wakeIfAsleep_32 rfl (lv_at hl 2 rfl) ?_
        refine hp_new (ci := 2) (fs := [.int 0, .int 0, .int 0, .int 0, .int 0]) hx hb hg in_M t_M t_M_ok hown (hg _ w312) (hg _ w313) (hg _ w15) hK h rfl (fun j hj => by rcases (show j = 0 ∨ j = 1 ∨ j = 2 ∨ j = 3 ∨ j = 4 by omega) with rfl | rfl | rfl | rfl | rfl <;> rfl) (by dsimp only; omega) (by dsimp only; omega) d_G_wakeIfAsleep_33 (fun y0 H Ly0 fy0 hq_y0 hL_y0 hf_y0 h => ?_)
        have he := he.push' hL_y0 hf_y0 hq_y0
        have hnd := hnd.push' hL_y0 hf_y0 hq_y0
        have hm := hm.push' hL_y0 hf_y0 hq_y0
        have hy0 := hp_at.new' hL_y0 hf_y0
        refine lv_dup hx hb d_G_wakeIfAsleep_36 rfl ?_
        refine lv_iconst (v := 0) hx hb d_G_wakeIfAsleep_37 (by decide) ?_
        refine lv_iload_n hx hb d_G_wakeIfAsleep_38 rfl (lv_at hl 0 rfl) ?_
        refine lv_iconst (v := 0) hx hb d_G_wakeIfAsleep_39 (by decide) ?_
        refine lv_iconst (v := 0) hx hb d_G_wakeIfAsleep_40 (by decide) ?_
        refine lv_iconst (v := 0) hx hb d_G_wakeIfAsleep_41 (by decide) ?_
        refine hp_callv (hp_runIN (As := [.int 0, .int (nI j), .int 0, .int 0, .int 0]) (rest := [.ref y0, .ref (ad (10 + x)), .ref (ad 0)]) ⟨hx, hb, hml, hown, hg⟩ (c_M_init l D tys de sa hy0) ⟨va_cnB 5 hg (gw_code w316) rfl rfl rfl (s_Nw hX n314) (hg _ w15) (by decide +kernel) ⟨Nat.le_of_ble_eq_true rfl, Nat.le_of_ble_eq_true rfl⟩, rfl, hg _ w315⟩ (s_ok de sa) hK hX h rfl hl.1 rfl (Nat.le_of_ble_eq_true rfl) d_G_wakeIfAsleep_42 ⟨by dsimp only; omega, by dsimp only; omega⟩) h (fun Lm fz0 H locs hp h => ?_)
        obtain ⟨hLm, hfm⟩ := Prod.mk.inj hp
        have hLm := hLm.symm
        subst hLm
        have hfy0 : fz0 = va_up f2 y0 (km (0, (nI j), 0, 0, 0)) := by rw [hfm, hf_y0, bx_uu]
        have hy0 : hp_at Ly0 fz0 y0 (km (0, (nI j), 0, 0, 0)) := hp_at.new' hL_y0 hfy0
        have hFs := hG.fpush (t := 5) hL_y0 hfy0 hq_y0
        have hF := hF.trans hFs
        have hG : kG cI cO cN de ad _ Ly0 fz0 E (k_use (k_mark (k_fld S x 0 2) x j 1) 1 5) := hG.push (t := 5) hL_y0 hfy0 hq_y0
        refine hp_callv (hp_runV (As := [.ref (ad (10 + x)), .ref y0]) (rest := []) ⟨hx, hb, hml, hown, hg⟩ (c_G_send l D tys de sa (j := j) ht ht1 ht2 hG hx7 hy0 (kup_self _ _ _) rfl hj rfl (k_to7 hW hj) (hW.1 _ hj) (hlen _ (k_to7 hW hj))) (cwV 2 hg (gw_V w337 w339 ws8 w1 w340) rfl rfl rfl (by decide +kernel) ⟨Nat.le_of_ble_eq_true rfl, Nat.le_of_ble_eq_true rfl⟩) (s_ok de sa) hK hX h (hG.1) rfl rfl rfl hl.1 rfl (Nat.le_of_ble_eq_true rfl) d_G_wakeIfAsleep_45 ⟨by dsimp only; omega, by dsimp only; omega⟩) h (fun Ls0 fs0 H locs hp h => ?_)
        obtain ⟨τs0, hG, hF1⟩ := hp
        dsimp only at hG
        have hFs := hF1
        have hF := hF.trans hFs
        have he := hG.1
        have hnd := hG.2.2.2.2.2.1 x hx7
        obtain ⟨gm, hm, hm1⟩ := hG.2.2.2.2.2.2.1 x hx7
        exact hp_vret hx hb hr hlk h (by rw [hS9]; exact ⟨_, hG, hF⟩) (by omega) (by omega) d_G_wakeIfAsleep_48
  · skip
    exact hp_vret hx hb hr hlk h (by rw [k_wake0 hc]; exact ⟨_, hG, hF⟩) (Nat.zero_le _) (Nat.zero_le _) d_G_wakeIfAsleep_7
