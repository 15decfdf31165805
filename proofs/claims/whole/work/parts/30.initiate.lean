/-! handleInitiate, by program (wip/mk30.py). -/
def k_fgt (S : kS) (x : Nat) : kS := (kup S.1 x (upd (upd (S.1 x) 5 (-1)) 6 100), S.2)
def k_ini0 (S : kS) (x : Nat) (q : kM) : kS := k_fgt (k_fld (k_fld (k_fld (k_fld S x 1 q.2.2.1) x 2 q.2.2.2.1) x 0 q.2.2.2.2) x 4 q.2.1) x
/-- INITIATE over the first k edges, but the one that it came over -/
def k_inis (E : kE) (S : kS) (x : Nat) : Nat → kS
  | 0 => S
  | k + 1 => if (k_inis E S x k).2.1 x k = 1 then (if nI k = (k_inis E S x k).1 x 4 then k_inis E S x k else k_ini1 E (k_inis E S x k) x k) else k_inis E S x k
def k_init (E : kE) (S : kS) (x : Nat) (q : kM) : kS :=
  if (k_inis E (k_ini0 S x q) x E.2.1).1 x 0 = 1 then k_test E (k_inis E (k_ini0 S x q) x E.2.1) x else k_inis E (k_ini0 S x q) x E.2.1
theorem k_inis0 {E : kE} {S T : kS} {x k : Nat} (hT : T = k_inis E S x k) (h : ¬ T.2.1 x k = 1) : T = k_inis E S x (k + 1) := by
  subst hT
  exact (if_neg h).symm
theorem k_inis1 {E : kE} {S T : kS} {x k : Nat} (hT : T = k_inis E S x k) (h : T.2.1 x k = 1) (h1 : nI k = T.1 x 4) : T = k_inis E S x (k + 1) := by
  subst hT
  show _ = if _ then _ else _
  rw [if_pos h, if_pos h1]
theorem k_inis2 {E : kE} {S T : kS} {x k : Nat} (hT : T = k_inis E S x k) (h : T.2.1 x k = 1) (h1 : ¬ nI k = T.1 x 4) : k_ini1 E T x k = k_inis E S x (k + 1) := by
  subst hT
  show _ = if _ then _ else _
  rw [if_pos h, if_neg h1]
theorem k_ini1_le {E : kE} {S : kS} {x j : Nat} : k_cu S ≤ k_cu (k_ini1 E S x j) ∧ k_su S ≤ k_su (k_ini1 E S x j) := by
  unfold k_ini1
  split
  · exact (k_post_le (E := E) (S := S) (x := x) (q := (1, nI j, S.1 x 1, S.1 x 2, S.1 x 0)))
  · exact k_post_le
theorem k_inis_s {E : kE} {S : kS} {x k : Nat} : k_cu (k_inis E S x k) ≤ k_cu (k_inis E S x (k + 1)) ∧ k_su (k_inis E S x k) ≤ k_su (k_inis E S x (k + 1)) := by
  show _ ≤ k_cu (if _ then _ else _) ∧ _ ≤ k_su (if _ then _ else _)
  split
  · split
    · exact ⟨Nat.le_refl _, Nat.le_refl _⟩
    · exact k_ini1_le
  · exact ⟨Nat.le_refl _, Nat.le_refl _⟩
theorem k_inis_le {E : kE} {S : kS} {x k : Nat} : ∀ d, k_cu (k_inis E S x k) ≤ k_cu (k_inis E S x (k + d)) ∧ k_su (k_inis E S x k) ≤ k_su (k_inis E S x (k + d))
  | 0 => ⟨Nat.le_refl _, Nat.le_refl _⟩
  | d + 1 => by
    have h1 := k_inis_le (E := E) (S := S) (x := x) (k := k) d
    have h2 := k_inis_s (E := E) (S := S) (x := x) (k := k + d)
    rw [Nat.add_assoc] at h2
    omega
theorem k_init_le {E : kE} {S : kS} {x : Nat} {q : kM} {k d : Nat} (h : k + d = E.2.1) : k_cu (k_inis E (k_ini0 S x q) x k) ≤ k_cu (k_init E S x q) ∧ k_su (k_inis E (k_ini0 S x q) x k) ≤ k_su (k_init E S x q) := by
  have h1 := k_inis_le (E := E) (S := k_ini0 S x q) (x := x) (k := k) d
  rw [h] at h1
  have h2 : k_cu (k_inis E (k_ini0 S x q) x E.2.1) ≤ k_cu (k_init E S x q) ∧ k_su (k_inis E (k_ini0 S x q) x E.2.1) ≤ k_su (k_init E S x q) := by
    unfold k_init
    split
    · exact k_test_le
    · exact ⟨Nat.le_refl _, Nat.le_refl _⟩
  omega
theorem k_ini1_fld {E : kE} {S : kS} {x j k : Nat} (h : k ≠ 3) : (k_ini1 E S x j).1 x k = S.1 x k := by
  unfold k_ini1
  split
  · exact k_fld_ne h
  · rfl
theorem k_inis_fld {E : kE} {S : kS} {x i : Nat} (h : i ≠ 3) : ∀ k, (k_inis E S x k).1 x i = S.1 x i
  | 0 => rfl
  | k + 1 => by
    have ih := k_inis_fld (E := E) (S := S) (x := x) h k
    show (if _ then _ else _ : kS).1 x i = _
    split
    · split
      · exact ih
      · exact (k_ini1_fld h).trans ih
    · exact ih
set_option maxHeartbeats 4000000 in
set_option maxRecDepth 100000 in
theorem c_G_handleInitiate (l : Launch) (D : va_G) (tys : List (ClassId × FieldType)) (de : Nat) (sa : Nat → Nat) {L : List Nat} {f : Nat → va_E} {x y j : Nat} {q : kM} {ad τ : Nat → Nat} {E : kE} {S : kS} {cI cO cN : ClassId} (ht : tys[0]? = some (cI, .int)) (ht1 : tys[1]? = some (cO, .object "java/lang/Object")) (ht2 : tys[2]? = some (cN, .object "MergingFragments$Node")) (hG : kG cI cO cN de ad τ L f E S) (hx7 : x < 7) (hW : kWE E) (hlen : ∀ i, i < 7 → (S.2.2.1 i).length + 40 < 2 ^ 19) (hy : hp_at L f y (km q)) (hyt : τ y = 5) (hqj : q.2.1 = nI j) (hj : j < E.2.1) : hp_Mv l y_G_handleInitiate (gw_ws y_G_handleInitiate b_G_handleInitiate 4 none) { frames := 10, cells := k_cu (k_init E S x q) - k_cu S, slots := k_su (k_init E S x q) - k_su S, locals := 227 } D kc tys (s_X de sa) [.ref (ad 0), .ref (ad (10 + x)), .ref y] L f (kP cI cO cN de ad τ L f E (k_init E S x q)) (k_cu (k_init E S x q) - k_cu S) (k_su (k_init E S x q) - k_su S) := by
  refine hp_ofW (Qc := fun A => va_Qv (kP cI cO cN de ad τ L f E (k_init E S x q)) (hp_B D kc A) A) (fr := fun A => A) (ret := none) (by decide) rfl (Nat.le_of_ble_eq_true rfl) ?_
  intro p e s m below meth c ls A hx hb hml hr hts hown hlk hnm hl hK hX h
  have hg : ∀ w ∈ gw, w.before _ s = true := fun w hw => hts w (List.mem_cons_of_mem _ hw)
  have hown : s.vm.findClass "MergingFragments" = some m.cls := hown
  have hnm : meth.name = "handleInitiate" := hnm
  have hl : lv_has ls 4 [(0, .ref (ad 0)), (1, .ref (ad (10 + x))), (2, .ref y)] := hl
  have hm12 : E.2.1 ≤ 12 := hG.2.2.2.2.2.2.2.2.2.2.2.1
  have hF : kFr τ L f τ (L, f) := kFr.rf
  have he := hG.1
  have hnd := hG.2.2.2.2.2.1 x hx7
  obtain ⟨gm, hm, hm1⟩ := hG.2.2.2.2.2.2.1 x hx7
  refine lv_aload_n hx hb d_G_handleInitiate_0 rfl (lv_at hl 1 rfl) ?_
  refine lv_aload_n hx hb d_G_handleInitiate_1 rfl (lv_at hl 2 rfl) ?_
  refine hp_callR (hp_runV (As := []) (rest := [.ref (ad (10 + x))]) ⟨hx, hb, hml, hown, hg⟩ (c_M_first l D tys de sa hy) (cwV 0 hg (gw_V w438 w439 w440 w15 w441) rfl rfl rfl (by decide +kernel) ⟨Nat.le_of_ble_eq_true rfl, Nat.le_of_ble_eq_true rfl⟩) (s_ok de sa) hK hX h hy rfl rfl rfl hl.1 rfl (Nat.le_of_ble_eq_true rfl) d_G_handleInitiate_2 ⟨by dsimp only; omega, by dsimp only; omega⟩) (fun r1 hp => ?_)
  subst hp
  refine hp_putN (ty := .int) (v := .int q.2.2.1) (fs' := [.int (nI x), .ref (ad (20 + x)), .ref (ad (30 + x)), .int (S.1 x 0), .int q.2.2.1, .int (S.1 x 2), .int (S.1 x 3), .int (S.1 x 4), .int (S.1 x 5), .int (S.1 x 6), .int (S.1 x 7), .int (S.1 x 8)]) hx hb hg in_N t_N t_N_ok n_N hown hK h hnd rfl 4 (by decide) (s_N hX n87) (fun _ z => z) rfl (by decide +kernel) rfl rfl (Nat.le_of_ble_eq_true rfl) rfl d_G_handleInitiate_5 (fun H locs f1 hf1 h => ?_)
  have hFs := kFr.w (L := L) hf1 (hG.2.2.2.2.2.2.2.2.2.1 x hx7).1 (by omega) (by omega)
  obtain ⟨hy, hyt⟩ := hFs.msg hy hyt
  have hF := hF.trans hFs
  have hG : kG cI cO cN de ad _ L f1 E (k_fld S x 1 q.2.2.1) := hG.wN hx7 (v' := upd (S.1 x) 1 q.2.2.1) hf1
  have he := hG.1
  have hnd := hG.2.2.2.2.2.1 x hx7
  obtain ⟨gm, hm, hm1⟩ := hG.2.2.2.2.2.2.1 x hx7
  refine lv_aload_n hx hb d_G_handleInitiate_8 rfl (lv_at hl 1 rfl) ?_
  refine lv_aload_n hx hb d_G_handleInitiate_9 rfl (lv_at hl 2 rfl) ?_
  refine hp_callR (hp_runV (As := []) (rest := [.ref (ad (10 + x))]) ⟨hx, hb, hml, hown, hg⟩ (c_M_second l D tys de sa hy) (cwV 0 hg (gw_V w451 w452 w453 w15 w454) rfl rfl rfl (by decide +kernel) ⟨Nat.le_of_ble_eq_true rfl, Nat.le_of_ble_eq_true rfl⟩) (s_ok de sa) hK hX h hy rfl rfl rfl hl.1 rfl (Nat.le_of_ble_eq_true rfl) d_G_handleInitiate_10 ⟨by dsimp only; omega, by dsimp only; omega⟩) (fun r1 hp => ?_)
  subst hp
  refine hp_putN (ty := .int) (v := .int q.2.2.2.1) (fs' := [.int (nI x), .ref (ad (20 + x)), .ref (ad (30 + x)), .int ((k_fld S x 1 q.2.2.1).1 x 0), .int ((k_fld S x 1 q.2.2.1).1 x 1), .int q.2.2.2.1, .int ((k_fld S x 1 q.2.2.1).1 x 3), .int ((k_fld S x 1 q.2.2.1).1 x 4), .int ((k_fld S x 1 q.2.2.1).1 x 5), .int ((k_fld S x 1 q.2.2.1).1 x 6), .int ((k_fld S x 1 q.2.2.1).1 x 7), .int ((k_fld S x 1 q.2.2.1).1 x 8)]) hx hb hg in_N t_N t_N_ok n_N hown hK h hnd rfl 5 (by decide) (s_N hX n89) (fun _ z => z) rfl (by decide +kernel) rfl rfl (Nat.le_of_ble_eq_true rfl) rfl d_G_handleInitiate_13 (fun H locs f2 hf2 h => ?_)
  have hFs := kFr.w (L := L) hf2 (hG.2.2.2.2.2.2.2.2.2.1 x hx7).1 (by omega) (by omega)
  obtain ⟨hy, hyt⟩ := hFs.msg hy hyt
  have hF := hF.trans hFs
  have hG : kG cI cO cN de ad _ L f2 E (k_fld (k_fld S x 1 q.2.2.1) x 2 q.2.2.2.1) := hG.wN hx7 (v' := upd ((k_fld S x 1 q.2.2.1).1 x) 2 q.2.2.2.1) hf2
  have he := hG.1
  have hnd := hG.2.2.2.2.2.1 x hx7
  obtain ⟨gm, hm, hm1⟩ := hG.2.2.2.2.2.2.1 x hx7
  refine lv_aload_n hx hb d_G_handleInitiate_16 rfl (lv_at hl 1 rfl) ?_
  refine lv_aload_n hx hb d_G_handleInitiate_17 rfl (lv_at hl 2 rfl) ?_
  refine hp_callR (hp_runV (As := []) (rest := [.ref (ad (10 + x))]) ⟨hx, hb, hml, hown, hg⟩ (c_M_third l D tys de sa hy) (cwV 0 hg (gw_V w455 w456 w457 w15 w458) rfl rfl rfl (by decide +kernel) ⟨Nat.le_of_ble_eq_true rfl, Nat.le_of_ble_eq_true rfl⟩) (s_ok de sa) hK hX h hy rfl rfl rfl hl.1 rfl (Nat.le_of_ble_eq_true rfl) d_G_handleInitiate_18 ⟨by dsimp only; omega, by dsimp only; omega⟩) (fun r1 hp => ?_)
  subst hp
  refine hp_putN (ty := .int) (v := .int q.2.2.2.2) (fs' := [.int (nI x), .ref (ad (20 + x)), .ref (ad (30 + x)), .int q.2.2.2.2, .int ((k_fld (k_fld S x 1 q.2.2.1) x 2 q.2.2.2.1).1 x 1), .int ((k_fld (k_fld S x 1 q.2.2.1) x 2 q.2.2.2.1).1 x 2), .int ((k_fld (k_fld S x 1 q.2.2.1) x 2 q.2.2.2.1).1 x 3), .int ((k_fld (k_fld S x 1 q.2.2.1) x 2 q.2.2.2.1).1 x 4), .int ((k_fld (k_fld S x 1 q.2.2.1) x 2 q.2.2.2.1).1 x 5), .int ((k_fld (k_fld S x 1 q.2.2.1) x 2 q.2.2.2.1).1 x 6), .int ((k_fld (k_fld S x 1 q.2.2.1) x 2 q.2.2.2.1).1 x 7), .int ((k_fld (k_fld S x 1 q.2.2.1) x 2 q.2.2.2.1).1 x 8)]) hx hb hg in_N t_N t_N_ok n_N hown hK h hnd rfl 3 (by decide) (s_N hX n85) (fun _ z => z) rfl (by decide +kernel) rfl rfl (Nat.le_of_ble_eq_true rfl) rfl d_G_handleInitiate_21 (fun H locs f3 hf3 h => ?_)
  have hFs := kFr.w (L := L) hf3 (hG.2.2.2.2.2.2.2.2.2.1 x hx7).1 (by omega) (by omega)
  obtain ⟨hy, hyt⟩ := hFs.msg hy hyt
  have hF := hF.trans hFs
  have hG : kG cI cO cN de ad _ L f3 E (k_fld (k_fld (k_fld S x 1 q.2.2.1) x 2 q.2.2.2.1) x 0 q.2.2.2.2) := hG.wN hx7 (v' := upd ((k_fld (k_fld S x 1 q.2.2.1) x 2 q.2.2.2.1).1 x) 0 q.2.2.2.2) hf3
  have he := hG.1
  have hnd := hG.2.2.2.2.2.1 x hx7
  obtain ⟨gm, hm, hm1⟩ := hG.2.2.2.2.2.2.1 x hx7
  refine lv_aload_n hx hb d_G_handleInitiate_24 rfl (lv_at hl 1 rfl) ?_
  refine lv_aload_n hx hb d_G_handleInitiate_25 rfl (lv_at hl 2 rfl) ?_
  refine hp_callR (hp_runV (As := []) (rest := [.ref (ad (10 + x))]) ⟨hx, hb, hml, hown, hg⟩ (c_M_over l D tys de sa hy) (cwV 0 hg (gw_V w341 w342 w343 w15 w344) rfl rfl rfl (by decide +kernel) ⟨Nat.le_of_ble_eq_true rfl, Nat.le_of_ble_eq_true rfl⟩) (s_ok de sa) hK hX h hy rfl rfl rfl hl.1 rfl (Nat.le_of_ble_eq_true rfl) d_G_handleInitiate_26 ⟨by dsimp only; omega, by dsimp only; omega⟩) (fun r1 hp => ?_)
  subst hp
  refine hp_putN (ty := .int) (v := .int q.2.1) (fs' := [.int (nI x), .ref (ad (20 + x)), .ref (ad (30 + x)), .int ((k_fld (k_fld (k_fld S x 1 q.2.2.1) x 2 q.2.2.2.1) x 0 q.2.2.2.2).1 x 0), .int ((k_fld (k_fld (k_fld S x 1 q.2.2.1) x 2 q.2.2.2.1) x 0 q.2.2.2.2).1 x 1), .int ((k_fld (k_fld (k_fld S x 1 q.2.2.1) x 2 q.2.2.2.1) x 0 q.2.2.2.2).1 x 2), .int ((k_fld (k_fld (k_fld S x 1 q.2.2.1) x 2 q.2.2.2.1) x 0 q.2.2.2.2).1 x 3), .int q.2.1, .int ((k_fld (k_fld (k_fld S x 1 q.2.2.1) x 2 q.2.2.2.1) x 0 q.2.2.2.2).1 x 5), .int ((k_fld (k_fld (k_fld S x 1 q.2.2.1) x 2 q.2.2.2.1) x 0 q.2.2.2.2).1 x 6), .int ((k_fld (k_fld (k_fld S x 1 q.2.2.1) x 2 q.2.2.2.1) x 0 q.2.2.2.2).1 x 7), .int ((k_fld (k_fld (k_fld S x 1 q.2.2.1) x 2 q.2.2.2.1) x 0 q.2.2.2.2).1 x 8)]) hx hb hg in_N t_N t_N_ok n_N hown hK h hnd rfl 7 (by decide) (s_N hX n93) (fun _ z => z) rfl (by decide +kernel) rfl rfl (Nat.le_of_ble_eq_true rfl) rfl d_G_handleInitiate_29 (fun H locs f4 hf4 h => ?_)
  have hFs := kFr.w (L := L) hf4 (hG.2.2.2.2.2.2.2.2.2.1 x hx7).1 (by omega) (by omega)
  obtain ⟨hy, hyt⟩ := hFs.msg hy hyt
  have hF := hF.trans hFs
  have hG : kG cI cO cN de ad _ L f4 E (k_fld (k_fld (k_fld (k_fld S x 1 q.2.2.1) x 2 q.2.2.2.1) x 0 q.2.2.2.2) x 4 q.2.1) := hG.wN hx7 (v' := upd ((k_fld (k_fld (k_fld S x 1 q.2.2.1) x 2 q.2.2.2.1) x 0 q.2.2.2.2).1 x) 4 q.2.1) hf4
  have he := hG.1
  have hnd := hG.2.2.2.2.2.1 x hx7
  obtain ⟨gm, hm, hm1⟩ := hG.2.2.2.2.2.2.1 x hx7
  refine lv_aload_n hx hb d_G_handleInitiate_32 rfl (lv_at hl 1 rfl) ?_
  refine hp_callv (hp_runVN (As := []) (rest := []) ⟨hx, hb, hml, hown, hg⟩ (c_N_forgetBest l D tys de sa (v := (k_fld (k_fld (k_fld (k_fld S x 1 q.2.2.1) x 2 q.2.2.2.1) x 0 q.2.2.2.2) x 4 q.2.1).1 x) hnd) ⟨va_cnB 0 hg (gw_code w77) rfl rfl rfl (s_Nw hX n459) (hg _ w2) (by decide +kernel) ⟨Nat.le_of_ble_eq_true rfl, Nat.le_of_ble_eq_true rfl⟩, hg _ w76, hg _ ws1⟩ (s_ok de sa) hK hX h hnd rfl rfl rfl hl.1 rfl (Nat.le_of_ble_eq_true rfl) d_G_handleInitiate_33 ⟨by dsimp only; omega, by dsimp only; omega⟩) h (fun Ln fn0 H locs hp h => ?_)
  obtain ⟨hLn, hfn⟩ := Prod.mk.inj hp
  have hLn := hLn.symm
  subst hLn
  have hFs := kFr.w (L := L) hfn (hG.2.2.2.2.2.2.2.2.2.1 x hx7).1 (by omega) (by omega)
  obtain ⟨hy, hyt⟩ := hFs.msg hy hyt
  have hF := hF.trans hFs
  have hG : kG cI cO cN de ad _ L fn0 E (k_ini0 S x q) := hG.wN hx7 hfn
  have he := hG.1
  have hnd := hG.2.2.2.2.2.1 x hx7
  obtain ⟨gm, hm, hm1⟩ := hG.2.2.2.2.2.2.1 x hx7
  refine lv_iconst (v := 0) hx hb d_G_handleInitiate_36 (by decide) ?_
  refine lv_istore_n (lv' := [(3, .int 0), (0, .ref (ad 0)), (1, .ref (ad (10 + x))), (2, .ref y)]) hx hb d_G_handleInitiate_37 rfl hl (by decide) rfl (fun ls hl => ?_)
  have key : ∀ (d k : Nat) (T : kS) (τk : Nat → Nat) (Lk : List Nat) (fk : Nat → va_E) (H : Heap) (locs : List Loc) (ls : Array Slot) (cx sx : Nat), k + d = E.2.1 → T = k_inis E (k_ini0 S x q) x k → kG cI cO cN de ad τk Lk fk E T → kFr τ L f τk (Lk, fk) → (∀ i, i < 7 → (T.2.2.1 i).length + 40 < 2 ^ 19 + k) → k_cu S ≤ k_cu T ∧ k_su S ≤ k_su T → cx = k_cu T - k_cu S → sx = k_su T - k_su S → lv_has ls 4 [(3, .int (nI k)), (0, .ref (ad 0)), (1, .ref (ad (10 + x))), (2, .ref y)] → hp_W D kc A s.heap Lk fk H locs → W p l e { frames := 10, cells := k_cu (k_init E S x q) - k_cu S, slots := k_su (k_init E S x q) - k_su S, locals := 227 } s m ([.ref (ad 0), .ref (ad (10 + x)), .ref y] : List Value).toArray below meth c H locs cx sx (MQ below (va_Qv (kP cI cO cN de ad τ L f E (k_init E S x q)) (hp_B D kc A) A) ([.ref (ad 0), .ref (ad (10 + x)), .ref y] : List Value).toArray s (k_cu (k_init E S x q) - k_cu S) (k_su (k_init E S x q) - k_su S) A) (F0 m 38 ls []) := by
    intro d
    induction d with
    | zero =>
      intro k T τk Lk fk H locs ls cx sx hkd hT hG hF hlenk hle hcx hsx hl h
      have hlen : ∀ i, i < 7 → (T.2.2.1 i).length + 20 < 2 ^ 19 := fun i hi => by have := hlenk i hi; omega
      have hup := k_init_le (E := E) (S := S) (x := x) (q := q) hkd
      rw [← hT] at hup
      have he := hG.1
      have hnd := hG.2.2.2.2.2.1 x hx7
      obtain ⟨gm, hm, hm1⟩ := hG.2.2.2.2.2.2.1 x hx7
      refine lv_iload_n hx hb d_G_handleInitiate_38 rfl (lv_at hl 0 rfl) ?_
      refine lv_aload_n hx hb d_G_handleInitiate_39 rfl (lv_at hl 1 rfl) ?_
      refine hp_get (v := .int (nI E.2.1)) hx hb hg in_G hown hK h he rfl 5 (by decide) (hg _ w132) (fun _ z => z) rfl d_G_handleInitiate_40 ?_
      refine lv_icmp_ge (tgt := 114) hx hb d_G_handleInitiate_43 (by decide) (fun hc => ?_) (fun hc => ?_)
      · skip
        have hkm : k = E.2.1 := by omega
        rw [hkm] at hT
        refine lv_aload_n hx hb d_G_handleInitiate_114 rfl (lv_at hl 2 rfl) ?_
        refine hp_getN (v := .int (T.1 x 0)) hx hb hg in_N hown hK h hnd rfl 3 (by decide) (s_N hX n85) (fun _ z => z) rfl d_G_handleInitiate_115 ?_
        refine lv_iconst (v := 1) hx hb d_G_handleInitiate_118 (by decide) ?_
        refine lv_icmp_ne (tgt := 127) hx hb d_G_handleInitiate_119 (by decide) (fun hc2 => ?_) (fun hc2 => ?_)
        · skip
          exact hp_vret hx hb hr hlk h (by rw [show k_init E S x q = T from (by unfold k_init; rw [← hT]; exact if_neg hc2)]; exact ⟨_, hG, hF⟩) (by omega) (by omega) d_G_handleInitiate_127
        · skip
          have hS9 : k_init E S x q = k_test E T x := by unfold k_init; rw [← hT]; exact if_pos hc2
          have hcu : k_cu (k_init E S x q) = k_cu (k_test E T x) := by rw [hS9]
          have hsu : k_su (k_init E S x q) = k_su (k_test E T x) := by rw [hS9]
          have htl := k_test_le (E := E) (S := T) (x := x)
          have hw4 : T.1 x 4 = nI j := by rw [hT, k_inis_fld (by decide)]; exact (show (k_ini0 S x q).1 x 4 = q.2.1 from by unfold k_ini0 k_fgt; dsimp only; rw [kup_self, pk_un (by decide), pk_un (by decide)]; exact k_fld_self).trans hqj
          refine lv_aload_n hx hb d_G_handleInitiate_122 rfl (lv_at hl 1 rfl) ?_
          refine lv_aload_n hx hb d_G_handleInitiate_123 rfl (lv_at hl 2 rfl) ?_
          refine hp_callv (hp_runV (As := [.ref (ad (10 + x))]) (rest := []) ⟨hx, hb, hml, hown, hg⟩ (c_G_testLightest l D tys de sa ht ht1 ht2 hG hx7 hW (fun i hi => (Nat.lt_of_le_of_lt (Nat.le_add_right _ 20) (hlen i hi))) (fun _ _ => ⟨j, hj, hw4⟩)) (cwV 1 hg (gw_V w460 w462 ws17 w1 w463) rfl rfl rfl (by decide +kernel) ⟨Nat.le_of_ble_eq_true rfl, Nat.le_of_ble_eq_true rfl⟩) (s_ok de sa) hK hX h (hG.1) rfl rfl rfl hl.1 rfl (Nat.le_of_ble_eq_true rfl) d_G_handleInitiate_124 ⟨by dsimp only; omega, by dsimp only; omega⟩) h (fun Lc1 fc1 H locs hp h => ?_)
          obtain ⟨τc1, hG, hFc⟩ := hp
          dsimp only at hG
          have hFs := hFc
          have hF := hF.trans hFs
          have hlen : ∀ i, i < 7 → ((k_test E T x).2.2.1 i).length + 19 < 2 ^ 19 := fun i hi => by have z1 : ((T).2.2.1 i).length + 20 < 2 ^ 19 := hlen i hi; have z2 := k_test_len (E := E) (S := T) (x := x) i; omega
          have he := hG.1
          have hnd := hG.2.2.2.2.2.1 x hx7
          obtain ⟨gm, hm, hm1⟩ := hG.2.2.2.2.2.2.1 x hx7
          exact hp_vret hx hb hr hlk h (by rw [hS9]; exact ⟨_, hG, hF⟩) (by omega) (by omega) d_G_handleInitiate_127
      · skip
        exact absurd (nI_le (by omega) (by omega)) hc
    | succ d ih =>
      intro k T τk Lk fk H locs ls cx sx hkd hT hG hF hlenk hle hcx hsx hl h
      have hlen : ∀ i, i < 7 → (T.2.2.1 i).length + 20 < 2 ^ 19 := fun i hi => by have := hlenk i hi; omega
      have hup := k_init_le (E := E) (S := S) (x := x) (q := q) hkd
      rw [← hT] at hup
      have he := hG.1
      have hnd := hG.2.2.2.2.2.1 x hx7
      obtain ⟨gm, hm, hm1⟩ := hG.2.2.2.2.2.2.1 x hx7
      refine lv_iload_n hx hb d_G_handleInitiate_38 rfl (lv_at hl 0 rfl) ?_
      refine lv_aload_n hx hb d_G_handleInitiate_39 rfl (lv_at hl 1 rfl) ?_
      refine hp_get (v := .int (nI E.2.1)) hx hb hg in_G hown hK h he rfl 5 (by decide) (hg _ w132) (fun _ z => z) rfl d_G_handleInitiate_40 ?_
      refine lv_icmp_ge (tgt := 114) hx hb d_G_handleInitiate_43 (by decide) (fun hc => ?_) (fun hc => ?_)
      · skip
        exact absurd hc (nI_ge (by omega) (by omega))
      · skip
        refine lv_aload_n hx hb d_G_handleInitiate_46 rfl (lv_at hl 2 rfl) ?_
        refine hp_getN (v := .ref (ad (20 + x))) hx hb hg in_N hown hK h hnd rfl 1 (by decide) (s_N hX n81) (fun _ z => z) rfl d_G_handleInitiate_47 ?_
        refine lv_iload_n hx hb d_G_handleInitiate_50 rfl (lv_at hl 0 rfl) ?_
        refine hp_iald hx hb hK h 0 hm ht rfl (by omega) (by decide) d_G_handleInitiate_51 ?_
        rw [show gm k = T.2.1 x k from hm1 k (by omega)]
        refine lv_iconst (v := 1) hx hb d_G_handleInitiate_52 (by decide) ?_
        refine lv_icmp_ne (tgt := 108) hx hb d_G_handleInitiate_53 (by decide) (fun hc2 => ?_) (fun hc2 => ?_)
        · skip
          refine lv_iinc (k := 0) (v := (nI (k + 1))) (lv' := [(3, .int (nI (k + 1))), (0, .ref (ad 0)), (1, .ref (ad (10 + x))), (2, .ref y)]) hx hb d_G_handleInitiate_108 hl rfl (hp_inc k 1) (by decide) rfl (fun ls hl => ?_)
          refine lv_goto (tgt := 38) hx hb d_G_handleInitiate_111 (by decide) ?_
          exact ih (k + 1) T τk Lk fk H locs ls cx sx (by omega) (k_inis0 hT hc2) hG hF (fun i hi => by have := hlenk i hi; omega) hle hcx hsx (lv_sub hl [0, 1, 2, 3] rfl) h
        · skip
          refine lv_iload_n hx hb d_G_handleInitiate_56 rfl (lv_at hl 0 rfl) ?_
          refine lv_aload_n hx hb d_G_handleInitiate_57 rfl (lv_at hl 2 rfl) ?_
          refine hp_getN (v := .int (T.1 x 4)) hx hb hg in_N hown hK h hnd rfl 7 (by decide) (s_N hX n93) (fun _ z => z) rfl d_G_handleInitiate_58 ?_
          refine lv_icmp_eq (tgt := 108) hx hb d_G_handleInitiate_61 (by decide) (fun hc3 => ?_) (fun hc3 => ?_)
          · skip
            refine lv_iinc (k := 0) (v := (nI (k + 1))) (lv' := [(3, .int (nI (k + 1))), (0, .ref (ad 0)), (1, .ref (ad (10 + x))), (2, .ref y)]) hx hb d_G_handleInitiate_108 hl rfl (hp_inc k 1) (by decide) rfl (fun ls hl => ?_)
            refine lv_goto (tgt := 38) hx hb d_G_handleInitiate_111 (by decide) ?_
            exact ih (k + 1) T τk Lk fk H locs ls cx sx (by omega) (k_inis1 hT hc2 hc3) hG hF (fun i hi => by have := hlenk i hi; omega) hle hcx hsx (lv_sub hl [0, 1, 2, 3] rfl) h
          · skip
            have hk9 := k_inis2 hT hc2 hc3
            have hk : k < E.2.1 := by omega
            have hup2 := k_init_le (E := E) (S := S) (x := x) (q := q) (k := k + 1) (d := d) (by omega)
            rw [← hk9] at hup2
            have hcu := k_ini1_cu (E := E) (S := T) (x := x) (j := k) (by omega)
            refine lv_aload_n hx hb d_G_handleInitiate_64 rfl (lv_at hl 1 rfl) ?_
            refine lv_aload_n hx hb d_G_handleInitiate_65 rfl (lv_at hl 2 rfl) ?_
            refine hp_new (ci := 2) (fs := [.int 0, .int 0, .int 0, .int 0, .int 0]) hx hb hg in_M t_M t_M_ok hown (hg _ w312) (hg _ w313) (hg _ w15) hK h rfl (fun j hj => by rcases (show j = 0 ∨ j = 1 ∨ j = 2 ∨ j = 3 ∨ j = 4 by omega) with rfl | rfl | rfl | rfl | rfl <;> rfl) (by dsimp only; omega) (by dsimp only; omega) d_G_handleInitiate_66 (fun y2 H Ly2 fy2 hq_y2 hL_y2 hf_y2 h => ?_)
            have he := he.push' hL_y2 hf_y2 hq_y2
            have hnd := hnd.push' hL_y2 hf_y2 hq_y2
            have hm := hm.push' hL_y2 hf_y2 hq_y2
            have hy2 := hp_at.new' hL_y2 hf_y2
            refine lv_dup hx hb d_G_handleInitiate_69 rfl ?_
            refine lv_iconst (v := 1) hx hb d_G_handleInitiate_70 (by decide) ?_
            refine lv_iload_n hx hb d_G_handleInitiate_71 rfl (lv_at hl 0 rfl) ?_
            refine lv_aload_n hx hb d_G_handleInitiate_72 rfl (lv_at hl 2 rfl) ?_
            refine hp_getN (v := .int (T.1 x 1)) hx hb hg in_N hown hK h hnd rfl 4 (by decide) (s_N hX n87) (fun _ z => z) rfl d_G_handleInitiate_73 ?_
            refine lv_aload_n hx hb d_G_handleInitiate_76 rfl (lv_at hl 2 rfl) ?_
            refine hp_getN (v := .int (T.1 x 2)) hx hb hg in_N hown hK h hnd rfl 5 (by decide) (s_N hX n89) (fun _ z => z) rfl d_G_handleInitiate_77 ?_
            refine lv_aload_n hx hb d_G_handleInitiate_80 rfl (lv_at hl 2 rfl) ?_
            refine hp_getN (v := .int (T.1 x 0)) hx hb hg in_N hown hK h hnd rfl 3 (by decide) (s_N hX n85) (fun _ z => z) rfl d_G_handleInitiate_81 ?_
            refine hp_callv (hp_runIN (As := [.int 1, .int (nI k), .int (T.1 x 1), .int (T.1 x 2), .int (T.1 x 0)]) (rest := [.ref y2, .ref (ad (10 + x)), .ref (ad 0)]) ⟨hx, hb, hml, hown, hg⟩ (c_M_init l D tys de sa hy2) ⟨va_cnB 5 hg (gw_code w316) rfl rfl rfl (s_Nw hX n314) (hg _ w15) (by decide +kernel) ⟨Nat.le_of_ble_eq_true rfl, Nat.le_of_ble_eq_true rfl⟩, rfl, hg _ w315⟩ (s_ok de sa) hK hX h rfl hl.1 rfl (Nat.le_of_ble_eq_true rfl) d_G_handleInitiate_84 ⟨by dsimp only; omega, by dsimp only; omega⟩) h (fun Lm fz2 H locs hp h => ?_)
            obtain ⟨hLm, hfm⟩ := Prod.mk.inj hp
            have hLm := hLm.symm
            subst hLm
            have hfy2 : fz2 = va_up fk y2 (km (1, (nI k), (T.1 x 1), (T.1 x 2), (T.1 x 0))) := by rw [hfm, hf_y2, bx_uu]
            have hy2 : hp_at Ly2 fz2 y2 (km (1, (nI k), (T.1 x 1), (T.1 x 2), (T.1 x 0))) := hp_at.new' hL_y2 hfy2
            have hFs := hG.fpush (t := 5) hL_y2 hfy2 hq_y2
            have hF := hF.trans hFs
            have hG : kG cI cO cN de ad _ Ly2 fz2 E (k_use T 1 5) := hG.push (t := 5) hL_y2 hfy2 hq_y2
            refine hp_callv (hp_runV (As := [.ref (ad (10 + x)), .ref y2]) (rest := []) ⟨hx, hb, hml, hown, hg⟩ (c_G_send l D tys de sa (j := k) ht ht1 ht2 hG hx7 hy2 (kup_self _ _ _) rfl hk rfl (k_to7 hW hk) (hW.1 _ hk) (Nat.lt_of_le_of_lt (Nat.le_add_right _ 20) (hlen _ (k_to7 hW hk)))) (cwV 2 hg (gw_V w337 w339 ws8 w1 w340) rfl rfl rfl (by decide +kernel) ⟨Nat.le_of_ble_eq_true rfl, Nat.le_of_ble_eq_true rfl⟩) (s_ok de sa) hK hX h (hG.1) rfl rfl rfl hl.1 rfl (Nat.le_of_ble_eq_true rfl) d_G_handleInitiate_87 ⟨by dsimp only; omega, by dsimp only; omega⟩) h (fun Ls2 fs2 H locs hp h => ?_)
            obtain ⟨τs2, hG, hF1⟩ := hp
            dsimp only at hG
            have hFs := hF1
            have hF := hF.trans hFs
            have hlen : ∀ i, i < 7 → ((k_post E T x (1, (nI k), (T.1 x 1), (T.1 x 2), (T.1 x 0))).2.2.1 i).length + 19 < 2 ^ 19 := fun i hi => by have z1 : ((T).2.2.1 i).length + 20 < 2 ^ 19 := hlen i hi; have z2 := k_post_len (E := E) (S := T) (x := x) (q := (1, (nI k), (T.1 x 1), (T.1 x 2), (T.1 x 0))) i; omega
            have he := hG.1
            have hnd := hG.2.2.2.2.2.1 x hx7
            obtain ⟨gm, hm, hm1⟩ := hG.2.2.2.2.2.2.1 x hx7
            refine lv_aload_n hx hb d_G_handleInitiate_90 rfl (lv_at hl 2 rfl) ?_
            refine hp_getN (v := .int ((k_post E T x (1, (nI k), (T.1 x 1), (T.1 x 2), (T.1 x 0))).1 x 0)) hx hb hg in_N hown hK h hnd rfl 3 (by decide) (s_N hX n85) (fun _ z => z) rfl d_G_handleInitiate_91 ?_
            refine lv_iconst (v := 1) hx hb d_G_handleInitiate_94 (by decide) ?_
            refine lv_icmp_ne (tgt := 108) hx hb d_G_handleInitiate_95 (by decide) (fun hc4 => ?_) (fun hc4 => ?_)
            · skip
              refine lv_iinc (k := 0) (v := (nI (k + 1))) (lv' := [(3, .int (nI (k + 1))), (0, .ref (ad 0)), (1, .ref (ad (10 + x))), (2, .ref y)]) hx hb d_G_handleInitiate_108 hl rfl (hp_inc k 1) (by decide) rfl (fun ls hl => ?_)
              refine lv_goto (tgt := 38) hx hb d_G_handleInitiate_111 (by decide) ?_
              have hk8 : k_ini1 E T x k = (k_post E T x (1, (nI k), (T.1 x 1), (T.1 x 2), (T.1 x 0))) := if_neg hc4
              rw [hk8] at hk9 hcu hup2
              exact ih (k + 1) (k_post E T x (1, (nI k), (T.1 x 1), (T.1 x 2), (T.1 x 0))) _ _ _ H locs ls _ _ (by omega) hk9 hG hF (fun i hi => by have z1 := hlenk i hi; have z2 := k_ini1_len (E := E) (S := T) (x := x) (j := k) i; rw [hk8] at z2; omega) (by omega) (by omega) (by omega) (lv_sub hl [0, 1, 2, 3] rfl) h
            · skip
              refine lv_aload_n hx hb d_G_handleInitiate_98 rfl (lv_at hl 2 rfl) ?_
              refine lv_dup hx hb d_G_handleInitiate_99 rfl ?_
              refine hp_getN (v := .int ((k_post E T x (1, (nI k), (T.1 x 1), (T.1 x 2), (T.1 x 0))).1 x 3)) hx hb hg in_N hown hK h hnd rfl 6 (by decide) (s_N hX n91) (fun _ z => z) rfl d_G_handleInitiate_100 ?_
              refine lv_iconst (v := 1) hx hb d_G_handleInitiate_103 (by decide) ?_
              refine lv_iadd hx hb d_G_handleInitiate_104 ?_
              refine hp_putN (ty := .int) (v := .int (((k_post E T x (1, (nI k), (T.1 x 1), (T.1 x 2), (T.1 x 0))).1 x 3) + 1)) (fs' := [.int (nI x), .ref (ad (20 + x)), .ref (ad (30 + x)), .int ((k_post E T x (1, (nI k), (T.1 x 1), (T.1 x 2), (T.1 x 0))).1 x 0), .int ((k_post E T x (1, (nI k), (T.1 x 1), (T.1 x 2), (T.1 x 0))).1 x 1), .int ((k_post E T x (1, (nI k), (T.1 x 1), (T.1 x 2), (T.1 x 0))).1 x 2), .int (((k_post E T x (1, (nI k), (T.1 x 1), (T.1 x 2), (T.1 x 0))).1 x 3) + 1), .int ((k_post E T x (1, (nI k), (T.1 x 1), (T.1 x 2), (T.1 x 0))).1 x 4), .int ((k_post E T x (1, (nI k), (T.1 x 1), (T.1 x 2), (T.1 x 0))).1 x 5), .int ((k_post E T x (1, (nI k), (T.1 x 1), (T.1 x 2), (T.1 x 0))).1 x 6), .int ((k_post E T x (1, (nI k), (T.1 x 1), (T.1 x 2), (T.1 x 0))).1 x 7), .int ((k_post E T x (1, (nI k), (T.1 x 1), (T.1 x 2), (T.1 x 0))).1 x 8)]) hx hb hg in_N t_N t_N_ok n_N hown hK h hnd rfl 6 (by decide) (s_N hX n91) (fun _ z => z) rfl (by decide +kernel) rfl rfl (Nat.le_of_ble_eq_true rfl) rfl d_G_handleInitiate_105 (fun H locs f1 hf1 h => ?_)
              have hFs := kFr.w (L := Ls2) hf1 (hG.2.2.2.2.2.2.2.2.2.1 x hx7).1 (by omega) (by omega)
              have hF := hF.trans hFs
              have hG : kG cI cO cN de ad _ Ls2 f1 E (k_fld (k_post E T x (1, (nI k), (T.1 x 1), (T.1 x 2), (T.1 x 0))) x 3 ((k_post E T x (1, (nI k), (T.1 x 1), (T.1 x 2), (T.1 x 0))).1 x 3 + 1)) := hG.wN hx7 (v' := upd ((k_post E T x (1, (nI k), (T.1 x 1), (T.1 x 2), (T.1 x 0))).1 x) 3 ((k_post E T x (1, (nI k), (T.1 x 1), (T.1 x 2), (T.1 x 0))).1 x 3 + 1)) hf1
              have he := hG.1
              have hnd := hG.2.2.2.2.2.1 x hx7
              obtain ⟨gm, hm, hm1⟩ := hG.2.2.2.2.2.2.1 x hx7
              refine lv_iinc (k := 0) (v := (nI (k + 1))) (lv' := [(3, .int (nI (k + 1))), (0, .ref (ad 0)), (1, .ref (ad (10 + x))), (2, .ref y)]) hx hb d_G_handleInitiate_108 hl rfl (hp_inc k 1) (by decide) rfl (fun ls hl => ?_)
              refine lv_goto (tgt := 38) hx hb d_G_handleInitiate_111 (by decide) ?_
              have hk8 : k_ini1 E T x k = (k_fld (k_post E T x (1, (nI k), (T.1 x 1), (T.1 x 2), (T.1 x 0))) x 3 ((k_post E T x (1, (nI k), (T.1 x 1), (T.1 x 2), (T.1 x 0))).1 x 3 + 1)) := if_pos hc4
              rw [hk8] at hk9 hcu hup2
              exact ih (k + 1) (k_fld (k_post E T x (1, (nI k), (T.1 x 1), (T.1 x 2), (T.1 x 0))) x 3 ((k_post E T x (1, (nI k), (T.1 x 1), (T.1 x 2), (T.1 x 0))).1 x 3 + 1)) _ _ _ H locs ls _ _ (by omega) hk9 hG hF (fun i hi => by have z1 := hlenk i hi; have z2 := k_ini1_len (E := E) (S := T) (x := x) (j := k) i; rw [hk8] at z2; omega) (by omega) (by omega) (by omega) (lv_sub hl [0, 1, 2, 3] rfl) h
  have hl0 : lv_has ls 4 [(3, .int (nI 0)), (0, .ref (ad 0)), (1, .ref (ad (10 + x))), (2, .ref y)] := by rw [nI_0]; exact lv_sub hl [0, 1, 2, 3] rfl
  exact key E.2.1 0 (k_ini0 S x q) _ L fn0 _ _ ls _ _ (by omega) rfl hG hF hlen ⟨Nat.le_refl _, Nat.le_refl _⟩ (Nat.sub_self (k_cu S)).symm (Nat.sub_self (k_su S)).symm hl0 h
