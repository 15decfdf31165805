/-! run, by program (wip/mk33.py). -/
theorem k_rep_le {E : kE} {S : kS} {x : Nat} {q : kM} : k_cu S ≤ k_cu (k_rep E S x q) ∧ k_su S ≤ k_su (k_rep E S x q) := by
  unfold k_rep
  split
  · split
    · exact ⟨Nat.le_add_right _ _, Nat.le_add_right _ _⟩
    · split
      · exact k_move_le
      · split <;> exact ⟨Nat.le_refl _, Nat.le_refl _⟩
  · exact (k_report_le (E := E) (S := k_best (k_fld S x 3 (S.1 x 3 - 1)) x q.2.1 q.2.2.1) (x := x))
theorem k_hand_le {E : kE} {S : kS} {x : Nat} {q : kM} : k_cu S ≤ k_cu (k_hand E S x q) ∧ k_su S ≤ k_su (k_hand E S x q) := by
  have hw := k_wake_le (E := E) (S := S) (x := x)
  unfold k_hand
  split
  · have := k_conn_le (E := E) (S := S) (x := x) (q := q); omega
  · split
    · exact (k_init_le (E := E) (S := S) (x := x) (q := q) (k := 0) (d := E.2.1) (Nat.zero_add _))
    · split
      · have := k_tst_le (E := E) (S := S) (x := x) (q := q); omega
      · split
        · exact (k_report_le (E := E) (S := k_best (k_fld S x 7 (-1)) x q.2.1 (E.2.2.2.2 (kx q.2.1))) (x := x))
        · split
          · exact (k_test_le (E := E) (S := k_rej S x (kx q.2.1)) (x := x))
          · split
            · exact k_rep_le
            · exact k_move_le
theorem k_first_le {E : kE} {S : kS} {x : Nat} : k_cu S ≤ k_cu (k_first E S x) ∧ k_su S ≤ k_su (k_first E S x) := by
  unfold k_first
  split
  · exact ⟨Nat.le_refl _, Nat.le_refl _⟩
  · rename_i q l _
    exact (k_hand_le (E := E) (S := k_pop S x l) (x := x) (q := q))
def k_nx (E : kE) (a : Nat) : Nat := if a + 1 < E.1 then a + 1 else 0
def k_nh (S : kS) (a h : Nat) : Nat := if k_fk S a = -1 then h else h + 1
/-- at most d turns, from node a on; h have been handled -/
def k_run (E : kE) (most : Nat) : Nat → kS → Nat → Nat → kS × Nat
  | 0, S, _, h => (S, h)
  | d + 1, S, a, h => if h < most ∧ 0 < k_left S E.1 then k_run E most d (k_first E S a) (k_nx E a) (k_nh S a h) else (S, h)
theorem k_run_le {E : kE} {most : Nat} : ∀ (d : Nat) (S : kS) (a h : Nat), k_cu S ≤ k_cu (k_run E most d S a h).1 ∧ k_su S ≤ k_su (k_run E most d S a h).1
  | 0, S, _, _ => ⟨Nat.le_refl _, Nat.le_refl _⟩
  | d + 1, S, a, h => by
    have h1 := k_run_le (E := E) (most := most) d (k_first E S a) (k_nx E a) (k_nh S a h)
    have h2 := k_first_le (E := E) (S := S) (x := a)
    show _ ≤ k_cu (if _ then _ else _ : kS × Nat).1 ∧ _ ≤ k_su (if _ then _ else _ : kS × Nat).1
    split
    · omega
    · exact ⟨Nat.le_refl _, Nat.le_refl _⟩
theorem k_left_le {S : kS} (hl : ∀ i, i < 7 → (S.2.2.1 i).length < 2 ^ 19) : ∀ k, k ≤ 7 → k_left S k ≤ k * 2 ^ 19
  | 0, _ => Nat.le_refl _
  | k + 1, hk => by
    have h1 := k_left_le hl k (by omega)
    have h2 := hl k (by omega)
    show k_left S k + (S.2.2.1 k).length ≤ _
    omega
set_option maxHeartbeats 4000000 in
set_option maxRecDepth 100000 in
theorem c_G_run (l : Launch) (D : va_G) (tys : List (ClassId × FieldType)) (de : Nat) (sa : Nat → Nat) {L : List Nat} {f : Nat → va_E} {v most : Nat} {Iv : kS → Prop} {ad τ : Nat → Nat} {E : kE} {S : kS} {cI cO cN : ClassId} (ht : tys[0]? = some (cI, .int)) (ht1 : tys[1]? = some (cO, .object "java/lang/Object")) (ht2 : tys[2]? = some (cN, .object "MergingFragments$Node")) (hG : kG cI cO cN de ad τ L f E S) (hv : v < E.1) (hmost : most ≤ 999) (hW : kWE E) (hI : Iv S) (hIok : ∀ T a, Iv T → a < E.1 → (∀ i, i < 7 → (T.2.2.1 i).length + 41 < 2 ^ 19) ∧ ∀ q l, T.2.2.1 a = q :: l → kOK E T a q) (hIs : ∀ T a, Iv T → a < E.1 → Iv (k_first E T a)) : hp_Mi l y_G_run (gw_ws y_G_run b_G_run 7 (some .int)) { frames := 12, cells := k_cu (k_run E most (most * E.1) S v 0).1 - k_cu S, slots := k_su (k_run E most (most * E.1) S v 0).1 - k_su S, locals := 272 } D kc tys (s_X de sa) [.ref (ad 0), .int (nI v), .int (nI most)] L f (fun r u => r = nI (k_run E most (most * E.1) S v 0).2 ∧ kP cI cO cN de ad τ L f E (k_run E most (most * E.1) S v 0).1 u) (k_cu (k_run E most (most * E.1) S v 0).1 - k_cu S) (k_su (k_run E most (most * E.1) S v 0).1 - k_su S) := by
  refine hp_ofW (Qc := fun A => va_Qi (fun r u => r = nI (k_run E most (most * E.1) S v 0).2 ∧ kP cI cO cN de ad τ L f E (k_run E most (most * E.1) S v 0).1 u) (hp_B D kc A) A) (fr := fun A => A) (ret := (some .int)) (by decide) rfl (Nat.le_of_ble_eq_true rfl) ?_
  intro p e s m below meth c ls A hx hb hml hr hts hown hlk hnm hl hK hX h
  have hg : ∀ w ∈ gw, w.before _ s = true := fun w hw => hts w (List.mem_cons_of_mem _ hw)
  have hown : s.vm.findClass "MergingFragments" = some m.cls := hown
  have hnm : meth.name = "run" := hnm
  have hl : lv_has ls 7 [(0, .ref (ad 0)), (1, .int (nI v)), (2, .int (nI most))] := hl
  have hn7 : E.1 ≤ 7 := hG.2.2.2.2.2.2.2.2.2.2.1
  have hF : kFr τ L f τ (L, f) := kFr.rf
  have hmn : most * E.1 ≤ 999 * 7 := Nat.mul_le_mul hmost hn7
  have he := hG.1
  obtain ⟨gn, hn, hn1⟩ := hG.2.1
  refine lv_aload_n hx hb d_G_run_0 rfl (lv_at hl 0 rfl) ?_
  refine lv_iload_n hx hb d_G_run_1 rfl (lv_at hl 1 rfl) ?_
  refine hp_callU (hp_runV (As := [.int (nI v)]) (rest := []) ⟨hx, hb, hml, hown, hg⟩ (c_G_requireNode l D tys de sa ht ht1 ht2 hG hv) (cwV 1 hg (gw_V w251 w253 ws3 w1 w254) rfl rfl rfl (by decide +kernel) ⟨Nat.le_of_ble_eq_true rfl, Nat.le_of_ble_eq_true rfl⟩) (s_ok de sa) hK hX h he rfl rfl rfl hl.1 rfl (Nat.le_of_ble_eq_true rfl) d_G_run_2 ⟨Nat.zero_le _, Nat.zero_le _⟩) (fun hp => ?_)
  refine lv_iload_n hx hb d_G_run_5 rfl (lv_at hl 2 rfl) ?_
  refine lv_if_lt (tgt := 16) hx hb d_G_run_6 (by decide) (fun hc => ?_) (fun hc => ?_)
  · skip
    exact absurd hc (nI_pos (by omega))
  · skip
    refine lv_iload_n hx hb d_G_run_9 rfl (lv_at hl 2 rfl) ?_
    refine lv_sipush (v := 999) hx hb d_G_run_10 (by decide) ?_
    refine lv_icmp_le (tgt := 26) hx hb d_G_run_13 (by decide) (fun hc2 => ?_) (fun hc2 => ?_)
    · skip
      refine lv_iconst (v := 0) hx hb d_G_run_26 (by decide) ?_
      refine lv_istore_n (lv' := [(3, .int 0), (0, .ref (ad 0)), (1, .int (nI v)), (2, .int (nI most))]) hx hb d_G_run_27 rfl hl (by decide) rfl (fun ls hl => ?_)
      refine lv_iload_n hx hb d_G_run_28 rfl (lv_at hl 2 rfl) ?_
      refine lv_istore (lv' := [(4, .int (nI v)), (3, .int 0), (0, .ref (ad 0)), (1, .int (nI v)), (2, .int (nI most))]) hx hb d_G_run_29 hl (by decide) rfl (fun ls hl => ?_)
      refine lv_iload_n hx hb d_G_run_31 rfl (lv_at hl 4 rfl) ?_
      refine lv_aload_n hx hb d_G_run_32 rfl (lv_at hl 2 rfl) ?_
      refine hp_get (v := .int (nI E.1)) hx hb hg in_G hown hK h he rfl 4 (by decide) (hg _ w131) (fun _ z => z) rfl d_G_run_33 ?_
      refine lv_imul hx hb d_G_run_36 ?_
      rw [pk_mul]
      refine lv_istore (lv' := [(5, .int (nI (most * E.1))), (4, .int (nI v)), (3, .int 0), (0, .ref (ad 0)), (1, .int (nI v)), (2, .int (nI most))]) hx hb d_G_run_37 hl (by decide) rfl (fun ls hl => ?_)
      refine lv_iconst (v := 0) hx hb d_G_run_39 (by decide) ?_
      refine lv_istore (lv' := [(6, .int 0), (5, .int (nI (most * E.1))), (4, .int (nI v)), (3, .int 0), (0, .ref (ad 0)), (1, .int (nI v)), (2, .int (nI most))]) hx hb d_G_run_40 hl (by decide) rfl (fun ls hl => ?_)
      have key : ∀ (d t : Nat) (T : kS) (a hh : Nat) (τk : Nat → Nat) (Lk : List Nat) (fk : Nat → va_E) (H : Heap) (locs : List Loc) (ls : Array Slot) (cx sx : Nat), t + d = most * E.1 → k_run E most d T a hh = (k_run E most (most * E.1) S v 0) → a < E.1 → hh ≤ t → Iv T → kG cI cO cN de ad τk Lk fk E T → kFr τ L f τk (Lk, fk) → k_cu S ≤ k_cu T ∧ k_su S ≤ k_su T → cx = k_cu T - k_cu S → sx = k_su T - k_su S → lv_has ls 7 [(6, .int (nI t)), (5, .int (nI (most * E.1))), (4, .int (nI a)), (3, .int (nI hh)), (0, .ref (ad 0)), (1, .int (nI v)), (2, .int (nI most))] → hp_W D kc A s.heap Lk fk H locs → W p l e { frames := 12, cells := k_cu (k_run E most (most * E.1) S v 0).1 - k_cu S, slots := k_su (k_run E most (most * E.1) S v 0).1 - k_su S, locals := 272 } s m ([.ref (ad 0), .int (nI v), .int (nI most)] : List Value).toArray below meth c H locs cx sx (MQ below (va_Qi (fun r u => r = nI (k_run E most (most * E.1) S v 0).2 ∧ kP cI cO cN de ad τ L f E (k_run E most (most * E.1) S v 0).1 u) (hp_B D kc A) A) ([.ref (ad 0), .int (nI v), .int (nI most)] : List Value).toArray s (k_cu (k_run E most (most * E.1) S v 0).1 - k_cu S) (k_su (k_run E most (most * E.1) S v 0).1 - k_su S) A) (F0 m 42 ls []) := by
        intro d
        induction d with
        | zero =>
          intro t T a hh τk Lk fk H locs ls cx sx htd hR ha hht hIT hG hF hle hcx hsx hl h
          have hup := k_run_le (E := E) (most := most) 0 T a hh
          rw [hR] at hup
          have he := hG.1
          obtain ⟨gn, hn, hn1⟩ := hG.2.1
          refine lv_iload hx hb d_G_run_42 (lv_at hl 0 rfl) ?_
          refine lv_iload hx hb d_G_run_44 (lv_at hl 1 rfl) ?_
          refine lv_icmp_ge (tgt := 106) hx hb d_G_run_46 (by decide) (fun hc5 => ?_) (fun hc5 => ?_)
          · skip
            refine lv_iload_n hx hb d_G_run_106 rfl (lv_at hl 3 rfl) ?_
            exact hp_iret hx hb hr hlk h (by rw [← hR, show k_run E most 0 T a hh = (T, hh) from rfl]; exact ⟨rfl, _, hG, hF⟩) (by omega) (by omega) d_G_run_107
          · skip
            exact absurd (nI_le (by omega) (by omega)) hc5
        | succ d ih =>
          intro t T a hh τk Lk fk H locs ls cx sx htd hR ha hht hIT hG hF hle hcx hsx hl h
          have hup := k_run_le (E := E) (most := most) (d + 1) T a hh
          rw [hR] at hup
          have he := hG.1
          obtain ⟨gn, hn, hn1⟩ := hG.2.1
          refine lv_iload hx hb d_G_run_42 (lv_at hl 0 rfl) ?_
          refine lv_iload hx hb d_G_run_44 (lv_at hl 1 rfl) ?_
          refine lv_icmp_ge (tgt := 106) hx hb d_G_run_46 (by decide) (fun hc5 => ?_) (fun hc5 => ?_)
          · skip
            exact absurd hc5 (nI_ge (by omega) (by omega))
          · skip
            refine lv_iload_n hx hb d_G_run_49 rfl (lv_at hl 3 rfl) ?_
            refine lv_iload_n hx hb d_G_run_50 rfl (lv_at hl 6 rfl) ?_
            refine lv_icmp_ge (tgt := 106) hx hb d_G_run_51 (by decide) (fun hc6 => ?_) (fun hc6 => ?_)
            · skip
              refine lv_iload_n hx hb d_G_run_106 rfl (lv_at hl 3 rfl) ?_
              exact hp_iret hx hb hr hlk h (by rw [← hR, show k_run E most (d + 1) T a hh = (T, hh) from if_neg (fun z => hc6 |> fun w => absurd ((nI_leI (by omega) (by omega)).mp w) (by omega))]; exact ⟨rfl, _, hG, hF⟩) (by omega) (by omega) d_G_run_107
            · skip
              have hhm : hh < most := Nat.not_le.mp (fun z => hc6 (nI_le z (by omega)))
              obtain ⟨hl41, hok⟩ := hIok T a hIT ha
              have hll := k_left_le (S := T) (fun i hi => by have := hl41 i hi; omega) E.1 hn7
              refine lv_aload_n hx hb d_G_run_54 rfl (lv_at hl 4 rfl) ?_
              refine hp_callR (hp_runV (As := []) (rest := []) ⟨hx, hb, hml, hown, hg⟩ (c_G_left l D tys de sa ht ht1 ht2 hG) (cwV 0 hg (gw_V w504 w154 w155 w1 w156) rfl rfl rfl (by decide +kernel) ⟨Nat.le_of_ble_eq_true rfl, Nat.le_of_ble_eq_true rfl⟩) (s_ok de sa) hK hX h he rfl rfl rfl hl.1 rfl (Nat.le_of_ble_eq_true rfl) d_G_run_55 ⟨by dsimp only; omega, by dsimp only; omega⟩) (fun r1 hp => ?_)
              subst hp
              refine lv_if_le (tgt := 106) hx hb d_G_run_58 (by decide) (fun hc7 => ?_) (fun hc7 => ?_)
              · skip
                refine lv_iload_n hx hb d_G_run_106 rfl (lv_at hl 3 rfl) ?_
                exact hp_iret hx hb hr hlk h (by rw [← hR, show k_run E most (d + 1) T a hh = (T, hh) from if_neg (fun z => absurd hc7 (nI_nle z.2 (by omega)))]; exact ⟨rfl, _, hG, hF⟩) (by omega) (by omega) d_G_run_107
              · skip
                have hl0 : 0 < k_left T E.1 := by rcases Nat.eq_zero_or_pos (k_left T E.1) with z | z; exact absurd (show nI (k_left T E.1) ≤ 0 by rw [z]; decide) hc7; exact z
                have hR2 : k_run E most d (k_first E T a) (k_nx E a) (k_nh T a hh) = (k_run E most (most * E.1) S v 0) := by rw [← hR]; exact (if_pos ⟨hhm, hl0⟩).symm
                have hup2 := k_run_le (E := E) (most := most) d (k_first E T a) (k_nx E a) (k_nh T a hh)
                rw [hR2] at hup2
                have hf2 := k_first_le (E := E) (S := T) (x := a)
                refine lv_aload_n hx hb d_G_run_61 rfl (lv_at hl 4 rfl) ?_
                refine lv_aload_n hx hb d_G_run_62 rfl (lv_at hl 4 rfl) ?_
                refine hp_get (v := .ref (ad 1)) hx hb hg in_G hown hK h he rfl 0 (by decide) (hg _ w127) (fun _ z => z) rfl d_G_run_63 ?_
                refine lv_iload hx hb d_G_run_66 (lv_at hl 2 rfl) ?_
                refine hp_aald (j := a) hx hb hK h 2 hn ht2 rfl (by omega) (by decide) (hn1 a (by omega)) d_G_run_68 ?_
                refine hp_calli (hp_runV (As := [.ref (ad (10 + a))]) (rest := []) ⟨hx, hb, hml, hown, hg⟩ (c_G_handleFirst l D tys de sa ht ht1 ht2 hG (by omega) hW hl41 hok) (cwV 1 hg (gw_V w407 w409 ws12 w1 w410) rfl rfl rfl (by decide +kernel) ⟨Nat.le_of_ble_eq_true rfl, Nat.le_of_ble_eq_true rfl⟩) (s_ok de sa) hK hX h he rfl rfl rfl hl.1 rfl (Nat.le_of_ble_eq_true rfl) d_G_run_69 ⟨by dsimp only; omega, by dsimp only; omega⟩) h (fun r1 Ln fn H locs hp h => ?_)
                obtain ⟨hr9, τn, hG, hFn⟩ := hp
                have hF := hF.trans hFn
                dsimp only at hG
                subst hr9
                have he := hG.1
                obtain ⟨gn, hn, hn1⟩ := hG.2.1
                refine lv_iconst (v := (-1)) hx hb d_G_run_72 (by decide) ?_
                refine lv_icmp_eq (tgt := 79) hx hb d_G_run_73 (by decide) (fun hc8 => ?_) (fun hc8 => ?_)
                · skip
                  have hnh : k_nh T a hh = hh := if_pos hc8
                  refine lv_iload hx hb d_G_run_79 (lv_at hl 2 rfl) ?_
                  refine lv_iconst (v := 1) hx hb d_G_run_81 (by decide) ?_
                  refine lv_iadd hx hb d_G_run_82 ?_
                  rw [nI_1]
                  refine lv_aload_n hx hb d_G_run_83 rfl (lv_at hl 4 rfl) ?_
                  refine hp_get (v := .int (nI E.1)) hx hb hg in_G hown hK h he rfl 4 (by decide) (hg _ w131) (fun _ z => z) rfl d_G_run_84 ?_
                  refine lv_icmp_ge (tgt := 97) hx hb d_G_run_87 (by decide) (fun hc9 => ?_) (fun hc9 => ?_)
                  · skip
                    refine lv_iconst (v := 0) hx hb d_G_run_97 (by decide) ?_
                    refine lv_istore (lv' := [(4, .int 0), (6, .int (nI t)), (5, .int (nI (most * E.1))), (3, .int (nI hh)), (0, .ref (ad 0)), (1, .int (nI v)), (2, .int (nI most))]) hx hb d_G_run_98 hl (by decide) rfl (fun ls hl => ?_)
                    refine lv_iinc (k := 1) (v := (nI (t + 1))) (lv' := [(6, .int (nI (t + 1))), (4, .int 0), (5, .int (nI (most * E.1))), (3, .int (nI hh)), (0, .ref (ad 0)), (1, .int (nI v)), (2, .int (nI most))]) hx hb d_G_run_100 hl rfl (hp_inc t 1) (by decide) rfl (fun ls hl => ?_)
                    refine lv_goto (tgt := 42) hx hb d_G_run_103 (by decide) ?_
                    have hnx : k_nx E a = 0 := if_neg (fun z => hc9 |> fun w => absurd ((nI_leI (by omega) (by omega)).mp w) (by omega))
                    exact ih (t + 1) (k_first E T a) 0 hh _ _ _ H locs ls _ _ (by omega) (by rw [← hR2, hnx, hnh]) (by omega) (by omega) (hIs T a hIT ha) hG hF (by omega) (by omega) (by omega) (lv_sub hl [0, 2, 1, 3, 4, 5, 6] rfl) h
                  · skip
                    refine lv_iload hx hb d_G_run_90 (lv_at hl 2 rfl) ?_
                    refine lv_iconst (v := 1) hx hb d_G_run_92 (by decide) ?_
                    refine lv_iadd hx hb d_G_run_93 ?_
                    rw [nI_1]
                    refine lv_goto (tgt := 98) hx hb d_G_run_94 (by decide) ?_
                    refine lv_istore (lv' := [(4, .int (nI (a + 1))), (6, .int (nI t)), (5, .int (nI (most * E.1))), (3, .int (nI hh)), (0, .ref (ad 0)), (1, .int (nI v)), (2, .int (nI most))]) hx hb d_G_run_98 hl (by decide) rfl (fun ls hl => ?_)
                    refine lv_iinc (k := 1) (v := (nI (t + 1))) (lv' := [(6, .int (nI (t + 1))), (4, .int (nI (a + 1))), (5, .int (nI (most * E.1))), (3, .int (nI hh)), (0, .ref (ad 0)), (1, .int (nI v)), (2, .int (nI most))]) hx hb d_G_run_100 hl rfl (hp_inc t 1) (by decide) rfl (fun ls hl => ?_)
                    refine lv_goto (tgt := 42) hx hb d_G_run_103 (by decide) ?_
                    have han : a + 1 < E.1 := Nat.not_le.mp (fun z => hc9 (nI_le z (by omega)))
                    have hnx : k_nx E a = a + 1 := if_pos han
                    exact ih (t + 1) (k_first E T a) (a + 1) hh _ _ _ H locs ls _ _ (by omega) (by rw [← hR2, hnx, hnh]) (by omega) (by omega) (hIs T a hIT ha) hG hF (by omega) (by omega) (by omega) (lv_sub hl [0, 2, 1, 3, 4, 5, 6] rfl) h
                · skip
                  have hnh : k_nh T a hh = hh + 1 := if_neg hc8
                  refine lv_iinc (k := 3) (v := (nI (hh + 1))) (lv' := [(3, .int (nI (hh + 1))), (6, .int (nI t)), (5, .int (nI (most * E.1))), (4, .int (nI a)), (0, .ref (ad 0)), (1, .int (nI v)), (2, .int (nI most))]) hx hb d_G_run_76 hl rfl (hp_inc hh 1) (by decide) rfl (fun ls hl => ?_)
                  refine lv_iload hx hb d_G_run_79 (lv_at hl 3 rfl) ?_
                  refine lv_iconst (v := 1) hx hb d_G_run_81 (by decide) ?_
                  refine lv_iadd hx hb d_G_run_82 ?_
                  rw [nI_1]
                  refine lv_aload_n hx hb d_G_run_83 rfl (lv_at hl 4 rfl) ?_
                  refine hp_get (v := .int (nI E.1)) hx hb hg in_G hown hK h he rfl 4 (by decide) (hg _ w131) (fun _ z => z) rfl d_G_run_84 ?_
                  refine lv_icmp_ge (tgt := 97) hx hb d_G_run_87 (by decide) (fun hc9 => ?_) (fun hc9 => ?_)
                  · skip
                    refine lv_iconst (v := 0) hx hb d_G_run_97 (by decide) ?_
                    refine lv_istore (lv' := [(4, .int 0), (3, .int (nI (hh + 1))), (6, .int (nI t)), (5, .int (nI (most * E.1))), (0, .ref (ad 0)), (1, .int (nI v)), (2, .int (nI most))]) hx hb d_G_run_98 hl (by decide) rfl (fun ls hl => ?_)
                    refine lv_iinc (k := 2) (v := (nI (t + 1))) (lv' := [(6, .int (nI (t + 1))), (4, .int 0), (3, .int (nI (hh + 1))), (5, .int (nI (most * E.1))), (0, .ref (ad 0)), (1, .int (nI v)), (2, .int (nI most))]) hx hb d_G_run_100 hl rfl (hp_inc t 1) (by decide) rfl (fun ls hl => ?_)
                    refine lv_goto (tgt := 42) hx hb d_G_run_103 (by decide) ?_
                    have hnx : k_nx E a = 0 := if_neg (fun z => hc9 |> fun w => absurd ((nI_leI (by omega) (by omega)).mp w) (by omega))
                    exact ih (t + 1) (k_first E T a) 0 (hh + 1) _ _ _ H locs ls _ _ (by omega) (by rw [← hR2, hnx, hnh]) (by omega) (by omega) (hIs T a hIT ha) hG hF (by omega) (by omega) (by omega) (lv_sub hl [0, 3, 1, 2, 4, 5, 6] rfl) h
                  · skip
                    refine lv_iload hx hb d_G_run_90 (lv_at hl 3 rfl) ?_
                    refine lv_iconst (v := 1) hx hb d_G_run_92 (by decide) ?_
                    refine lv_iadd hx hb d_G_run_93 ?_
                    rw [nI_1]
                    refine lv_goto (tgt := 98) hx hb d_G_run_94 (by decide) ?_
                    refine lv_istore (lv' := [(4, .int (nI (a + 1))), (3, .int (nI (hh + 1))), (6, .int (nI t)), (5, .int (nI (most * E.1))), (0, .ref (ad 0)), (1, .int (nI v)), (2, .int (nI most))]) hx hb d_G_run_98 hl (by decide) rfl (fun ls hl => ?_)
                    refine lv_iinc (k := 2) (v := (nI (t + 1))) (lv' := [(6, .int (nI (t + 1))), (4, .int (nI (a + 1))), (3, .int (nI (hh + 1))), (5, .int (nI (most * E.1))), (0, .ref (ad 0)), (1, .int (nI v)), (2, .int (nI most))]) hx hb d_G_run_100 hl rfl (hp_inc t 1) (by decide) rfl (fun ls hl => ?_)
                    refine lv_goto (tgt := 42) hx hb d_G_run_103 (by decide) ?_
                    have han : a + 1 < E.1 := Nat.not_le.mp (fun z => hc9 (nI_le z (by omega)))
                    have hnx : k_nx E a = a + 1 := if_pos han
                    exact ih (t + 1) (k_first E T a) (a + 1) (hh + 1) _ _ _ H locs ls _ _ (by omega) (by rw [← hR2, hnx, hnh]) (by omega) (by omega) (hIs T a hIT ha) hG hF (by omega) (by omega) (by omega) (lv_sub hl [0, 3, 1, 2, 4, 5, 6] rfl) h
      have hl0 : lv_has ls 7 [(6, .int (nI 0)), (5, .int (nI (most * E.1))), (4, .int (nI v)), (3, .int (nI 0)), (0, .ref (ad 0)), (1, .int (nI v)), (2, .int (nI most))] := lv_sub hl [0, 1, 2, 3, 4, 5, 6] rfl
      exact key (most * E.1) 0 S v 0 _ _ _ _ _ ls _ _ (by omega) rfl hv (Nat.le_refl _) hI hG hF ⟨Nat.le_refl _, Nat.le_refl _⟩ (Nat.sub_self (k_cu S)).symm (Nat.sub_self (k_su S)).symm hl0 h
    · skip
      exact absurd (show nI most ≤ (999 : Int32) from nI_le (b := 999) hmost (by decide)) hc2
