/-! The class's readers: left, isTaken, isSomeNodeAwake, sent, requireNode (of a node), weight, by program (wip/mk32.py). -/
def k_left (S : kS) : Nat → Nat
  | 0 => 0
  | k + 1 => k_left S k + (S.2.2.1 k).length
def k_wt (E : kE) (S : kS) : Nat → Int32
  | 0 => 0
  | k + 1 => if S.2.1 (E.2.2.1 k) k = 1 ∧ S.2.1 (E.2.2.2.1 k) k = 1 then k_wt E S k + E.2.2.2.2 k else k_wt E S k
set_option maxHeartbeats 4000000 in
set_option maxRecDepth 100000 in
theorem c_G_left (l : Launch) (D : va_G) (tys : List (ClassId × FieldType)) (de : Nat) (sa : Nat → Nat) {L : List Nat} {f : Nat → va_E} {ad τ : Nat → Nat} {E : kE} {S : kS} {cI cO cN : ClassId} (ht : tys[0]? = some (cI, .int)) (ht1 : tys[1]? = some (cO, .object "java/lang/Object")) (ht2 : tys[2]? = some (cN, .object "MergingFragments$Node")) (hG : kG cI cO cN de ad τ L f E S)  : hp_Ri l y_G_left (gw_ws y_G_left b_G_left 3 (some .int)) { frames := 1, cells := 0, slots := 0, locals := 20 } D kc tys (s_X de sa) [.ref (ad 0)] L f (fun r => r = nI (k_left S E.1)) := by
  refine hp_ofW (Qc := fun A => hp_QR (fun r => r = nI (k_left S E.1))) (fr := fun A => (fun _ => False)) (ret := (some .int)) (by decide) rfl (Nat.le_of_ble_eq_true rfl) ?_
  intro p e s m below meth c ls A hx hb hml hr hts hown hlk hnm hl hK hX h
  have hg : ∀ w ∈ gw, w.before _ s = true := fun w hw => hts w (List.mem_cons_of_mem _ hw)
  have hown : s.vm.findClass "MergingFragments" = some m.cls := hown
  have hnm : meth.name = "left" := hnm
  have hl : lv_has ls 3 [(0, .ref (ad 0))] := hl
  have hn7 : E.1 ≤ 7 := hG.2.2.2.2.2.2.2.2.2.2.1
  have hm12 : E.2.1 ≤ 12 := hG.2.2.2.2.2.2.2.2.2.2.2.1
  have he := hG.1
  obtain ⟨gn, hn, hn1⟩ := hG.2.1
  refine lv_iconst (v := 0) hx hb d_G_left_0 (by decide) ?_
  refine lv_istore_n (lv' := [(1, .int 0), (0, .ref (ad 0))]) hx hb d_G_left_1 rfl hl (by decide) rfl (fun ls hl => ?_)
  refine lv_iconst (v := 0) hx hb d_G_left_2 (by decide) ?_
  refine lv_istore_n (lv' := [(2, .int 0), (1, .int 0), (0, .ref (ad 0))]) hx hb d_G_left_3 rfl hl (by decide) rfl (fun ls hl => ?_)
  have key : ∀ (d k : Nat)  (ls : Array Slot), k + d = E.1 → lv_has ls 3 [(2, .int (nI k)), (1, .int (nI (k_left S k))), (0, .ref (ad 0))] → W p l e { frames := 1, cells := 0, slots := 0, locals := 20 } s m ([.ref (ad 0)] : List Value).toArray below meth c s.heap [] 0 0 (MQ below (hp_QR (fun r => r = nI (k_left S E.1))) ([.ref (ad 0)] : List Value).toArray s 0 0 (fun _ => False)) (F0 m 4 ls []) := by
    intro d
    induction d with
    | zero =>
      intro k  ls hkd  hl
      refine lv_iload_n hx hb d_G_left_4 rfl (lv_at hl 0 rfl) ?_
      refine lv_aload_n hx hb d_G_left_5 rfl (lv_at hl 2 rfl) ?_
      refine hp_get (v := .int (nI E.1)) hx hb hg in_G hown hK h he rfl 4 (by decide) (hg _ w131) (fun _ z => z) rfl d_G_left_6 ?_
      refine lv_icmp_ge (tgt := 33) hx hb d_G_left_9 (by decide) (fun hc => ?_) (fun hc => ?_)
      · skip
        have hkm : k = E.1 := by omega
        refine lv_iload_n hx hb d_G_left_33 rfl (lv_at hl 1 rfl) ?_
        exact hp_riret hx hb hr hlk (by rw [hkm]) d_G_left_34
      · skip
        exact absurd (nI_le (by omega) (by omega)) hc
    | succ d ih =>
      intro k  ls hkd  hl
      refine lv_iload_n hx hb d_G_left_4 rfl (lv_at hl 0 rfl) ?_
      refine lv_aload_n hx hb d_G_left_5 rfl (lv_at hl 2 rfl) ?_
      refine hp_get (v := .int (nI E.1)) hx hb hg in_G hown hK h he rfl 4 (by decide) (hg _ w131) (fun _ z => z) rfl d_G_left_6 ?_
      refine lv_icmp_ge (tgt := 33) hx hb d_G_left_9 (by decide) (fun hc => ?_) (fun hc => ?_)
      · skip
        exact absurd hc (nI_ge (by omega) (by omega))
      · skip
        have hk : k < E.1 := by omega
        have hnk := hG.2.2.2.2.2.1 k (by omega)
        obtain ⟨ea, mo, hqa, hQr⟩ := hG.2.2.2.2.2.2.2.1 k (by omega)
        refine lv_iload_n hx hb d_G_left_12 rfl (lv_at hl 1 rfl) ?_
        refine lv_aload_n hx hb d_G_left_13 rfl (lv_at hl 2 rfl) ?_
        refine hp_get (v := .ref (ad 1)) hx hb hg in_G hown hK h he rfl 0 (by decide) (hg _ w127) (fun _ z => z) rfl d_G_left_14 ?_
        refine lv_iload_n hx hb d_G_left_17 rfl (lv_at hl 0 rfl) ?_
        refine hp_aald (j := k) hx hb hK h 2 hn ht2 rfl (by omega) (by decide) (hn1 k (by omega)) d_G_left_18 ?_
        refine hp_getN (v := .ref (ad (30 + k))) hx hb hg in_N hown hK h hnk rfl 2 (by decide) (s_N hX n83) (fun _ z => z) rfl d_G_left_19 ?_
        refine hp_callR (hp_runV (As := []) (rest := [.int (nI (k_left S k))]) ⟨hx, hb, hml, hown, hg⟩ (c_A_size l D tys de sa hqa) (cwV 0 hg (gw_V w157 w158 w159 w5 w160) rfl rfl rfl (by decide +kernel) ⟨Nat.le_of_ble_eq_true rfl, Nat.le_of_ble_eq_true rfl⟩) (s_ok de sa) hK hX h hqa rfl rfl rfl hl.1 rfl (Nat.le_of_ble_eq_true rfl) d_G_left_22 ⟨Nat.le_of_ble_eq_true rfl, Nat.le_of_ble_eq_true rfl⟩) (fun r1 hp => ?_)
        subst hp
        refine lv_iadd hx hb d_G_left_25 ?_
        rw [nI_add]
        refine lv_istore_n (lv' := [(1, .int (nI (k_left S k + (S.2.2.1 k).length))), (2, .int (nI k)), (0, .ref (ad 0))]) hx hb d_G_left_26 rfl hl (by decide) rfl (fun ls hl => ?_)
        refine lv_iinc (k := 1) (v := (nI (k + 1))) (lv' := [(2, .int (nI (k + 1))), (1, .int (nI (k_left S k + (S.2.2.1 k).length))), (0, .ref (ad 0))]) hx hb d_G_left_27 hl rfl (hp_inc k 1) (by decide) rfl (fun ls hl => ?_)
        refine lv_goto (tgt := 4) hx hb d_G_left_30 (by decide) ?_
        exact ih (k + 1) ls (by omega) (lv_sub hl [0, 1, 2] rfl)
  have hl0 : lv_has ls 3 [(2, .int (nI 0)), (1, .int (nI (k_left S 0))), (0, .ref (ad 0))] := by rw [nI_0]; exact lv_sub hl [0, 1, 2] rfl
  exact key E.1 0  ls (by omega)  hl0

set_option maxHeartbeats 4000000 in
set_option maxRecDepth 100000 in
theorem c_G_isTaken (l : Launch) (D : va_G) (tys : List (ClassId × FieldType)) (de : Nat) (sa : Nat → Nat) {L : List Nat} {f : Nat → va_E} {w : Int32} {ad τ : Nat → Nat} {E : kE} {S : kS} {cI cO cN : ClassId} (ht : tys[0]? = some (cI, .int)) (ht1 : tys[1]? = some (cO, .object "java/lang/Object")) (ht2 : tys[2]? = some (cN, .object "MergingFragments$Node")) (hG : kG cI cO cN de ad τ L f E S)  : hp_Ri l y_G_isTaken (gw_ws y_G_isTaken b_G_isTaken 3 (some .boolean)) { frames := 0, cells := 0, slots := 0, locals := 0 } D kc tys (s_X de sa) [.ref (ad 0), .int w] L f (fun r => (r = 1 ∧ ∃ j, j < E.2.1 ∧ E.2.2.2.2 j = w) ∨ (r = 0 ∧ ∀ j, j < E.2.1 → ¬ E.2.2.2.2 j = w)) := by
  refine hp_ofW (Qc := fun A => hp_QR (fun r => (r = 1 ∧ ∃ j, j < E.2.1 ∧ E.2.2.2.2 j = w) ∨ (r = 0 ∧ ∀ j, j < E.2.1 → ¬ E.2.2.2.2 j = w))) (fr := fun A => (fun _ => False)) (ret := (some .boolean)) (by decide) rfl (Nat.le_of_ble_eq_true rfl) ?_
  intro p e s m below meth c ls A hx hb hml hr hts hown hlk hnm hl hK hX h
  have hg : ∀ w ∈ gw, w.before _ s = true := fun w hw => hts w (List.mem_cons_of_mem _ hw)
  have hown : s.vm.findClass "MergingFragments" = some m.cls := hown
  have hnm : meth.name = "isTaken" := hnm
  have hl : lv_has ls 3 [(0, .ref (ad 0)), (1, .int w)] := hl
  have hn7 : E.1 ≤ 7 := hG.2.2.2.2.2.2.2.2.2.2.1
  have hm12 : E.2.1 ≤ 12 := hG.2.2.2.2.2.2.2.2.2.2.2.1
  have he := hG.1
  obtain ⟨go, ho, ho1⟩ := hG.2.2.1
  obtain ⟨gtw, htw, htw1⟩ := hG.2.2.2.1
  obtain ⟨gw, hw, hw1⟩ := hG.2.2.2.2.1
  refine lv_iconst (v := 0) hx hb d_G_isTaken_0 (by decide) ?_
  refine lv_istore_n (lv' := [(2, .int 0), (0, .ref (ad 0)), (1, .int w)]) hx hb d_G_isTaken_1 rfl hl (by decide) rfl (fun ls hl => ?_)
  have key : ∀ (d k : Nat)  (ls : Array Slot), k + d = E.2.1 → (∀ j, j < k → ¬ E.2.2.2.2 j = w) → lv_has ls 3 [(2, .int (nI k)), (0, .ref (ad 0)), (1, .int w)] → W p l e { frames := 0, cells := 0, slots := 0, locals := 0 } s m ([.ref (ad 0), .int w] : List Value).toArray below meth c s.heap [] 0 0 (MQ below (hp_QR (fun r => (r = 1 ∧ ∃ j, j < E.2.1 ∧ E.2.2.2.2 j = w) ∨ (r = 0 ∧ ∀ j, j < E.2.1 → ¬ E.2.2.2.2 j = w))) ([.ref (ad 0), .int w] : List Value).toArray s 0 0 (fun _ => False)) (F0 m 2 ls []) := by
    intro d
    induction d with
    | zero =>
      intro k  ls hkd hinv hl
      refine lv_iload_n hx hb d_G_isTaken_2 rfl (lv_at hl 0 rfl) ?_
      refine lv_aload_n hx hb d_G_isTaken_3 rfl (lv_at hl 1 rfl) ?_
      refine hp_get (v := .int (nI E.2.1)) hx hb hg in_G hown hK h he rfl 5 (by decide) (hg _ w132) (fun _ z => z) rfl d_G_isTaken_4 ?_
      refine lv_icmp_ge (tgt := 28) hx hb d_G_isTaken_7 (by decide) (fun hc => ?_) (fun hc => ?_)
      · skip
        have hkm : k = E.2.1 := by omega
        refine lv_iconst (v := 0) hx hb d_G_isTaken_28 (by decide) ?_
        exact hp_rzret hx hb hr hlk rfl (Or.inr ⟨rfl, fun j hj => hinv j (by omega)⟩) d_G_isTaken_29
      · skip
        exact absurd (nI_le (by omega) (by omega)) hc
    | succ d ih =>
      intro k  ls hkd hinv hl
      refine lv_iload_n hx hb d_G_isTaken_2 rfl (lv_at hl 0 rfl) ?_
      refine lv_aload_n hx hb d_G_isTaken_3 rfl (lv_at hl 1 rfl) ?_
      refine hp_get (v := .int (nI E.2.1)) hx hb hg in_G hown hK h he rfl 5 (by decide) (hg _ w132) (fun _ z => z) rfl d_G_isTaken_4 ?_
      refine lv_icmp_ge (tgt := 28) hx hb d_G_isTaken_7 (by decide) (fun hc => ?_) (fun hc => ?_)
      · skip
        exact absurd hc (nI_ge (by omega) (by omega))
      · skip
        have hk : k < E.2.1 := by omega
        refine lv_aload_n hx hb d_G_isTaken_10 rfl (lv_at hl 1 rfl) ?_
        refine hp_get (v := .ref (ad 4)) hx hb hg in_G hown hK h he rfl 3 (by decide) (hg _ w130) (fun _ z => z) rfl d_G_isTaken_11 ?_
        refine lv_iload_n hx hb d_G_isTaken_14 rfl (lv_at hl 0 rfl) ?_
        refine hp_iald hx hb hK h 0 hw ht rfl (by omega) (by decide) d_G_isTaken_15 ?_
        rw [show gw k = E.2.2.2.2 k from hw1 k hk]
        refine lv_iload_n hx hb d_G_isTaken_16 rfl (lv_at hl 2 rfl) ?_
        refine lv_icmp_ne (tgt := 22) hx hb d_G_isTaken_17 (by decide) (fun hc2 => ?_) (fun hc2 => ?_)
        · skip
          refine lv_iinc (k := 0) (v := (nI (k + 1))) (lv' := [(2, .int (nI (k + 1))), (0, .ref (ad 0)), (1, .int w)]) hx hb d_G_isTaken_22 hl rfl (hp_inc k 1) (by decide) rfl (fun ls hl => ?_)
          refine lv_goto (tgt := 2) hx hb d_G_isTaken_25 (by decide) ?_
          exact ih (k + 1) ls (by omega) (fun j hj => by rcases Nat.lt_succ_iff_lt_or_eq.mp hj with z | z; exact hinv j z; rw [z]; exact hc2) (lv_sub hl [0, 1, 2] rfl)
        · skip
          refine lv_iconst (v := 1) hx hb d_G_isTaken_20 (by decide) ?_
          exact hp_rzret hx hb hr hlk rfl (Or.inl ⟨rfl, k, hk, hc2⟩) d_G_isTaken_21
  have hl0 : lv_has ls 3 [(2, .int (nI 0)), (0, .ref (ad 0)), (1, .int w)] := by rw [nI_0]; exact lv_sub hl [0, 1, 2] rfl
  exact key E.2.1 0  ls (by omega) (fun j hj => absurd hj (Nat.not_lt_zero _)) hl0

set_option maxHeartbeats 4000000 in
set_option maxRecDepth 100000 in
theorem c_G_isSomeNodeAwake (l : Launch) (D : va_G) (tys : List (ClassId × FieldType)) (de : Nat) (sa : Nat → Nat) {L : List Nat} {f : Nat → va_E} {ad τ : Nat → Nat} {E : kE} {S : kS} {cI cO cN : ClassId} (ht : tys[0]? = some (cI, .int)) (ht1 : tys[1]? = some (cO, .object "java/lang/Object")) (ht2 : tys[2]? = some (cN, .object "MergingFragments$Node")) (hG : kG cI cO cN de ad τ L f E S)  : hp_Ri l y_G_isSomeNodeAwake (gw_ws y_G_isSomeNodeAwake b_G_isSomeNodeAwake 2 (some .boolean)) { frames := 0, cells := 0, slots := 0, locals := 0 } D kc tys (s_X de sa) [.ref (ad 0)] L f (fun r => (r = 1 ∧ ∃ i, i < E.1 ∧ ¬ S.1 i 0 = 0) ∨ (r = 0 ∧ ∀ i, i < E.1 → S.1 i 0 = 0)) := by
  refine hp_ofW (Qc := fun A => hp_QR (fun r => (r = 1 ∧ ∃ i, i < E.1 ∧ ¬ S.1 i 0 = 0) ∨ (r = 0 ∧ ∀ i, i < E.1 → S.1 i 0 = 0))) (fr := fun A => (fun _ => False)) (ret := (some .boolean)) (by decide) rfl (Nat.le_of_ble_eq_true rfl) ?_
  intro p e s m below meth c ls A hx hb hml hr hts hown hlk hnm hl hK hX h
  have hg : ∀ w ∈ gw, w.before _ s = true := fun w hw => hts w (List.mem_cons_of_mem _ hw)
  have hown : s.vm.findClass "MergingFragments" = some m.cls := hown
  have hnm : meth.name = "isSomeNodeAwake" := hnm
  have hl : lv_has ls 2 [(0, .ref (ad 0))] := hl
  have hn7 : E.1 ≤ 7 := hG.2.2.2.2.2.2.2.2.2.2.1
  have hm12 : E.2.1 ≤ 12 := hG.2.2.2.2.2.2.2.2.2.2.2.1
  have he := hG.1
  obtain ⟨gn, hn, hn1⟩ := hG.2.1
  refine lv_iconst (v := 0) hx hb d_G_isSomeNodeAwake_0 (by decide) ?_
  refine lv_istore_n (lv' := [(1, .int 0), (0, .ref (ad 0))]) hx hb d_G_isSomeNodeAwake_1 rfl hl (by decide) rfl (fun ls hl => ?_)
  have key : ∀ (d k : Nat)  (ls : Array Slot), k + d = E.1 → (∀ j, j < k → S.1 j 0 = 0) → lv_has ls 2 [(1, .int (nI k)), (0, .ref (ad 0))] → W p l e { frames := 0, cells := 0, slots := 0, locals := 0 } s m ([.ref (ad 0)] : List Value).toArray below meth c s.heap [] 0 0 (MQ below (hp_QR (fun r => (r = 1 ∧ ∃ i, i < E.1 ∧ ¬ S.1 i 0 = 0) ∨ (r = 0 ∧ ∀ i, i < E.1 → S.1 i 0 = 0))) ([.ref (ad 0)] : List Value).toArray s 0 0 (fun _ => False)) (F0 m 2 ls []) := by
    intro d
    induction d with
    | zero =>
      intro k  ls hkd hinv hl
      refine lv_iload_n hx hb d_G_isSomeNodeAwake_2 rfl (lv_at hl 0 rfl) ?_
      refine lv_aload_n hx hb d_G_isSomeNodeAwake_3 rfl (lv_at hl 1 rfl) ?_
      refine hp_get (v := .int (nI E.1)) hx hb hg in_G hown hK h he rfl 4 (by decide) (hg _ w131) (fun _ z => z) rfl d_G_isSomeNodeAwake_4 ?_
      refine lv_icmp_ge (tgt := 30) hx hb d_G_isSomeNodeAwake_7 (by decide) (fun hc => ?_) (fun hc => ?_)
      · skip
        have hkm : k = E.1 := by omega
        refine lv_iconst (v := 0) hx hb d_G_isSomeNodeAwake_30 (by decide) ?_
        exact hp_rzret hx hb hr hlk rfl (Or.inr ⟨rfl, fun j hj => hinv j (by omega)⟩) d_G_isSomeNodeAwake_31
      · skip
        exact absurd (nI_le (by omega) (by omega)) hc
    | succ d ih =>
      intro k  ls hkd hinv hl
      refine lv_iload_n hx hb d_G_isSomeNodeAwake_2 rfl (lv_at hl 0 rfl) ?_
      refine lv_aload_n hx hb d_G_isSomeNodeAwake_3 rfl (lv_at hl 1 rfl) ?_
      refine hp_get (v := .int (nI E.1)) hx hb hg in_G hown hK h he rfl 4 (by decide) (hg _ w131) (fun _ z => z) rfl d_G_isSomeNodeAwake_4 ?_
      refine lv_icmp_ge (tgt := 30) hx hb d_G_isSomeNodeAwake_7 (by decide) (fun hc => ?_) (fun hc => ?_)
      · skip
        exact absurd hc (nI_ge (by omega) (by omega))
      · skip
        have hk : k < E.1 := by omega
        have hnk := hG.2.2.2.2.2.1 k (by omega)
        refine lv_aload_n hx hb d_G_isSomeNodeAwake_10 rfl (lv_at hl 1 rfl) ?_
        refine hp_get (v := .ref (ad 1)) hx hb hg in_G hown hK h he rfl 0 (by decide) (hg _ w127) (fun _ z => z) rfl d_G_isSomeNodeAwake_11 ?_
        refine lv_iload_n hx hb d_G_isSomeNodeAwake_14 rfl (lv_at hl 0 rfl) ?_
        refine hp_aald (j := k) hx hb hK h 2 hn ht2 rfl (by omega) (by decide) (hn1 k (by omega)) d_G_isSomeNodeAwake_15 ?_
        refine hp_getN (v := .int (S.1 k 0)) hx hb hg in_N hown hK h hnk rfl 3 (by decide) (s_N hX n85) (fun _ z => z) rfl d_G_isSomeNodeAwake_16 ?_
        refine lv_if_eq (tgt := 24) hx hb d_G_isSomeNodeAwake_19 (by decide) (fun hc2 => ?_) (fun hc2 => ?_)
        · skip
          refine lv_iinc (k := 0) (v := (nI (k + 1))) (lv' := [(1, .int (nI (k + 1))), (0, .ref (ad 0))]) hx hb d_G_isSomeNodeAwake_24 hl rfl (hp_inc k 1) (by decide) rfl (fun ls hl => ?_)
          refine lv_goto (tgt := 2) hx hb d_G_isSomeNodeAwake_27 (by decide) ?_
          exact ih (k + 1) ls (by omega) (fun j hj => by rcases Nat.lt_succ_iff_lt_or_eq.mp hj with z | z; exact hinv j z; rw [z]; exact hc2) (lv_sub hl [0, 1] rfl)
        · skip
          refine lv_iconst (v := 1) hx hb d_G_isSomeNodeAwake_22 (by decide) ?_
          exact hp_rzret hx hb hr hlk rfl (Or.inl ⟨rfl, k, hk, hc2⟩) d_G_isSomeNodeAwake_23
  have hl0 : lv_has ls 2 [(1, .int (nI 0)), (0, .ref (ad 0))] := by rw [nI_0]; exact lv_sub hl [0, 1] rfl
  exact key E.1 0  ls (by omega) (fun j hj => absurd hj (Nat.not_lt_zero _)) hl0

set_option maxHeartbeats 4000000 in
set_option maxRecDepth 100000 in
theorem c_G_sent (l : Launch) (D : va_G) (tys : List (ClassId × FieldType)) (de : Nat) (sa : Nat → Nat) {L : List Nat} {f : Nat → va_E} {ad τ : Nat → Nat} {E : kE} {S : kS} {cI cO cN : ClassId} (ht : tys[0]? = some (cI, .int)) (ht1 : tys[1]? = some (cO, .object "java/lang/Object")) (ht2 : tys[2]? = some (cN, .object "MergingFragments$Node")) (hG : kG cI cO cN de ad τ L f E S) : hp_Ri l y_G_sent (gw_ws y_G_sent b_G_sent 1 (some .int)) { frames := 0, cells := 0, slots := 0, locals := 0 } D kc tys (s_X de sa) [.ref (ad 0)] L f (fun r => r = S.2.2.2.2.1) := by
  refine hp_ofW (Qc := fun A => hp_QR (fun r => r = S.2.2.2.2.1)) (fr := fun A => (fun _ => False)) (ret := (some .int)) (by decide) rfl (Nat.le_of_ble_eq_true rfl) ?_
  intro p e s m below meth c ls A hx hb hml hr hts hown hlk hnm hl hK hX h
  have hg : ∀ w ∈ gw, w.before _ s = true := fun w hw => hts w (List.mem_cons_of_mem _ hw)
  have hown : s.vm.findClass "MergingFragments" = some m.cls := hown
  have hnm : meth.name = "sent" := hnm
  have hl : lv_has ls 1 [(0, .ref (ad 0))] := hl
  have he := hG.1
  refine lv_aload_n hx hb d_G_sent_0 rfl (lv_at hl 0 rfl) ?_
  refine hp_get (v := .int S.2.2.2.2.1) hx hb hg in_G hown hK h he rfl 6 (by decide) (hg _ w133) (fun _ z => z) rfl d_G_sent_1 ?_
  exact hp_riret hx hb hr hlk rfl d_G_sent_4

set_option maxHeartbeats 4000000 in
set_option maxRecDepth 100000 in
theorem c_G_requireNode (l : Launch) (D : va_G) (tys : List (ClassId × FieldType)) (de : Nat) (sa : Nat → Nat) {L : List Nat} {f : Nat → va_E} {v : Nat} {ad τ : Nat → Nat} {E : kE} {S : kS} {cI cO cN : ClassId} (ht : tys[0]? = some (cI, .int)) (ht1 : tys[1]? = some (cO, .object "java/lang/Object")) (ht2 : tys[2]? = some (cN, .object "MergingFragments$Node")) (hG : kG cI cO cN de ad τ L f E S) (hv : v < E.1) : hp_Ru l y_G_requireNode (gw_ws y_G_requireNode b_G_requireNode 2 none) { frames := 5, cells := 0, slots := 0, locals := 115 } D kc tys (s_X de sa) [.ref (ad 0), .int (nI v)] L f True := by
  refine hp_ofW (Qc := fun A => hp_QU True) (fr := fun A => (fun _ => False)) (ret := none) (by decide) rfl (Nat.le_of_ble_eq_true rfl) ?_
  intro p e s m below meth c ls A hx hb hml hr hts hown hlk hnm hl hK hX h
  have hg : ∀ w ∈ gw, w.before _ s = true := fun w hw => hts w (List.mem_cons_of_mem _ hw)
  have hown : s.vm.findClass "MergingFragments" = some m.cls := hown
  have hnm : meth.name = "requireNode" := hnm
  have hl : lv_has ls 2 [(0, .ref (ad 0)), (1, .int (nI v))] := hl
  have hn7 : E.1 ≤ 7 := hG.2.2.2.2.2.2.2.2.2.2.1
  have he := hG.1
  refine lv_iload_n hx hb d_G_requireNode_0 rfl (lv_at hl 1 rfl) ?_
  refine lv_if_lt (tgt := 12) hx hb d_G_requireNode_1 (by decide) (fun hc => ?_) (fun hc => ?_)
  · skip
    exact absurd hc (nI_pos (by omega))
  · skip
    refine lv_iload_n hx hb d_G_requireNode_4 rfl (lv_at hl 1 rfl) ?_
    refine lv_aload_n hx hb d_G_requireNode_5 rfl (lv_at hl 0 rfl) ?_
    refine hp_get (v := .int (nI E.1)) hx hb hg in_G hown hK h he rfl 4 (by decide) (hg _ w131) (fun _ z => z) rfl d_G_requireNode_6 ?_
    refine lv_icmp_lt (tgt := 22) hx hb d_G_requireNode_9 (by decide) (fun hc2 => ?_) (fun hc2 => ?_)
    · skip
      exact hp_rvret hx hb hr hlk trivial d_G_requireNode_22
    · skip
      exact absurd (nI_lt hv (by omega)) hc2
