/-! The reference's run, by program (wip/mk63.py). -/
theorem k_nx_mod {E : kE} {a : Nat} (ha : a < E.1) : (a + 1) % E.1 = k_nx E a := by
  unfold k_nx
  split
  · rename_i z; exact Nat.mod_eq_of_lt z
  · rename_i z; rw [show a + 1 = E.1 by omega]; exact Nat.mod_self _
/-- the g nodes before a have no message -/
def kEm (n : Nat) (T : kS) (a g : Nat) : Prop := ∀ i, i < g → T.2.2.1 ((a + (n - g) + i) % n) = []
theorem kEm_all {n : Nat} {T : kS} {a : Nat} (ha : a < n) (h : kEm n T a n) : ∀ x, x < n → T.2.2.1 x = [] := by
  intro x hx
  have h1 := h ((x + n - a) % n) (Nat.mod_lt _ (by omega))
  rw [Nat.sub_self, Nat.add_zero] at h1
  have e : (a + (x + n - a) % n) % n = x := by
    by_cases z : a ≤ x
    · rw [show x + n - a = (x - a) + n by omega, Nat.add_mod_right, Nat.mod_eq_of_lt (by omega : x - a < n), show a + (x - a) = x by omega, Nat.mod_eq_of_lt hx]
    · rw [Nat.mod_eq_of_lt (by omega : x + n - a < n), show a + (x + n - a) = x + n by omega, Nat.add_mod_right, Nat.mod_eq_of_lt hx]
  rw [e] at h1
  exact h1
theorem kEm_next {n : Nat} {T : kS} {a g : Nat} (ha : a < n) (hg : g < n) (h : kEm n T a g) (h0 : T.2.2.1 a = []) : kEm n T ((a + 1) % n) (g + 1) := by
  intro i hi
  have e : ((a + 1) % n + (n - (g + 1)) + i) % n = (a + (n - g) + i) % n := by
    rw [Nat.add_assoc ((a + 1) % n), Nat.mod_add_mod, show a + 1 + (n - (g + 1) + i) = a + (n - g) + i by omega]
  rw [e]
  by_cases z : i < g
  · exact h i z
  · rw [show a + (n - g) + i = a + n by omega, Nat.add_mod_right, Nat.mod_eq_of_lt ha]
    exact h0
theorem k_left_no {T : kS} : ∀ n, (∀ x, x < n → T.2.2.1 x = []) → k_left T n = 0
  | 0, _ => rfl
  | n + 1, h => by
    show k_left T n + (T.2.2.1 n).length = 0
    rw [k_left_no n (fun x hx => h x (by omega)), h n (by omega)]
    rfl
theorem k_first_no {E : kE} {T : kS} {a : Nat} (h : T.2.2.1 a = []) : k_first E T a = T := by
  unfold k_first
  rw [h]
theorem k_left200 {T : kS} {n : Nat} (hl : ∀ i, i < n → (T.2.2.1 i).length ≤ 200) (hn : n ≤ 7) : k_left T n ≤ 7 * 200 := by
  have h : ∀ k, k ≤ n → k_left T k ≤ k * 200 := by
    intro k
    induction k with
    | zero => intro _; exact Nat.le_refl _
    | succ k ih =>
      intro hk
      have h1 := ih (by omega)
      have h2 := hl k (by omega)
      show k_left T k + (T.2.2.1 k).length ≤ _
      omega
  have := h n (Nat.le_refl _)
  omega
set_option maxHeartbeats 4000000 in
set_option maxRecDepth 100000 in
theorem c_R_run (l : Launch) (D : va_G) (tys : List (ClassId × FieldType)) (de : Nat) (sa : Nat → Nat) {L : List Nat} {f : Nat → va_E} {w u9 : Int32} {Iv : kS → Prop} {ad τ : Nat → Nat} {E : kE} {S : kS} {code : Int32} {cI cZ : ClassId} (ht : tys[0]? = some (cI, .int)) (ht3 : tys[3]? = some (cZ, .boolean)) (hR : kR cI cZ ad τ L f code E S) (hn7 : E.1 ≤ 7) (hm12 : E.2.1 ≤ 12) (hI : Iv S) (hIok : ∀ T, Iv T → kPr E T) (hIs : ∀ T a, Iv T → a < E.1 → Iv (k_first E T a)) (hIk : ∀ T a, Iv T → a < E.1 → k_fk T a = -1 → T.2.2.1 a = []) : hp_Mi l y_R_run (gw_ws y_R_run b_R_run 5 (some .int)) { frames := 6, cells := 0, slots := 0, locals := 146 } D kc tys (s_X de sa) [.ref (ad 100), .int w, .int u9] L f (fun r u => (∃ v9 m9, v9 < E.1 ∧ m9 ≤ 999 ∧ w = nI v9 ∧ u9 = nI m9 ∧ r = nI (k_run E m9 (m9 * E.1) S v9 0).2 ∧ kRP cI cZ ad τ L f 0 E (k_run E m9 (m9 * E.1) S v9 0).1 u) ∨ (kBad E w ∧ kRP cI cZ ad τ L f 1 E S u) ∨ (¬ kBad E w ∧ (u9 < 0 ∨ 999 < u9) ∧ kRP cI cZ ad τ L f 2 E S u)) 0 0 := by
  refine hp_ofW (Qc := fun A => va_Qi (fun r u => (∃ v9 m9, v9 < E.1 ∧ m9 ≤ 999 ∧ w = nI v9 ∧ u9 = nI m9 ∧ r = nI (k_run E m9 (m9 * E.1) S v9 0).2 ∧ kRP cI cZ ad τ L f 0 E (k_run E m9 (m9 * E.1) S v9 0).1 u) ∨ (kBad E w ∧ kRP cI cZ ad τ L f 1 E S u) ∨ (¬ kBad E w ∧ (u9 < 0 ∨ 999 < u9) ∧ kRP cI cZ ad τ L f 2 E S u)) (hp_B D kc A) A) (fr := fun A => A) (ret := (some .int)) (by decide) rfl (Nat.le_of_ble_eq_true rfl) ?_
  intro p e s m below meth c ls A hx hb hml hr hts hown hlk hnm hl hK hX h
  have hg : ∀ w ∈ gw, w.before _ s = true := fun w hw => hts w (List.mem_cons_of_mem _ hw)
  have hown : s.vm.findClass "MergingFragmentsModel" = some m.cls := hown
  have hnm : meth.name = "run" := hnm
  have hl : lv_has ls 5 [(0, .ref (ad 100)), (1, .int w), (2, .int u9)] := hl
  have hT := hR.2.2.2.2.2.2.2
  have he := hR.1
  refine lv_aload_n hx hb d_R_run_0 rfl (lv_at hl 0 rfl) ?_
  refine lv_aload_n hx hb d_R_run_1 rfl (lv_at hl 0 rfl) ?_
  refine lv_iload_n hx hb d_R_run_2 rfl (lv_at hl 1 rfl) ?_
  refine hp_callR (hp_runV (As := [.int w]) (rest := [.ref (ad 100)]) ⟨hx, hb, hml, hown, hg⟩ (c_R_noNode l D tys de sa (w := w) ht ht3 hR hn7 hm12) (cwV 1 hg (gw_V w627 w629 ws26 w7 w630) rfl rfl rfl (by decide +kernel) ⟨Nat.le_of_ble_eq_true rfl, Nat.le_of_ble_eq_true rfl⟩) (s_ok de sa) hK hX h he rfl rfl rfl hl.1 rfl (Nat.le_of_ble_eq_true rfl) d_R_run_3 ⟨Nat.le_of_ble_eq_true rfl, Nat.le_of_ble_eq_true rfl⟩) (fun r1 hp => ?_)
  rcases hp with ⟨hp, v, hv, hw⟩ | ⟨hp, hbad⟩
  · skip
    subst hp
    subst hw
    have hnb : ¬ kBad E (nI v) := fun z => by rcases z with z | z; exact nI_pos (by omega) z; exact absurd ((nI_leI (by omega) (by omega)).mp z) (by omega)
    refine lv_if_eq (tgt := 13) hx hb d_R_run_6 (by decide) (fun hc => ?_) (fun hc => ?_)
    · skip
      refine lv_iload_n hx hb d_R_run_13 rfl (lv_at hl 2 rfl) ?_
      refine lv_if_lt (tgt := 24) hx hb d_R_run_14 (by decide) (fun hc2 => ?_) (fun hc2 => ?_)
      · skip
        refine lv_iconst (v := 2) hx hb d_R_run_24 (by decide) ?_
        refine lv_goto (tgt := 29) hx hb d_R_run_25 (by decide) ?_
        refine hp_put (ty := .int) (v := .int 2) (fs' := [.int 2, .int (nI E.1), .int (nI E.2.1), .ref (ad 101), .ref (ad 102), .ref (ad 103), .ref (ad 104), .ref (ad 105), .ref (ad 106), .ref (ad 107), .ref (ad 108), .ref (ad 109), .ref (ad 110), .ref (ad 111), .ref (ad 112), .ref (ad 113), .ref (ad 114), .ref (ad 115), .ref (ad 116), .ref (ad 117), .ref (ad 118), .ref (ad 119), .int S.2.2.2.2.1]) hx hb hg in_R t_R t_R_ok n_R hown hK h he rfl 0 (by decide) (hg _ w544) (fun _ z => z) rfl (by decide +kernel) rfl rfl (Nat.le_of_ble_eq_true rfl) rfl d_R_run_29 (fun H locs f1 hf1 h => ?_)
        have he := he.self' hf1
        refine lv_aload_n hx hb d_R_run_32 rfl (lv_at hl 0 rfl) ?_
        refine hp_get (v := .int 2) hx hb hg in_R hown hK h he rfl 0 (by decide) (hg _ w544) (fun _ z => z) rfl d_R_run_33 ?_
        have hR : kR cI cZ ad τ L f1 2 E S := hR.wO (f1 := f1) (code' := 2) (sc := S.2.2.2.2.1) hf1
        have hF : kFq τ L f (L, f1) := kFq.w hf1 (hT 100 (by omega) (by omega)) (by omega) (by omega)
        refine lv_if_le (tgt := 41) hx hb d_R_run_36 (by decide) (fun hc9 => ?_) (fun hc9 => ?_)
        · skip
          exact absurd hc9 (by decide)
        · skip
          refine lv_iconst (v := 0) hx hb d_R_run_39 (by decide) ?_
          exact hp_iret hx hb hr hlk h (Or.inr (Or.inr ⟨hnb, Or.inl hc2, hR, hF⟩)) (by omega) (by omega) d_R_run_40
      · skip
        refine lv_iload_n hx hb d_R_run_17 rfl (lv_at hl 2 rfl) ?_
        refine lv_sipush (v := 999) hx hb d_R_run_18 (by decide) ?_
        refine lv_icmp_le (tgt := 28) hx hb d_R_run_21 (by decide) (fun hc3 => ?_) (fun hc3 => ?_)
        · skip
          obtain ⟨most, hmost, hmu⟩ := nI_of2 (M := 999) (n := 999) rfl hc2 hc3
          subst hmu
          refine lv_iconst (v := 0) hx hb d_R_run_28 (by decide) ?_
          refine hp_put (ty := .int) (v := .int 0) (fs' := [.int 0, .int (nI E.1), .int (nI E.2.1), .ref (ad 101), .ref (ad 102), .ref (ad 103), .ref (ad 104), .ref (ad 105), .ref (ad 106), .ref (ad 107), .ref (ad 108), .ref (ad 109), .ref (ad 110), .ref (ad 111), .ref (ad 112), .ref (ad 113), .ref (ad 114), .ref (ad 115), .ref (ad 116), .ref (ad 117), .ref (ad 118), .ref (ad 119), .int S.2.2.2.2.1]) hx hb hg in_R t_R t_R_ok n_R hown hK h he rfl 0 (by decide) (hg _ w544) (fun _ z => z) rfl (by decide +kernel) rfl rfl (Nat.le_of_ble_eq_true rfl) rfl d_R_run_29 (fun H locs f1 hf1 h => ?_)
          have he := he.self' hf1
          refine lv_aload_n hx hb d_R_run_32 rfl (lv_at hl 0 rfl) ?_
          refine hp_get (v := .int 0) hx hb hg in_R hown hK h he rfl 0 (by decide) (hg _ w544) (fun _ z => z) rfl d_R_run_33 ?_
          have hR : kR cI cZ ad τ L f1 0 E S := hR.wO (f1 := f1) (code' := 0) (sc := S.2.2.2.2.1) hf1
          have hF : kFq τ L f (L, f1) := kFq.w hf1 (hT 100 (by omega) (by omega)) (by omega) (by omega)
          refine lv_if_le (tgt := 41) hx hb d_R_run_36 (by decide) (fun hc9 => ?_) (fun hc9 => ?_)
          · skip
            refine lv_iconst (v := 0) hx hb d_R_run_41 (by decide) ?_
            refine lv_istore_n (lv' := [(3, .int 0), (0, .ref (ad 100)), (1, .int (nI v)), (2, .int (nI most))]) hx hb d_R_run_42 rfl hl (by decide) rfl (fun ls hl => ?_)
            refine lv_iload_n hx hb d_R_run_43 rfl (lv_at hl 2 rfl) ?_
            refine lv_istore (lv' := [(4, .int (nI v)), (3, .int 0), (0, .ref (ad 100)), (1, .int (nI v)), (2, .int (nI most))]) hx hb d_R_run_44 hl (by decide) rfl (fun ls hl => ?_)
            have hmn : most * E.1 ≤ 999 * 7 := Nat.mul_le_mul hmost hn7
            have key : ∀ (d t : Nat) (T : kS) (a hh g : Nat) (fk : Nat → va_E) (H : Heap) (locs : List Loc) (ls : Array Slot), t + d = most * E.1 → k_run E most d T a hh = (k_run E most (most * E.1) S v 0) → a < E.1 → hh ≤ t → g ≤ E.1 → t ≤ hh * E.1 + g → kEm E.1 T a g → Iv T → kR cI cZ ad τ L fk 0 E T → kFq τ L f (L, fk) → lv_has ls 5 [(4, .int (nI a)), (3, .int (nI hh)), (0, .ref (ad 100)), (1, .int (nI v)), (2, .int (nI most))] → hp_W D kc A s.heap L fk H locs → W p l e { frames := 6, cells := 0, slots := 0, locals := 146 } s m ([.ref (ad 100), .int (nI v), .int (nI most)] : List Value).toArray below meth c H locs 0 0 (MQ below (va_Qi (fun r u => (∃ v9 m9, v9 < E.1 ∧ m9 ≤ 999 ∧ (nI v) = nI v9 ∧ (nI most) = nI m9 ∧ r = nI (k_run E m9 (m9 * E.1) S v9 0).2 ∧ kRP cI cZ ad τ L f 0 E (k_run E m9 (m9 * E.1) S v9 0).1 u) ∨ (kBad E (nI v) ∧ kRP cI cZ ad τ L f 1 E S u) ∨ (¬ kBad E (nI v) ∧ ((nI most) < 0 ∨ 999 < (nI most)) ∧ kRP cI cZ ad τ L f 2 E S u)) (hp_B D kc A) A) ([.ref (ad 100), .int (nI v), .int (nI most)] : List Value).toArray s 0 0 A) (F0 m 46 ls []) := by
              intro d
              induction d with
              | zero =>
                intro t T a hh g fk H locs ls htd hKR ha hht hgE htg hEm hIT hR hF hl h
                have hP := hIok T hIT
                have hll : k_left T E.1 ≤ 7 * 200 := k_left200 (fun i hi => by have := hP.2.1 i hi; omega) hn7
                have he := hR.1
                refine lv_iload_n hx hb d_R_run_46 rfl (lv_at hl 1 rfl) ?_
                refine lv_iload_n hx hb d_R_run_47 rfl (lv_at hl 4 rfl) ?_
                refine lv_icmp_ge (tgt := 84) hx hb d_R_run_48 (by decide) (fun hc5 => ?_) (fun hc5 => ?_)
                · skip
                  have hmh : most ≤ hh := (nI_leI (by omega) (by omega)).mp hc5
                  refine lv_iload_n hx hb d_R_run_84 rfl (lv_at hl 1 rfl) ?_
                  exact hp_iret hx hb hr hlk h (Or.inl ⟨v, most, hv, hmost, rfl, rfl, by rw [← hKR, show k_run E most 0 T a hh = (T, hh) from rfl], by rw [← hKR, show k_run E most 0 T a hh = (T, hh) from rfl]; exact ⟨hR, hF⟩⟩) (by omega) (by omega) d_R_run_85
                · skip
                  have hhm : hh < most := Nat.not_le.mp (fun z => hc5 (nI_le z (by omega)))
                  refine lv_aload_n hx hb d_R_run_51 rfl (lv_at hl 2 rfl) ?_
                  refine hp_callR (hp_runV (As := []) (rest := []) ⟨hx, hb, hml, hown, hg⟩ (c_R_all l D tys de sa ht ht3 hR hn7 hm12) (cwV 0 hg (gw_V w707 w709 ws43 w7 w710) rfl rfl rfl (by decide +kernel) ⟨Nat.le_of_ble_eq_true rfl, Nat.le_of_ble_eq_true rfl⟩) (s_ok de sa) hK hX h he rfl rfl rfl hl.1 rfl (Nat.le_of_ble_eq_true rfl) d_R_run_52 ⟨Nat.le_of_ble_eq_true rfl, Nat.le_of_ble_eq_true rfl⟩) (fun r1 hp => ?_)
                  subst hp
                  refine lv_if_le (tgt := 84) hx hb d_R_run_55 (by decide) (fun hc7 => ?_) (fun hc7 => ?_)
                  · skip
                    refine lv_iload_n hx hb d_R_run_84 rfl (lv_at hl 1 rfl) ?_
                    exact hp_iret hx hb hr hlk h (Or.inl ⟨v, most, hv, hmost, rfl, rfl, by rw [← hKR, show k_run E most 0 T a hh = (T, hh) from rfl], by rw [← hKR, show k_run E most 0 T a hh = (T, hh) from rfl]; exact ⟨hR, hF⟩⟩) (by omega) (by omega) d_R_run_85
                  · skip
                    have hl0 : 0 < k_left T E.1 := by rcases Nat.eq_zero_or_pos (k_left T E.1) with z | z; exact absurd (show nI (k_left T E.1) ≤ 0 by rw [z]; decide) hc7; exact z
                    have hgn : g < E.1 := by
                      rcases Nat.lt_or_ge g E.1 with z | z
                      · exact z
                      · have hge : g = E.1 := by omega
                        rw [hge] at hEm
                        have := k_left_no E.1 (kEm_all ha hEm)
                        omega
                    have hb1 : (hh + 1) * E.1 ≤ most * E.1 := Nat.mul_le_mul_right _ hhm
                    rw [Nat.succ_mul] at hb1
                    exact absurd hgn (by omega)
              | succ d ih =>
                intro t T a hh g fk H locs ls htd hKR ha hht hgE htg hEm hIT hR hF hl h
                have hP := hIok T hIT
                have hll : k_left T E.1 ≤ 7 * 200 := k_left200 (fun i hi => by have := hP.2.1 i hi; omega) hn7
                have he := hR.1
                refine lv_iload_n hx hb d_R_run_46 rfl (lv_at hl 1 rfl) ?_
                refine lv_iload_n hx hb d_R_run_47 rfl (lv_at hl 4 rfl) ?_
                refine lv_icmp_ge (tgt := 84) hx hb d_R_run_48 (by decide) (fun hc5 => ?_) (fun hc5 => ?_)
                · skip
                  have hmh : most ≤ hh := (nI_leI (by omega) (by omega)).mp hc5
                  refine lv_iload_n hx hb d_R_run_84 rfl (lv_at hl 1 rfl) ?_
                  exact hp_iret hx hb hr hlk h (Or.inl ⟨v, most, hv, hmost, rfl, rfl, by rw [← hKR, show k_run E most (d + 1) T a hh = (T, hh) from if_neg (fun z => absurd hmh (by omega))], by rw [← hKR, show k_run E most (d + 1) T a hh = (T, hh) from if_neg (fun z => absurd hmh (by omega))]; exact ⟨hR, hF⟩⟩) (by omega) (by omega) d_R_run_85
                · skip
                  have hhm : hh < most := Nat.not_le.mp (fun z => hc5 (nI_le z (by omega)))
                  refine lv_aload_n hx hb d_R_run_51 rfl (lv_at hl 2 rfl) ?_
                  refine hp_callR (hp_runV (As := []) (rest := []) ⟨hx, hb, hml, hown, hg⟩ (c_R_all l D tys de sa ht ht3 hR hn7 hm12) (cwV 0 hg (gw_V w707 w709 ws43 w7 w710) rfl rfl rfl (by decide +kernel) ⟨Nat.le_of_ble_eq_true rfl, Nat.le_of_ble_eq_true rfl⟩) (s_ok de sa) hK hX h he rfl rfl rfl hl.1 rfl (Nat.le_of_ble_eq_true rfl) d_R_run_52 ⟨Nat.le_of_ble_eq_true rfl, Nat.le_of_ble_eq_true rfl⟩) (fun r1 hp => ?_)
                  subst hp
                  refine lv_if_le (tgt := 84) hx hb d_R_run_55 (by decide) (fun hc7 => ?_) (fun hc7 => ?_)
                  · skip
                    refine lv_iload_n hx hb d_R_run_84 rfl (lv_at hl 1 rfl) ?_
                    exact hp_iret hx hb hr hlk h (Or.inl ⟨v, most, hv, hmost, rfl, rfl, by rw [← hKR, show k_run E most (d + 1) T a hh = (T, hh) from if_neg (fun z => absurd hc7 (nI_nle z.2 (by omega)))], by rw [← hKR, show k_run E most (d + 1) T a hh = (T, hh) from if_neg (fun z => absurd hc7 (nI_nle z.2 (by omega)))]; exact ⟨hR, hF⟩⟩) (by omega) (by omega) d_R_run_85
                  · skip
                    have hl0 : 0 < k_left T E.1 := by rcases Nat.eq_zero_or_pos (k_left T E.1) with z | z; exact absurd (show nI (k_left T E.1) ≤ 0 by rw [z]; decide) hc7; exact z
                    have hgn : g < E.1 := by
                      rcases Nat.lt_or_ge g E.1 with z | z
                      · exact z
                      · have hge : g = E.1 := by omega
                        rw [hge] at hEm
                        have := k_left_no E.1 (kEm_all ha hEm)
                        omega
                    have hR2 : k_run E most d (k_first E T a) (k_nx E a) (k_nh T a hh) = (k_run E most (most * E.1) S v 0) := by rw [← hKR]; exact (if_pos ⟨hhm, hl0⟩).symm
                    obtain ⟨hst, hendA, hasl, h7, hok, hfk⟩ := hP.2.2 a ha
                    refine lv_aload_n hx hb d_R_run_58 rfl (lv_at hl 2 rfl) ?_
                    refine lv_iload hx hb d_R_run_59 (lv_at hl 0 rfl) ?_
                    refine hp_calli (hp_runV (As := [.int (nI a)]) (rest := []) ⟨hx, hb, hml, hown, hg⟩ (c_R_next l D tys de sa (v := a) ht ht3 hR hn7 hm12 hP.1.1 ha hP.1.2.1 hP.2.1 hP.1.2.2 hst hendA hasl h7 hok) (cwV 1 hg (gw_V w663 w665 ws33 w7 w666) rfl rfl rfl (by decide +kernel) ⟨Nat.le_of_ble_eq_true rfl, Nat.le_of_ble_eq_true rfl⟩) (s_ok de sa) hK hX h he rfl rfl rfl hl.1 rfl (Nat.le_of_ble_eq_true rfl) d_R_run_61 ⟨Nat.le_of_ble_eq_true rfl, Nat.le_of_ble_eq_true rfl⟩) h (fun r9 L2 f9 H locs hp h => ?_)
                    obtain ⟨hr9, hp⟩ := hp
                    subst hr9
                    obtain ⟨hRn, hF1⟩ := hp
                    have hL2 := hF1.1
                    dsimp only at hRn hL2
                    have hL2 := hL2.symm
                    subst hL2
                    have hF := hF.trans hF1
                    have hR := hRn
                    have he := hR.1
                    refine lv_if_lt (tgt := 70) hx hb d_R_run_64 (by decide) (fun hc8 => ?_) (fun hc8 => ?_)
                    · skip
                      have hz : k_fk T a = -1 := hfk.resolve_right (Int32.not_le.mpr hc8)
                      have hnh : k_nh T a hh = hh := if_pos hz
                      have hno := hIk T a hIT ha hz
                      refine lv_iload hx hb d_R_run_70 (lv_at hl 0 rfl) ?_
                      refine lv_iconst (v := 1) hx hb d_R_run_72 (by decide) ?_
                      refine lv_iadd hx hb d_R_run_73 ?_
                      rw [nI_1]
                      refine lv_aload_n hx hb d_R_run_74 rfl (lv_at hl 2 rfl) ?_
                      refine hp_get (v := .int (nI E.1)) hx hb hg in_R hown hK h he rfl 1 (by decide) (hg _ w545) (fun _ z => z) rfl d_R_run_75 ?_
                      refine lv_irem hx hb d_R_run_78 (nI_ne0 (by omega) (by omega)) ?_
                      rw [show nI (a + 1) - nI (a + 1) / nI E.1 * nI E.1 = nI (k_nx E a) from (pk_rem (by omega) (by omega) (by omega)).trans (by rw [k_nx_mod ha])]
                      have hnl : k_nx E a < E.1 := by rw [← k_nx_mod ha]; exact Nat.mod_lt _ (by omega)
                      refine lv_istore (lv' := [(4, .int (nI (k_nx E a))), (3, .int (nI hh)), (0, .ref (ad 100)), (1, .int (nI v)), (2, .int (nI most))]) hx hb d_R_run_79 hl (by decide) rfl (fun ls hl => ?_)
                      refine lv_goto (tgt := 46) hx hb d_R_run_81 (by decide) ?_
                      exact ih (t + 1) (k_first E T a) (k_nx E a) hh (g + 1) f9 H locs ls (by omega) (by rw [← hR2, hnh]) hnl (by omega) (by omega) (by omega) (by rw [k_first_no hno, ← k_nx_mod ha]; exact kEm_next ha hgn hEm hno) (hIs T a hIT ha) hR hF (lv_sub hl [0, 1, 2, 3, 4] rfl) h
                    · skip
                      have hz : ¬ k_fk T a = -1 := fun z => hc8 (by rw [z]; decide)
                      have hnh : k_nh T a hh = hh + 1 := if_neg hz
                      refine lv_iinc (k := 1) (v := (nI (hh + 1))) (lv' := [(3, .int (nI (hh + 1))), (4, .int (nI a)), (0, .ref (ad 100)), (1, .int (nI v)), (2, .int (nI most))]) hx hb d_R_run_67 hl rfl (hp_inc hh 1) (by decide) rfl (fun ls hl => ?_)
                      refine lv_iload hx hb d_R_run_70 (lv_at hl 1 rfl) ?_
                      refine lv_iconst (v := 1) hx hb d_R_run_72 (by decide) ?_
                      refine lv_iadd hx hb d_R_run_73 ?_
                      rw [nI_1]
                      refine lv_aload_n hx hb d_R_run_74 rfl (lv_at hl 2 rfl) ?_
                      refine hp_get (v := .int (nI E.1)) hx hb hg in_R hown hK h he rfl 1 (by decide) (hg _ w545) (fun _ z => z) rfl d_R_run_75 ?_
                      refine lv_irem hx hb d_R_run_78 (nI_ne0 (by omega) (by omega)) ?_
                      rw [show nI (a + 1) - nI (a + 1) / nI E.1 * nI E.1 = nI (k_nx E a) from (pk_rem (by omega) (by omega) (by omega)).trans (by rw [k_nx_mod ha])]
                      have hnl : k_nx E a < E.1 := by rw [← k_nx_mod ha]; exact Nat.mod_lt _ (by omega)
                      refine lv_istore (lv' := [(4, .int (nI (k_nx E a))), (3, .int (nI (hh + 1))), (0, .ref (ad 100)), (1, .int (nI v)), (2, .int (nI most))]) hx hb d_R_run_79 hl (by decide) rfl (fun ls hl => ?_)
                      refine lv_goto (tgt := 46) hx hb d_R_run_81 (by decide) ?_
                      exact ih (t + 1) (k_first E T a) (k_nx E a) (hh + 1) 0 f9 H locs ls (by omega) (by rw [← hR2, hnh]) hnl (by omega) (by omega) (by rw [Nat.succ_mul]; omega) (fun i hi => absurd hi (Nat.not_lt_zero _)) (hIs T a hIT ha) hR hF (lv_sub hl [0, 1, 2, 3, 4] rfl) h
            have hl0 : lv_has ls 5 [(4, .int (nI v)), (3, .int (nI 0)), (0, .ref (ad 100)), (1, .int (nI v)), (2, .int (nI most))] := by rw [nI_0]; exact lv_sub hl [0, 1, 2, 3, 4] rfl
            exact key (most * E.1) 0 S v 0 0 _ _ _ ls (by omega) rfl hv (Nat.le_refl _) (Nat.zero_le _) (Nat.zero_le _) (fun i hi => absurd hi (Nat.not_lt_zero _)) hI hR hF hl0 h
          · skip
            exact absurd (by decide) hc9
        · skip
          refine lv_iconst (v := 2) hx hb d_R_run_24 (by decide) ?_
          refine lv_goto (tgt := 29) hx hb d_R_run_25 (by decide) ?_
          refine hp_put (ty := .int) (v := .int 2) (fs' := [.int 2, .int (nI E.1), .int (nI E.2.1), .ref (ad 101), .ref (ad 102), .ref (ad 103), .ref (ad 104), .ref (ad 105), .ref (ad 106), .ref (ad 107), .ref (ad 108), .ref (ad 109), .ref (ad 110), .ref (ad 111), .ref (ad 112), .ref (ad 113), .ref (ad 114), .ref (ad 115), .ref (ad 116), .ref (ad 117), .ref (ad 118), .ref (ad 119), .int S.2.2.2.2.1]) hx hb hg in_R t_R t_R_ok n_R hown hK h he rfl 0 (by decide) (hg _ w544) (fun _ z => z) rfl (by decide +kernel) rfl rfl (Nat.le_of_ble_eq_true rfl) rfl d_R_run_29 (fun H locs f1 hf1 h => ?_)
          have he := he.self' hf1
          refine lv_aload_n hx hb d_R_run_32 rfl (lv_at hl 0 rfl) ?_
          refine hp_get (v := .int 2) hx hb hg in_R hown hK h he rfl 0 (by decide) (hg _ w544) (fun _ z => z) rfl d_R_run_33 ?_
          have hR : kR cI cZ ad τ L f1 2 E S := hR.wO (f1 := f1) (code' := 2) (sc := S.2.2.2.2.1) hf1
          have hF : kFq τ L f (L, f1) := kFq.w hf1 (hT 100 (by omega) (by omega)) (by omega) (by omega)
          refine lv_if_le (tgt := 41) hx hb d_R_run_36 (by decide) (fun hc9 => ?_) (fun hc9 => ?_)
          · skip
            exact absurd hc9 (by decide)
          · skip
            refine lv_iconst (v := 0) hx hb d_R_run_39 (by decide) ?_
            exact hp_iret hx hb hr hlk h (Or.inr (Or.inr ⟨hnb, Or.inr (Int32.not_le.mp hc3), hR, hF⟩)) (by omega) (by omega) d_R_run_40
    · skip
      exact absurd rfl hc
  · skip
    subst hp
    refine lv_if_eq (tgt := 13) hx hb d_R_run_6 (by decide) (fun hc => ?_) (fun hc => ?_)
    · skip
      exact absurd hc (by decide)
    · skip
      refine lv_iconst (v := 1) hx hb d_R_run_9 (by decide) ?_
      refine lv_goto (tgt := 29) hx hb d_R_run_10 (by decide) ?_
      refine hp_put (ty := .int) (v := .int 1) (fs' := [.int 1, .int (nI E.1), .int (nI E.2.1), .ref (ad 101), .ref (ad 102), .ref (ad 103), .ref (ad 104), .ref (ad 105), .ref (ad 106), .ref (ad 107), .ref (ad 108), .ref (ad 109), .ref (ad 110), .ref (ad 111), .ref (ad 112), .ref (ad 113), .ref (ad 114), .ref (ad 115), .ref (ad 116), .ref (ad 117), .ref (ad 118), .ref (ad 119), .int S.2.2.2.2.1]) hx hb hg in_R t_R t_R_ok n_R hown hK h he rfl 0 (by decide) (hg _ w544) (fun _ z => z) rfl (by decide +kernel) rfl rfl (Nat.le_of_ble_eq_true rfl) rfl d_R_run_29 (fun H locs f1 hf1 h => ?_)
      have he := he.self' hf1
      refine lv_aload_n hx hb d_R_run_32 rfl (lv_at hl 0 rfl) ?_
      refine hp_get (v := .int 1) hx hb hg in_R hown hK h he rfl 0 (by decide) (hg _ w544) (fun _ z => z) rfl d_R_run_33 ?_
      have hR : kR cI cZ ad τ L f1 1 E S := hR.wO (f1 := f1) (code' := 1) (sc := S.2.2.2.2.1) hf1
      have hF : kFq τ L f (L, f1) := kFq.w hf1 (hT 100 (by omega) (by omega)) (by omega) (by omega)
      refine lv_if_le (tgt := 41) hx hb d_R_run_36 (by decide) (fun hc9 => ?_) (fun hc9 => ?_)
      · skip
        exact absurd hc9 (by decide)
      · skip
        refine lv_iconst (v := 0) hx hb d_R_run_39 (by decide) ?_
        exact hp_iret hx hb hr hlk h (Or.inr (Or.inl ⟨hbad, hR, hF⟩)) (by omega) (by omega) d_R_run_40
