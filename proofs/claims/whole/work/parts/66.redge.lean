/-! The reference's edge, by program (wip/mk66.py). -/
def kBad2 (E : kE) (p q : Int32) : Prop := kBad E p ∨ kBad E q
def kNo (E : kE) (p q w : Int32) : Prop := p = q ∨ w < 1 ∨ 99 < w ∨ ∃ j, j < E.2.1 ∧ E.2.2.2.2 j = w
/-- what code is before the state is looked at -/
def kEc (E : kE) (p q w cz : Int32) : Prop := (cz = 0 ∧ ¬ kBad2 E p q ∧ ¬ kNo E p q w) ∨ (cz = 1 ∧ kBad2 E p q) ∨ (cz = 2 ∧ ¬ kBad2 E p q ∧ kNo E p q w)
theorem kBad_nI {E : kE} {v : Nat} (hn : E.1 ≤ 7) (hv : v < E.1) : ¬ kBad E (nI v) := fun z => by
  rcases z with z | z
  · exact nI_pos (by omega) z
  · exact absurd ((nI_leI (by omega) (by omega)).mp z) (by omega)
theorem kBad_not {E : kE} {w : Int32} (hn : E.1 ≤ 7) (h : ¬ kBad E w) : ∃ v, v < E.1 ∧ w = nI v := by
  obtain ⟨v, hv, hw⟩ := nI_of (x := w) (fun z => h (Or.inl z))
  subst hw
  exact ⟨v, Nat.not_le.mp (fun z => h (Or.inr (nI_le z (by omega)))), rfl⟩
/-- an edge more -/
theorem kR.edge {cI cZ : ClassId} {ad τ : Nat → Nat} {L : List Nat} {f f1 : Nat → va_E} {E : kE} {S : kS} {cz w : Int32} {a b : Nat} {ge gw gk : Nat → Int32} (h : kR cI cZ ad τ L f cz E S) (hab : a ≠ b)
    (he : hp_at L f1 (ad 100) (kro ad 0 (nI E.1) (nI (E.2.1 + 1)) S.2.2.2.2.1)) (hE : hp_at L f1 (ad 101) (kai cI 24 (upd (upd ge (2 * E.2.1) (nI a)) (2 * E.2.1 + 1) (nI b)))) (hE1 : ∀ j, j < E.2.1 → ge (2 * j) = nI (E.2.2.1 j) ∧ ge (2 * j + 1) = nI (E.2.2.2.1 j)) (hw : hp_at L f1 (ad 102) (kai cI 12 (upd gw E.2.1 w))) (hw1 : ∀ j, j < E.2.1 → gw j = E.2.2.2.2 j) (hk : hp_at L f1 (ad 103) (kai cI 24 (upd (upd gk (2 * E.2.1) 0) (2 * E.2.1 + 1) 0))) (hk1 : ∀ j, j < E.2.1 → gk (2 * j) = S.2.1 (E.2.2.1 j) j ∧ gk (2 * j + 1) = S.2.1 (E.2.2.2.1 j) j)
    (o : ∀ c e, 104 ≤ c → c < 120 → hp_at L f (ad c) e → hp_at L f1 (ad c) e) : kR cI cZ ad τ L f1 0 (k_edgeE E a b w) (k_edge E S a b) := by
  obtain ⟨h0, h1, h2, h3, h4, h5, h6, t⟩ := h
  have hm : ∀ x j, j ≠ E.2.1 → (k_edge E S a b).2.1 x j = S.2.1 x j := fun x j hj => by
    show kup (kup S.2.1 a (upd (S.2.1 a) E.2.1 0)) b (upd (kup S.2.1 a (upd (S.2.1 a) E.2.1 0) b) E.2.1 0) x j = _
    by_cases z : x = b
    · subst z
      rw [kup_self, pk_un hj]
      by_cases z2 : x = a
      · subst z2; rw [kup_self, pk_un hj]
      · rw [kup_ne _ _ z2]
    · rw [kup_ne _ _ z]
      by_cases z2 : x = a
      · subst z2; rw [kup_self, pk_un hj]
      · rw [kup_ne _ _ z2]
  have hma : (k_edge E S a b).2.1 a E.2.1 = 0 := by
    show kup (kup S.2.1 a (upd (S.2.1 a) E.2.1 0)) b _ a E.2.1 = 0
    rw [kup_ne _ _ hab, kup_self, pk_us]
  have hmb : (k_edge E S a b).2.1 b E.2.1 = 0 := by
    show kup (kup S.2.1 a (upd (S.2.1 a) E.2.1 0)) b _ b E.2.1 = 0
    rw [kup_self, pk_us]
  refine ⟨he, ⟨_, hE, fun j hj => ?_⟩, ⟨_, hw, fun j hj => ?_⟩, ⟨_, hk, fun j hj => ?_⟩, fun k' hk' => (h4 k' hk').go (fun e he => o (104 + k') e (by omega) (by omega) he), h5.go (fun e he => o 112 e (by omega) (by omega) he), h6.go (fun c e c1 c2 he => o c e (by omega) (by omega) he), t⟩
  · have hj : j < E.2.1 + 1 := hj
    show upd (upd ge (2 * E.2.1) (nI a)) (2 * E.2.1 + 1) (nI b) (2 * j) = nI (kup E.2.2.1 E.2.1 a j) ∧ upd (upd ge (2 * E.2.1) (nI a)) (2 * E.2.1 + 1) (nI b) (2 * j + 1) = nI (kup E.2.2.2.1 E.2.1 b j)
    by_cases z : j = E.2.1
    · subst z
      rw [kup_self, kup_self, pk_us, pk_un (by omega), pk_us]
      exact ⟨rfl, rfl⟩
    · rw [kup_ne _ _ z, kup_ne _ _ z, pk_un (by omega), pk_un (by omega), pk_un (by omega), pk_un (by omega)]
      exact hE1 j (by omega)
  · have hj : j < E.2.1 + 1 := hj
    show upd gw E.2.1 w j = kup E.2.2.2.2 E.2.1 w j
    by_cases z : j = E.2.1
    · subst z; rw [kup_self, pk_us]
    · rw [kup_ne _ _ z, pk_un z]; exact hw1 j (by omega)
  · have hj : j < E.2.1 + 1 := hj
    show upd (upd gk (2 * E.2.1) 0) (2 * E.2.1 + 1) 0 (2 * j) = (k_edge E S a b).2.1 (kup E.2.2.1 E.2.1 a j) j ∧ upd (upd gk (2 * E.2.1) 0) (2 * E.2.1 + 1) 0 (2 * j + 1) = (k_edge E S a b).2.1 (kup E.2.2.2.1 E.2.1 b j) j
    by_cases z : j = E.2.1
    · subst z
      rw [kup_self, kup_self, pk_us, pk_un (by omega), pk_us, hma, hmb]
      exact ⟨rfl, rfl⟩
    · rw [kup_ne _ _ z, kup_ne _ _ z, pk_un (by omega), pk_un (by omega), pk_un (by omega), pk_un (by omega), hm _ _ z, hm _ _ z]
      exact hk1 j (by omega)
set_option maxHeartbeats 4000000 in
set_option maxRecDepth 100000 in
theorem c_R_edge (l : Launch) (D : va_G) (tys : List (ClassId × FieldType)) (de : Nat) (sa : Nat → Nat) {L : List Nat} {f : Nat → va_E} {pa pb w : Int32} {ad τ : Nat → Nat} {E : kE} {S : kS} {code : Int32} {cI cZ : ClassId} (ht : tys[0]? = some (cI, .int)) (ht3 : tys[3]? = some (cZ, .boolean)) (hR : kR cI cZ ad τ L f code E S) (hn7 : E.1 ≤ 7) (hm12 : E.2.1 ≤ 12) : hp_Mi l y_R_edge (gw_ws y_R_edge b_R_edge 6 (some .int)) { frames := 1, cells := 0, slots := 0, locals := 21 } D kc tys (s_X de sa) [.ref (ad 100), .int pa, .int pb, .int w] L f (fun r u => (∃ a b, a < E.1 ∧ b < E.1 ∧ a ≠ b ∧ pa = nI a ∧ pb = nI b ∧ 1 ≤ w ∧ w ≤ 99 ∧ (∀ j, j < E.2.1 → ¬ E.2.2.2.2 j = w) ∧ (∀ i, i < E.1 → ¬ 0 < S.1 i 0) ∧ E.2.1 < 12 ∧ r = nI E.2.1 ∧ kRP cI cZ ad τ L f 0 (k_edgeE E a b w) (k_edge E S a b) u) ∨ (kBad2 E pa pb ∧ kRP cI cZ ad τ L f 1 E S u) ∨ (¬ kBad2 E pa pb ∧ kNo E pa pb w ∧ kRP cI cZ ad τ L f 2 E S u) ∨ (¬ kBad2 E pa pb ∧ ¬ kNo E pa pb w ∧ ((∃ i, i < E.1 ∧ 0 < S.1 i 0) ∨ E.2.1 = 12) ∧ kRP cI cZ ad τ L f 3 E S u)) 0 0 := by
  refine hp_ofW (Qc := fun A => va_Qi (fun r u => (∃ a b, a < E.1 ∧ b < E.1 ∧ a ≠ b ∧ pa = nI a ∧ pb = nI b ∧ 1 ≤ w ∧ w ≤ 99 ∧ (∀ j, j < E.2.1 → ¬ E.2.2.2.2 j = w) ∧ (∀ i, i < E.1 → ¬ 0 < S.1 i 0) ∧ E.2.1 < 12 ∧ r = nI E.2.1 ∧ kRP cI cZ ad τ L f 0 (k_edgeE E a b w) (k_edge E S a b) u) ∨ (kBad2 E pa pb ∧ kRP cI cZ ad τ L f 1 E S u) ∨ (¬ kBad2 E pa pb ∧ kNo E pa pb w ∧ kRP cI cZ ad τ L f 2 E S u) ∨ (¬ kBad2 E pa pb ∧ ¬ kNo E pa pb w ∧ ((∃ i, i < E.1 ∧ 0 < S.1 i 0) ∨ E.2.1 = 12) ∧ kRP cI cZ ad τ L f 3 E S u)) (hp_B D kc A) A) (fr := fun A => A) (ret := (some .int)) (by decide) rfl (Nat.le_of_ble_eq_true rfl) ?_
  intro p e s m below meth c ls A hx hb hml hr hts hown hlk hnm hl hK hX h
  have hg : ∀ w ∈ gw, w.before _ s = true := fun w hw => hts w (List.mem_cons_of_mem _ hw)
  have hown : s.vm.findClass "MergingFragmentsModel" = some m.cls := hown
  have hnm : meth.name = "edge" := hnm
  have hl : lv_has ls 6 [(0, .ref (ad 100)), (1, .int pa), (2, .int pb), (3, .int w)] := hl
  have hT := hR.2.2.2.2.2.2.2
  have tail : ∀ (cz : Int32) (fk : Nat → va_E) (H : Heap) (locs : List Loc) (ls : Array Slot), kEc E pa pb w cz → kR cI cZ ad τ L fk cz E S → kFq τ L f (L, fk) → lv_has ls 6 [(0, .ref (ad 100)), (1, .int pa), (2, .int pb), (3, .int w)] → hp_W D kc A s.heap L fk H locs → W p l e { frames := 1, cells := 0, slots := 0, locals := 21 } s m ([.ref (ad 100), .int pa, .int pb, .int w] : List Value).toArray below meth c H locs 0 0 (MQ below (va_Qi (fun r u => (∃ a b, a < E.1 ∧ b < E.1 ∧ a ≠ b ∧ pa = nI a ∧ pb = nI b ∧ 1 ≤ w ∧ w ≤ 99 ∧ (∀ j, j < E.2.1 → ¬ E.2.2.2.2 j = w) ∧ (∀ i, i < E.1 → ¬ 0 < S.1 i 0) ∧ E.2.1 < 12 ∧ r = nI E.2.1 ∧ kRP cI cZ ad τ L f 0 (k_edgeE E a b w) (k_edge E S a b) u) ∨ (kBad2 E pa pb ∧ kRP cI cZ ad τ L f 1 E S u) ∨ (¬ kBad2 E pa pb ∧ kNo E pa pb w ∧ kRP cI cZ ad τ L f 2 E S u) ∨ (¬ kBad2 E pa pb ∧ ¬ kNo E pa pb w ∧ ((∃ i, i < E.1 ∧ 0 < S.1 i 0) ∨ E.2.1 = 12) ∧ kRP cI cZ ad τ L f 3 E S u)) (hp_B D kc A) A) ([.ref (ad 100), .int pa, .int pb, .int w] : List Value).toArray s 0 0 A) (F0 m 90 ls []) := by
    intro cz fk H locs ls hEc hR hF hl h
    have he := hR.1
    obtain ⟨gf0, hf0_, hf01⟩ := hR.2.2.2.2.1 0 (by decide)
    refine lv_iconst (v := 0) hx hb d_R_edge_90 (by decide) ?_
    refine lv_istore (lv' := [(4, .int 0), (0, .ref (ad 100)), (1, .int pa), (2, .int pb), (3, .int w)]) hx hb d_R_edge_91 hl (by decide) rfl (fun ls hl => ?_)
    refine lv_iconst (v := 0) hx hb d_R_edge_93 (by decide) ?_
    refine lv_istore (lv' := [(5, .int 0), (4, .int 0), (0, .ref (ad 100)), (1, .int pa), (2, .int pb), (3, .int w)]) hx hb d_R_edge_94 hl (by decide) rfl (fun ls hl => ?_)
    have key : ∀ (d k : Nat) (aw : Int32) (ls : Array Slot), k + d = E.1 → ((aw = 0 ∧ ∀ i, i < k → ¬ 0 < S.1 i 0) ∨ (aw = 1 ∧ ∃ i, i < k ∧ 0 < S.1 i 0)) → lv_has ls 6 [(5, .int (nI k)), (4, .int aw), (0, .ref (ad 100)), (1, .int pa), (2, .int pb), (3, .int w)] → W p l e { frames := 1, cells := 0, slots := 0, locals := 21 } s m ([.ref (ad 100), .int pa, .int pb, .int w] : List Value).toArray below meth c H locs 0 0 (MQ below (va_Qi (fun r u => (∃ a b, a < E.1 ∧ b < E.1 ∧ a ≠ b ∧ pa = nI a ∧ pb = nI b ∧ 1 ≤ w ∧ w ≤ 99 ∧ (∀ j, j < E.2.1 → ¬ E.2.2.2.2 j = w) ∧ (∀ i, i < E.1 → ¬ 0 < S.1 i 0) ∧ E.2.1 < 12 ∧ r = nI E.2.1 ∧ kRP cI cZ ad τ L f 0 (k_edgeE E a b w) (k_edge E S a b) u) ∨ (kBad2 E pa pb ∧ kRP cI cZ ad τ L f 1 E S u) ∨ (¬ kBad2 E pa pb ∧ kNo E pa pb w ∧ kRP cI cZ ad τ L f 2 E S u) ∨ (¬ kBad2 E pa pb ∧ ¬ kNo E pa pb w ∧ ((∃ i, i < E.1 ∧ 0 < S.1 i 0) ∨ E.2.1 = 12) ∧ kRP cI cZ ad τ L f 3 E S u)) (hp_B D kc A) A) ([.ref (ad 100), .int pa, .int pb, .int w] : List Value).toArray s 0 0 A) (F0 m 96 ls []) := by
      intro d
      induction d with
      | zero =>
        intro k aw ls hkd haw hl
        refine lv_iload hx hb d_R_edge_96 (lv_at hl 0 rfl) ?_
        refine lv_aload_n hx hb d_R_edge_98 rfl (lv_at hl 2 rfl) ?_
        refine hp_get (v := .int (nI E.1)) hx hb hg in_R hown hK h he rfl 1 (by decide) (hg _ w545) (fun _ z => z) rfl d_R_edge_99 ?_
        refine lv_icmp_ge (tgt := 133) hx hb d_R_edge_102 (by decide) (fun hc => ?_) (fun hc => ?_)
        · skip
          have hkm : k = E.1 := by omega
          rw [hkm] at haw
          refine lv_aload_n hx hb d_R_edge_133 rfl (lv_at hl 2 rfl) ?_
          refine hp_get (v := .int cz) hx hb hg in_R hown hK h he rfl 0 (by decide) (hg _ w544) (fun _ z => z) rfl d_R_edge_134 ?_
          refine lv_if_ne (tgt := 159) hx hb d_R_edge_137 (by decide) (fun hc6 => ?_) (fun hc6 => ?_)
          · skip
            refine lv_aload_n hx hb d_R_edge_159 rfl (lv_at hl 2 rfl) ?_
            refine hp_get (v := .int cz) hx hb hg in_R hown hK h he rfl 0 (by decide) (hg _ w544) (fun _ z => z) rfl d_R_edge_160 ?_
            refine lv_if_le (tgt := 168) hx hb d_R_edge_163 (by decide) (fun hc9 => ?_) (fun hc9 => ?_)
            · skip
              exact absurd hc9 (by rcases hEc with z | z | z; exact absurd z.1 hc6; rw [z.1]; decide; rw [z.1]; decide)
            · skip
              refine lv_iconst (v := 0) hx hb d_R_edge_166 (by decide) ?_
              exact hp_iret hx hb hr hlk h (by rcases hEc with z | z | z; exact absurd z.1 hc6; rw [z.1] at hR; exact Or.inr (Or.inl ⟨z.2, hR, hF⟩); rw [z.1] at hR; exact Or.inr (Or.inr (Or.inl ⟨z.2.1, z.2.2, hR, hF⟩))) (by omega) (by omega) d_R_edge_167
          · skip
            have hok : ¬ kBad2 E pa pb ∧ ¬ kNo E pa pb w := by rcases hEc with z | z | z; exact z.2; exact absurd (z.1.symm.trans hc6) (by decide); exact absurd (z.1.symm.trans hc6) (by decide)
            refine lv_iload hx hb d_R_edge_140 (lv_at hl 1 rfl) ?_
            refine lv_if_ne (tgt := 154) hx hb d_R_edge_142 (by decide) (fun hc7 => ?_) (fun hc7 => ?_)
            · skip
              have hsa : ∃ i, i < E.1 ∧ 0 < S.1 i 0 := by rcases haw with z | z; exact absurd z.1 hc7; exact z.2
              refine lv_aload_n hx hb d_R_edge_154 rfl (lv_at hl 2 rfl) ?_
              refine lv_iconst (v := 3) hx hb d_R_edge_155 (by decide) ?_
              refine hp_put (ty := .int) (v := .int 3) (fs' := [.int 3, .int (nI E.1), .int (nI E.2.1), .ref (ad 101), .ref (ad 102), .ref (ad 103), .ref (ad 104), .ref (ad 105), .ref (ad 106), .ref (ad 107), .ref (ad 108), .ref (ad 109), .ref (ad 110), .ref (ad 111), .ref (ad 112), .ref (ad 113), .ref (ad 114), .ref (ad 115), .ref (ad 116), .ref (ad 117), .ref (ad 118), .ref (ad 119), .int S.2.2.2.2.1]) hx hb hg in_R t_R t_R_ok n_R hown hK h he rfl 0 (by decide) (hg _ w544) (fun _ z => z) rfl (by decide +kernel) rfl rfl (Nat.le_of_ble_eq_true rfl) rfl d_R_edge_156 (fun H locs f31 hf31 h => ?_)
              have he := he.self' hf31
              have hf0_ := hf0_.ne' hf31 (kne (hT 104 (by omega) (by omega)) (hT 100 (by omega) (by omega)) (by decide))
              have hR : kR cI cZ ad τ L f31 3 E S := hR.wO (f1 := f31) (code' := 3) (sc := S.2.2.2.2.1) hf31
              have hF := hF.trans (kFq.w (L := L) hf31 (hT 100 (by omega) (by omega)) (by omega) (by omega))
              refine lv_aload_n hx hb d_R_edge_159 rfl (lv_at hl 2 rfl) ?_
              refine hp_get (v := .int 3) hx hb hg in_R hown hK h he rfl 0 (by decide) (hg _ w544) (fun _ z => z) rfl d_R_edge_160 ?_
              refine lv_if_le (tgt := 168) hx hb d_R_edge_163 (by decide) (fun hc9 => ?_) (fun hc9 => ?_)
              · skip
                exact absurd hc9 (by decide)
              · skip
                refine lv_iconst (v := 0) hx hb d_R_edge_166 (by decide) ?_
                exact hp_iret hx hb hr hlk h (Or.inr (Or.inr (Or.inr ⟨hok.1, hok.2, Or.inl hsa, hR, hF⟩))) (by omega) (by omega) d_R_edge_167
            · skip
              have hna : ∀ i, i < E.1 → ¬ 0 < S.1 i 0 := by rcases haw with z | z; exact z.2; exact absurd (z.1.symm.trans (by first | exact hc7 | exact Decidable.not_not.mp hc7)) (by decide)
              refine lv_aload_n hx hb d_R_edge_145 rfl (lv_at hl 2 rfl) ?_
              refine hp_get (v := .int (nI E.2.1)) hx hb hg in_R hown hK h he rfl 2 (by decide) (hg _ w546) (fun _ z => z) rfl d_R_edge_146 ?_
              refine lv_bipush (v := 12) hx hb d_R_edge_149 (by decide) ?_
              refine lv_icmp_ne (tgt := 159) hx hb d_R_edge_151 (by decide) (fun hc8 => ?_) (fun hc8 => ?_)
              · skip
                have hm : E.2.1 < 12 := by rcases Nat.lt_or_ge E.2.1 12 with z | z; exact z; exact absurd (show nI E.2.1 = 12 by rw [show E.2.1 = 12 by omega]; rfl) hc8
                obtain ⟨a, ha, hpa⟩ := kBad_not hn7 (fun z => hok.1 (Or.inl z))
                obtain ⟨b, hb9, hpb⟩ := kBad_not hn7 (fun z => hok.1 (Or.inr z))
                refine lv_aload_n hx hb d_R_edge_159 rfl (lv_at hl 2 rfl) ?_
                refine hp_get (v := .int cz) hx hb hg in_R hown hK h he rfl 0 (by decide) (hg _ w544) (fun _ z => z) rfl d_R_edge_160 ?_
                refine lv_if_le (tgt := 168) hx hb d_R_edge_163 (by decide) (fun hc9 => ?_) (fun hc9 => ?_)
                · skip
                  rw [hc6] at hR
                  have he := hR.1
                  obtain ⟨ge, hE, hE1⟩ := hR.2.1
                  obtain ⟨gw, hw, hw1⟩ := hR.2.2.1
                  obtain ⟨gk, hk, hk1⟩ := hR.2.2.2.1
                  have hR9 := hR
                  refine lv_aload_n hx hb d_R_edge_168 rfl (lv_at hl 2 rfl) ?_
                  refine hp_get (v := .ref (ad 101)) hx hb hg in_R hown hK h he rfl 3 (by decide) (hg _ w547) (fun _ z => z) rfl d_R_edge_169 ?_
                  refine lv_iconst (v := 2) hx hb d_R_edge_172 (by decide) ?_
                  refine lv_aload_n hx hb d_R_edge_173 rfl (lv_at hl 2 rfl) ?_
                  refine hp_get (v := .int (nI E.2.1)) hx hb hg in_R hown hK h he rfl 2 (by decide) (hg _ w546) (fun _ z => z) rfl d_R_edge_174 ?_
                  refine lv_imul hx hb d_R_edge_177 ?_
                  rw [show (2 : Int32) * nI E.2.1 = nI (2 * E.2.1) from pk_mul 2 E.2.1]
                  refine lv_iload_n hx hb d_R_edge_178 rfl (lv_at hl 3 rfl) ?_
                  refine hp_iast hx hb hK h 0 hE ht rfl (by omega) (by decide) d_R_edge_179 (fun H locs f31 hf31 h => ?_)
                  have he := he.ne' hf31 (kne (hT 100 (by omega) (by omega)) (hT 101 (by omega) (by omega)) (by decide))
                  have hE := hE.self' hf31
                  have hw := hw.ne' hf31 (kne (hT 102 (by omega) (by omega)) (hT 101 (by omega) (by omega)) (by decide))
                  have hk := hk.ne' hf31 (kne (hT 103 (by omega) (by omega)) (hT 101 (by omega) (by omega)) (by decide))
                  refine lv_aload_n hx hb d_R_edge_180 rfl (lv_at hl 2 rfl) ?_
                  refine hp_get (v := .ref (ad 101)) hx hb hg in_R hown hK h he rfl 3 (by decide) (hg _ w547) (fun _ z => z) rfl d_R_edge_181 ?_
                  refine lv_iconst (v := 2) hx hb d_R_edge_184 (by decide) ?_
                  refine lv_aload_n hx hb d_R_edge_185 rfl (lv_at hl 2 rfl) ?_
                  refine hp_get (v := .int (nI E.2.1)) hx hb hg in_R hown hK h he rfl 2 (by decide) (hg _ w546) (fun _ z => z) rfl d_R_edge_186 ?_
                  refine lv_imul hx hb d_R_edge_189 ?_
                  rw [show (2 : Int32) * nI E.2.1 = nI (2 * E.2.1) from pk_mul 2 E.2.1]
                  refine lv_iconst (v := 1) hx hb d_R_edge_190 (by decide) ?_
                  refine lv_iadd hx hb d_R_edge_191 ?_
                  rw [nI_1]
                  refine lv_iload_n hx hb d_R_edge_192 rfl (lv_at hl 4 rfl) ?_
                  refine hp_iast hx hb hK h 0 hE ht rfl (by omega) (by decide) d_R_edge_193 (fun H locs f32 hf32 h => ?_)
                  have he := he.ne' hf32 (kne (hT 100 (by omega) (by omega)) (hT 101 (by omega) (by omega)) (by decide))
                  have hE := hE.self' hf32
                  have hw := hw.ne' hf32 (kne (hT 102 (by omega) (by omega)) (hT 101 (by omega) (by omega)) (by decide))
                  have hk := hk.ne' hf32 (kne (hT 103 (by omega) (by omega)) (hT 101 (by omega) (by omega)) (by decide))
                  refine lv_aload_n hx hb d_R_edge_194 rfl (lv_at hl 2 rfl) ?_
                  refine hp_get (v := .ref (ad 102)) hx hb hg in_R hown hK h he rfl 4 (by decide) (hg _ w548) (fun _ z => z) rfl d_R_edge_195 ?_
                  refine lv_aload_n hx hb d_R_edge_198 rfl (lv_at hl 2 rfl) ?_
                  refine hp_get (v := .int (nI E.2.1)) hx hb hg in_R hown hK h he rfl 2 (by decide) (hg _ w546) (fun _ z => z) rfl d_R_edge_199 ?_
                  refine lv_iload_n hx hb d_R_edge_202 rfl (lv_at hl 5 rfl) ?_
                  refine hp_iast hx hb hK h 0 hw ht rfl (by omega) (by decide) d_R_edge_203 (fun H locs f33 hf33 h => ?_)
                  have he := he.ne' hf33 (kne (hT 100 (by omega) (by omega)) (hT 102 (by omega) (by omega)) (by decide))
                  have hE := hE.ne' hf33 (kne (hT 101 (by omega) (by omega)) (hT 102 (by omega) (by omega)) (by decide))
                  have hw := hw.self' hf33
                  have hk := hk.ne' hf33 (kne (hT 103 (by omega) (by omega)) (hT 102 (by omega) (by omega)) (by decide))
                  refine lv_aload_n hx hb d_R_edge_204 rfl (lv_at hl 2 rfl) ?_
                  refine hp_get (v := .ref (ad 103)) hx hb hg in_R hown hK h he rfl 5 (by decide) (hg _ w549) (fun _ z => z) rfl d_R_edge_205 ?_
                  refine lv_iconst (v := 2) hx hb d_R_edge_208 (by decide) ?_
                  refine lv_aload_n hx hb d_R_edge_209 rfl (lv_at hl 2 rfl) ?_
                  refine hp_get (v := .int (nI E.2.1)) hx hb hg in_R hown hK h he rfl 2 (by decide) (hg _ w546) (fun _ z => z) rfl d_R_edge_210 ?_
                  refine lv_imul hx hb d_R_edge_213 ?_
                  rw [show (2 : Int32) * nI E.2.1 = nI (2 * E.2.1) from pk_mul 2 E.2.1]
                  refine lv_iconst (v := 0) hx hb d_R_edge_214 (by decide) ?_
                  refine hp_iast hx hb hK h 0 hk ht rfl (by omega) (by decide) d_R_edge_215 (fun H locs f34 hf34 h => ?_)
                  have he := he.ne' hf34 (kne (hT 100 (by omega) (by omega)) (hT 103 (by omega) (by omega)) (by decide))
                  have hE := hE.ne' hf34 (kne (hT 101 (by omega) (by omega)) (hT 103 (by omega) (by omega)) (by decide))
                  have hw := hw.ne' hf34 (kne (hT 102 (by omega) (by omega)) (hT 103 (by omega) (by omega)) (by decide))
                  have hk := hk.self' hf34
                  refine lv_aload_n hx hb d_R_edge_216 rfl (lv_at hl 2 rfl) ?_
                  refine hp_get (v := .ref (ad 103)) hx hb hg in_R hown hK h he rfl 5 (by decide) (hg _ w549) (fun _ z => z) rfl d_R_edge_217 ?_
                  refine lv_iconst (v := 2) hx hb d_R_edge_220 (by decide) ?_
                  refine lv_aload_n hx hb d_R_edge_221 rfl (lv_at hl 2 rfl) ?_
                  refine hp_get (v := .int (nI E.2.1)) hx hb hg in_R hown hK h he rfl 2 (by decide) (hg _ w546) (fun _ z => z) rfl d_R_edge_222 ?_
                  refine lv_imul hx hb d_R_edge_225 ?_
                  rw [show (2 : Int32) * nI E.2.1 = nI (2 * E.2.1) from pk_mul 2 E.2.1]
                  refine lv_iconst (v := 1) hx hb d_R_edge_226 (by decide) ?_
                  refine lv_iadd hx hb d_R_edge_227 ?_
                  rw [nI_1]
                  refine lv_iconst (v := 0) hx hb d_R_edge_228 (by decide) ?_
                  refine hp_iast hx hb hK h 0 hk ht rfl (by omega) (by decide) d_R_edge_229 (fun H locs f35 hf35 h => ?_)
                  have he := he.ne' hf35 (kne (hT 100 (by omega) (by omega)) (hT 103 (by omega) (by omega)) (by decide))
                  have hE := hE.ne' hf35 (kne (hT 101 (by omega) (by omega)) (hT 103 (by omega) (by omega)) (by decide))
                  have hw := hw.ne' hf35 (kne (hT 102 (by omega) (by omega)) (hT 103 (by omega) (by omega)) (by decide))
                  have hk := hk.self' hf35
                  refine lv_aload_n hx hb d_R_edge_230 rfl (lv_at hl 2 rfl) ?_
                  refine lv_dup hx hb d_R_edge_231 rfl ?_
                  refine hp_get (v := .int (nI E.2.1)) hx hb hg in_R hown hK h he rfl 2 (by decide) (hg _ w546) (fun _ z => z) rfl d_R_edge_232 ?_
                  refine lv_iconst (v := 1) hx hb d_R_edge_235 (by decide) ?_
                  refine lv_iadd hx hb d_R_edge_236 ?_
                  rw [nI_1]
                  refine hp_put (ty := .int) (v := .int (nI (E.2.1 + 1))) (fs' := [.int 0, .int (nI E.1), .int (nI (E.2.1 + 1)), .ref (ad 101), .ref (ad 102), .ref (ad 103), .ref (ad 104), .ref (ad 105), .ref (ad 106), .ref (ad 107), .ref (ad 108), .ref (ad 109), .ref (ad 110), .ref (ad 111), .ref (ad 112), .ref (ad 113), .ref (ad 114), .ref (ad 115), .ref (ad 116), .ref (ad 117), .ref (ad 118), .ref (ad 119), .int S.2.2.2.2.1]) hx hb hg in_R t_R t_R_ok n_R hown hK h he rfl 2 (by decide) (hg _ w546) (fun _ z => z) rfl (by decide +kernel) rfl rfl (Nat.le_of_ble_eq_true rfl) rfl d_R_edge_237 (fun H locs f36 hf36 h => ?_)
                  have he := he.self' hf36
                  have hE := hE.ne' hf36 (kne (hT 101 (by omega) (by omega)) (hT 100 (by omega) (by omega)) (by decide))
                  have hw := hw.ne' hf36 (kne (hT 102 (by omega) (by omega)) (hT 100 (by omega) (by omega)) (by decide))
                  have hk := hk.ne' hf36 (kne (hT 103 (by omega) (by omega)) (hT 100 (by omega) (by omega)) (by decide))
                  have o : ∀ c e, 104 ≤ c → c < 120 → hp_at L fk (ad c) e → hp_at L f36 (ad c) e := fun c e c1 c2 he => by
                    have he := he.tag hf31 (hT 101 (by omega) (by omega)) (by rw [hT c (by omega) c2]; omega)
                    have he := he.tag hf32 (hT 101 (by omega) (by omega)) (by rw [hT c (by omega) c2]; omega)
                    have he := he.tag hf33 (hT 102 (by omega) (by omega)) (by rw [hT c (by omega) c2]; omega)
                    have he := he.tag hf34 (hT 103 (by omega) (by omega)) (by rw [hT c (by omega) c2]; omega)
                    have he := he.tag hf35 (hT 103 (by omega) (by omega)) (by rw [hT c (by omega) c2]; omega)
                    have he := he.tag hf36 (hT 100 (by omega) (by omega)) (by rw [hT c (by omega) c2]; omega)
                    exact he
                  have hF := hF.trans (kFq.w (L := L) hf31 (hT 101 (by omega) (by omega)) (by omega) (by omega))
                  have hF := hF.trans (kFq.w (L := L) hf32 (hT 101 (by omega) (by omega)) (by omega) (by omega))
                  have hF := hF.trans (kFq.w (L := L) hf33 (hT 102 (by omega) (by omega)) (by omega) (by omega))
                  have hF := hF.trans (kFq.w (L := L) hf34 (hT 103 (by omega) (by omega)) (by omega) (by omega))
                  have hF := hF.trans (kFq.w (L := L) hf35 (hT 103 (by omega) (by omega)) (by omega) (by omega))
                  have hF := hF.trans (kFq.w (L := L) hf36 (hT 100 (by omega) (by omega)) (by omega) (by omega))
                  rw [hpa, hpb] at hE
                  have hab : a ≠ b := fun z => hok.2 (Or.inl (by rw [hpa, hpb, z]))
                  have hR2 := hR9.edge (f1 := f36) (a := a) (b := b) (w := w) hab he hE hE1 hw hw1 hk hk1 o
                  refine lv_aload_n hx hb d_R_edge_240 rfl (lv_at hl 2 rfl) ?_
                  refine hp_get (v := .int (nI (E.2.1 + 1))) hx hb hg in_R hown hK h he rfl 2 (by decide) (hg _ w546) (fun _ z => z) rfl d_R_edge_241 ?_
                  refine lv_iconst (v := 1) hx hb d_R_edge_244 (by decide) ?_
                  refine lv_isub hx hb d_R_edge_245 ?_
                  rw [nI_pred]
                  exact hp_iret hx hb hr hlk h (Or.inl ⟨a, b, ha, hb9, hab, hpa, hpb, Int32.not_lt.mp (fun z => hok.2 (Or.inr (Or.inl z))), Int32.not_lt.mp (fun z => hok.2 (Or.inr (Or.inr (Or.inl z)))), fun j hj z => hok.2 (Or.inr (Or.inr (Or.inr ⟨j, hj, z⟩))), hna, hm, rfl, hR2, hF⟩) (by omega) (by omega) d_R_edge_246
                · skip
                  exact absurd (by rw [hc6]; decide) hc9
              · skip
                have hm12' : E.2.1 = 12 := (nI_eq (b := 12) (by omega) (by omega)).mp hc8
                refine lv_aload_n hx hb d_R_edge_154 rfl (lv_at hl 2 rfl) ?_
                refine lv_iconst (v := 3) hx hb d_R_edge_155 (by decide) ?_
                refine hp_put (ty := .int) (v := .int 3) (fs' := [.int 3, .int (nI E.1), .int (nI E.2.1), .ref (ad 101), .ref (ad 102), .ref (ad 103), .ref (ad 104), .ref (ad 105), .ref (ad 106), .ref (ad 107), .ref (ad 108), .ref (ad 109), .ref (ad 110), .ref (ad 111), .ref (ad 112), .ref (ad 113), .ref (ad 114), .ref (ad 115), .ref (ad 116), .ref (ad 117), .ref (ad 118), .ref (ad 119), .int S.2.2.2.2.1]) hx hb hg in_R t_R t_R_ok n_R hown hK h he rfl 0 (by decide) (hg _ w544) (fun _ z => z) rfl (by decide +kernel) rfl rfl (Nat.le_of_ble_eq_true rfl) rfl d_R_edge_156 (fun H locs f31 hf31 h => ?_)
                have he := he.self' hf31
                have hf0_ := hf0_.ne' hf31 (kne (hT 104 (by omega) (by omega)) (hT 100 (by omega) (by omega)) (by decide))
                have hR : kR cI cZ ad τ L f31 3 E S := hR.wO (f1 := f31) (code' := 3) (sc := S.2.2.2.2.1) hf31
                have hF := hF.trans (kFq.w (L := L) hf31 (hT 100 (by omega) (by omega)) (by omega) (by omega))
                refine lv_aload_n hx hb d_R_edge_159 rfl (lv_at hl 2 rfl) ?_
                refine hp_get (v := .int 3) hx hb hg in_R hown hK h he rfl 0 (by decide) (hg _ w544) (fun _ z => z) rfl d_R_edge_160 ?_
                refine lv_if_le (tgt := 168) hx hb d_R_edge_163 (by decide) (fun hc9 => ?_) (fun hc9 => ?_)
                · skip
                  exact absurd hc9 (by decide)
                · skip
                  refine lv_iconst (v := 0) hx hb d_R_edge_166 (by decide) ?_
                  exact hp_iret hx hb hr hlk h (Or.inr (Or.inr (Or.inr ⟨hok.1, hok.2, Or.inr hm12', hR, hF⟩))) (by omega) (by omega) d_R_edge_167
        · skip
          exact absurd (nI_le (by omega) (by omega)) hc
      | succ d ih =>
        intro k aw ls hkd haw hl
        refine lv_iload hx hb d_R_edge_96 (lv_at hl 0 rfl) ?_
        refine lv_aload_n hx hb d_R_edge_98 rfl (lv_at hl 2 rfl) ?_
        refine hp_get (v := .int (nI E.1)) hx hb hg in_R hown hK h he rfl 1 (by decide) (hg _ w545) (fun _ z => z) rfl d_R_edge_99 ?_
        refine lv_icmp_ge (tgt := 133) hx hb d_R_edge_102 (by decide) (fun hc => ?_) (fun hc => ?_)
        · skip
          exact absurd hc (nI_ge (by omega) (by omega))
        · skip
          have hk9 : k < E.1 := by omega
          refine lv_iload hx hb d_R_edge_105 (lv_at hl 1 rfl) ?_
          refine lv_if_ne (tgt := 120) hx hb d_R_edge_107 (by decide) (fun hc2 => ?_) (fun hc2 => ?_)
          · skip
            have hs : ∃ i, i < k + 1 ∧ 0 < S.1 i 0 := by rcases haw with z | ⟨-, i, hi, z⟩; exact absurd z.1 hc2; exact ⟨i, by omega, z⟩
            refine lv_iconst (v := 1) hx hb d_R_edge_120 (by decide) ?_
            refine lv_goto (tgt := 125) hx hb d_R_edge_121 (by decide) ?_
            refine lv_istore (lv' := [(4, .int 1), (5, .int (nI k)), (0, .ref (ad 100)), (1, .int pa), (2, .int pb), (3, .int w)]) hx hb d_R_edge_125 hl (by decide) rfl (fun ls hl => ?_)
            refine lv_iinc (k := 1) (v := (nI (k + 1))) (lv' := [(5, .int (nI (k + 1))), (4, .int 1), (0, .ref (ad 100)), (1, .int pa), (2, .int pb), (3, .int w)]) hx hb d_R_edge_127 hl rfl (hp_inc k 1) (by decide) rfl (fun ls hl => ?_)
            refine lv_goto (tgt := 96) hx hb d_R_edge_130 (by decide) ?_
            exact ih (k + 1) 1 ls (by omega) (Or.inr ⟨rfl, hs⟩) (lv_sub hl [0, 1, 2, 3, 4, 5] rfl)
          · skip
            refine lv_aload_n hx hb d_R_edge_110 rfl (lv_at hl 2 rfl) ?_
            refine hp_get (v := .ref (ad 104)) hx hb hg in_R hown hK h he rfl 6 (by decide) (hg _ w550) (fun _ z => z) rfl d_R_edge_111 ?_
            refine lv_iload hx hb d_R_edge_114 (lv_at hl 0 rfl) ?_
            refine hp_iald hx hb hK h 0 hf0_ ht rfl (by omega) (by decide) d_R_edge_116 ?_
            rw [show gf0 k = S.1 k 0 from hf01 k hk9]
            refine lv_if_le (tgt := 124) hx hb d_R_edge_117 (by decide) (fun hc3 => ?_) (fun hc3 => ?_)
            · skip
              have hs : ∀ i, i < k + 1 → ¬ 0 < S.1 i 0 := by rcases haw with z | z; intro i hi; rcases (show i < k ∨ i = k by omega) with y | y; exact z.2 i y; rw [y]; exact Int32.not_lt.mpr hc3; exact absurd (z.1.symm.trans (by first | exact hc2 | exact Decidable.not_not.mp hc2)) (by decide)
              refine lv_iconst (v := 0) hx hb d_R_edge_124 (by decide) ?_
              refine lv_istore (lv' := [(4, .int 0), (5, .int (nI k)), (0, .ref (ad 100)), (1, .int pa), (2, .int pb), (3, .int w)]) hx hb d_R_edge_125 hl (by decide) rfl (fun ls hl => ?_)
              refine lv_iinc (k := 1) (v := (nI (k + 1))) (lv' := [(5, .int (nI (k + 1))), (4, .int 0), (0, .ref (ad 100)), (1, .int pa), (2, .int pb), (3, .int w)]) hx hb d_R_edge_127 hl rfl (hp_inc k 1) (by decide) rfl (fun ls hl => ?_)
              refine lv_goto (tgt := 96) hx hb d_R_edge_130 (by decide) ?_
              exact ih (k + 1) 0 ls (by omega) (Or.inl ⟨rfl, hs⟩) (lv_sub hl [0, 1, 2, 3, 4, 5] rfl)
            · skip
              have hs : ∃ i, i < k + 1 ∧ 0 < S.1 i 0 := ⟨k, by omega, Int32.not_le.mp hc3⟩
              refine lv_iconst (v := 1) hx hb d_R_edge_120 (by decide) ?_
              refine lv_goto (tgt := 125) hx hb d_R_edge_121 (by decide) ?_
              refine lv_istore (lv' := [(4, .int 1), (5, .int (nI k)), (0, .ref (ad 100)), (1, .int pa), (2, .int pb), (3, .int w)]) hx hb d_R_edge_125 hl (by decide) rfl (fun ls hl => ?_)
              refine lv_iinc (k := 1) (v := (nI (k + 1))) (lv' := [(5, .int (nI (k + 1))), (4, .int 1), (0, .ref (ad 100)), (1, .int pa), (2, .int pb), (3, .int w)]) hx hb d_R_edge_127 hl rfl (hp_inc k 1) (by decide) rfl (fun ls hl => ?_)
              refine lv_goto (tgt := 96) hx hb d_R_edge_130 (by decide) ?_
              exact ih (k + 1) 1 ls (by omega) (Or.inr ⟨rfl, hs⟩) (lv_sub hl [0, 1, 2, 3, 4, 5] rfl)
    have hl0 : lv_has ls 6 [(5, .int (nI 0)), (4, .int 0), (0, .ref (ad 100)), (1, .int pa), (2, .int pb), (3, .int w)] := by rw [nI_0]; exact lv_sub hl [0, 1, 2, 3, 4, 5] rfl
    exact key E.1 0 0 ls (by omega) (Or.inl ⟨rfl, fun i hi => absurd hi (Nat.not_lt_zero _)⟩) hl0
  have mid : ∀ (cz : Int32) (fk : Nat → va_E) (H : Heap) (locs : List Loc) (ls : Array Slot), ((cz = 0 ∧ ¬ kBad2 E pa pb ∧ ¬ (pa = pb ∨ w < 1 ∨ 99 < w)) ∨ (cz = 1 ∧ kBad2 E pa pb) ∨ (cz = 2 ∧ ¬ kBad2 E pa pb ∧ (pa = pb ∨ w < 1 ∨ 99 < w))) → kR cI cZ ad τ L fk cz E S → kFq τ L f (L, fk) → lv_has ls 6 [(0, .ref (ad 100)), (1, .int pa), (2, .int pb), (3, .int w)] → hp_W D kc A s.heap L fk H locs → W p l e { frames := 1, cells := 0, slots := 0, locals := 21 } s m ([.ref (ad 100), .int pa, .int pb, .int w] : List Value).toArray below meth c H locs 0 0 (MQ below (va_Qi (fun r u => (∃ a b, a < E.1 ∧ b < E.1 ∧ a ≠ b ∧ pa = nI a ∧ pb = nI b ∧ 1 ≤ w ∧ w ≤ 99 ∧ (∀ j, j < E.2.1 → ¬ E.2.2.2.2 j = w) ∧ (∀ i, i < E.1 → ¬ 0 < S.1 i 0) ∧ E.2.1 < 12 ∧ r = nI E.2.1 ∧ kRP cI cZ ad τ L f 0 (k_edgeE E a b w) (k_edge E S a b) u) ∨ (kBad2 E pa pb ∧ kRP cI cZ ad τ L f 1 E S u) ∨ (¬ kBad2 E pa pb ∧ kNo E pa pb w ∧ kRP cI cZ ad τ L f 2 E S u) ∨ (¬ kBad2 E pa pb ∧ ¬ kNo E pa pb w ∧ ((∃ i, i < E.1 ∧ 0 < S.1 i 0) ∨ E.2.1 = 12) ∧ kRP cI cZ ad τ L f 3 E S u)) (hp_B D kc A) A) ([.ref (ad 100), .int pa, .int pb, .int w] : List Value).toArray s 0 0 A) (F0 m 45 ls []) := by
    intro cz fk H locs ls hcz hR hF hl h
    refine lv_iconst (v := 0) hx hb d_R_edge_45 (by decide) ?_
    refine lv_istore (lv' := [(4, .int 0), (0, .ref (ad 100)), (1, .int pa), (2, .int pb), (3, .int w)]) hx hb d_R_edge_46 hl (by decide) rfl (fun ls hl => ?_)
    have key : ∀ (d k : Nat) (cz : Int32) (fk : Nat → va_E) (H : Heap) (locs : List Loc) (ls : Array Slot), k + d = E.2.1 → ((cz = 0 ∧ ¬ kBad2 E pa pb ∧ ¬ (pa = pb ∨ w < 1 ∨ 99 < w) ∧ ∀ j, j < k → ¬ E.2.2.2.2 j = w) ∨ (¬ cz = 0 ∧ kEc E pa pb w cz)) → kR cI cZ ad τ L fk cz E S → kFq τ L f (L, fk) → lv_has ls 6 [(4, .int (nI k)), (0, .ref (ad 100)), (1, .int pa), (2, .int pb), (3, .int w)] → hp_W D kc A s.heap L fk H locs → W p l e { frames := 1, cells := 0, slots := 0, locals := 21 } s m ([.ref (ad 100), .int pa, .int pb, .int w] : List Value).toArray below meth c H locs 0 0 (MQ below (va_Qi (fun r u => (∃ a b, a < E.1 ∧ b < E.1 ∧ a ≠ b ∧ pa = nI a ∧ pb = nI b ∧ 1 ≤ w ∧ w ≤ 99 ∧ (∀ j, j < E.2.1 → ¬ E.2.2.2.2 j = w) ∧ (∀ i, i < E.1 → ¬ 0 < S.1 i 0) ∧ E.2.1 < 12 ∧ r = nI E.2.1 ∧ kRP cI cZ ad τ L f 0 (k_edgeE E a b w) (k_edge E S a b) u) ∨ (kBad2 E pa pb ∧ kRP cI cZ ad τ L f 1 E S u) ∨ (¬ kBad2 E pa pb ∧ kNo E pa pb w ∧ kRP cI cZ ad τ L f 2 E S u) ∨ (¬ kBad2 E pa pb ∧ ¬ kNo E pa pb w ∧ ((∃ i, i < E.1 ∧ 0 < S.1 i 0) ∨ E.2.1 = 12) ∧ kRP cI cZ ad τ L f 3 E S u)) (hp_B D kc A) A) ([.ref (ad 100), .int pa, .int pb, .int w] : List Value).toArray s 0 0 A) (F0 m 48 ls []) := by
      intro d
      induction d with
      | zero =>
        intro k cz fk H locs ls hkd hcz hR hF hl h
        have he := hR.1
        obtain ⟨gw, hw, hw1⟩ := hR.2.2.1
        refine lv_iload hx hb d_R_edge_48 (lv_at hl 0 rfl) ?_
        refine lv_aload_n hx hb d_R_edge_50 rfl (lv_at hl 1 rfl) ?_
        refine hp_get (v := .int (nI E.2.1)) hx hb hg in_R hown hK h he rfl 2 (by decide) (hg _ w546) (fun _ z => z) rfl d_R_edge_51 ?_
        refine lv_icmp_ge (tgt := 90) hx hb d_R_edge_54 (by decide) (fun hc => ?_) (fun hc => ?_)
        · skip
          exact tail cz fk H locs ls (by rcases hcz with z | z; exact Or.inl ⟨z.1, z.2.1, fun y => by rcases y with y | y | y | ⟨j, hj, y⟩; exact z.2.2.1 (Or.inl y); exact z.2.2.1 (Or.inr (Or.inl y)); exact z.2.2.1 (Or.inr (Or.inr y)); exact z.2.2.2 j (by omega) y⟩; exact z.2) hR hF (lv_sub hl [1, 2, 3, 4] rfl) h
        · skip
          exact absurd (nI_le (by omega) (by omega)) hc
      | succ d ih =>
        intro k cz fk H locs ls hkd hcz hR hF hl h
        have he := hR.1
        obtain ⟨gw, hw, hw1⟩ := hR.2.2.1
        refine lv_iload hx hb d_R_edge_48 (lv_at hl 0 rfl) ?_
        refine lv_aload_n hx hb d_R_edge_50 rfl (lv_at hl 1 rfl) ?_
        refine hp_get (v := .int (nI E.2.1)) hx hb hg in_R hown hK h he rfl 2 (by decide) (hg _ w546) (fun _ z => z) rfl d_R_edge_51 ?_
        refine lv_icmp_ge (tgt := 90) hx hb d_R_edge_54 (by decide) (fun hc => ?_) (fun hc => ?_)
        · skip
          exact absurd hc (nI_ge (by omega) (by omega))
        · skip
          have hk9 : k < E.2.1 := by omega
          refine lv_aload_n hx hb d_R_edge_57 rfl (lv_at hl 1 rfl) ?_
          refine hp_get (v := .int cz) hx hb hg in_R hown hK h he rfl 0 (by decide) (hg _ w544) (fun _ z => z) rfl d_R_edge_58 ?_
          refine lv_if_ne (tgt := 90) hx hb d_R_edge_61 (by decide) (fun hc2 => ?_) (fun hc2 => ?_)
          · skip
            exact tail cz fk H locs ls (by rcases hcz with z | z; exact absurd z.1 hc2; exact z.2) hR hF (lv_sub hl [1, 2, 3, 4] rfl) h
          · skip
            have hz : ¬ kBad2 E pa pb ∧ ¬ (pa = pb ∨ w < 1 ∨ 99 < w) ∧ ∀ j, j < k → ¬ E.2.2.2.2 j = w := by rcases hcz with z | z; exact z.2; exact absurd (by first | exact hc2 | exact Decidable.not_not.mp hc2) z.1
            refine lv_aload_n hx hb d_R_edge_64 rfl (lv_at hl 1 rfl) ?_
            refine lv_aload_n hx hb d_R_edge_65 rfl (lv_at hl 1 rfl) ?_
            refine hp_get (v := .ref (ad 102)) hx hb hg in_R hown hK h he rfl 4 (by decide) (hg _ w548) (fun _ z => z) rfl d_R_edge_66 ?_
            refine lv_iload hx hb d_R_edge_69 (lv_at hl 0 rfl) ?_
            refine hp_iald hx hb hK h 0 hw ht rfl (by omega) (by decide) d_R_edge_71 ?_
            rw [show gw k = E.2.2.2.2 k from hw1 k hk9]
            refine lv_iload_n hx hb d_R_edge_72 rfl (lv_at hl 4 rfl) ?_
            refine lv_icmp_ne (tgt := 80) hx hb d_R_edge_73 (by decide) (fun hc3 => ?_) (fun hc3 => ?_)
            · skip
              refine lv_iconst (v := 0) hx hb d_R_edge_80 (by decide) ?_
              refine hp_put (ty := .int) (v := .int 0) (fs' := [.int 0, .int (nI E.1), .int (nI E.2.1), .ref (ad 101), .ref (ad 102), .ref (ad 103), .ref (ad 104), .ref (ad 105), .ref (ad 106), .ref (ad 107), .ref (ad 108), .ref (ad 109), .ref (ad 110), .ref (ad 111), .ref (ad 112), .ref (ad 113), .ref (ad 114), .ref (ad 115), .ref (ad 116), .ref (ad 117), .ref (ad 118), .ref (ad 119), .int S.2.2.2.2.1]) hx hb hg in_R t_R t_R_ok n_R hown hK h he rfl 0 (by decide) (hg _ w544) (fun _ z => z) rfl (by decide +kernel) rfl rfl (Nat.le_of_ble_eq_true rfl) rfl d_R_edge_81 (fun H locs f21 hf21 h => ?_)
              have he := he.self' hf21
              have hw := hw.ne' hf21 (kne (hT 102 (by omega) (by omega)) (hT 100 (by omega) (by omega)) (by decide))
              have hR : kR cI cZ ad τ L f21 0 E S := hR.wO (f1 := f21) (code' := 0) (sc := S.2.2.2.2.1) hf21
              have hF := hF.trans (kFq.w (L := L) hf21 (hT 100 (by omega) (by omega)) (by omega) (by omega))
              refine lv_iinc (k := 0) (v := (nI (k + 1))) (lv' := [(4, .int (nI (k + 1))), (0, .ref (ad 100)), (1, .int pa), (2, .int pb), (3, .int w)]) hx hb d_R_edge_84 hl rfl (hp_inc k 1) (by decide) rfl (fun ls hl => ?_)
              refine lv_goto (tgt := 48) hx hb d_R_edge_87 (by decide) ?_
              exact ih (k + 1) 0 f21 H locs ls (by omega) (Or.inl ⟨rfl, hz.1, hz.2.1, fun j hj => by rcases (show j < k ∨ j = k by omega) with y | y; exact hz.2.2 j y; rw [y]; exact hc3⟩) hR hF (lv_sub hl [0, 1, 2, 3, 4] rfl) h
            · skip
              refine lv_iconst (v := 2) hx hb d_R_edge_76 (by decide) ?_
              refine lv_goto (tgt := 81) hx hb d_R_edge_77 (by decide) ?_
              refine hp_put (ty := .int) (v := .int 2) (fs' := [.int 2, .int (nI E.1), .int (nI E.2.1), .ref (ad 101), .ref (ad 102), .ref (ad 103), .ref (ad 104), .ref (ad 105), .ref (ad 106), .ref (ad 107), .ref (ad 108), .ref (ad 109), .ref (ad 110), .ref (ad 111), .ref (ad 112), .ref (ad 113), .ref (ad 114), .ref (ad 115), .ref (ad 116), .ref (ad 117), .ref (ad 118), .ref (ad 119), .int S.2.2.2.2.1]) hx hb hg in_R t_R t_R_ok n_R hown hK h he rfl 0 (by decide) (hg _ w544) (fun _ z => z) rfl (by decide +kernel) rfl rfl (Nat.le_of_ble_eq_true rfl) rfl d_R_edge_81 (fun H locs f21 hf21 h => ?_)
              have he := he.self' hf21
              have hw := hw.ne' hf21 (kne (hT 102 (by omega) (by omega)) (hT 100 (by omega) (by omega)) (by decide))
              have hR : kR cI cZ ad τ L f21 2 E S := hR.wO (f1 := f21) (code' := 2) (sc := S.2.2.2.2.1) hf21
              have hF := hF.trans (kFq.w (L := L) hf21 (hT 100 (by omega) (by omega)) (by omega) (by omega))
              refine lv_iinc (k := 0) (v := (nI (k + 1))) (lv' := [(4, .int (nI (k + 1))), (0, .ref (ad 100)), (1, .int pa), (2, .int pb), (3, .int w)]) hx hb d_R_edge_84 hl rfl (hp_inc k 1) (by decide) rfl (fun ls hl => ?_)
              refine lv_goto (tgt := 48) hx hb d_R_edge_87 (by decide) ?_
              exact ih (k + 1) 2 f21 H locs ls (by omega) (Or.inr ⟨by decide, Or.inr (Or.inr ⟨rfl, hz.1, Or.inr (Or.inr (Or.inr ⟨k, hk9, by first | exact hc3 | exact Decidable.not_not.mp hc3⟩))⟩)⟩) hR hF (lv_sub hl [0, 1, 2, 3, 4] rfl) h
    have hl0 : lv_has ls 6 [(4, .int (nI 0)), (0, .ref (ad 100)), (1, .int pa), (2, .int pb), (3, .int w)] := by rw [nI_0]; exact lv_sub hl [0, 1, 2, 3, 4] rfl
    refine key E.2.1 0 cz fk H locs ls (by omega) ?_ hR hF hl0 h
    rcases hcz with z | z | z
    · exact Or.inl ⟨z.1, z.2.1, z.2.2, fun j hj => absurd hj (Nat.not_lt_zero _)⟩
    · exact Or.inr ⟨by rw [z.1]; decide, Or.inr (Or.inl z)⟩
    · exact Or.inr ⟨by rw [z.1]; decide, Or.inr (Or.inr ⟨z.1, z.2.1, by rcases z.2.2 with y | y | y; exact Or.inl y; exact Or.inr (Or.inl y); exact Or.inr (Or.inr (Or.inl y))⟩)⟩
  have he := hR.1
  refine lv_aload_n hx hb d_R_edge_0 rfl (lv_at hl 0 rfl) ?_
  refine lv_aload_n hx hb d_R_edge_1 rfl (lv_at hl 0 rfl) ?_
  refine lv_iload_n hx hb d_R_edge_2 rfl (lv_at hl 1 rfl) ?_
  refine hp_callR (hp_runV (As := [.int pa]) (rest := [.ref (ad 100)]) ⟨hx, hb, hml, hown, hg⟩ (c_R_noNode l D tys de sa (w := pa) ht ht3 hR hn7 hm12) (cwV 1 hg (gw_V w627 w629 ws26 w7 w630) rfl rfl rfl (by decide +kernel) ⟨Nat.le_of_ble_eq_true rfl, Nat.le_of_ble_eq_true rfl⟩) (s_ok de sa) hK hX h he rfl rfl rfl hl.1 rfl (Nat.le_of_ble_eq_true rfl) d_R_edge_3 ⟨Nat.le_of_ble_eq_true rfl, Nat.le_of_ble_eq_true rfl⟩) (fun r1 hp => ?_)
  rcases hp with ⟨hp, v, hv, hwpa⟩ | ⟨hp, hbad⟩
  · skip
    subst hp
    have hnpa : ¬ kBad E pa := by rw [hwpa]; exact kBad_nI hn7 hv
    refine lv_if_ne (tgt := 17) hx hb d_R_edge_6 (by decide) (fun hc => ?_) (fun hc => ?_)
    · skip
      exact absurd rfl hc
    · skip
      refine lv_aload_n hx hb d_R_edge_9 rfl (lv_at hl 0 rfl) ?_
      refine lv_iload_n hx hb d_R_edge_10 rfl (lv_at hl 2 rfl) ?_
      refine hp_callR (hp_runV (As := [.int pb]) (rest := [.ref (ad 100)]) ⟨hx, hb, hml, hown, hg⟩ (c_R_noNode l D tys de sa (w := pb) ht ht3 hR hn7 hm12) (cwV 1 hg (gw_V w627 w629 ws26 w7 w630) rfl rfl rfl (by decide +kernel) ⟨Nat.le_of_ble_eq_true rfl, Nat.le_of_ble_eq_true rfl⟩) (s_ok de sa) hK hX h he rfl rfl rfl hl.1 rfl (Nat.le_of_ble_eq_true rfl) d_R_edge_11 ⟨Nat.le_of_ble_eq_true rfl, Nat.le_of_ble_eq_true rfl⟩) (fun r1 hp => ?_)
      rcases hp with ⟨hp, v, hv, hwpb⟩ | ⟨hp, hbad⟩
      · skip
        subst hp
        have hnpb : ¬ kBad E pb := by rw [hwpb]; exact kBad_nI hn7 hv
        refine lv_if_eq (tgt := 21) hx hb d_R_edge_14 (by decide) (fun hc2 => ?_) (fun hc2 => ?_)
        · skip
          have hnb : ¬ kBad2 E pa pb := fun z => by rcases z with z | z; exact hnpa z; exact hnpb z
          refine lv_iload_n hx hb d_R_edge_21 rfl (lv_at hl 1 rfl) ?_
          refine lv_iload_n hx hb d_R_edge_22 rfl (lv_at hl 2 rfl) ?_
          refine lv_icmp_eq (tgt := 37) hx hb d_R_edge_23 (by decide) (fun hc3 => ?_) (fun hc3 => ?_)
          · skip
            refine lv_iconst (v := 2) hx hb d_R_edge_37 (by decide) ?_
            refine lv_goto (tgt := 42) hx hb d_R_edge_38 (by decide) ?_
            refine hp_put (ty := .int) (v := .int 2) (fs' := [.int 2, .int (nI E.1), .int (nI E.2.1), .ref (ad 101), .ref (ad 102), .ref (ad 103), .ref (ad 104), .ref (ad 105), .ref (ad 106), .ref (ad 107), .ref (ad 108), .ref (ad 109), .ref (ad 110), .ref (ad 111), .ref (ad 112), .ref (ad 113), .ref (ad 114), .ref (ad 115), .ref (ad 116), .ref (ad 117), .ref (ad 118), .ref (ad 119), .int S.2.2.2.2.1]) hx hb hg in_R t_R t_R_ok n_R hown hK h he rfl 0 (by decide) (hg _ w544) (fun _ z => z) rfl (by decide +kernel) rfl rfl (Nat.le_of_ble_eq_true rfl) rfl d_R_edge_42 (fun H locs f1 hf1 h => ?_)
            have he := he.self' hf1
            have hR : kR cI cZ ad τ L f1 2 E S := hR.wO (f1 := f1) (code' := 2) (sc := S.2.2.2.2.1) hf1
            have hF : kFq τ L f (L, f1) := kFq.w hf1 (hT 100 (by omega) (by omega)) (by omega) (by omega)
            exact mid 2 f1 H locs ls (Or.inr (Or.inr ⟨rfl, hnb, Or.inl hc3⟩)) hR hF (lv_sub hl [0, 1, 2, 3] rfl) h
          · skip
            refine lv_iload_n hx hb d_R_edge_26 rfl (lv_at hl 3 rfl) ?_
            refine lv_iconst (v := 1) hx hb d_R_edge_27 (by decide) ?_
            refine lv_icmp_lt (tgt := 37) hx hb d_R_edge_28 (by decide) (fun hc4 => ?_) (fun hc4 => ?_)
            · skip
              refine lv_iconst (v := 2) hx hb d_R_edge_37 (by decide) ?_
              refine lv_goto (tgt := 42) hx hb d_R_edge_38 (by decide) ?_
              refine hp_put (ty := .int) (v := .int 2) (fs' := [.int 2, .int (nI E.1), .int (nI E.2.1), .ref (ad 101), .ref (ad 102), .ref (ad 103), .ref (ad 104), .ref (ad 105), .ref (ad 106), .ref (ad 107), .ref (ad 108), .ref (ad 109), .ref (ad 110), .ref (ad 111), .ref (ad 112), .ref (ad 113), .ref (ad 114), .ref (ad 115), .ref (ad 116), .ref (ad 117), .ref (ad 118), .ref (ad 119), .int S.2.2.2.2.1]) hx hb hg in_R t_R t_R_ok n_R hown hK h he rfl 0 (by decide) (hg _ w544) (fun _ z => z) rfl (by decide +kernel) rfl rfl (Nat.le_of_ble_eq_true rfl) rfl d_R_edge_42 (fun H locs f1 hf1 h => ?_)
              have he := he.self' hf1
              have hR : kR cI cZ ad τ L f1 2 E S := hR.wO (f1 := f1) (code' := 2) (sc := S.2.2.2.2.1) hf1
              have hF : kFq τ L f (L, f1) := kFq.w hf1 (hT 100 (by omega) (by omega)) (by omega) (by omega)
              exact mid 2 f1 H locs ls (Or.inr (Or.inr ⟨rfl, hnb, Or.inr (Or.inl hc4)⟩)) hR hF (lv_sub hl [0, 1, 2, 3] rfl) h
            · skip
              refine lv_iload_n hx hb d_R_edge_31 rfl (lv_at hl 3 rfl) ?_
              refine lv_bipush (v := 99) hx hb d_R_edge_32 (by decide) ?_
              refine lv_icmp_le (tgt := 41) hx hb d_R_edge_34 (by decide) (fun hc5 => ?_) (fun hc5 => ?_)
              · skip
                refine lv_iconst (v := 0) hx hb d_R_edge_41 (by decide) ?_
                refine hp_put (ty := .int) (v := .int 0) (fs' := [.int 0, .int (nI E.1), .int (nI E.2.1), .ref (ad 101), .ref (ad 102), .ref (ad 103), .ref (ad 104), .ref (ad 105), .ref (ad 106), .ref (ad 107), .ref (ad 108), .ref (ad 109), .ref (ad 110), .ref (ad 111), .ref (ad 112), .ref (ad 113), .ref (ad 114), .ref (ad 115), .ref (ad 116), .ref (ad 117), .ref (ad 118), .ref (ad 119), .int S.2.2.2.2.1]) hx hb hg in_R t_R t_R_ok n_R hown hK h he rfl 0 (by decide) (hg _ w544) (fun _ z => z) rfl (by decide +kernel) rfl rfl (Nat.le_of_ble_eq_true rfl) rfl d_R_edge_42 (fun H locs f1 hf1 h => ?_)
                have he := he.self' hf1
                have hR : kR cI cZ ad τ L f1 0 E S := hR.wO (f1 := f1) (code' := 0) (sc := S.2.2.2.2.1) hf1
                have hF : kFq τ L f (L, f1) := kFq.w hf1 (hT 100 (by omega) (by omega)) (by omega) (by omega)
                exact mid 0 f1 H locs ls (Or.inl ⟨rfl, hnb, fun z => by rcases z with z | z | z; exact hc3 z; exact hc4 z; exact absurd hc5 (Int32.not_le.mpr z)⟩) hR hF (lv_sub hl [0, 1, 2, 3] rfl) h
              · skip
                refine lv_iconst (v := 2) hx hb d_R_edge_37 (by decide) ?_
                refine lv_goto (tgt := 42) hx hb d_R_edge_38 (by decide) ?_
                refine hp_put (ty := .int) (v := .int 2) (fs' := [.int 2, .int (nI E.1), .int (nI E.2.1), .ref (ad 101), .ref (ad 102), .ref (ad 103), .ref (ad 104), .ref (ad 105), .ref (ad 106), .ref (ad 107), .ref (ad 108), .ref (ad 109), .ref (ad 110), .ref (ad 111), .ref (ad 112), .ref (ad 113), .ref (ad 114), .ref (ad 115), .ref (ad 116), .ref (ad 117), .ref (ad 118), .ref (ad 119), .int S.2.2.2.2.1]) hx hb hg in_R t_R t_R_ok n_R hown hK h he rfl 0 (by decide) (hg _ w544) (fun _ z => z) rfl (by decide +kernel) rfl rfl (Nat.le_of_ble_eq_true rfl) rfl d_R_edge_42 (fun H locs f1 hf1 h => ?_)
                have he := he.self' hf1
                have hR : kR cI cZ ad τ L f1 2 E S := hR.wO (f1 := f1) (code' := 2) (sc := S.2.2.2.2.1) hf1
                have hF : kFq τ L f (L, f1) := kFq.w hf1 (hT 100 (by omega) (by omega)) (by omega) (by omega)
                exact mid 2 f1 H locs ls (Or.inr (Or.inr ⟨rfl, hnb, Or.inr (Or.inr (Int32.not_le.mp hc5))⟩)) hR hF (lv_sub hl [0, 1, 2, 3] rfl) h
        · skip
          exact absurd rfl hc2
      · skip
        subst hp
        refine lv_if_eq (tgt := 21) hx hb d_R_edge_14 (by decide) (fun hc2 => ?_) (fun hc2 => ?_)
        · skip
          exact absurd hc2 (by decide)
        · skip
          refine lv_iconst (v := 1) hx hb d_R_edge_17 (by decide) ?_
          refine lv_goto (tgt := 42) hx hb d_R_edge_18 (by decide) ?_
          refine hp_put (ty := .int) (v := .int 1) (fs' := [.int 1, .int (nI E.1), .int (nI E.2.1), .ref (ad 101), .ref (ad 102), .ref (ad 103), .ref (ad 104), .ref (ad 105), .ref (ad 106), .ref (ad 107), .ref (ad 108), .ref (ad 109), .ref (ad 110), .ref (ad 111), .ref (ad 112), .ref (ad 113), .ref (ad 114), .ref (ad 115), .ref (ad 116), .ref (ad 117), .ref (ad 118), .ref (ad 119), .int S.2.2.2.2.1]) hx hb hg in_R t_R t_R_ok n_R hown hK h he rfl 0 (by decide) (hg _ w544) (fun _ z => z) rfl (by decide +kernel) rfl rfl (Nat.le_of_ble_eq_true rfl) rfl d_R_edge_42 (fun H locs f1 hf1 h => ?_)
          have he := he.self' hf1
          have hR : kR cI cZ ad τ L f1 1 E S := hR.wO (f1 := f1) (code' := 1) (sc := S.2.2.2.2.1) hf1
          have hF : kFq τ L f (L, f1) := kFq.w hf1 (hT 100 (by omega) (by omega)) (by omega) (by omega)
          exact mid 1 f1 H locs ls (Or.inr (Or.inl ⟨rfl, Or.inr hbad⟩)) hR hF (lv_sub hl [0, 1, 2, 3] rfl) h
  · skip
    subst hp
    refine lv_if_ne (tgt := 17) hx hb d_R_edge_6 (by decide) (fun hc => ?_) (fun hc => ?_)
    · skip
      refine lv_iconst (v := 1) hx hb d_R_edge_17 (by decide) ?_
      refine lv_goto (tgt := 42) hx hb d_R_edge_18 (by decide) ?_
      refine hp_put (ty := .int) (v := .int 1) (fs' := [.int 1, .int (nI E.1), .int (nI E.2.1), .ref (ad 101), .ref (ad 102), .ref (ad 103), .ref (ad 104), .ref (ad 105), .ref (ad 106), .ref (ad 107), .ref (ad 108), .ref (ad 109), .ref (ad 110), .ref (ad 111), .ref (ad 112), .ref (ad 113), .ref (ad 114), .ref (ad 115), .ref (ad 116), .ref (ad 117), .ref (ad 118), .ref (ad 119), .int S.2.2.2.2.1]) hx hb hg in_R t_R t_R_ok n_R hown hK h he rfl 0 (by decide) (hg _ w544) (fun _ z => z) rfl (by decide +kernel) rfl rfl (Nat.le_of_ble_eq_true rfl) rfl d_R_edge_42 (fun H locs f1 hf1 h => ?_)
      have he := he.self' hf1
      have hR : kR cI cZ ad τ L f1 1 E S := hR.wO (f1 := f1) (code' := 1) (sc := S.2.2.2.2.1) hf1
      have hF : kFq τ L f (L, f1) := kFq.w hf1 (hT 100 (by omega) (by omega)) (by omega) (by omega)
      exact mid 1 f1 H locs ls (Or.inr (Or.inl ⟨rfl, Or.inl hbad⟩)) hR hF (lv_sub hl [0, 1, 2, 3] rfl) h
    · skip
      exact absurd hc (by decide)
