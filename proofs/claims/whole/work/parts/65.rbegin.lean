/-! The reference's begin, by program (wip/mk65.py). -/
theorem k_rsts_f {S : kS} : ∀ k i, i < k → (k_rsts S k).1 i = kv0 ∧ (k_rsts S k).2.2.1 i = []
  | 0, i, h => absurd h (Nat.not_lt_zero _)
  | k + 1, i, h => by
    show kup (k_rsts S k).1 k kv0 i = kv0 ∧ kup (k_rsts S k).2.2.1 k [] i = []
    by_cases z : i = k
    · subst z; rw [kup_self, kup_self]; exact ⟨rfl, rfl⟩
    · rw [kup_ne _ _ z, kup_ne _ _ z]; exact k_rsts_f k i (by omega)
/-- the first k nodes are as begin leaves them -/
def kBg (cI cZ : ClassId) (ad : Nat → Nat) (L : List Nat) (f : Nat → va_E) (n k : Nat) : Prop :=
  hp_at L f (ad 100) (kro ad 0 (nI n) 0 0) ∧ (∃ g, hp_at L f (ad 101) (kai cI 24 g)) ∧ (∃ g, hp_at L f (ad 102) (kai cI 12 g)) ∧ (∃ g, hp_at L f (ad 103) (kai cI 24 g)) ∧ (∀ t, t < 8 → kI cI 7 L f (ad (104 + t)) k (fun _ => kv0 t)) ∧ kI cZ 7 L f (ad 112) k (fun _ => 0) ∧ kI cI 7 L f (ad 113) k (fun _ => 0) ∧ kI cI 7 L f (ad 114) k (fun _ => 0) ∧ ∀ c, c < 5 → ∃ g, hp_at L f (ad (115 + c)) (kai cI 1400 g)
theorem kBg.R {cI cZ : ClassId} {ad τ : Nat → Nat} {L : List Nat} {f : Nat → va_E} {E : kE} {S : kS} {n : Nat} (hn : n ≤ 7) (h : kBg cI cZ ad L f n 7) (hT : ∀ k, 100 ≤ k → k < 120 → τ (ad k) = k) : kR cI cZ ad τ L f 0 (n, 0, E.2.2) (k_begin S) := by
  obtain ⟨h0, ⟨g1, h1⟩, ⟨g2, h2⟩, ⟨g3, h3⟩, h4, ⟨g5, h5, h5'⟩, ⟨g6, h6, h6'⟩, ⟨g7, h7, h7'⟩, h8⟩ := h
  have hf : ∀ i, i < 7 → (k_begin S).1 i = kv0 := fun i hi => (k_rsts_f 7 i hi).1
  have hq : ∀ i, i < 7 → (k_begin S).2.2.1 i = [] := fun i hi => (k_rsts_f 7 i hi).2
  refine ⟨h0, ⟨g1, h1, fun j hj => absurd hj (Nat.not_lt_zero _)⟩, ⟨g2, h2, fun j hj => absurd hj (Nat.not_lt_zero _)⟩, ⟨g3, h3, fun j hj => absurd hj (Nat.not_lt_zero _)⟩, fun k hk => ?_, ⟨g5, h5, fun i hi => ?_⟩, ⟨fun _ => 0, ⟨g6, h6, fun i hi => ?_⟩, ⟨g7, h7, fun i hi => ?_⟩, fun i hi => ⟨show (0 : Nat) < 200 by decide, ?_⟩, fun c hc => ?_⟩, hT⟩
  · obtain ⟨g, z1, z2⟩ := h4 k hk
    refine ⟨g, z1, fun i hi => ?_⟩
    have hi : i < n := hi
    dsimp only
    rw [hf i (by omega)]
    exact z2 i (by omega)
  · have hi : i < n := hi
    dsimp only
    rw [hf i (by omega)]
    exact h5' i (by omega)
  · have hi : i < n := hi
    exact h6' i (by omega)
  · have hi : i < n := hi
    dsimp only
    rw [hq i (by omega)]
    exact h7' i (by omega)
  · have hi : i < n := hi
    rw [hq i (by omega)]
    exact Nat.zero_le _
  · obtain ⟨g, z1⟩ := h8 c hc
    refine ⟨g, z1, fun i hi k x hx => ?_⟩
    have hi : i < n := hi
    rw [hq i (by omega)] at hx
    cases hx
set_option maxHeartbeats 4000000 in
set_option maxRecDepth 100000 in
theorem c_R_begin (l : Launch) (D : va_G) (tys : List (ClassId × FieldType)) (de : Nat) (sa : Nat → Nat) {L : List Nat} {f : Nat → va_E} {w : Int32} {ad τ : Nat → Nat} {E : kE} {S : kS} {code : Int32} {cI cZ : ClassId} (ht : tys[0]? = some (cI, .int)) (ht3 : tys[3]? = some (cZ, .boolean)) (hR : kR cI cZ ad τ L f code E S) (hn7 : E.1 ≤ 7) (hm12 : E.2.1 ≤ 12) : hp_Mv l y_R_begin (gw_ws y_R_begin b_R_begin 3 none) { frames := 0, cells := 0, slots := 0, locals := 0 } D kc tys (s_X de sa) [.ref (ad 100), .int w] L f (fun u => (∃ n, 1 ≤ n ∧ n ≤ 7 ∧ w = nI n ∧ kRP cI cZ ad τ L f 0 (n, 0, E.2.2) (k_begin S) u) ∨ ((w < 1 ∨ 7 < w) ∧ kRP cI cZ ad τ L f 1 E S u)) 0 0 := by
  refine hp_ofW (Qc := fun A => va_Qv (fun u => (∃ n, 1 ≤ n ∧ n ≤ 7 ∧ w = nI n ∧ kRP cI cZ ad τ L f 0 (n, 0, E.2.2) (k_begin S) u) ∨ ((w < 1 ∨ 7 < w) ∧ kRP cI cZ ad τ L f 1 E S u)) (hp_B D kc A) A) (fr := fun A => A) (ret := none) (by decide) rfl (Nat.le_of_ble_eq_true rfl) ?_
  intro p e s m below meth c ls A hx hb hml hr hts hown hlk hnm hl hK hX h
  have hg : ∀ w ∈ gw, w.before _ s = true := fun w hw => hts w (List.mem_cons_of_mem _ hw)
  have hown : s.vm.findClass "MergingFragmentsModel" = some m.cls := hown
  have hnm : meth.name = "begin" := hnm
  have hl : lv_has ls 3 [(0, .ref (ad 100)), (1, .int w)] := hl
  have hT := hR.2.2.2.2.2.2.2
  have he := hR.1
  refine lv_aload_n hx hb d_R_begin_0 rfl (lv_at hl 0 rfl) ?_
  refine lv_iload_n hx hb d_R_begin_1 rfl (lv_at hl 1 rfl) ?_
  refine lv_iconst (v := 1) hx hb d_R_begin_2 (by decide) ?_
  refine lv_icmp_lt (tgt := 12) hx hb d_R_begin_3 (by decide) (fun hc => ?_) (fun hc => ?_)
  · skip
    refine lv_iconst (v := 1) hx hb d_R_begin_12 (by decide) ?_
    refine lv_goto (tgt := 17) hx hb d_R_begin_13 (by decide) ?_
    refine hp_put (ty := .int) (v := .int 1) (fs' := [.int 1, .int (nI E.1), .int (nI E.2.1), .ref (ad 101), .ref (ad 102), .ref (ad 103), .ref (ad 104), .ref (ad 105), .ref (ad 106), .ref (ad 107), .ref (ad 108), .ref (ad 109), .ref (ad 110), .ref (ad 111), .ref (ad 112), .ref (ad 113), .ref (ad 114), .ref (ad 115), .ref (ad 116), .ref (ad 117), .ref (ad 118), .ref (ad 119), .int S.2.2.2.2.1]) hx hb hg in_R t_R t_R_ok n_R hown hK h he rfl 0 (by decide) (hg _ w544) (fun _ z => z) rfl (by decide +kernel) rfl rfl (Nat.le_of_ble_eq_true rfl) rfl d_R_begin_17 (fun H locs f1 hf1 h => ?_)
    have he := he.self' hf1
    refine lv_aload_n hx hb d_R_begin_20 rfl (lv_at hl 0 rfl) ?_
    refine hp_get (v := .int 1) hx hb hg in_R hown hK h he rfl 0 (by decide) (hg _ w544) (fun _ z => z) rfl d_R_begin_21 ?_
    have hR : kR cI cZ ad τ L f1 1 E S := hR.wO (f1 := f1) (code' := 1) (sc := S.2.2.2.2.1) hf1
    have hF : kFq τ L f (L, f1) := kFq.w hf1 (hT 100 (by omega) (by omega)) (by omega) (by omega)
    refine lv_if_le (tgt := 28) hx hb d_R_begin_24 (by decide) (fun hc9 => ?_) (fun hc9 => ?_)
    · skip
      exact absurd hc9 (by decide)
    · skip
      exact hp_vret hx hb hr hlk h (Or.inr ⟨(Or.inl hc), hR, hF⟩) (by omega) (by omega) d_R_begin_27
  · skip
    refine lv_iload_n hx hb d_R_begin_6 rfl (lv_at hl 1 rfl) ?_
    refine lv_bipush (v := 7) hx hb d_R_begin_7 (by decide) ?_
    refine lv_icmp_le (tgt := 16) hx hb d_R_begin_9 (by decide) (fun hc2 => ?_) (fun hc2 => ?_)
    · skip
      obtain ⟨n, hn7', hnw⟩ := nI_of2 (M := 7) (n := 7) rfl (fun z => hc (Int32.lt_trans z (by decide))) hc2
      subst hnw
      have h1n : 1 ≤ n := by rcases Nat.eq_zero_or_pos n with z | z; exact absurd (show nI n < 1 by rw [z]; decide) hc; exact z
      obtain ⟨ge, hE, -⟩ := hR.2.1
      obtain ⟨gw, hw, -⟩ := hR.2.2.1
      obtain ⟨gk, hk, -⟩ := hR.2.2.2.1
      obtain ⟨gf0, hf0_, -⟩ := hR.2.2.2.2.1 0 (by decide)
      obtain ⟨gf1, hf1_, -⟩ := hR.2.2.2.2.1 1 (by decide)
      obtain ⟨gf2, hf2_, -⟩ := hR.2.2.2.2.1 2 (by decide)
      obtain ⟨gf3, hf3_, -⟩ := hR.2.2.2.2.1 3 (by decide)
      obtain ⟨gf4, hf4_, -⟩ := hR.2.2.2.2.1 4 (by decide)
      obtain ⟨gf5, hf5_, -⟩ := hR.2.2.2.2.1 5 (by decide)
      obtain ⟨gf6, hf6_, -⟩ := hR.2.2.2.2.1 6 (by decide)
      obtain ⟨gf7, hf7_, -⟩ := hR.2.2.2.2.1 7 (by decide)
      obtain ⟨gd, hd, -⟩ := hR.2.2.2.2.2.1
      obtain ⟨fr, ⟨gv, hgv, -⟩, ⟨gy, hy, -⟩, -, hrg⟩ := hR.2.2.2.2.2.2.1
      obtain ⟨g0, hg0, -⟩ := hrg 0 (by decide)
      obtain ⟨g1, hg1, -⟩ := hrg 1 (by decide)
      obtain ⟨g2, hg2, -⟩ := hrg 2 (by decide)
      obtain ⟨g3, hg3, -⟩ := hrg 3 (by decide)
      obtain ⟨g4, hg4, -⟩ := hrg 4 (by decide)
      refine lv_iconst (v := 0) hx hb d_R_begin_16 (by decide) ?_
      refine hp_put (ty := .int) (v := .int 0) (fs' := [.int 0, .int (nI E.1), .int (nI E.2.1), .ref (ad 101), .ref (ad 102), .ref (ad 103), .ref (ad 104), .ref (ad 105), .ref (ad 106), .ref (ad 107), .ref (ad 108), .ref (ad 109), .ref (ad 110), .ref (ad 111), .ref (ad 112), .ref (ad 113), .ref (ad 114), .ref (ad 115), .ref (ad 116), .ref (ad 117), .ref (ad 118), .ref (ad 119), .int S.2.2.2.2.1]) hx hb hg in_R t_R t_R_ok n_R hown hK h he rfl 0 (by decide) (hg _ w544) (fun _ z => z) rfl (by decide +kernel) rfl rfl (Nat.le_of_ble_eq_true rfl) rfl d_R_begin_17 (fun H locs f1 hf1 h => ?_)
      have he := he.self' hf1
      have hE := hE.ne' hf1 (kne (hT 101 (by omega) (by omega)) (hT 100 (by omega) (by omega)) (by decide))
      have hw := hw.ne' hf1 (kne (hT 102 (by omega) (by omega)) (hT 100 (by omega) (by omega)) (by decide))
      have hk := hk.ne' hf1 (kne (hT 103 (by omega) (by omega)) (hT 100 (by omega) (by omega)) (by decide))
      have hf0_ := hf0_.ne' hf1 (kne (hT 104 (by omega) (by omega)) (hT 100 (by omega) (by omega)) (by decide))
      have hf1_ := hf1_.ne' hf1 (kne (hT 105 (by omega) (by omega)) (hT 100 (by omega) (by omega)) (by decide))
      have hf2_ := hf2_.ne' hf1 (kne (hT 106 (by omega) (by omega)) (hT 100 (by omega) (by omega)) (by decide))
      have hf3_ := hf3_.ne' hf1 (kne (hT 107 (by omega) (by omega)) (hT 100 (by omega) (by omega)) (by decide))
      have hf4_ := hf4_.ne' hf1 (kne (hT 108 (by omega) (by omega)) (hT 100 (by omega) (by omega)) (by decide))
      have hf5_ := hf5_.ne' hf1 (kne (hT 109 (by omega) (by omega)) (hT 100 (by omega) (by omega)) (by decide))
      have hf6_ := hf6_.ne' hf1 (kne (hT 110 (by omega) (by omega)) (hT 100 (by omega) (by omega)) (by decide))
      have hf7_ := hf7_.ne' hf1 (kne (hT 111 (by omega) (by omega)) (hT 100 (by omega) (by omega)) (by decide))
      have hd := hd.ne' hf1 (kne (hT 112 (by omega) (by omega)) (hT 100 (by omega) (by omega)) (by decide))
      have hgv := hgv.ne' hf1 (kne (hT 113 (by omega) (by omega)) (hT 100 (by omega) (by omega)) (by decide))
      have hy := hy.ne' hf1 (kne (hT 114 (by omega) (by omega)) (hT 100 (by omega) (by omega)) (by decide))
      have hg0 := hg0.ne' hf1 (kne (hT 115 (by omega) (by omega)) (hT 100 (by omega) (by omega)) (by decide))
      have hg1 := hg1.ne' hf1 (kne (hT 116 (by omega) (by omega)) (hT 100 (by omega) (by omega)) (by decide))
      have hg2 := hg2.ne' hf1 (kne (hT 117 (by omega) (by omega)) (hT 100 (by omega) (by omega)) (by decide))
      have hg3 := hg3.ne' hf1 (kne (hT 118 (by omega) (by omega)) (hT 100 (by omega) (by omega)) (by decide))
      have hg4 := hg4.ne' hf1 (kne (hT 119 (by omega) (by omega)) (hT 100 (by omega) (by omega)) (by decide))
      refine lv_aload_n hx hb d_R_begin_20 rfl (lv_at hl 0 rfl) ?_
      refine hp_get (v := .int 0) hx hb hg in_R hown hK h he rfl 0 (by decide) (hg _ w544) (fun _ z => z) rfl d_R_begin_21 ?_
      refine lv_if_le (tgt := 28) hx hb d_R_begin_24 (by decide) (fun hc9 => ?_) (fun hc9 => ?_)
      · skip
        refine lv_aload_n hx hb d_R_begin_28 rfl (lv_at hl 0 rfl) ?_
        refine lv_iload_n hx hb d_R_begin_29 rfl (lv_at hl 1 rfl) ?_
        refine hp_put (ty := .int) (v := .int (nI n)) (fs' := [.int 0, .int (nI n), .int (nI E.2.1), .ref (ad 101), .ref (ad 102), .ref (ad 103), .ref (ad 104), .ref (ad 105), .ref (ad 106), .ref (ad 107), .ref (ad 108), .ref (ad 109), .ref (ad 110), .ref (ad 111), .ref (ad 112), .ref (ad 113), .ref (ad 114), .ref (ad 115), .ref (ad 116), .ref (ad 117), .ref (ad 118), .ref (ad 119), .int S.2.2.2.2.1]) hx hb hg in_R t_R t_R_ok n_R hown hK h he rfl 1 (by decide) (hg _ w545) (fun _ z => z) rfl (by decide +kernel) rfl rfl (Nat.le_of_ble_eq_true rfl) rfl d_R_begin_30 (fun H locs f2 hf2 h => ?_)
        have he := he.self' hf2
        have hE := hE.ne' hf2 (kne (hT 101 (by omega) (by omega)) (hT 100 (by omega) (by omega)) (by decide))
        have hw := hw.ne' hf2 (kne (hT 102 (by omega) (by omega)) (hT 100 (by omega) (by omega)) (by decide))
        have hk := hk.ne' hf2 (kne (hT 103 (by omega) (by omega)) (hT 100 (by omega) (by omega)) (by decide))
        have hf0_ := hf0_.ne' hf2 (kne (hT 104 (by omega) (by omega)) (hT 100 (by omega) (by omega)) (by decide))
        have hf1_ := hf1_.ne' hf2 (kne (hT 105 (by omega) (by omega)) (hT 100 (by omega) (by omega)) (by decide))
        have hf2_ := hf2_.ne' hf2 (kne (hT 106 (by omega) (by omega)) (hT 100 (by omega) (by omega)) (by decide))
        have hf3_ := hf3_.ne' hf2 (kne (hT 107 (by omega) (by omega)) (hT 100 (by omega) (by omega)) (by decide))
        have hf4_ := hf4_.ne' hf2 (kne (hT 108 (by omega) (by omega)) (hT 100 (by omega) (by omega)) (by decide))
        have hf5_ := hf5_.ne' hf2 (kne (hT 109 (by omega) (by omega)) (hT 100 (by omega) (by omega)) (by decide))
        have hf6_ := hf6_.ne' hf2 (kne (hT 110 (by omega) (by omega)) (hT 100 (by omega) (by omega)) (by decide))
        have hf7_ := hf7_.ne' hf2 (kne (hT 111 (by omega) (by omega)) (hT 100 (by omega) (by omega)) (by decide))
        have hd := hd.ne' hf2 (kne (hT 112 (by omega) (by omega)) (hT 100 (by omega) (by omega)) (by decide))
        have hgv := hgv.ne' hf2 (kne (hT 113 (by omega) (by omega)) (hT 100 (by omega) (by omega)) (by decide))
        have hy := hy.ne' hf2 (kne (hT 114 (by omega) (by omega)) (hT 100 (by omega) (by omega)) (by decide))
        have hg0 := hg0.ne' hf2 (kne (hT 115 (by omega) (by omega)) (hT 100 (by omega) (by omega)) (by decide))
        have hg1 := hg1.ne' hf2 (kne (hT 116 (by omega) (by omega)) (hT 100 (by omega) (by omega)) (by decide))
        have hg2 := hg2.ne' hf2 (kne (hT 117 (by omega) (by omega)) (hT 100 (by omega) (by omega)) (by decide))
        have hg3 := hg3.ne' hf2 (kne (hT 118 (by omega) (by omega)) (hT 100 (by omega) (by omega)) (by decide))
        have hg4 := hg4.ne' hf2 (kne (hT 119 (by omega) (by omega)) (hT 100 (by omega) (by omega)) (by decide))
        refine lv_aload_n hx hb d_R_begin_33 rfl (lv_at hl 0 rfl) ?_
        refine lv_iconst (v := 0) hx hb d_R_begin_34 (by decide) ?_
        refine hp_put (ty := .int) (v := .int 0) (fs' := [.int 0, .int (nI n), .int 0, .ref (ad 101), .ref (ad 102), .ref (ad 103), .ref (ad 104), .ref (ad 105), .ref (ad 106), .ref (ad 107), .ref (ad 108), .ref (ad 109), .ref (ad 110), .ref (ad 111), .ref (ad 112), .ref (ad 113), .ref (ad 114), .ref (ad 115), .ref (ad 116), .ref (ad 117), .ref (ad 118), .ref (ad 119), .int S.2.2.2.2.1]) hx hb hg in_R t_R t_R_ok n_R hown hK h he rfl 2 (by decide) (hg _ w546) (fun _ z => z) rfl (by decide +kernel) rfl rfl (Nat.le_of_ble_eq_true rfl) rfl d_R_begin_35 (fun H locs f3 hf3 h => ?_)
        have he := he.self' hf3
        have hE := hE.ne' hf3 (kne (hT 101 (by omega) (by omega)) (hT 100 (by omega) (by omega)) (by decide))
        have hw := hw.ne' hf3 (kne (hT 102 (by omega) (by omega)) (hT 100 (by omega) (by omega)) (by decide))
        have hk := hk.ne' hf3 (kne (hT 103 (by omega) (by omega)) (hT 100 (by omega) (by omega)) (by decide))
        have hf0_ := hf0_.ne' hf3 (kne (hT 104 (by omega) (by omega)) (hT 100 (by omega) (by omega)) (by decide))
        have hf1_ := hf1_.ne' hf3 (kne (hT 105 (by omega) (by omega)) (hT 100 (by omega) (by omega)) (by decide))
        have hf2_ := hf2_.ne' hf3 (kne (hT 106 (by omega) (by omega)) (hT 100 (by omega) (by omega)) (by decide))
        have hf3_ := hf3_.ne' hf3 (kne (hT 107 (by omega) (by omega)) (hT 100 (by omega) (by omega)) (by decide))
        have hf4_ := hf4_.ne' hf3 (kne (hT 108 (by omega) (by omega)) (hT 100 (by omega) (by omega)) (by decide))
        have hf5_ := hf5_.ne' hf3 (kne (hT 109 (by omega) (by omega)) (hT 100 (by omega) (by omega)) (by decide))
        have hf6_ := hf6_.ne' hf3 (kne (hT 110 (by omega) (by omega)) (hT 100 (by omega) (by omega)) (by decide))
        have hf7_ := hf7_.ne' hf3 (kne (hT 111 (by omega) (by omega)) (hT 100 (by omega) (by omega)) (by decide))
        have hd := hd.ne' hf3 (kne (hT 112 (by omega) (by omega)) (hT 100 (by omega) (by omega)) (by decide))
        have hgv := hgv.ne' hf3 (kne (hT 113 (by omega) (by omega)) (hT 100 (by omega) (by omega)) (by decide))
        have hy := hy.ne' hf3 (kne (hT 114 (by omega) (by omega)) (hT 100 (by omega) (by omega)) (by decide))
        have hg0 := hg0.ne' hf3 (kne (hT 115 (by omega) (by omega)) (hT 100 (by omega) (by omega)) (by decide))
        have hg1 := hg1.ne' hf3 (kne (hT 116 (by omega) (by omega)) (hT 100 (by omega) (by omega)) (by decide))
        have hg2 := hg2.ne' hf3 (kne (hT 117 (by omega) (by omega)) (hT 100 (by omega) (by omega)) (by decide))
        have hg3 := hg3.ne' hf3 (kne (hT 118 (by omega) (by omega)) (hT 100 (by omega) (by omega)) (by decide))
        have hg4 := hg4.ne' hf3 (kne (hT 119 (by omega) (by omega)) (hT 100 (by omega) (by omega)) (by decide))
        refine lv_aload_n hx hb d_R_begin_38 rfl (lv_at hl 0 rfl) ?_
        refine lv_iconst (v := 0) hx hb d_R_begin_39 (by decide) ?_
        refine hp_put (ty := .int) (v := .int 0) (fs' := [.int 0, .int (nI n), .int 0, .ref (ad 101), .ref (ad 102), .ref (ad 103), .ref (ad 104), .ref (ad 105), .ref (ad 106), .ref (ad 107), .ref (ad 108), .ref (ad 109), .ref (ad 110), .ref (ad 111), .ref (ad 112), .ref (ad 113), .ref (ad 114), .ref (ad 115), .ref (ad 116), .ref (ad 117), .ref (ad 118), .ref (ad 119), .int 0]) hx hb hg in_R t_R t_R_ok n_R hown hK h he rfl 22 (by decide) (hg _ w566) (fun _ z => z) rfl (by decide +kernel) rfl rfl (Nat.le_of_ble_eq_true rfl) rfl d_R_begin_40 (fun H locs f4 hf4 h => ?_)
        have he := he.self' hf4
        have hE := hE.ne' hf4 (kne (hT 101 (by omega) (by omega)) (hT 100 (by omega) (by omega)) (by decide))
        have hw := hw.ne' hf4 (kne (hT 102 (by omega) (by omega)) (hT 100 (by omega) (by omega)) (by decide))
        have hk := hk.ne' hf4 (kne (hT 103 (by omega) (by omega)) (hT 100 (by omega) (by omega)) (by decide))
        have hf0_ := hf0_.ne' hf4 (kne (hT 104 (by omega) (by omega)) (hT 100 (by omega) (by omega)) (by decide))
        have hf1_ := hf1_.ne' hf4 (kne (hT 105 (by omega) (by omega)) (hT 100 (by omega) (by omega)) (by decide))
        have hf2_ := hf2_.ne' hf4 (kne (hT 106 (by omega) (by omega)) (hT 100 (by omega) (by omega)) (by decide))
        have hf3_ := hf3_.ne' hf4 (kne (hT 107 (by omega) (by omega)) (hT 100 (by omega) (by omega)) (by decide))
        have hf4_ := hf4_.ne' hf4 (kne (hT 108 (by omega) (by omega)) (hT 100 (by omega) (by omega)) (by decide))
        have hf5_ := hf5_.ne' hf4 (kne (hT 109 (by omega) (by omega)) (hT 100 (by omega) (by omega)) (by decide))
        have hf6_ := hf6_.ne' hf4 (kne (hT 110 (by omega) (by omega)) (hT 100 (by omega) (by omega)) (by decide))
        have hf7_ := hf7_.ne' hf4 (kne (hT 111 (by omega) (by omega)) (hT 100 (by omega) (by omega)) (by decide))
        have hd := hd.ne' hf4 (kne (hT 112 (by omega) (by omega)) (hT 100 (by omega) (by omega)) (by decide))
        have hgv := hgv.ne' hf4 (kne (hT 113 (by omega) (by omega)) (hT 100 (by omega) (by omega)) (by decide))
        have hy := hy.ne' hf4 (kne (hT 114 (by omega) (by omega)) (hT 100 (by omega) (by omega)) (by decide))
        have hg0 := hg0.ne' hf4 (kne (hT 115 (by omega) (by omega)) (hT 100 (by omega) (by omega)) (by decide))
        have hg1 := hg1.ne' hf4 (kne (hT 116 (by omega) (by omega)) (hT 100 (by omega) (by omega)) (by decide))
        have hg2 := hg2.ne' hf4 (kne (hT 117 (by omega) (by omega)) (hT 100 (by omega) (by omega)) (by decide))
        have hg3 := hg3.ne' hf4 (kne (hT 118 (by omega) (by omega)) (hT 100 (by omega) (by omega)) (by decide))
        have hg4 := hg4.ne' hf4 (kne (hT 119 (by omega) (by omega)) (hT 100 (by omega) (by omega)) (by decide))
        refine lv_iconst (v := 0) hx hb d_R_begin_43 (by decide) ?_
        refine lv_istore_n (lv' := [(2, .int 0), (0, .ref (ad 100)), (1, .int (nI n))]) hx hb d_R_begin_44 rfl hl (by decide) rfl (fun ls hl => ?_)
        have hF : kFq τ L f (L, f4) := kFq.trans (kFq.trans (kFq.trans (kFq.w hf1 (hT 100 (by omega) (by omega)) (by omega) (by omega)) (kFq.w (L := L) hf2 (hT 100 (by omega) (by omega)) (by omega) (by omega))) (kFq.w (L := L) hf3 (hT 100 (by omega) (by omega)) (by omega) (by omega))) (kFq.w (L := L) hf4 (hT 100 (by omega) (by omega)) (by omega) (by omega))
        have hB : kBg cI cZ ad L f4 n 0 := by
          refine ⟨he, ⟨_, hE⟩, ⟨_, hw⟩, ⟨_, hk⟩, fun t ht9 => ?_, ⟨_, hd, fun j hj => absurd hj (Nat.not_lt_zero _)⟩, ⟨_, hgv, fun j hj => absurd hj (Nat.not_lt_zero _)⟩, ⟨_, hy, fun j hj => absurd hj (Nat.not_lt_zero _)⟩, fun c hc => ?_⟩
          · rcases (show t = 0 ∨ t = 1 ∨ t = 2 ∨ t = 3 ∨ t = 4 ∨ t = 5 ∨ t = 6 ∨ t = 7 by omega) with rfl | rfl | rfl | rfl | rfl | rfl | rfl | rfl
            · exact ⟨_, hf0_, fun j hj => absurd hj (Nat.not_lt_zero _)⟩
            · exact ⟨_, hf1_, fun j hj => absurd hj (Nat.not_lt_zero _)⟩
            · exact ⟨_, hf2_, fun j hj => absurd hj (Nat.not_lt_zero _)⟩
            · exact ⟨_, hf3_, fun j hj => absurd hj (Nat.not_lt_zero _)⟩
            · exact ⟨_, hf4_, fun j hj => absurd hj (Nat.not_lt_zero _)⟩
            · exact ⟨_, hf5_, fun j hj => absurd hj (Nat.not_lt_zero _)⟩
            · exact ⟨_, hf6_, fun j hj => absurd hj (Nat.not_lt_zero _)⟩
            · exact ⟨_, hf7_, fun j hj => absurd hj (Nat.not_lt_zero _)⟩
          · rcases (show c = 0 ∨ c = 1 ∨ c = 2 ∨ c = 3 ∨ c = 4 by omega) with rfl | rfl | rfl | rfl | rfl
            · exact ⟨_, hg0⟩
            · exact ⟨_, hg1⟩
            · exact ⟨_, hg2⟩
            · exact ⟨_, hg3⟩
            · exact ⟨_, hg4⟩
        have key : ∀ (d k : Nat) (fk : Nat → va_E) (H : Heap) (locs : List Loc) (ls : Array Slot), k + d = 7 → kBg cI cZ ad L fk n k → kFq τ L f (L, fk) → lv_has ls 3 [(2, .int (nI k)), (0, .ref (ad 100)), (1, .int (nI n))] → hp_W D kc A s.heap L fk H locs → W p l e { frames := 0, cells := 0, slots := 0, locals := 0 } s m ([.ref (ad 100), .int (nI n)] : List Value).toArray below meth c H locs 0 0 (MQ below (va_Qv (fun u => (∃ n9, 1 ≤ n9 ∧ n9 ≤ 7 ∧ (nI n) = nI n9 ∧ kRP cI cZ ad τ L f 0 (n9, 0, E.2.2) (k_begin S) u) ∨ (((nI n) < 1 ∨ 7 < (nI n)) ∧ kRP cI cZ ad τ L f 1 E S u)) (hp_B D kc A) A) ([.ref (ad 100), .int (nI n)] : List Value).toArray s 0 0 A) (F0 m 45 ls []) := by
          intro d
          induction d with
          | zero =>
            intro k fk H locs ls hkd hB hF hl h
            refine lv_iload_n hx hb d_R_begin_45 rfl (lv_at hl 0 rfl) ?_
            refine lv_bipush (v := 7) hx hb d_R_begin_46 (by decide) ?_
            refine lv_icmp_ge (tgt := 135) hx hb d_R_begin_48 (by decide) (fun hc5 => ?_) (fun hc5 => ?_)
            · skip
              have hk7 : k = 7 := by omega
              rw [hk7] at hB
              exact hp_vret hx hb hr hlk h (Or.inl ⟨n, h1n, hn7', rfl, hB.R hn7' hT, hF⟩) (by omega) (by omega) d_R_begin_135
            · skip
              exact absurd (show (7 : Int32) ≤ nI k from nI_le (a := 7) (by omega) (by omega)) hc5
          | succ d ih =>
            intro k fk H locs ls hkd hB hF hl h
            obtain ⟨he, ⟨ge, hE⟩, ⟨gw, hw⟩, ⟨gk, hk⟩, h4, ⟨gd, hd, hd1⟩, ⟨gv, hgv, hgv1⟩, ⟨gy, hy, hy1⟩, h8⟩ := hB
            obtain ⟨gf0, hf0_, hpz0⟩ := h4 0 (by decide)
            obtain ⟨gf1, hf1_, hpz1⟩ := h4 1 (by decide)
            obtain ⟨gf2, hf2_, hpz2⟩ := h4 2 (by decide)
            obtain ⟨gf3, hf3_, hpz3⟩ := h4 3 (by decide)
            obtain ⟨gf4, hf4_, hpz4⟩ := h4 4 (by decide)
            obtain ⟨gf5, hf5_, hpz5⟩ := h4 5 (by decide)
            obtain ⟨gf6, hf6_, hpz6⟩ := h4 6 (by decide)
            obtain ⟨gf7, hf7_, hpz7⟩ := h4 7 (by decide)
            obtain ⟨g0, hg0⟩ := h8 0 (by decide)
            obtain ⟨g1, hg1⟩ := h8 1 (by decide)
            obtain ⟨g2, hg2⟩ := h8 2 (by decide)
            obtain ⟨g3, hg3⟩ := h8 3 (by decide)
            obtain ⟨g4, hg4⟩ := h8 4 (by decide)
            refine lv_iload_n hx hb d_R_begin_45 rfl (lv_at hl 0 rfl) ?_
            refine lv_bipush (v := 7) hx hb d_R_begin_46 (by decide) ?_
            refine lv_icmp_ge (tgt := 135) hx hb d_R_begin_48 (by decide) (fun hc5 => ?_) (fun hc5 => ?_)
            · skip
              exact absurd ((nI_leI (a := 7) (by omega) (by omega)).mp hc5) (by omega)
            · skip
              refine lv_aload_n hx hb d_R_begin_51 rfl (lv_at hl 1 rfl) ?_
              refine hp_get (v := .ref (ad 104)) hx hb hg in_R hown hK h he rfl 6 (by decide) (hg _ w550) (fun _ z => z) rfl d_R_begin_52 ?_
              refine lv_iload_n hx hb d_R_begin_55 rfl (lv_at hl 0 rfl) ?_
              refine lv_iconst (v := 0) hx hb d_R_begin_56 (by decide) ?_
              refine hp_iast hx hb hK h 0 hf0_ ht rfl (by omega) (by decide) d_R_begin_57 (fun H locs f5 hf5 h => ?_)
              have he := he.ne' hf5 (kne (hT 100 (by omega) (by omega)) (hT 104 (by omega) (by omega)) (by decide))
              have hE := hE.ne' hf5 (kne (hT 101 (by omega) (by omega)) (hT 104 (by omega) (by omega)) (by decide))
              have hw := hw.ne' hf5 (kne (hT 102 (by omega) (by omega)) (hT 104 (by omega) (by omega)) (by decide))
              have hk := hk.ne' hf5 (kne (hT 103 (by omega) (by omega)) (hT 104 (by omega) (by omega)) (by decide))
              have hf0_ := hf0_.self' hf5
              have hf1_ := hf1_.ne' hf5 (kne (hT 105 (by omega) (by omega)) (hT 104 (by omega) (by omega)) (by decide))
              have hf2_ := hf2_.ne' hf5 (kne (hT 106 (by omega) (by omega)) (hT 104 (by omega) (by omega)) (by decide))
              have hf3_ := hf3_.ne' hf5 (kne (hT 107 (by omega) (by omega)) (hT 104 (by omega) (by omega)) (by decide))
              have hf4_ := hf4_.ne' hf5 (kne (hT 108 (by omega) (by omega)) (hT 104 (by omega) (by omega)) (by decide))
              have hf5_ := hf5_.ne' hf5 (kne (hT 109 (by omega) (by omega)) (hT 104 (by omega) (by omega)) (by decide))
              have hf6_ := hf6_.ne' hf5 (kne (hT 110 (by omega) (by omega)) (hT 104 (by omega) (by omega)) (by decide))
              have hf7_ := hf7_.ne' hf5 (kne (hT 111 (by omega) (by omega)) (hT 104 (by omega) (by omega)) (by decide))
              have hd := hd.ne' hf5 (kne (hT 112 (by omega) (by omega)) (hT 104 (by omega) (by omega)) (by decide))
              have hgv := hgv.ne' hf5 (kne (hT 113 (by omega) (by omega)) (hT 104 (by omega) (by omega)) (by decide))
              have hy := hy.ne' hf5 (kne (hT 114 (by omega) (by omega)) (hT 104 (by omega) (by omega)) (by decide))
              have hg0 := hg0.ne' hf5 (kne (hT 115 (by omega) (by omega)) (hT 104 (by omega) (by omega)) (by decide))
              have hg1 := hg1.ne' hf5 (kne (hT 116 (by omega) (by omega)) (hT 104 (by omega) (by omega)) (by decide))
              have hg2 := hg2.ne' hf5 (kne (hT 117 (by omega) (by omega)) (hT 104 (by omega) (by omega)) (by decide))
              have hg3 := hg3.ne' hf5 (kne (hT 118 (by omega) (by omega)) (hT 104 (by omega) (by omega)) (by decide))
              have hg4 := hg4.ne' hf5 (kne (hT 119 (by omega) (by omega)) (hT 104 (by omega) (by omega)) (by decide))
              refine lv_aload_n hx hb d_R_begin_58 rfl (lv_at hl 1 rfl) ?_
              refine hp_get (v := .ref (ad 105)) hx hb hg in_R hown hK h he rfl 7 (by decide) (hg _ w551) (fun _ z => z) rfl d_R_begin_59 ?_
              refine lv_iload_n hx hb d_R_begin_62 rfl (lv_at hl 0 rfl) ?_
              refine lv_iconst (v := 0) hx hb d_R_begin_63 (by decide) ?_
              refine hp_iast hx hb hK h 0 hf1_ ht rfl (by omega) (by decide) d_R_begin_64 (fun H locs f6 hf6 h => ?_)
              have he := he.ne' hf6 (kne (hT 100 (by omega) (by omega)) (hT 105 (by omega) (by omega)) (by decide))
              have hE := hE.ne' hf6 (kne (hT 101 (by omega) (by omega)) (hT 105 (by omega) (by omega)) (by decide))
              have hw := hw.ne' hf6 (kne (hT 102 (by omega) (by omega)) (hT 105 (by omega) (by omega)) (by decide))
              have hk := hk.ne' hf6 (kne (hT 103 (by omega) (by omega)) (hT 105 (by omega) (by omega)) (by decide))
              have hf0_ := hf0_.ne' hf6 (kne (hT 104 (by omega) (by omega)) (hT 105 (by omega) (by omega)) (by decide))
              have hf1_ := hf1_.self' hf6
              have hf2_ := hf2_.ne' hf6 (kne (hT 106 (by omega) (by omega)) (hT 105 (by omega) (by omega)) (by decide))
              have hf3_ := hf3_.ne' hf6 (kne (hT 107 (by omega) (by omega)) (hT 105 (by omega) (by omega)) (by decide))
              have hf4_ := hf4_.ne' hf6 (kne (hT 108 (by omega) (by omega)) (hT 105 (by omega) (by omega)) (by decide))
              have hf5_ := hf5_.ne' hf6 (kne (hT 109 (by omega) (by omega)) (hT 105 (by omega) (by omega)) (by decide))
              have hf6_ := hf6_.ne' hf6 (kne (hT 110 (by omega) (by omega)) (hT 105 (by omega) (by omega)) (by decide))
              have hf7_ := hf7_.ne' hf6 (kne (hT 111 (by omega) (by omega)) (hT 105 (by omega) (by omega)) (by decide))
              have hd := hd.ne' hf6 (kne (hT 112 (by omega) (by omega)) (hT 105 (by omega) (by omega)) (by decide))
              have hgv := hgv.ne' hf6 (kne (hT 113 (by omega) (by omega)) (hT 105 (by omega) (by omega)) (by decide))
              have hy := hy.ne' hf6 (kne (hT 114 (by omega) (by omega)) (hT 105 (by omega) (by omega)) (by decide))
              have hg0 := hg0.ne' hf6 (kne (hT 115 (by omega) (by omega)) (hT 105 (by omega) (by omega)) (by decide))
              have hg1 := hg1.ne' hf6 (kne (hT 116 (by omega) (by omega)) (hT 105 (by omega) (by omega)) (by decide))
              have hg2 := hg2.ne' hf6 (kne (hT 117 (by omega) (by omega)) (hT 105 (by omega) (by omega)) (by decide))
              have hg3 := hg3.ne' hf6 (kne (hT 118 (by omega) (by omega)) (hT 105 (by omega) (by omega)) (by decide))
              have hg4 := hg4.ne' hf6 (kne (hT 119 (by omega) (by omega)) (hT 105 (by omega) (by omega)) (by decide))
              refine lv_aload_n hx hb d_R_begin_65 rfl (lv_at hl 1 rfl) ?_
              refine hp_get (v := .ref (ad 106)) hx hb hg in_R hown hK h he rfl 8 (by decide) (hg _ w552) (fun _ z => z) rfl d_R_begin_66 ?_
              refine lv_iload_n hx hb d_R_begin_69 rfl (lv_at hl 0 rfl) ?_
              refine lv_iconst (v := 0) hx hb d_R_begin_70 (by decide) ?_
              refine hp_iast hx hb hK h 0 hf2_ ht rfl (by omega) (by decide) d_R_begin_71 (fun H locs f7 hf7 h => ?_)
              have he := he.ne' hf7 (kne (hT 100 (by omega) (by omega)) (hT 106 (by omega) (by omega)) (by decide))
              have hE := hE.ne' hf7 (kne (hT 101 (by omega) (by omega)) (hT 106 (by omega) (by omega)) (by decide))
              have hw := hw.ne' hf7 (kne (hT 102 (by omega) (by omega)) (hT 106 (by omega) (by omega)) (by decide))
              have hk := hk.ne' hf7 (kne (hT 103 (by omega) (by omega)) (hT 106 (by omega) (by omega)) (by decide))
              have hf0_ := hf0_.ne' hf7 (kne (hT 104 (by omega) (by omega)) (hT 106 (by omega) (by omega)) (by decide))
              have hf1_ := hf1_.ne' hf7 (kne (hT 105 (by omega) (by omega)) (hT 106 (by omega) (by omega)) (by decide))
              have hf2_ := hf2_.self' hf7
              have hf3_ := hf3_.ne' hf7 (kne (hT 107 (by omega) (by omega)) (hT 106 (by omega) (by omega)) (by decide))
              have hf4_ := hf4_.ne' hf7 (kne (hT 108 (by omega) (by omega)) (hT 106 (by omega) (by omega)) (by decide))
              have hf5_ := hf5_.ne' hf7 (kne (hT 109 (by omega) (by omega)) (hT 106 (by omega) (by omega)) (by decide))
              have hf6_ := hf6_.ne' hf7 (kne (hT 110 (by omega) (by omega)) (hT 106 (by omega) (by omega)) (by decide))
              have hf7_ := hf7_.ne' hf7 (kne (hT 111 (by omega) (by omega)) (hT 106 (by omega) (by omega)) (by decide))
              have hd := hd.ne' hf7 (kne (hT 112 (by omega) (by omega)) (hT 106 (by omega) (by omega)) (by decide))
              have hgv := hgv.ne' hf7 (kne (hT 113 (by omega) (by omega)) (hT 106 (by omega) (by omega)) (by decide))
              have hy := hy.ne' hf7 (kne (hT 114 (by omega) (by omega)) (hT 106 (by omega) (by omega)) (by decide))
              have hg0 := hg0.ne' hf7 (kne (hT 115 (by omega) (by omega)) (hT 106 (by omega) (by omega)) (by decide))
              have hg1 := hg1.ne' hf7 (kne (hT 116 (by omega) (by omega)) (hT 106 (by omega) (by omega)) (by decide))
              have hg2 := hg2.ne' hf7 (kne (hT 117 (by omega) (by omega)) (hT 106 (by omega) (by omega)) (by decide))
              have hg3 := hg3.ne' hf7 (kne (hT 118 (by omega) (by omega)) (hT 106 (by omega) (by omega)) (by decide))
              have hg4 := hg4.ne' hf7 (kne (hT 119 (by omega) (by omega)) (hT 106 (by omega) (by omega)) (by decide))
              refine lv_aload_n hx hb d_R_begin_72 rfl (lv_at hl 1 rfl) ?_
              refine hp_get (v := .ref (ad 107)) hx hb hg in_R hown hK h he rfl 9 (by decide) (hg _ w553) (fun _ z => z) rfl d_R_begin_73 ?_
              refine lv_iload_n hx hb d_R_begin_76 rfl (lv_at hl 0 rfl) ?_
              refine lv_iconst (v := 0) hx hb d_R_begin_77 (by decide) ?_
              refine hp_iast hx hb hK h 0 hf3_ ht rfl (by omega) (by decide) d_R_begin_78 (fun H locs f8 hf8 h => ?_)
              have he := he.ne' hf8 (kne (hT 100 (by omega) (by omega)) (hT 107 (by omega) (by omega)) (by decide))
              have hE := hE.ne' hf8 (kne (hT 101 (by omega) (by omega)) (hT 107 (by omega) (by omega)) (by decide))
              have hw := hw.ne' hf8 (kne (hT 102 (by omega) (by omega)) (hT 107 (by omega) (by omega)) (by decide))
              have hk := hk.ne' hf8 (kne (hT 103 (by omega) (by omega)) (hT 107 (by omega) (by omega)) (by decide))
              have hf0_ := hf0_.ne' hf8 (kne (hT 104 (by omega) (by omega)) (hT 107 (by omega) (by omega)) (by decide))
              have hf1_ := hf1_.ne' hf8 (kne (hT 105 (by omega) (by omega)) (hT 107 (by omega) (by omega)) (by decide))
              have hf2_ := hf2_.ne' hf8 (kne (hT 106 (by omega) (by omega)) (hT 107 (by omega) (by omega)) (by decide))
              have hf3_ := hf3_.self' hf8
              have hf4_ := hf4_.ne' hf8 (kne (hT 108 (by omega) (by omega)) (hT 107 (by omega) (by omega)) (by decide))
              have hf5_ := hf5_.ne' hf8 (kne (hT 109 (by omega) (by omega)) (hT 107 (by omega) (by omega)) (by decide))
              have hf6_ := hf6_.ne' hf8 (kne (hT 110 (by omega) (by omega)) (hT 107 (by omega) (by omega)) (by decide))
              have hf7_ := hf7_.ne' hf8 (kne (hT 111 (by omega) (by omega)) (hT 107 (by omega) (by omega)) (by decide))
              have hd := hd.ne' hf8 (kne (hT 112 (by omega) (by omega)) (hT 107 (by omega) (by omega)) (by decide))
              have hgv := hgv.ne' hf8 (kne (hT 113 (by omega) (by omega)) (hT 107 (by omega) (by omega)) (by decide))
              have hy := hy.ne' hf8 (kne (hT 114 (by omega) (by omega)) (hT 107 (by omega) (by omega)) (by decide))
              have hg0 := hg0.ne' hf8 (kne (hT 115 (by omega) (by omega)) (hT 107 (by omega) (by omega)) (by decide))
              have hg1 := hg1.ne' hf8 (kne (hT 116 (by omega) (by omega)) (hT 107 (by omega) (by omega)) (by decide))
              have hg2 := hg2.ne' hf8 (kne (hT 117 (by omega) (by omega)) (hT 107 (by omega) (by omega)) (by decide))
              have hg3 := hg3.ne' hf8 (kne (hT 118 (by omega) (by omega)) (hT 107 (by omega) (by omega)) (by decide))
              have hg4 := hg4.ne' hf8 (kne (hT 119 (by omega) (by omega)) (hT 107 (by omega) (by omega)) (by decide))
              refine lv_aload_n hx hb d_R_begin_79 rfl (lv_at hl 1 rfl) ?_
              refine hp_get (v := .ref (ad 108)) hx hb hg in_R hown hK h he rfl 10 (by decide) (hg _ w554) (fun _ z => z) rfl d_R_begin_80 ?_
              refine lv_iload_n hx hb d_R_begin_83 rfl (lv_at hl 0 rfl) ?_
              refine lv_iconst (v := (-1)) hx hb d_R_begin_84 (by decide) ?_
              refine hp_iast hx hb hK h 0 hf4_ ht rfl (by omega) (by decide) d_R_begin_85 (fun H locs f9 hf9 h => ?_)
              have he := he.ne' hf9 (kne (hT 100 (by omega) (by omega)) (hT 108 (by omega) (by omega)) (by decide))
              have hE := hE.ne' hf9 (kne (hT 101 (by omega) (by omega)) (hT 108 (by omega) (by omega)) (by decide))
              have hw := hw.ne' hf9 (kne (hT 102 (by omega) (by omega)) (hT 108 (by omega) (by omega)) (by decide))
              have hk := hk.ne' hf9 (kne (hT 103 (by omega) (by omega)) (hT 108 (by omega) (by omega)) (by decide))
              have hf0_ := hf0_.ne' hf9 (kne (hT 104 (by omega) (by omega)) (hT 108 (by omega) (by omega)) (by decide))
              have hf1_ := hf1_.ne' hf9 (kne (hT 105 (by omega) (by omega)) (hT 108 (by omega) (by omega)) (by decide))
              have hf2_ := hf2_.ne' hf9 (kne (hT 106 (by omega) (by omega)) (hT 108 (by omega) (by omega)) (by decide))
              have hf3_ := hf3_.ne' hf9 (kne (hT 107 (by omega) (by omega)) (hT 108 (by omega) (by omega)) (by decide))
              have hf4_ := hf4_.self' hf9
              have hf5_ := hf5_.ne' hf9 (kne (hT 109 (by omega) (by omega)) (hT 108 (by omega) (by omega)) (by decide))
              have hf6_ := hf6_.ne' hf9 (kne (hT 110 (by omega) (by omega)) (hT 108 (by omega) (by omega)) (by decide))
              have hf7_ := hf7_.ne' hf9 (kne (hT 111 (by omega) (by omega)) (hT 108 (by omega) (by omega)) (by decide))
              have hd := hd.ne' hf9 (kne (hT 112 (by omega) (by omega)) (hT 108 (by omega) (by omega)) (by decide))
              have hgv := hgv.ne' hf9 (kne (hT 113 (by omega) (by omega)) (hT 108 (by omega) (by omega)) (by decide))
              have hy := hy.ne' hf9 (kne (hT 114 (by omega) (by omega)) (hT 108 (by omega) (by omega)) (by decide))
              have hg0 := hg0.ne' hf9 (kne (hT 115 (by omega) (by omega)) (hT 108 (by omega) (by omega)) (by decide))
              have hg1 := hg1.ne' hf9 (kne (hT 116 (by omega) (by omega)) (hT 108 (by omega) (by omega)) (by decide))
              have hg2 := hg2.ne' hf9 (kne (hT 117 (by omega) (by omega)) (hT 108 (by omega) (by omega)) (by decide))
              have hg3 := hg3.ne' hf9 (kne (hT 118 (by omega) (by omega)) (hT 108 (by omega) (by omega)) (by decide))
              have hg4 := hg4.ne' hf9 (kne (hT 119 (by omega) (by omega)) (hT 108 (by omega) (by omega)) (by decide))
              refine lv_aload_n hx hb d_R_begin_86 rfl (lv_at hl 1 rfl) ?_
              refine hp_get (v := .ref (ad 109)) hx hb hg in_R hown hK h he rfl 11 (by decide) (hg _ w555) (fun _ z => z) rfl d_R_begin_87 ?_
              refine lv_iload_n hx hb d_R_begin_90 rfl (lv_at hl 0 rfl) ?_
              refine lv_iconst (v := (-1)) hx hb d_R_begin_91 (by decide) ?_
              refine hp_iast hx hb hK h 0 hf5_ ht rfl (by omega) (by decide) d_R_begin_92 (fun H locs f10 hf10 h => ?_)
              have he := he.ne' hf10 (kne (hT 100 (by omega) (by omega)) (hT 109 (by omega) (by omega)) (by decide))
              have hE := hE.ne' hf10 (kne (hT 101 (by omega) (by omega)) (hT 109 (by omega) (by omega)) (by decide))
              have hw := hw.ne' hf10 (kne (hT 102 (by omega) (by omega)) (hT 109 (by omega) (by omega)) (by decide))
              have hk := hk.ne' hf10 (kne (hT 103 (by omega) (by omega)) (hT 109 (by omega) (by omega)) (by decide))
              have hf0_ := hf0_.ne' hf10 (kne (hT 104 (by omega) (by omega)) (hT 109 (by omega) (by omega)) (by decide))
              have hf1_ := hf1_.ne' hf10 (kne (hT 105 (by omega) (by omega)) (hT 109 (by omega) (by omega)) (by decide))
              have hf2_ := hf2_.ne' hf10 (kne (hT 106 (by omega) (by omega)) (hT 109 (by omega) (by omega)) (by decide))
              have hf3_ := hf3_.ne' hf10 (kne (hT 107 (by omega) (by omega)) (hT 109 (by omega) (by omega)) (by decide))
              have hf4_ := hf4_.ne' hf10 (kne (hT 108 (by omega) (by omega)) (hT 109 (by omega) (by omega)) (by decide))
              have hf5_ := hf5_.self' hf10
              have hf6_ := hf6_.ne' hf10 (kne (hT 110 (by omega) (by omega)) (hT 109 (by omega) (by omega)) (by decide))
              have hf7_ := hf7_.ne' hf10 (kne (hT 111 (by omega) (by omega)) (hT 109 (by omega) (by omega)) (by decide))
              have hd := hd.ne' hf10 (kne (hT 112 (by omega) (by omega)) (hT 109 (by omega) (by omega)) (by decide))
              have hgv := hgv.ne' hf10 (kne (hT 113 (by omega) (by omega)) (hT 109 (by omega) (by omega)) (by decide))
              have hy := hy.ne' hf10 (kne (hT 114 (by omega) (by omega)) (hT 109 (by omega) (by omega)) (by decide))
              have hg0 := hg0.ne' hf10 (kne (hT 115 (by omega) (by omega)) (hT 109 (by omega) (by omega)) (by decide))
              have hg1 := hg1.ne' hf10 (kne (hT 116 (by omega) (by omega)) (hT 109 (by omega) (by omega)) (by decide))
              have hg2 := hg2.ne' hf10 (kne (hT 117 (by omega) (by omega)) (hT 109 (by omega) (by omega)) (by decide))
              have hg3 := hg3.ne' hf10 (kne (hT 118 (by omega) (by omega)) (hT 109 (by omega) (by omega)) (by decide))
              have hg4 := hg4.ne' hf10 (kne (hT 119 (by omega) (by omega)) (hT 109 (by omega) (by omega)) (by decide))
              refine lv_aload_n hx hb d_R_begin_93 rfl (lv_at hl 1 rfl) ?_
              refine hp_get (v := .ref (ad 110)) hx hb hg in_R hown hK h he rfl 12 (by decide) (hg _ w556) (fun _ z => z) rfl d_R_begin_94 ?_
              refine lv_iload_n hx hb d_R_begin_97 rfl (lv_at hl 0 rfl) ?_
              refine lv_bipush (v := 100) hx hb d_R_begin_98 (by decide) ?_
              refine hp_iast hx hb hK h 0 hf6_ ht rfl (by omega) (by decide) d_R_begin_100 (fun H locs f11 hf11 h => ?_)
              have he := he.ne' hf11 (kne (hT 100 (by omega) (by omega)) (hT 110 (by omega) (by omega)) (by decide))
              have hE := hE.ne' hf11 (kne (hT 101 (by omega) (by omega)) (hT 110 (by omega) (by omega)) (by decide))
              have hw := hw.ne' hf11 (kne (hT 102 (by omega) (by omega)) (hT 110 (by omega) (by omega)) (by decide))
              have hk := hk.ne' hf11 (kne (hT 103 (by omega) (by omega)) (hT 110 (by omega) (by omega)) (by decide))
              have hf0_ := hf0_.ne' hf11 (kne (hT 104 (by omega) (by omega)) (hT 110 (by omega) (by omega)) (by decide))
              have hf1_ := hf1_.ne' hf11 (kne (hT 105 (by omega) (by omega)) (hT 110 (by omega) (by omega)) (by decide))
              have hf2_ := hf2_.ne' hf11 (kne (hT 106 (by omega) (by omega)) (hT 110 (by omega) (by omega)) (by decide))
              have hf3_ := hf3_.ne' hf11 (kne (hT 107 (by omega) (by omega)) (hT 110 (by omega) (by omega)) (by decide))
              have hf4_ := hf4_.ne' hf11 (kne (hT 108 (by omega) (by omega)) (hT 110 (by omega) (by omega)) (by decide))
              have hf5_ := hf5_.ne' hf11 (kne (hT 109 (by omega) (by omega)) (hT 110 (by omega) (by omega)) (by decide))
              have hf6_ := hf6_.self' hf11
              have hf7_ := hf7_.ne' hf11 (kne (hT 111 (by omega) (by omega)) (hT 110 (by omega) (by omega)) (by decide))
              have hd := hd.ne' hf11 (kne (hT 112 (by omega) (by omega)) (hT 110 (by omega) (by omega)) (by decide))
              have hgv := hgv.ne' hf11 (kne (hT 113 (by omega) (by omega)) (hT 110 (by omega) (by omega)) (by decide))
              have hy := hy.ne' hf11 (kne (hT 114 (by omega) (by omega)) (hT 110 (by omega) (by omega)) (by decide))
              have hg0 := hg0.ne' hf11 (kne (hT 115 (by omega) (by omega)) (hT 110 (by omega) (by omega)) (by decide))
              have hg1 := hg1.ne' hf11 (kne (hT 116 (by omega) (by omega)) (hT 110 (by omega) (by omega)) (by decide))
              have hg2 := hg2.ne' hf11 (kne (hT 117 (by omega) (by omega)) (hT 110 (by omega) (by omega)) (by decide))
              have hg3 := hg3.ne' hf11 (kne (hT 118 (by omega) (by omega)) (hT 110 (by omega) (by omega)) (by decide))
              have hg4 := hg4.ne' hf11 (kne (hT 119 (by omega) (by omega)) (hT 110 (by omega) (by omega)) (by decide))
              refine lv_aload_n hx hb d_R_begin_101 rfl (lv_at hl 1 rfl) ?_
              refine hp_get (v := .ref (ad 111)) hx hb hg in_R hown hK h he rfl 13 (by decide) (hg _ w557) (fun _ z => z) rfl d_R_begin_102 ?_
              refine lv_iload_n hx hb d_R_begin_105 rfl (lv_at hl 0 rfl) ?_
              refine lv_iconst (v := (-1)) hx hb d_R_begin_106 (by decide) ?_
              refine hp_iast hx hb hK h 0 hf7_ ht rfl (by omega) (by decide) d_R_begin_107 (fun H locs f12 hf12 h => ?_)
              have he := he.ne' hf12 (kne (hT 100 (by omega) (by omega)) (hT 111 (by omega) (by omega)) (by decide))
              have hE := hE.ne' hf12 (kne (hT 101 (by omega) (by omega)) (hT 111 (by omega) (by omega)) (by decide))
              have hw := hw.ne' hf12 (kne (hT 102 (by omega) (by omega)) (hT 111 (by omega) (by omega)) (by decide))
              have hk := hk.ne' hf12 (kne (hT 103 (by omega) (by omega)) (hT 111 (by omega) (by omega)) (by decide))
              have hf0_ := hf0_.ne' hf12 (kne (hT 104 (by omega) (by omega)) (hT 111 (by omega) (by omega)) (by decide))
              have hf1_ := hf1_.ne' hf12 (kne (hT 105 (by omega) (by omega)) (hT 111 (by omega) (by omega)) (by decide))
              have hf2_ := hf2_.ne' hf12 (kne (hT 106 (by omega) (by omega)) (hT 111 (by omega) (by omega)) (by decide))
              have hf3_ := hf3_.ne' hf12 (kne (hT 107 (by omega) (by omega)) (hT 111 (by omega) (by omega)) (by decide))
              have hf4_ := hf4_.ne' hf12 (kne (hT 108 (by omega) (by omega)) (hT 111 (by omega) (by omega)) (by decide))
              have hf5_ := hf5_.ne' hf12 (kne (hT 109 (by omega) (by omega)) (hT 111 (by omega) (by omega)) (by decide))
              have hf6_ := hf6_.ne' hf12 (kne (hT 110 (by omega) (by omega)) (hT 111 (by omega) (by omega)) (by decide))
              have hf7_ := hf7_.self' hf12
              have hd := hd.ne' hf12 (kne (hT 112 (by omega) (by omega)) (hT 111 (by omega) (by omega)) (by decide))
              have hgv := hgv.ne' hf12 (kne (hT 113 (by omega) (by omega)) (hT 111 (by omega) (by omega)) (by decide))
              have hy := hy.ne' hf12 (kne (hT 114 (by omega) (by omega)) (hT 111 (by omega) (by omega)) (by decide))
              have hg0 := hg0.ne' hf12 (kne (hT 115 (by omega) (by omega)) (hT 111 (by omega) (by omega)) (by decide))
              have hg1 := hg1.ne' hf12 (kne (hT 116 (by omega) (by omega)) (hT 111 (by omega) (by omega)) (by decide))
              have hg2 := hg2.ne' hf12 (kne (hT 117 (by omega) (by omega)) (hT 111 (by omega) (by omega)) (by decide))
              have hg3 := hg3.ne' hf12 (kne (hT 118 (by omega) (by omega)) (hT 111 (by omega) (by omega)) (by decide))
              have hg4 := hg4.ne' hf12 (kne (hT 119 (by omega) (by omega)) (hT 111 (by omega) (by omega)) (by decide))
              refine lv_aload_n hx hb d_R_begin_108 rfl (lv_at hl 1 rfl) ?_
              refine hp_get (v := .ref (ad 112)) hx hb hg in_R hown hK h he rfl 14 (by decide) (hg _ w558) (fun _ z => z) rfl d_R_begin_109 ?_
              refine lv_iload_n hx hb d_R_begin_112 rfl (lv_at hl 0 rfl) ?_
              refine lv_iconst (v := 0) hx hb d_R_begin_113 (by decide) ?_
              refine hp_zast hx hb hK h 3 hd ht3 rfl (by omega) (by decide) rfl d_R_begin_114 (fun H locs f13 hf13 h => ?_)
              have he := he.ne' hf13 (kne (hT 100 (by omega) (by omega)) (hT 112 (by omega) (by omega)) (by decide))
              have hE := hE.ne' hf13 (kne (hT 101 (by omega) (by omega)) (hT 112 (by omega) (by omega)) (by decide))
              have hw := hw.ne' hf13 (kne (hT 102 (by omega) (by omega)) (hT 112 (by omega) (by omega)) (by decide))
              have hk := hk.ne' hf13 (kne (hT 103 (by omega) (by omega)) (hT 112 (by omega) (by omega)) (by decide))
              have hf0_ := hf0_.ne' hf13 (kne (hT 104 (by omega) (by omega)) (hT 112 (by omega) (by omega)) (by decide))
              have hf1_ := hf1_.ne' hf13 (kne (hT 105 (by omega) (by omega)) (hT 112 (by omega) (by omega)) (by decide))
              have hf2_ := hf2_.ne' hf13 (kne (hT 106 (by omega) (by omega)) (hT 112 (by omega) (by omega)) (by decide))
              have hf3_ := hf3_.ne' hf13 (kne (hT 107 (by omega) (by omega)) (hT 112 (by omega) (by omega)) (by decide))
              have hf4_ := hf4_.ne' hf13 (kne (hT 108 (by omega) (by omega)) (hT 112 (by omega) (by omega)) (by decide))
              have hf5_ := hf5_.ne' hf13 (kne (hT 109 (by omega) (by omega)) (hT 112 (by omega) (by omega)) (by decide))
              have hf6_ := hf6_.ne' hf13 (kne (hT 110 (by omega) (by omega)) (hT 112 (by omega) (by omega)) (by decide))
              have hf7_ := hf7_.ne' hf13 (kne (hT 111 (by omega) (by omega)) (hT 112 (by omega) (by omega)) (by decide))
              have hd := hd.self' hf13
              have hgv := hgv.ne' hf13 (kne (hT 113 (by omega) (by omega)) (hT 112 (by omega) (by omega)) (by decide))
              have hy := hy.ne' hf13 (kne (hT 114 (by omega) (by omega)) (hT 112 (by omega) (by omega)) (by decide))
              have hg0 := hg0.ne' hf13 (kne (hT 115 (by omega) (by omega)) (hT 112 (by omega) (by omega)) (by decide))
              have hg1 := hg1.ne' hf13 (kne (hT 116 (by omega) (by omega)) (hT 112 (by omega) (by omega)) (by decide))
              have hg2 := hg2.ne' hf13 (kne (hT 117 (by omega) (by omega)) (hT 112 (by omega) (by omega)) (by decide))
              have hg3 := hg3.ne' hf13 (kne (hT 118 (by omega) (by omega)) (hT 112 (by omega) (by omega)) (by decide))
              have hg4 := hg4.ne' hf13 (kne (hT 119 (by omega) (by omega)) (hT 112 (by omega) (by omega)) (by decide))
              refine lv_aload_n hx hb d_R_begin_115 rfl (lv_at hl 1 rfl) ?_
              refine hp_get (v := .ref (ad 113)) hx hb hg in_R hown hK h he rfl 15 (by decide) (hg _ w559) (fun _ z => z) rfl d_R_begin_116 ?_
              refine lv_iload_n hx hb d_R_begin_119 rfl (lv_at hl 0 rfl) ?_
              refine lv_iconst (v := 0) hx hb d_R_begin_120 (by decide) ?_
              refine hp_iast hx hb hK h 0 hgv ht rfl (by omega) (by decide) d_R_begin_121 (fun H locs f14 hf14 h => ?_)
              have he := he.ne' hf14 (kne (hT 100 (by omega) (by omega)) (hT 113 (by omega) (by omega)) (by decide))
              have hE := hE.ne' hf14 (kne (hT 101 (by omega) (by omega)) (hT 113 (by omega) (by omega)) (by decide))
              have hw := hw.ne' hf14 (kne (hT 102 (by omega) (by omega)) (hT 113 (by omega) (by omega)) (by decide))
              have hk := hk.ne' hf14 (kne (hT 103 (by omega) (by omega)) (hT 113 (by omega) (by omega)) (by decide))
              have hf0_ := hf0_.ne' hf14 (kne (hT 104 (by omega) (by omega)) (hT 113 (by omega) (by omega)) (by decide))
              have hf1_ := hf1_.ne' hf14 (kne (hT 105 (by omega) (by omega)) (hT 113 (by omega) (by omega)) (by decide))
              have hf2_ := hf2_.ne' hf14 (kne (hT 106 (by omega) (by omega)) (hT 113 (by omega) (by omega)) (by decide))
              have hf3_ := hf3_.ne' hf14 (kne (hT 107 (by omega) (by omega)) (hT 113 (by omega) (by omega)) (by decide))
              have hf4_ := hf4_.ne' hf14 (kne (hT 108 (by omega) (by omega)) (hT 113 (by omega) (by omega)) (by decide))
              have hf5_ := hf5_.ne' hf14 (kne (hT 109 (by omega) (by omega)) (hT 113 (by omega) (by omega)) (by decide))
              have hf6_ := hf6_.ne' hf14 (kne (hT 110 (by omega) (by omega)) (hT 113 (by omega) (by omega)) (by decide))
              have hf7_ := hf7_.ne' hf14 (kne (hT 111 (by omega) (by omega)) (hT 113 (by omega) (by omega)) (by decide))
              have hd := hd.ne' hf14 (kne (hT 112 (by omega) (by omega)) (hT 113 (by omega) (by omega)) (by decide))
              have hgv := hgv.self' hf14
              have hy := hy.ne' hf14 (kne (hT 114 (by omega) (by omega)) (hT 113 (by omega) (by omega)) (by decide))
              have hg0 := hg0.ne' hf14 (kne (hT 115 (by omega) (by omega)) (hT 113 (by omega) (by omega)) (by decide))
              have hg1 := hg1.ne' hf14 (kne (hT 116 (by omega) (by omega)) (hT 113 (by omega) (by omega)) (by decide))
              have hg2 := hg2.ne' hf14 (kne (hT 117 (by omega) (by omega)) (hT 113 (by omega) (by omega)) (by decide))
              have hg3 := hg3.ne' hf14 (kne (hT 118 (by omega) (by omega)) (hT 113 (by omega) (by omega)) (by decide))
              have hg4 := hg4.ne' hf14 (kne (hT 119 (by omega) (by omega)) (hT 113 (by omega) (by omega)) (by decide))
              refine lv_aload_n hx hb d_R_begin_122 rfl (lv_at hl 1 rfl) ?_
              refine hp_get (v := .ref (ad 114)) hx hb hg in_R hown hK h he rfl 16 (by decide) (hg _ w560) (fun _ z => z) rfl d_R_begin_123 ?_
              refine lv_iload_n hx hb d_R_begin_126 rfl (lv_at hl 0 rfl) ?_
              refine lv_iconst (v := 0) hx hb d_R_begin_127 (by decide) ?_
              refine hp_iast hx hb hK h 0 hy ht rfl (by omega) (by decide) d_R_begin_128 (fun H locs f15 hf15 h => ?_)
              have he := he.ne' hf15 (kne (hT 100 (by omega) (by omega)) (hT 114 (by omega) (by omega)) (by decide))
              have hE := hE.ne' hf15 (kne (hT 101 (by omega) (by omega)) (hT 114 (by omega) (by omega)) (by decide))
              have hw := hw.ne' hf15 (kne (hT 102 (by omega) (by omega)) (hT 114 (by omega) (by omega)) (by decide))
              have hk := hk.ne' hf15 (kne (hT 103 (by omega) (by omega)) (hT 114 (by omega) (by omega)) (by decide))
              have hf0_ := hf0_.ne' hf15 (kne (hT 104 (by omega) (by omega)) (hT 114 (by omega) (by omega)) (by decide))
              have hf1_ := hf1_.ne' hf15 (kne (hT 105 (by omega) (by omega)) (hT 114 (by omega) (by omega)) (by decide))
              have hf2_ := hf2_.ne' hf15 (kne (hT 106 (by omega) (by omega)) (hT 114 (by omega) (by omega)) (by decide))
              have hf3_ := hf3_.ne' hf15 (kne (hT 107 (by omega) (by omega)) (hT 114 (by omega) (by omega)) (by decide))
              have hf4_ := hf4_.ne' hf15 (kne (hT 108 (by omega) (by omega)) (hT 114 (by omega) (by omega)) (by decide))
              have hf5_ := hf5_.ne' hf15 (kne (hT 109 (by omega) (by omega)) (hT 114 (by omega) (by omega)) (by decide))
              have hf6_ := hf6_.ne' hf15 (kne (hT 110 (by omega) (by omega)) (hT 114 (by omega) (by omega)) (by decide))
              have hf7_ := hf7_.ne' hf15 (kne (hT 111 (by omega) (by omega)) (hT 114 (by omega) (by omega)) (by decide))
              have hd := hd.ne' hf15 (kne (hT 112 (by omega) (by omega)) (hT 114 (by omega) (by omega)) (by decide))
              have hgv := hgv.ne' hf15 (kne (hT 113 (by omega) (by omega)) (hT 114 (by omega) (by omega)) (by decide))
              have hy := hy.self' hf15
              have hg0 := hg0.ne' hf15 (kne (hT 115 (by omega) (by omega)) (hT 114 (by omega) (by omega)) (by decide))
              have hg1 := hg1.ne' hf15 (kne (hT 116 (by omega) (by omega)) (hT 114 (by omega) (by omega)) (by decide))
              have hg2 := hg2.ne' hf15 (kne (hT 117 (by omega) (by omega)) (hT 114 (by omega) (by omega)) (by decide))
              have hg3 := hg3.ne' hf15 (kne (hT 118 (by omega) (by omega)) (hT 114 (by omega) (by omega)) (by decide))
              have hg4 := hg4.ne' hf15 (kne (hT 119 (by omega) (by omega)) (hT 114 (by omega) (by omega)) (by decide))
              have hpre : ∀ (g : Nat → Int32) (z : Int32), (∀ j, j < k → g j = z) → ∀ j, j < k + 1 → upd g k z j = z := fun g z hz j hj => by by_cases q : j = k; rw [q, pk_us]; rw [pk_un q]; exact hz j (by omega)
              have hB : kBg cI cZ ad L f15 n (k + 1) := by
                refine ⟨he, ⟨_, hE⟩, ⟨_, hw⟩, ⟨_, hk⟩, fun t ht9 => ?_, ⟨_, hd, hpre _ _ hd1⟩, ⟨_, hgv, hpre _ _ hgv1⟩, ⟨_, hy, hpre _ _ hy1⟩, fun c hc => ?_⟩
                · rcases (show t = 0 ∨ t = 1 ∨ t = 2 ∨ t = 3 ∨ t = 4 ∨ t = 5 ∨ t = 6 ∨ t = 7 by omega) with rfl | rfl | rfl | rfl | rfl | rfl | rfl | rfl
                  · exact ⟨_, hf0_, hpre _ _ hpz0⟩
                  · exact ⟨_, hf1_, hpre _ _ hpz1⟩
                  · exact ⟨_, hf2_, hpre _ _ hpz2⟩
                  · exact ⟨_, hf3_, hpre _ _ hpz3⟩
                  · exact ⟨_, hf4_, hpre _ _ hpz4⟩
                  · exact ⟨_, hf5_, hpre _ _ hpz5⟩
                  · exact ⟨_, hf6_, hpre _ _ hpz6⟩
                  · exact ⟨_, hf7_, hpre _ _ hpz7⟩
                · rcases (show c = 0 ∨ c = 1 ∨ c = 2 ∨ c = 3 ∨ c = 4 by omega) with rfl | rfl | rfl | rfl | rfl
                  · exact ⟨_, hg0⟩
                  · exact ⟨_, hg1⟩
                  · exact ⟨_, hg2⟩
                  · exact ⟨_, hg3⟩
                  · exact ⟨_, hg4⟩
              have hF := hF.trans (kFq.w (L := L) hf5 (hT 104 (by omega) (by omega)) (by omega) (by omega))
              have hF := hF.trans (kFq.w (L := L) hf6 (hT 105 (by omega) (by omega)) (by omega) (by omega))
              have hF := hF.trans (kFq.w (L := L) hf7 (hT 106 (by omega) (by omega)) (by omega) (by omega))
              have hF := hF.trans (kFq.w (L := L) hf8 (hT 107 (by omega) (by omega)) (by omega) (by omega))
              have hF := hF.trans (kFq.w (L := L) hf9 (hT 108 (by omega) (by omega)) (by omega) (by omega))
              have hF := hF.trans (kFq.w (L := L) hf10 (hT 109 (by omega) (by omega)) (by omega) (by omega))
              have hF := hF.trans (kFq.w (L := L) hf11 (hT 110 (by omega) (by omega)) (by omega) (by omega))
              have hF := hF.trans (kFq.w (L := L) hf12 (hT 111 (by omega) (by omega)) (by omega) (by omega))
              have hF := hF.trans (kFq.w (L := L) hf13 (hT 112 (by omega) (by omega)) (by omega) (by omega))
              have hF := hF.trans (kFq.w (L := L) hf14 (hT 113 (by omega) (by omega)) (by omega) (by omega))
              have hF := hF.trans (kFq.w (L := L) hf15 (hT 114 (by omega) (by omega)) (by omega) (by omega))
              refine lv_iinc (k := 0) (v := (nI (k + 1))) (lv' := [(2, .int (nI (k + 1))), (0, .ref (ad 100)), (1, .int (nI n))]) hx hb d_R_begin_129 hl rfl (hp_inc k 1) (by decide) rfl (fun ls hl => ?_)
              refine lv_goto (tgt := 45) hx hb d_R_begin_132 (by decide) ?_
              exact ih (k + 1) f15 H locs ls (by omega) hB hF (lv_sub hl [0, 1, 2] rfl) h
        have hl0 : lv_has ls 3 [(2, .int (nI 0)), (0, .ref (ad 100)), (1, .int (nI n))] := by rw [nI_0]; exact lv_sub hl [0, 1, 2] rfl
        exact key 7 0 _ _ _ ls (by omega) hB hF hl0 h
      · skip
        exact absurd hc9 (by decide)
    · skip
      refine lv_iconst (v := 1) hx hb d_R_begin_12 (by decide) ?_
      refine lv_goto (tgt := 17) hx hb d_R_begin_13 (by decide) ?_
      refine hp_put (ty := .int) (v := .int 1) (fs' := [.int 1, .int (nI E.1), .int (nI E.2.1), .ref (ad 101), .ref (ad 102), .ref (ad 103), .ref (ad 104), .ref (ad 105), .ref (ad 106), .ref (ad 107), .ref (ad 108), .ref (ad 109), .ref (ad 110), .ref (ad 111), .ref (ad 112), .ref (ad 113), .ref (ad 114), .ref (ad 115), .ref (ad 116), .ref (ad 117), .ref (ad 118), .ref (ad 119), .int S.2.2.2.2.1]) hx hb hg in_R t_R t_R_ok n_R hown hK h he rfl 0 (by decide) (hg _ w544) (fun _ z => z) rfl (by decide +kernel) rfl rfl (Nat.le_of_ble_eq_true rfl) rfl d_R_begin_17 (fun H locs f1 hf1 h => ?_)
      have he := he.self' hf1
      refine lv_aload_n hx hb d_R_begin_20 rfl (lv_at hl 0 rfl) ?_
      refine hp_get (v := .int 1) hx hb hg in_R hown hK h he rfl 0 (by decide) (hg _ w544) (fun _ z => z) rfl d_R_begin_21 ?_
      have hR : kR cI cZ ad τ L f1 1 E S := hR.wO (f1 := f1) (code' := 1) (sc := S.2.2.2.2.1) hf1
      have hF : kFq τ L f (L, f1) := kFq.w hf1 (hT 100 (by omega) (by omega)) (by omega) (by omega)
      refine lv_if_le (tgt := 28) hx hb d_R_begin_24 (by decide) (fun hc9 => ?_) (fun hc9 => ?_)
      · skip
        exact absurd hc9 (by decide)
      · skip
        exact hp_vret hx hb hr hlk h (Or.inr ⟨(Or.inr (Int32.not_le.mp hc2)), hR, hF⟩) (by omega) (by omega) d_R_begin_27
