/-! The pure steps keep the invariants: CONNECT, TEST, CORE, by program (wip/mk79.py). -/
section GLW
variable {E : kE} {S : kS} {F : gh_F} {mk : Nat → Nat → Nat} {Q : gl_Q} {v j : Nat}
theorem k_post_pop {x : Nat} {q : kM} {l : List kM} (ht : k_to E x (kx q.2.1) ≠ v) : k_post E (k_pop S v l) x q = k_pop (k_post E S x q) v l := by
  obtain ⟨tt, htt⟩ : ∃ tt, k_to E x (kx q.2.1) = tt := ⟨_, rfl⟩
  rw [htt] at ht
  unfold k_post k_send
  rw [htt]
  have e1 : kup S.2.2.1 v l tt = S.2.2.1 tt := kup_ne _ _ ht
  have e2 : kup S.2.2.2.1 v (S.2.2.2.1 v) tt = S.2.2.2.1 tt := kup_ne _ _ ht
  refine Prod.ext rfl (Prod.ext rfl (Prod.ext (funext fun i => ?_) (Prod.ext (funext fun i => ?_) (Prod.ext rfl (Prod.ext ?_ ?_)))))
  · show kup (kup S.2.2.1 v l) tt (kup S.2.2.1 v l tt ++ [q]) i = kup (kup S.2.2.1 tt (S.2.2.1 tt ++ [q])) v l i
    rw [e1]
    by_cases h1 : i = v
    · subst h1; rw [kup_self, kup_ne _ _ (fun z => ht z.symm), kup_self]
    · rw [kup_ne _ _ h1]
      by_cases h2 : i = tt
      · subst h2; rw [kup_self, kup_self]
      · rw [kup_ne _ _ h2, kup_ne _ _ h2, kup_ne _ _ h1]
  · show kup (kup S.2.2.2.1 v (S.2.2.2.1 v)) tt (kcap (kup S.2.2.1 v l tt).length (kup S.2.2.2.1 v (S.2.2.2.1 v) tt)) i = kup (kup S.2.2.2.1 tt (kcap (S.2.2.1 tt).length (S.2.2.2.1 tt))) v (kup S.2.2.2.1 tt (kcap (S.2.2.1 tt).length (S.2.2.2.1 tt)) v) i
    rw [e1, e2, kup_ne S.2.2.2.1 _ (fun z => ht z.symm)]
    by_cases h1 : i = v
    · subst h1; rw [kup_self, kup_ne _ _ (fun z => ht z.symm), kup_self]
    · rw [kup_ne _ _ h1]
      by_cases h2 : i = tt
      · subst h2; rw [kup_self, kup_self]
      · rw [kup_ne _ _ h2, kup_ne _ _ h2, kup_ne _ _ h1]
  · show k_cu S + 1 + kmc (kup S.2.2.1 v l tt).length (kup S.2.2.2.1 v (S.2.2.2.1 v) tt) = k_cu S + 1 + kmc (S.2.2.1 tt).length (S.2.2.2.1 tt)
    rw [e1, e2]
  · show k_su S + 5 + kms (kup S.2.2.1 v l tt).length (kup S.2.2.2.1 v (S.2.2.2.1 v) tt) = k_su S + 5 + kms (S.2.2.1 tt).length (S.2.2.2.1 tt)
    rw [e1, e2]
theorem k_lb_pop {l : List kM} {y : Nat} : ∀ n, k_lb E (k_fld (k_pop S v l) y 0 2) y n = k_lb E (k_fld S y 0 2) y n
  | 0 => rfl
  | n + 1 => by
    unfold k_lb
    rw [k_lb_pop n]
    rfl
theorem k_wake_pop {l : List kM} (hto : ∀ i, k_lb E (k_fld S v 0 2) v E.2.1 = some i → k_to E v (kx (nI i)) ≠ v) : k_wake E (k_pop S v l) v = k_pop (k_wake E S v) v l := by
  by_cases h0 : S.1 v 0 = 0
  · cases hl : k_lb E (k_fld S v 0 2) v E.2.1 with
    | none => rw [k_wake1 h0 hl, k_wake1 (S := k_pop S v l) h0 ((k_lb_pop _).trans hl)]; rfl
    | some i =>
      rw [k_wake2 h0 hl, k_wake2 (S := k_pop S v l) h0 ((k_lb_pop _).trans hl)]
      exact k_post_pop (S := k_mark (k_fld S v 0 2) v i 1) (q := (0, nI i, 0, 0, 0)) (hto i hl)
  · rw [k_wake0 h0, k_wake0 (S := k_pop S v l) h0]
/-- the numbers of a message that lies first -/
theorem gl_hd (hE : kNet E) (hI : gI (gl_own E) (k_to E) (gl_w E) F mk (gl_ch Q)) {m : gh_M} {t : List gh_M} (ho : gl_own E v j) (hc : gl_ch Q v j = m :: t) : m.1 ≤ 6 ∧ (m.1 = 0 → m.2.1 ≤ 6) ∧ (m.1 = 1 → m.2.1 ≤ 6 ∧ m.2.2.1 < 100 ∧ m.2.2.2 ≤ 2) ∧ (m.1 = 2 → m.2.1 ≤ 6 ∧ m.2.2.1 < 100) ∧ (m.1 = 5 → m.2.1 ≤ 100) := by
  have Hn := hE.net
  have hd := gi_hd hI.2.2.2.2.2.2.2.2.2.2.2.2.2.2.2.2.2.2.2.2.2.2.2.2.2.2.2.2.2.2.2 ho hc
  have hj := Hn.1 v j ho
  have hu := Hn.1 _ j hj.1
  have s1 := hI.small hE hj.2.2.2.2.1
  have s2 := hI.small hE hu.2.2.2.2.1
  have lv := (gi_lv hI.2.1 hI.2.2.2.2.2.2.2.2.2.2.2.2.2.2.2.2.2.2.2.2.2.2.2.2.2.2.2.2.2.2.1 hu.2.2.2.2.1).2
  refine ⟨hd.1, fun h => ?_, fun h => ?_, fun h => ?_, fun h => ?_⟩
  · have q := hd.2.2.1 h
    by_cases z : F 8 (k_to E v j) = F 8 v
    · have := (q.2.1 z).2.2.1; omega
    · have := q.2.2 z; omega
  · have q := hd.2.1 h
    obtain ⟨y, f, r1, r2, -⟩ := q.2.2.2.2.2.2.2.2.2.2
    have := (Hn.1 y f r1).2.2.2.2.2.2
    exact ⟨by have := q.2.2.2.2.1; omega, by omega, by have := q.2.2.2.2.2.2.2.1; omega⟩
  · have q := hd.2.2.2.1 h
    by_cases z : gi_wt F (k_to E v j) j
    · have := q.1 z; omega
    · have := q.2 z; omega
  · have q := (hd.2.2.2.2.2.2.2 h).2
    rcases q with q | q | q
    · have := q.2.2.2.2.2.2.2.2; omega
    · have := q.2.2.2.2.1; omega
    · have := q.2.2.2.1; omega
theorem st_wakep (hE : kNet E) (h : gst E S F mk Q) (hv : v < 7) {m : gh_M} {t : List (Nat × gh_M)} (hq : Q v = (j, m) :: t) : ∃ S1 F1 mk1 Q1, k_wake E (k_pop S v (t.map gl_m)) v = k_pop S1 v (t.map gl_m) ∧ S1 = k_wake E S v ∧ gst E S1 F1 mk1 Q1 ∧ Q1 v = (j, m) :: t ∧ F1 0 v ≠ 0 := by
  obtain ⟨F1, mk1, Q1, h1, h2, h3⟩ := st_wake hE h hv
  refine ⟨_, F1, mk1, Q1, k_wake_pop (fun i hi => ?_), rfl, h1, h2.trans hq, h3⟩
  obtain ⟨hj, hz⟩ := k_lb_some hi
  have ho : gl_own E v i := by
    by_cases z : gl_own E v i
    · exact z
    · exact absurd (((h.1.2.1 v i).2 z).symm.trans hz) (by decide)
  have hn := hE.net.1 v i ho
  rw [kx_nI (by omega)]
  exact hn.2.2.1
theorem st_conn (hE : kNet E) (h : gst E S F mk Q) (hv : v < 7) {m : gh_M} {t : List (Nat × gh_M)} (hq : Q v = (j, m) :: t) (hk : m.1 = 0) : gX E (k_conn E (k_pop S v (t.map gl_m)) v (gl_m (j, m))) := by
  obtain ⟨S1, F1, mk1, Q1, ew, -, ⟨hR, hI⟩, hq1, h01⟩ := st_wakep hE h hv hq
  have Hn := hE.net
  have sm := hI.small hE hv
  have hf := hR.1 v
  obtain ⟨ho, hsh⟩ := hR.2.2.2.1 v (j, m) (by rw [hq1]; exact List.mem_cons_self)
  have hjn := Hn.1 v j ho
  have hc : gl_ch Q1 v j = m :: gl_c t j := gl_ch_hd hq1
  have hb := gl_hd hE hI ho hc
  have r1 := hR.pop hq1
  have hm2 := (hI.2.2.2.2.2.2.2.2.2.2.2.2.2.2.2.2.2.2.2.2.2.2.2.2.2.2.1 v j ho).1
  unfold k_conn
  rw [ew]
  show gX E (if nI m.2.1 < S1.1 v 1 then k_ini1 E (k_mark (k_pop S1 v (t.map gl_m)) v (kx (nI j)) 1) v (kx (nI j)) else if S1.2.1 v (kx (nI j)) = 0 then k_add (k_pop S1 v (t.map gl_m)) v (gl_m (j, m)) else k_post E (k_pop S1 v (t.map gl_m)) v (1, nI (kx (nI j)), S1.1 v 1 + 1, E.2.2.2.2 (kx (nI j)), 1))
  rw [kx_nI (by omega)]
  have hm6 := hb.2.1 hk
  by_cases h1 : m.2.1 < F1 1 v
  · rw [if_pos (by rw [hf.2.1]; exact nI_lt h1 (by omega))]
    have r2 := r1.mark (x := v) (j := j) (a := 1) (i := 1) ho rfl
    have r3 := r2.post hE (m := (1, F1 1 v, F1 2 v, F1 0 v)) ho (q := (1, nI j, S1.1 v 1, S1.1 v 2, S1.1 v 0)) (by rw [hf.1, hf.2.1, hf.2.2.1]; rfl) ⟨fun z => by simp at z, fun z => by simp at z⟩
    unfold k_ini1
    show gX E (if S1.1 v 0 = 1 then k_fld (k_post E (k_mark (k_pop S1 v (t.map gl_m)) v j 1) v (1, nI j, S1.1 v 1, S1.1 v 2, S1.1 v 0)) v 3 (S1.1 v 3 + 1) else k_post E (k_mark (k_pop S1 v (t.map gl_m)) v j 1) v (1, nI j, S1.1 v 1, S1.1 v 2, S1.1 v 0))
    by_cases h2 : F1 0 v = 1
    · rw [if_pos (by rw [hf.1, h2]; rfl)]
      have g := ab_I Hn hI ho hc hk h1 (n3 := F1 3 v + 1) (Or.inl ⟨h2, rfl⟩)
      have r4 := r3.fld (x := v) (k := 3) (a := F1 3 v + 1) (i := S1.1 v 3 + 1) (by decide) (by rw [hf.2.2.2.1]; exact nI_1 _) (fun z => by omega)
      refine ⟨_, _, _, r4.ghost (F' := ga_ab F1 v (k_to E v j) (F1 3 v + 1)) (fun k x hk => gA_lo hk), ?_⟩
      rw [gl_ch_app, gl_ch_pop hq1]
      exact g
    · rw [if_neg (by rw [hf.1]; exact fun z => h2 ((nI_eq (b := 1) (by omega) (by omega)).mp z))]
      have g := ab_I Hn hI ho hc hk h1 (n3 := F1 3 v) (Or.inr ⟨by omega, rfl⟩)
      refine ⟨_, _, _, r3.ghost (F' := ga_ab F1 v (k_to E v j) (F1 3 v)) (fun k x hk => by rw [gA_lo hk]; unfold gh_U; by_cases z : k = 3 ∧ x = v; rw [if_pos z, z.1, z.2]; rw [if_neg z]), ?_⟩
      rw [gl_ch_app, gl_ch_pop hq1]
      exact g
  · rw [if_neg (by rw [hf.2.1]; exact nI_nlt (by omega) (by omega))]
    by_cases h2 : mk1 v j = 0
    · rw [if_pos (show S1.2.1 v j = 0 from (gl_mk1 hR ho hm2 0 (by omega)).mpr h2)]
      refine ⟨F1, mk1, _, r1.add ho hsh, ?_⟩
      rw [gl_ch_app, gl_ch_pop hq1]
      exact ro_Ic Hn hI ho hc hk h2
    · rw [if_neg (show ¬ S1.2.1 v j = 0 from fun z => h2 ((gl_mk1 hR ho hm2 0 (by omega)).mp z))]
      have r3 := r1.post hE (m := (1, F1 1 v + 1, gl_w E j, 1)) ho (q := (1, nI j, S1.1 v 1 + 1, E.2.2.2.2 j, 1)) (by rw [hf.2.1, nI_1, gl_w_nI hE ho.1]; rfl) ⟨fun z => by simp at z, fun z => by simp at z⟩
      refine ⟨F1, mk1, _, r3, ?_⟩
      rw [gl_ch_app, gl_ch_pop hq1]
      exact ci_I Hn hI ho hc hk h1 h2
theorem st_tst (hE : kNet E) (h : gst E S F mk Q) (hv : v < 7) {m : gh_M} {t : List (Nat × gh_M)} (hq : Q v = (j, m) :: t) (hk : m.1 = 2) : gX E (k_tst E (k_pop S v (t.map gl_m)) v (gl_m (j, m))) := by
  obtain ⟨S1, F1, mk1, Q1, ew, -, ⟨hR, hI⟩, hq1, h01⟩ := st_wakep hE h hv hq
  have Hn := hE.net
  have sm := hI.small hE hv
  have hf := hR.1 v
  obtain ⟨ho, hsh⟩ := hR.2.2.2.1 v (j, m) (by rw [hq1]; exact List.mem_cons_self)
  have hjn := Hn.1 v j ho
  have hc : gl_ch Q1 v j = m :: gl_c t j := gl_ch_hd hq1
  have hb := (gl_hd hE hI ho hc).2.2.2.1 hk
  have r1 := hR.pop hq1
  have hm2 := (hI.2.2.2.2.2.2.2.2.2.2.2.2.2.2.2.2.2.2.2.2.2.2.2.2.2.2.1 v j ho).1
  unfold k_tst
  rw [ew]
  show gX E (if S1.1 v 1 < nI m.2.1 then k_add (k_pop S1 v (t.map gl_m)) v (gl_m (j, m)) else if nI m.2.2.1 = S1.1 v 2 then (if S1.1 v 7 = nI (kx (nI j)) then k_test E (k_rej (k_pop S1 v (t.map gl_m)) v (kx (nI j))) v else k_post E (k_rej (k_pop S1 v (t.map gl_m)) v (kx (nI j))) v (4, nI (kx (nI j)), 0, 0, 0)) else k_post E (k_pop S1 v (t.map gl_m)) v (3, nI (kx (nI j)), 0, 0, 0))
  rw [kx_nI (by omega)]
  by_cases h1 : F1 1 v < m.2.1
  · rw [if_pos (by rw [hf.2.1]; exact nI_lt h1 (by omega))]
    refine ⟨F1, mk1, _, r1.add ho hsh, ?_⟩
    rw [gl_ch_app, gl_ch_pop hq1]
    exact ro_It Hn hI ho hc hk
  · rw [if_neg (by rw [hf.2.1]; exact nI_nlt (by omega) (by omega))]
    by_cases h2 : m.2.2.1 = F1 2 v
    · rw [if_pos (by rw [hf.2.2.1, h2])]
      obtain ⟨mk9, r2, M1, M2, M3, M4⟩ := st_rej r1 ho hm2
      by_cases h3 : F1 7 v = j
      · rw [if_pos (by rw [hf.2.2.2.2.2.2.2, h3, gl_e_ne (by omega)])]
        have h0 : F1 0 v = 1 := Decidable.byContradiction (fun z => by have := (hI.2.2.2.2.2.2.2.2.2.1 v z).1; omega)
        have g := td_I Hn hI ho hc hk (by omega) h2 h3 h0 M1 M2 M3 M4
        rw [← gl_ch_pop hq1] at g
        exact st_test hE ⟨r2.fld (x := v) (k := 7) (a := 12) (i := -1) (by decide) rfl (fun z => by omega), g⟩ hv (by rw [gU_ne (by decide)]; exact h0) gU_eq
      · rw [if_neg (by rw [hf.2.2.2.2.2.2.2]; exact fun z => h3 ((gl_e_eq sm.2.2.2.2.2.2 (by omega)).mp z.symm).symm)]
        have r3 := r2.post hE (m := (4, 0, 0, 0)) ho (q := (4, nI j, 0, 0, 0)) rfl ⟨fun z => by simp at z, fun z => by simp at z⟩
        refine ⟨F1, mk9, _, r3, ?_⟩
        rw [gl_ch_app, gl_ch_pop hq1]
        exact tc_I Hn hI ho hc hk (by omega) h2 h3 M1 M2 M3 M4
    · rw [if_neg (by rw [hf.2.2.1]; exact fun z => h2 ((nI_eq (by omega) (by omega)).mp z))]
      have r3 := r1.post hE (m := (3, 0, 0, 0)) ho (q := (3, nI j, 0, 0, 0)) rfl ⟨fun z => by simp at z, fun z => by simp at z⟩
      refine ⟨F1, mk1, _, r3, ?_⟩
      rw [gl_ch_app, gl_ch_pop hq1]
      exact tb_I Hn hI ho hc hk (by omega) h2
theorem st_core (hE : kNet E) (h : gst E S F mk Q) (hv : v < 7) {m : gh_M} {t : List (Nat × gh_M)} (hq : Q v = (j, m) :: t) (hk : m.1 = 6) : gX E (k_move E (k_pop S v (t.map gl_m)) v) := by
  obtain ⟨hR, hI⟩ := h
  have Hn := hE.net
  obtain ⟨ho, hsh⟩ := hR.2.2.2.1 v (j, m) (by rw [hq]; exact List.mem_cons_self)
  have hc : gl_ch Q v j = m :: gl_c t j := gl_ch_hd hq
  have r1 := hR.pop hq
  obtain ⟨g5, go⟩ := ry_M Hn hI ho hc hk
  rw [← gl_ch_pop hq] at go
  exact st_move hE r1 g5 (fun z => (hI.2.2.2.2.2.2.2.2.2.2.2.2.2.2.2.2.2.2.2.2.2.2.2.2.2.2.1 v _ z).1) go
end GLW
