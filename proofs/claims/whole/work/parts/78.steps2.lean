/-! The pure steps keep the invariants: the core moves, a node wakes, answers, by program (wip/mk78.py). -/
section GLV
variable {E : kE} {F : gh_F} {mk : Nat → Nat → Nat} {Q : gl_Q} {v j : Nat}
theorem st_rep9 (hE : kNet E) (hI : gI (gl_own E) (k_to E) (gl_w E) F mk (gl_ch Q)) {m : gh_M} {t : List gh_M} (ho : gl_own E v j) (hc : gl_ch Q v j = m :: t) (hk : m.1 = 5) (h4 : j ≠ F 4 v) : F 0 v = 1 ∧ mk v j = 1 ∧ F 9 v ≠ j := by
  have Hn := hE.net
  have hd := (gi_hd hI.2.2.2.2.2.2.2.2.2.2.2.2.2.2.2.2.2.2.2.2.2.2.2.2.2.2.2.2.2.2.2 ho hc).2.2.2.2.2.2.2 hk
  obtain ⟨Hst, Hb1, Hb2, Hb3, Hb4, Hb5, Hb6, Hs0, HpA, Hs1, Hs2, HSl, Hs3, Hs4, How, Hs5, Hs6, HSr, HSn, HM, HC, Hph, H6, H7, Hbc, HK, Hrj, Htw, Hts, Han, Hsz, Hch⟩ := hI
  have hs := hd.1
  rw [hs] at hd
  rcases hd.2 with q | q | q
  · exact ⟨q.2.2.2.2.2.2.1, q.2.1, q.2.2.2.1⟩
  · exfalso
    have a2 := Hs5 v
    obtain ⟨y, e, r1, r2, r3, r4, r5, r6⟩ := Hb6 v (HSl v q.1)
    have b2 : e = j := Hn.2.2 y v e j r1 ho (by rw [r2]; exact q.2.1.symm)
    subst b2
    have b3 := Hn.2.1 v y e ho r1
    have b5 : mk v e = 1 := by
      rcases b3 with z | z
      · rw [← z]; exact r5
      · rw [z, (Hn.1 v e ho).2.1] at r6; exact r6
    have b4 := ((HK v e (k_to E v e) ho rfl b5).1 hs.symm).2
    have b7 := HSr (k_to E v e) (by rw [hs]; exact q.1)
    have h9 : F 9 v = e := by
      rcases b4 with z | z
      · exact z
      · have := (b7 (by rw [z, hs]; exact q.2.1)).1
        rw [z, (Hn.1 v e ho).2.1] at this
        exact this
    have := a2 (by unfold gi_cur; exact q.2.2.2.2.2) q.1
    exact h4 (by rw [this, h9])
  · exact absurd q.2.2.1.symm h4
theorem st_rep1 (hE : kNet E) (hI : gI (gl_own E) (k_to E) (gl_w E) F mk (gl_ch Q)) {m : gh_M} {t : List gh_M} (ho : gl_own E v j) (hc : gl_ch Q v j = m :: t) (hk : m.1 = 5) (h4 : j ≠ F 4 v) : F 0 v = 1 := (st_rep9 hE hI ho hc hk h4).1
theorem st_rep0 (hE : kNet E) (hI : gI (gl_own E) (k_to E) (gl_w E) F mk (gl_ch Q)) {m : gh_M} {t : List gh_M} (ho : gl_own E v j) (hc : gl_ch Q v j = m :: t) (hk : m.1 = 5) (h4 : j ≠ F 4 v) (h3 : F 3 v = 0) : False := by
  obtain ⟨z1, z2, z3⟩ := st_rep9 hE hI ho hc hk h4
  obtain ⟨l, l1, l2, l3⟩ := hI.2.2.2.2.2.2.2.2.2.2.2.2.2.2.2.2.2.2.2.2.2.2.2.2.2.2.2.2.2.1 v z1
  have hl : l = [] := List.length_eq_zero_iff.mp (l2.trans h3)
  subst hl
  have := (l3 j).mpr ⟨ho, z2, fun z => z3 z.symm, fun z => z.2.2 ⟨m, by rw [hc]; exact List.mem_cons_self, hk⟩⟩
  cases this
end GLV
section GLU
variable {E : kE} {S : kS} {F : gh_F} {mk : Nat → Nat → Nat} {Q : gl_Q} {v j : Nat}
theorem gH_lo {F : gh_F} {g p y e v b k x : Nat} (hk : k < 8) : gh_H (gh_R F v b) g p y e k x = F k x := by
  unfold gh_H gh_R
  rw [if_neg (by omega), if_neg (by omega), if_neg (by omega), if_neg (by omega), if_neg (by omega)]
theorem gM_lo {F : gh_F} {v u W b k x : Nat} (hk : k < 8) : ga_mg F v u W b k x = F k x := by
  unfold ga_mg
  rw [if_neg (by omega), if_neg (by omega), if_neg (by omega), if_neg (by omega), if_neg (by omega), if_neg (by omega)]
theorem gA_lo {F : gh_F} {v u n3 k x : Nat} (hk : k < 8) : ga_ab F v u n3 k x = gh_U F 3 v n3 k x := by
  unfold ga_ab gh_U
  rw [if_neg (by omega), if_neg (by omega), if_neg (by omega)]
theorem gl_mk1 (h : gR E S F mk Q) {x e : Nat} (ho : gl_own E x e) (hm : mk x e ≤ 2) (n : Nat) (hn : n ≤ 2) : S.2.1 x e = nI n ↔ mk x e = n := by
  rw [(h.2.1 x e).1 ho]
  exact nI_eq (by omega) (by omega)
theorem st_move (hE : kNet E) (hR : gR E S F mk Q) (h5 : F 5 v ≠ 12) (hm2 : gl_own E v (F 5 v) → mk v (F 5 v) ≤ 2) (hgo : gl_own E v (F 5 v) ∧
    (mk v (F 5 v) = 1 → gI (gl_own E) (k_to E) (gl_w E) (gh_H (gh_R F v (F 5 v)) (F 8 v) 2 (k_to E v (F 5 v)) (F 5 v)) mk (gh_A (gl_ch Q) (k_to E v (F 5 v)) (F 5 v) (6, 0, 0, 0))) ∧
    (mk v (F 5 v) ≠ 1 → mk (k_to E v (F 5 v)) (F 5 v) ≠ 1 → gI (gl_own E) (k_to E) (gl_w E) (gh_H (gh_R F v (F 5 v)) (F 8 v) 3 v (F 5 v)) (gh_K mk v (F 5 v) 1) (gh_A (gl_ch Q) (k_to E v (F 5 v)) (F 5 v) (0, F 1 v, 0, 0))) ∧
    (mk v (F 5 v) ≠ 1 → mk (k_to E v (F 5 v)) (F 5 v) = 1 → gI (gl_own E) (k_to E) (gl_w E) (ga_mg F v (k_to E v (F 5 v)) (gl_w E (F 5 v)) (F 5 v)) (gh_K mk v (F 5 v) 1) (gh_A (gl_ch Q) (k_to E v (F 5 v)) (F 5 v) (0, F 1 v, 0, 0)))) : gX E (k_move E S v) := by
  have Hn := hE.net
  obtain ⟨ho, g1, g2, g3⟩ := hgo
  have hb12 := (Hn.1 v _ ho).2.2.2.1
  have hf := hR.1 v
  have e5 : S.1 v 5 = nI (F 5 v) := by rw [hf.2.2.2.2.2.1, gl_e_ne h5]
  have ek : kx (S.1 v 5) = F 5 v := by rw [e5]; exact kx_nI (by omega)
  unfold k_move
  rw [ek]
  by_cases hc : mk v (F 5 v) = 1
  · rw [if_pos (show S.2.1 v (F 5 v) = 1 from (gl_mk1 hR ho (hm2 ho) 1 (by omega)).mpr hc)]
    have r2 := hR.post hE (m := (6, 0, 0, 0)) ho (q := (6, S.1 v 5, 0, 0, 0)) (by rw [e5]; rfl) ⟨fun z => by simp at z, fun z => by simp at z⟩
    refine ⟨_, mk, _, r2.ghost (F' := gh_H (gh_R F v (F 5 v)) (F 8 v) 2 (k_to E v (F 5 v)) (F 5 v)) (fun k x hk => gH_lo hk), ?_⟩
    rw [gl_ch_app]
    exact g1 hc
  · rw [if_neg (show ¬ S.2.1 v (F 5 v) = 1 from fun z => hc ((gl_mk1 hR ho (hm2 ho) 1 (by omega)).mp z))]
    have r2 := hR.post hE (m := (0, F 1 v, 0, 0)) ho (q := (0, S.1 v 5, S.1 v 1, 0, 0)) (by rw [e5, hf.2.1]; rfl) ⟨fun _ => ⟨rfl, rfl⟩, fun _ => rfl⟩
    have r3 := r2.mark (x := v) (j := F 5 v) (a := 1) (i := 1) ho rfl
    by_cases hy : mk (k_to E v (F 5 v)) (F 5 v) = 1
    · refine ⟨_, _, _, r3.ghost (F' := ga_mg F v (k_to E v (F 5 v)) (gl_w E (F 5 v)) (F 5 v)) (fun k x hk => gM_lo hk), ?_⟩
      rw [gl_ch_app]
      exact g3 hc hy
    · refine ⟨_, _, _, r3.ghost (F' := gh_H (gh_R F v (F 5 v)) (F 8 v) 3 v (F 5 v)) (fun k x hk => gH_lo hk), ?_⟩
      rw [gl_ch_app]
      exact g2 hc hy
theorem st_wake (hE : kNet E) (h : gst E S F mk Q) (hv : v < 7) : ∃ F' mk' Q', gst E (k_wake E S v) F' mk' Q' ∧ Q' v = Q v ∧ F' 0 v ≠ 0 := by
  obtain ⟨hR, hI⟩ := h
  have Hn := hE.net
  have sm := hI.small hE hv
  have hf := hR.1 v
  by_cases h0 : F 0 v = 0
  · have h0' : S.1 v 0 = 0 := by rw [hf.1, h0]; rfl
    have r1 := hR.fld (x := v) (k := 0) (a := 2) (i := 2) (by decide) rfl (by decide)
    cases hl : k_lb E (k_fld S v 0 2) v E.2.1 with
    | none =>
      rw [k_wake1 h0' hl]
      exact ⟨_, mk, Q, ⟨r1.ghost (F' := gh_U (gh_U F 0 v 2) 11 v 1) (fun k x hk => gU_ne (by omega)), w0_I Hn hI h0⟩, rfl, by rw [gU_ne (by decide), gU_eq]; decide⟩
    | some j =>
      rw [k_wake2 h0' hl]
      obtain ⟨hj, hz⟩ := k_lb_some hl
      have ho : gl_own E v j := by
        by_cases z : gl_own E v j
        · exact z
        · exact absurd (((r1.2.1 v j).2 z).symm.trans hz) (by decide)
      obtain ⟨g1, g2, g3, g4⟩ := ry_W Hn hI h0 ho
      have r2 := r1.mark (x := v) (j := j) (a := 1) (i := 1) ho rfl
      have r3 := r2.post hE (m := (0, F 1 v, 0, 0)) ho (q := (0, nI j, 0, 0, 0)) (by rw [g3]; rfl) ⟨fun _ => ⟨rfl, rfl⟩, fun _ => rfl⟩
      have ht := (Hn.1 v j ho).2.2.1
      by_cases hy : mk (k_to E v j) j = 1
      · refine ⟨_, _, _, ⟨(r3.ghost (F' := gh_U (gh_U F 0 v 2) 11 v 1) (fun k x hk => gU_ne (by omega))).ghost (F' := ga_mg (gh_U (gh_U F 0 v 2) 11 v 1) v (k_to E v j) (gl_w E j) j) (fun k x hk => gM_lo hk), ?_⟩, kup_ne _ _ (fun z => ht z.symm), ?_⟩
        · rw [gl_ch_app]; exact g2 hy
        · rw [gM_lo (by decide), gU_ne (by decide), gU_eq]; decide
      · refine ⟨_, _, _, ⟨(r3.ghost (F' := gh_U (gh_U F 0 v 2) 11 v 1) (fun k x hk => gU_ne (by omega))).ghost (F' := gh_H (gh_R (gh_U (gh_U F 0 v 2) 11 v 1) v j) (F 8 v) 3 v j) (fun k x hk => gH_lo hk), ?_⟩, kup_ne _ _ (fun z => ht z.symm), ?_⟩
        · rw [gl_ch_app]; exact g1 hy
        · rw [gH_lo (by decide), gU_ne (by decide), gU_eq]; decide
  · have h0' : ¬ S.1 v 0 = 0 := by rw [hf.1]; exact nI_ne0 (by omega) (by omega)
    rw [k_wake0 h0']
    exact ⟨F, mk, Q, ⟨hR, hI⟩, rfl, h0⟩
/-- best: the number and its weight -/
theorem st_best (hR : gR E S F mk Q) (hv : v < 7) (h6 : F 6 v ≤ 100) {w9 : Nat} (hw : w9 ≤ 100) (hj : j < 12) : ∃ F5 F6, ((F5 = F 5 v ∧ F6 = F 6 v ∧ ¬ w9 < F 6 v) ∨ (F5 = j ∧ F6 = w9 ∧ w9 < F 6 v)) ∧ gR E (k_best S v (nI j) (nI w9)) (gh_U (gh_U F 5 v F5) 6 v F6) mk Q := by
  have hf := hR.1 v
  by_cases hc : w9 < F 6 v
  · refine ⟨j, w9, Or.inr ⟨rfl, rfl, hc⟩, ?_⟩
    rw [k_best1 (by rw [hf.2.2.2.2.2.2.1]; exact nI_lt hc (by omega))]
    exact (hR.fld (x := v) (k := 5) (a := j) (by decide) (by rw [if_pos (by decide), gl_e_ne (by omega)]) (fun z => by omega)).fld (x := v) (k := 6) (a := w9) (by decide) rfl (fun z => by omega)
  · refine ⟨F 5 v, F 6 v, Or.inl ⟨rfl, rfl, hc⟩, ?_⟩
    rw [k_best0 (by rw [hf.2.2.2.2.2.2.1]; exact nI_nlt (by omega) (by omega))]
    refine hR.ghost (fun k x hk => ?_)
    unfold gh_U
    by_cases z : k = 6 ∧ x = v
    · rw [if_pos z, z.1, z.2]
    · rw [if_neg z]
      by_cases z2 : k = 5 ∧ x = v
      · rw [if_pos z2, z2.1, z2.2]
      · rw [if_neg z2]
theorem gl_w_nI (hE : kNet E) (hj : j < E.2.1) : E.2.2.2.2 j = nI (gl_w E j) := (hE.2.2.1 j hj).2.2.2.1
theorem st_acc (hE : kNet E) (h : gst E S F mk Q) (hv : v < 7) {m : gh_M} {t : List (Nat × gh_M)} (hq : Q v = (j, m) :: t) (hk : m.1 = 3) : gX E (k_acc E (k_pop S v (t.map gl_m)) v (gl_m (j, m))) := by
  obtain ⟨hR, hI⟩ := h
  have Hn := hE.net
  have sm := hI.small hE hv
  obtain ⟨ho, hsh⟩ := hR.2.2.2.1 v (j, m) (by rw [hq]; exact List.mem_cons_self)
  have hjn := Hn.1 v j ho
  have hc := gl_ch_hd hq
  have r1 := hR.pop hq
  have r2 := r1.fld (x := v) (k := 7) (a := 12) (i := -1) (by decide) rfl (fun z => by omega)
  obtain ⟨F5, F6, hB, r3⟩ := st_best (j := j) (w9 := gl_w E j) r2 hv (by rw [gU_ne (by decide)]; exact sm.2.2.2.2.2.1) (by omega) (by omega)
  rw [gU_ne (show 5 ≠ 7 by decide), gU_ne (show 6 ≠ 7 by decide)] at hB
  have g := ac_I Hn hI (m0 := m) ho hc hk F6 F5 hB
  rw [← gl_ch_pop hq] at g
  have e : k_acc E (k_pop S v (t.map gl_m)) v (gl_m (j, m)) = k_report E (k_best (k_fld (k_pop S v (t.map gl_m)) v 7 (-1)) v (nI j) (nI (gl_w E j))) v := by
    unfold k_acc
    show k_report E (k_best _ v (nI j) (E.2.2.2.2 (kx (nI j)))) v = _
    rw [kx_nI (by omega), gl_w_nI hE ho.1]
  rw [e]
  have h0 : F 0 v = 1 := ((gi_hd hI.2.2.2.2.2.2.2.2.2.2.2.2.2.2.2.2.2.2.2.2.2.2.2.2.2.2.2.2.2.2.2 ho hc).2.2.2.2.1 hk).1.1
  exact st_report hE ⟨r3, g⟩ hv (by rw [gU_ne (by decide), gU_ne (by decide), gU_ne (by decide)]; exact h0)
theorem st_rej (hR : gR E S F mk Q) (ho : gl_own E v j) (hm : mk v j ≤ 2) : ∃ mk9, gR E (k_rej S v j) F mk9 Q ∧ (∀ x e, mk9 x e = 1 ↔ mk x e = 1) ∧ (∀ x e, ¬ (x = v ∧ e = j) → mk9 x e = mk x e) ∧ mk9 v j ≠ 0 ∧ ((mk v j = 0 ∧ mk9 v j = 2) ∨ mk9 v j = mk v j) := by
  by_cases hz : mk v j = 0
  · refine ⟨gh_K mk v j 2, ?_, fun x e => ?_, fun x e hne => if_neg hne, by unfold gh_K; rw [if_pos ⟨rfl, rfl⟩]; decide, Or.inl ⟨hz, if_pos ⟨rfl, rfl⟩⟩⟩
    · have : k_rej S v j = k_mark S v j 2 := by unfold k_rej k_mark; rw [if_pos (show S.2.1 v j = 0 from (gl_mk1 hR ho hm 0 (by omega)).mpr hz)]
      rw [this]
      exact hR.mark ho rfl
    · unfold gh_K
      by_cases z : x = v ∧ e = j
      · rw [if_pos z, z.1, z.2, hz]; decide
      · rw [if_neg z]
  · refine ⟨mk, ?_, fun _ _ => Iff.rfl, fun _ _ _ => rfl, hz, Or.inr rfl⟩
    refine hR.same (fun _ _ _ => rfl) ?_ rfl
    unfold k_rej
    rw [if_neg (show ¬ S.2.1 v j = 0 from fun z => hz ((gl_mk1 hR ho hm 0 (by omega)).mp z))]
    funext i
    by_cases hi : i = v
    · subst hi; exact kup_self _ _ _
    · exact kup_ne _ _ hi
theorem st_rjt (hE : kNet E) (h : gst E S F mk Q) (hv : v < 7) {m : gh_M} {t : List (Nat × gh_M)} (hq : Q v = (j, m) :: t) (hk : m.1 = 4) : gX E (k_rjt E (k_pop S v (t.map gl_m)) v (gl_m (j, m))) := by
  obtain ⟨hR, hI⟩ := h
  have Hn := hE.net
  obtain ⟨ho, hsh⟩ := hR.2.2.2.1 v (j, m) (by rw [hq]; exact List.mem_cons_self)
  have hjn := Hn.1 v j ho
  have hc := gl_ch_hd hq
  have r1 := hR.pop hq
  obtain ⟨mk9, r2, M1, M2, M3, M4⟩ := st_rej r1 ho (hI.2.2.2.2.2.2.2.2.2.2.2.2.2.2.2.2.2.2.2.2.2.2.2.2.2.2.1 v j ho).1
  have g := rj_I Hn hI (m0 := m) ho hc hk M1 M2 M3 M4
  rw [← gl_ch_pop hq] at g
  have h0 : F 0 v = 1 := ((gi_hd hI.2.2.2.2.2.2.2.2.2.2.2.2.2.2.2.2.2.2.2.2.2.2.2.2.2.2.2.2.2.2.2 ho hc).2.2.2.2.2.1 hk).1.1
  have e : k_rjt E (k_pop S v (t.map gl_m)) v (gl_m (j, m)) = k_test E (k_rej (k_pop S v (t.map gl_m)) v j) v := by
    unfold k_rjt
    show k_test E (k_rej _ v (kx (nI j))) v = _
    rw [kx_nI (by omega)]
  rw [e]
  exact st_test hE ⟨r2.fld (x := v) (k := 7) (a := 12) (i := -1) (by decide) rfl (fun z => by omega), g⟩ hv (by rw [gU_ne (by decide)]; exact h0) gU_eq
theorem st_rep (hE : kNet E) (h : gst E S F mk Q) (hv : v < 7) {m : gh_M} {t : List (Nat × gh_M)} (hq : Q v = (j, m) :: t) (hk : m.1 = 5) (hm : m.2.1 ≤ 100) : gX E (k_rep E (k_pop S v (t.map gl_m)) v (gl_m (j, m))) := by
  obtain ⟨hR, hI⟩ := h
  have Hn := hE.net
  have sm := hI.small hE hv
  have hf := hR.1 v
  obtain ⟨ho, hsh⟩ := hR.2.2.2.1 v (j, m) (by rw [hq]; exact List.mem_cons_self)
  have hjn := Hn.1 v j ho
  have hc := gl_ch_hd hq
  have r1 := hR.pop hq
  have h4 := hR.2.2.2.2 v
  unfold k_rep
  show gX E (if nI j = S.1 v 4 then (if S.1 v 0 = 1 then k_add (k_pop S v (t.map gl_m)) v (gl_m (j, m)) else if S.1 v 6 < nI m.2.1 then k_move E (k_pop S v (t.map gl_m)) v else if nI m.2.1 = 100 then k_fld (k_pop S v (t.map gl_m)) v 8 1 else k_pop S v (t.map gl_m)) else k_report E (k_best (k_fld (k_pop S v (t.map gl_m)) v 3 (S.1 v 3 - 1)) v (nI j) (nI m.2.1)) v)
  by_cases h1 : j = F 4 v
  · rw [if_pos (by rw [hf.2.2.2.2.1]; exact (gl_e_eq h4 (by omega)).mpr h1)]
    by_cases h2 : F 0 v = 1
    · rw [if_pos (by rw [hf.1, h2]; rfl)]
      refine ⟨F, mk, _, r1.add ho hsh, ?_⟩
      rw [gl_ch_app, gl_ch_pop hq]
      exact ro_Ip Hn hI ho hc hk h2 h1
    · rw [if_neg (by rw [hf.1]; exact fun z => h2 ((nI_eq (b := 1) (by omega) (by omega)).mp z))]
      by_cases h3 : F 6 v < m.2.1
      · rw [if_pos (by rw [hf.2.2.2.2.2.2.1]; exact nI_lt h3 (by omega))]
        obtain ⟨g5, go⟩ := ry_R Hn hI ho hc hk h1 h2 h3
        rw [← gl_ch_pop hq] at go
        exact st_move hE r1 g5 (fun z => (hI.2.2.2.2.2.2.2.2.2.2.2.2.2.2.2.2.2.2.2.2.2.2.2.2.2.2.1 v _ z).1) go
      · rw [if_neg (by rw [hf.2.2.2.2.2.2.1]; exact nI_nlt (by omega) (by omega))]
        have g := rd_I Hn hI ho hc hk h1 h2
        rw [← gl_ch_pop hq] at g
        split
        · exact ⟨F, mk, _, r1.same (fun x k hk => k_fld_ne2 (by omega)) rfl rfl, g⟩
        · exact ⟨F, mk, _, r1, g⟩
  · rw [if_neg (by rw [hf.2.2.2.2.1]; exact fun z => h1 ((gl_e_eq h4 (by omega)).mp z))]
    have hd := (gi_hd hI.2.2.2.2.2.2.2.2.2.2.2.2.2.2.2.2.2.2.2.2.2.2.2.2.2.2.2.2.2.2.2 ho hc).2.2.2.2.2.2.2 hk
    have h3p : ∃ n, F 3 v = n + 1 := by
      rcases Nat.eq_zero_or_pos (F 3 v) with z | z
      · exfalso
        exact st_rep0 hE hI ho hc hk h1 z
      · exact ⟨F 3 v - 1, by omega⟩
    obtain ⟨n, hn⟩ := h3p
    have r2 := r1.fld (x := v) (k := 3) (a := F 3 v - 1) (i := S.1 v 3 - 1) (by decide) (by rw [hf.2.2.2.1, hn]; exact nI_pred n) (fun z => by omega)
    obtain ⟨F5, F6, hB, r3⟩ := st_best (j := j) (w9 := m.2.1) r2 hv (by rw [gU_ne (by decide)]; exact sm.2.2.2.2.2.1) hm (by omega)
    rw [gU_ne (show 5 ≠ 3 by decide), gU_ne (show 6 ≠ 3 by decide)] at hB
    have g := ra_I Hn hI (m0 := m) ho hc hk h1 F6 F5 hB
    rw [← gl_ch_pop hq] at g
    have h0 : F 0 v = 1 := st_rep1 hE hI ho hc hk h1
    exact st_report hE ⟨r3, g⟩ hv (by rw [gU_ne (by decide), gU_ne (by decide), gU_ne (by decide)]; exact h0)
end GLU
