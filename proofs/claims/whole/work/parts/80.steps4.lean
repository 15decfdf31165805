/-! The pure steps keep the invariants: INITIATE; a message is handled, by program (wip/mk80.py). -/
section GLY
variable {E : kE} {S : kS} {F : gh_F} {mk : Nat → Nat → Nat} {Q : gl_Q} {v j : Nat}
theorem k_fld_same {x k : Nat} {a : Int32} (h : S.1 x k = a) : k_fld S x k a = S := by
  unfold k_fld
  refine congrArg (fun z => (z, S.2)) ?_
  funext i
  by_cases hi : i = x
  · subst hi
    rw [kup_self]
    funext i9
    by_cases hk : i9 = k
    · subst hk; rw [pk_us]; exact h.symm
    · rw [pk_un hk]
  · rw [kup_ne _ _ hi]
/-- v's branches but j, among the first k edges -/
def gl_br (E : kE) (mk : Nat → Nat → Nat) (v j k : Nat) : List Nat := (List.range k).filter (fun e => decide ((E.2.2.1 e = v ∨ E.2.2.2.1 e = v) ∧ mk v e = 1 ∧ e ≠ j))
theorem gl_br_mem {e k : Nat} : e ∈ gl_br E mk v j k ↔ e < k ∧ (E.2.2.1 e = v ∨ E.2.2.2.1 e = v) ∧ mk v e = 1 ∧ e ≠ j := by
  unfold gl_br
  rw [List.mem_filter, List.mem_range]
  simp
theorem gl_br_s {k : Nat} : (gl_br E mk v j (k + 1)).length = (gl_br E mk v j k).length + if (E.2.2.1 k = v ∨ E.2.2.2.1 k = v) ∧ mk v k = 1 ∧ k ≠ j then 1 else 0 := by
  unfold gl_br
  rw [List.range_succ, List.filter_append, List.length_append]
  congr 1
  by_cases h : (E.2.2.1 k = v ∨ E.2.2.2.1 k = v) ∧ mk v k = 1 ∧ k ≠ j
  · rw [if_pos h, List.filter_cons_of_pos (by simpa using h)]; rfl
  · rw [if_neg h, List.filter_cons_of_neg (by simpa using h)]; rfl
theorem st_inis (hE : kNet E) {S0 : kS} {F' : gh_F} {n9 : Nat} {Q0 : gl_Q} (hv : v < 7) (hR : gR E (k_fld S0 v 3 (nI n9)) F' mk Q0) (hI : gI (gl_own E) (k_to E) (gl_w E) F' mk (gl_ch Q0)) (h4 : F' 4 v = j) (h9 : F' 9 v = j) (hj : j < 12) (h3 : S0.1 v 3 = 0)
    (hl : ∀ e, gl_own E v e → mk v e = 1 → e ≠ j → gh_last (F' 1 (k_to E v e)) (gl_ch Q0 (k_to E v e) e) < F' 1 v) : ∀ k, k ≤ E.2.1 → ∃ Qk, gR E (k_fld (k_inis E S0 v k) v 3 (nI n9)) F' mk Qk ∧ gI (gl_own E) (k_to E) (gl_w E) F' mk (gl_ch Qk) ∧ (∀ e, k ≤ e → gl_own E v e → mk v e = 1 → e ≠ j → gh_last (F' 1 (k_to E v e)) (gl_ch Qk (k_to E v e) e) < F' 1 v) ∧ (k_inis E S0 v k).1 v 3 = nI (if F' 0 v = 1 then (gl_br E mk v j k).length else 0) := by
  have Hn := hE.net
  have sm := hI.small hE hv
  intro k
  induction k with
  | zero => exact fun _ => ⟨Q0, hR, hI, fun e _ => hl e, by show S0.1 v 3 = _; rw [h3]; split <;> rfl⟩
  | succ k ih =>
    intro hk
    obtain ⟨Qk, rk, gk, lk, ck⟩ := ih (by omega)
    obtain ⟨Tk, hT⟩ : ∃ Tk, k_inis E S0 v k = Tk := ⟨_, rfl⟩
    rw [hT] at rk ck
    have e0 : k_inis E S0 v (k + 1) = if Tk.2.1 v k = 1 then (if nI k = Tk.1 v 4 then Tk else k_ini1 E Tk v k) else Tk := by rw [← hT]; rfl
    have hf := rk.1 v
    have f0 : Tk.1 v 0 = nI (F' 0 v) := (k_fld_ne (by decide)).symm.trans hf.1
    have f1 : Tk.1 v 1 = nI (F' 1 v) := (k_fld_ne (by decide)).symm.trans hf.2.1
    have f2 : Tk.1 v 2 = nI (F' 2 v) := (k_fld_ne (by decide)).symm.trans hf.2.2.1
    have f4 : Tk.1 v 4 = nI j := ((k_fld_ne (by decide)).symm.trans hf.2.2.2.2.1).trans (by rw [h4, gl_e_ne (by omega)])
    have hm12 := hE.2.1
    have hmk : Tk.2.1 v k = 1 ↔ (E.2.2.1 k = v ∨ E.2.2.2.1 k = v) ∧ mk v k = 1 := by
      by_cases ho : gl_own E v k
      · have e1 : Tk.2.1 v k = nI (mk v k) := (rk.2.1 v k).1 ho
        rw [e1]
        have := (hI.2.2.2.2.2.2.2.2.2.2.2.2.2.2.2.2.2.2.2.2.2.2.2.2.2.2.1 v k ho).1
        constructor
        · intro z; exact ⟨ho.2, (nI_eq (b := 1) (by omega) (by omega)).mp z⟩
        · intro z; rw [z.2]; rfl
      · have e1 : Tk.2.1 v k = -1 := (rk.2.1 v k).2 ho
        rw [e1]
        constructor
        · intro z; exact absurd z (by decide)
        · intro z; exact absurd ⟨by omega, z.1⟩ ho
    rw [e0]
    by_cases hp : (E.2.2.1 k = v ∨ E.2.2.2.1 k = v) ∧ mk v k = 1 ∧ k ≠ j
    · rw [if_pos (hmk.mpr ⟨hp.1, hp.2.1⟩), if_neg (by rw [f4]; exact fun z => hp.2.2 ((nI_eq (by omega) (by omega)).mp z))]
      have ho : gl_own E v k := ⟨by omega, hp.1⟩
      have hq : ((1, nI k, Tk.1 v 1, Tk.1 v 2, Tk.1 v 0) : kM) = gl_m (k, (1, F' 1 v, F' 2 v, F' 0 v)) := by rw [f0, f1, f2]; rfl
      have r2 := rk.post hE (m := (1, F' 1 v, F' 2 v, F' 0 v)) ho (q := (1, nI k, Tk.1 v 1, Tk.1 v 2, Tk.1 v 0)) hq ⟨fun z => by simp at z, fun z => by simp at z⟩
      have hcom : k_fld (k_ini1 E Tk v k) v 3 (nI n9) = k_post E (k_fld Tk v 3 (nI n9)) v (1, nI k, Tk.1 v 1, Tk.1 v 2, Tk.1 v 0) := by
        unfold k_ini1
        split
        · rw [k_fld2]; rfl
        · rfl
      refine ⟨_, by rw [hcom]; exact r2, ?_, fun e he1 he2 he3 he4 => ?_, ?_⟩
      · rw [gl_ch_app]
        exact si_I Hn gk ho hp.2.1 (by rw [h9]; exact hp.2.2) (lk k (Nat.le_refl _) ho hp.2.1 hp.2.2)
      · rw [gl_ch_app]
        have : gh_A (gl_ch Qk) (k_to E v k) k (1, F' 1 v, F' 2 v, F' 0 v) (k_to E v e) e = gl_ch Qk (k_to E v e) e := if_neg (fun z => by omega)
        rw [this]
        exact lk e (by omega) he2 he3 he4
      · rw [gl_br_s, if_pos hp]
        unfold k_ini1
        show (if Tk.1 v 0 = 1 then k_fld (k_post E Tk v (1, nI k, Tk.1 v 1, Tk.1 v 2, Tk.1 v 0)) v 3 (Tk.1 v 3 + 1) else k_post E Tk v (1, nI k, Tk.1 v 1, Tk.1 v 2, Tk.1 v 0)).1 v 3 = _
        by_cases h0 : F' 0 v = 1
        · rw [if_pos (show Tk.1 v 0 = 1 by rw [f0, h0]; rfl), if_pos h0, k_fld_self, ck, if_pos h0, nI_1]
        · rw [if_neg (show ¬ Tk.1 v 0 = 1 by rw [f0]; exact fun z => h0 ((nI_eq (b := 1) (by omega) (by omega)).mp z)), if_neg h0]
          show Tk.1 v 3 = _
          rw [ck, if_neg h0]
    · have hsame : (if Tk.2.1 v k = 1 then (if nI k = Tk.1 v 4 then Tk else k_ini1 E Tk v k) else Tk) = Tk := by
        by_cases h1 : Tk.2.1 v k = 1
        · rw [if_pos h1]
          have h2 := hmk.mp h1
          have h3 : k = j := Decidable.byContradiction (fun z => hp ⟨h2.1, h2.2, z⟩)
          rw [if_pos (by rw [f4, h3])]
        · rw [if_neg h1]
      rw [hsame, gl_br_s, if_neg hp]
      exact ⟨Qk, rk, gk, fun e he => lk e (by omega), ck⟩
theorem st_init (hE : kNet E) (h : gst E S F mk Q) (hv : v < 7) {m : gh_M} {t : List (Nat × gh_M)} (hq : Q v = (j, m) :: t) (hk : m.1 = 1) : gX E (k_init E (k_pop S v (t.map gl_m)) v (gl_m (j, m))) := by
  obtain ⟨hR, hI⟩ := h
  have Hn := hE.net
  obtain ⟨ho, hsh⟩ := hR.2.2.2.1 v (j, m) (by rw [hq]; exact List.mem_cons_self)
  have hjn := Hn.1 v j ho
  have hc : gl_ch Q v j = m :: gl_c t j := gl_ch_hd hq
  have hb := (gl_hd hE hI ho hc).2.2.1 hk
  have hd := (gi_hd hI.2.2.2.2.2.2.2.2.2.2.2.2.2.2.2.2.2.2.2.2.2.2.2.2.2.2.2.2.2.2.2 ho hc).2.1 hk
  have r1 := hR.pop hq
  have hI' := hI
  obtain ⟨Hst, Hb1, Hb2, Hb3, Hb4, Hb5, Hb6, Hs0, HpA, Hs1, Hs2, HSl, Hs3, Hs4, How, Hs5, Hs6, HSr, HSn, HM, HC, Hph, H6, H7, Hbc, HK, Hrj, Htw, Hts, Han, Hsz, Hch⟩ := hI
  have Xn := gx_nI Hn Hph HpA HSr HSn HM HC
  have hnc : ¬ gi_cur F v := fun z => by unfold gi_cur at z; have := hd.1; have := hd.2.2.2.2.1; rw [hd.2.1] at this; omega
  have h01 : F 0 v ≠ 1 := fun z => hnc (Hs2 v z).1
  have hs1 := Hs1 v h01
  obtain ⟨n9, hn9⟩ : ∃ n9, n9 = if m.2.2.2 = 1 then (gl_br E mk v j E.2.1).length else 0 := ⟨_, rfl⟩
  have g := iv_I (n9 := n9) Hn hI' ho hc hk (fun z => ⟨gl_br E mk v j E.2.1, List.nodup_range.filter _, by rw [hn9, if_pos z], fun e => by
    rw [gl_br_mem]
    exact ⟨fun q => ⟨⟨q.1, q.2.1⟩, q.2.2⟩, fun q => ⟨q.1.1, q.1.2, q.2⟩⟩⟩) (fun z => by rw [hn9, if_neg z])
  rw [← gl_ch_pop hq] at g
  obtain ⟨P, hP⟩ : ∃ P, k_pop S v (t.map gl_m) = P := ⟨_, rfl⟩
  have hP3 : P.1 v 3 = 0 := by rw [← hP]; show S.1 v 3 = 0; rw [(hR.1 v).2.2.2.1, hs1.2]; rfl
  rw [hP] at r1 ⊢
  have r2 := ((((((r1.fld (x := v) (k := 1) (a := m.2.1) (i := nI m.2.1) (by decide) rfl (fun z => by omega)).fld (x := v) (k := 2) (a := m.2.2.1) (i := nI m.2.2.1) (by decide) rfl (fun z => by omega)).fld (x := v) (k := 0) (a := m.2.2.2) (i := nI m.2.2.2) (by decide) rfl (fun z => by omega)).fld (x := v) (k := 4) (a := j) (i := nI j) (by decide) (by rw [if_pos (by decide), gl_e_ne (by omega)]) (fun z => by omega)).fld (x := v) (k := 5) (a := 12) (i := -1) (by decide) rfl (fun z => by omega)).fld (x := v) (k := 6) (a := 100) (i := 100) (by decide) rfl (fun z => by omega)).fld (x := v) (k := 3) (a := n9) (i := nI n9) (by decide) rfl (fun z => by omega)
  have e0 : k_ini0 P v (gl_m (j, m)) = k_fld (k_fld (k_fld (k_fld (k_fld (k_fld P v 1 (nI m.2.1)) v 2 (nI m.2.2.1)) v 0 (nI m.2.2.2)) v 4 (nI j)) v 5 (-1)) v 6 100 := by
    unfold k_ini0
    rw [k_fgt_eq]
    rfl
  rw [← e0] at r2
  have F1v : (gh_U (gh_U (gh_U (gh_U (gh_U (gh_U (gh_U F 1 v m.2.1) 2 v m.2.2.1) 0 v m.2.2.2) 4 v j) 5 v 12) 6 v 100) 3 v n9) 1 v = m.2.1 := by simp [gh_U]
  have F4v : (gh_U (gh_U (gh_U (gh_U (gh_U (gh_U (gh_U F 1 v m.2.1) 2 v m.2.2.1) 0 v m.2.2.2) 4 v j) 5 v 12) 6 v 100) 3 v n9) 4 v = j := by simp [gh_U]
  have F9v : (gh_U (gh_U (gh_U (gh_U (gh_U (gh_U (gh_U F 1 v m.2.1) 2 v m.2.2.1) 0 v m.2.2.2) 4 v j) 5 v 12) 6 v 100) 3 v n9) 9 v = j := by simp [gh_U]; exact hd.2.2.2.1
  have F0v : (gh_U (gh_U (gh_U (gh_U (gh_U (gh_U (gh_U F 1 v m.2.1) 2 v m.2.2.1) 0 v m.2.2.2) 4 v j) 5 v 12) 6 v 100) 3 v n9) 0 v = m.2.2.2 := by simp [gh_U]
  have F7v : (gh_U (gh_U (gh_U (gh_U (gh_U (gh_U (gh_U F 1 v m.2.1) 2 v m.2.2.1) 0 v m.2.2.2) 4 v j) 5 v 12) 6 v 100) 3 v n9) 7 v = 12 := by simp [gh_U]; exact hs1.1
  have F1o : ∀ y, y ≠ v → (gh_U (gh_U (gh_U (gh_U (gh_U (gh_U (gh_U F 1 v m.2.1) 2 v m.2.2.1) 0 v m.2.2.2) 4 v j) 5 v 12) 6 v 100) 3 v n9) 1 y = F 1 y := fun y hy => by simp [gh_U, hy]
  have i3 : (k_ini0 P v (gl_m (j, m))).1 v 3 = 0 := by
    rw [e0, k_fld_ne (by decide), k_fld_ne (by decide), k_fld_ne (by decide), k_fld_ne (by decide), k_fld_ne (by decide), k_fld_ne (by decide)]
    exact hP3
  have hl : ∀ e, gl_own E v e → mk v e = 1 → e ≠ j → gh_last ((gh_U (gh_U (gh_U (gh_U (gh_U (gh_U (gh_U F 1 v m.2.1) 2 v m.2.2.1) 0 v m.2.2.2) 4 v j) 5 v 12) 6 v 100) 3 v n9) 1 (k_to E v e)) (gl_ch (kup Q v t) (k_to E v e) e) < (gh_U (gh_U (gh_U (gh_U (gh_U (gh_U (gh_U F 1 v m.2.1) 2 v m.2.2.1) 0 v m.2.2.2) 4 v j) 5 v 12) 6 v 100) 3 v n9) 1 v := by
    intro e he hm he2
    have hen := Hn.1 v e he
    have k1 := HK v e (k_to E v e) he rfl hm
    have hsame : F 8 v = F 8 (k_to E v e) := Decidable.byContradiction (fun z => hnc (k1.2 z).2.2.2.2.1)
    have h9 : F 9 (k_to E v e) = e := (k1.1 hsame).2.resolve_left (fun z => he2 (z.symm.trans hd.2.2.2.1))
    have hN := Xn (k_to E v e) (by omega) (by rw [h9, hen.2.1]; exact hsame) (by rw [h9, hen.2.1, hd.2.2.2.1]; exact fun z => he2 z.symm)
    have h6 := H6 _ hN
    rw [h9, hen.2.1] at h6
    have ech : gl_ch (kup Q v t) (k_to E v e) e = gl_ch Q (k_to E v e) e := by unfold gl_ch; rw [kup_ne _ _ hen.2.2.1]
    rw [F1v, F1o _ hen.2.2.1, ech]
    have hlv := hd.1
    rcases gh_last_in (gl_ch Q (k_to E v e) e) (F 1 (k_to E v e)) with z | ⟨mm, m1, m2, m3⟩
    · rw [z]; omega
    · rw [← m3]; have := h6.2 mm m1 m2; omega
  obtain ⟨Qm, rm, gm, -, cm9⟩ := st_inis hE hv r2 g F4v F9v (by omega) i3 hl E.2.1 (Nat.le_refl _)
  rw [F0v] at cm9
  obtain ⟨Tm, hTm⟩ : ∃ Tm, k_inis E (k_ini0 P v (gl_m (j, m))) v E.2.1 = Tm := ⟨_, rfl⟩
  have e3 : k_fld Tm v 3 (nI n9) = Tm := k_fld_same (by rw [← hTm, cm9, hn9])
  rw [hTm, e3] at rm
  unfold k_init
  rw [hTm]
  have f0 := (rm.1 v).1
  rw [F0v] at f0
  by_cases h1 : m.2.2.2 = 1
  · rw [if_pos (by rw [f0, h1]; rfl)]
    have e7 : k_fld Tm v 7 (-1) = Tm := k_fld_same (by rw [(rm.1 v).2.2.2.2.2.2.2, F7v]; rfl)
    exact st_test hE (by rw [e7]; exact ⟨rm, gm⟩) hv (by rw [F0v]; exact h1) F7v
  · rw [if_neg (by rw [f0]; exact fun z => h1 ((nI_eq (b := 1) (by omega) (by omega)).mp z))]
    exact ⟨_, mk, Qm, rm, gm⟩
theorem st_first (hE : kNet E) (h : gX E S) (hv : v < 7) : gX E (k_first E S v) := by
  obtain ⟨F, mk, Q, h⟩ := h
  have hqv := h.1.2.2.1 v
  cases hq : Q v with
  | nil =>
    rw [hq] at hqv
    have : k_first E S v = S := k_first_no hqv
    rw [this]
    exact ⟨F, mk, Q, h⟩
  | cons p t =>
    obtain ⟨j, m⟩ := p
    rw [hq] at hqv
    obtain ⟨ho, hsh⟩ := h.1.2.2.2.1 v (j, m) (by rw [hq]; exact List.mem_cons_self)
    have hc : gl_ch Q v j = m :: gl_c t j := gl_ch_hd hq
    have hb := gl_hd hE h.2 ho hc
    have e : k_first E S v = k_hand E (k_pop S v (t.map gl_m)) v (gl_m (j, m)) := by
      unfold k_first
      rw [hqv]
      rfl
    rw [e]
    unfold k_hand
    show gX E (if nI m.1 = 0 then _ else if nI m.1 = 1 then _ else if nI m.1 = 2 then _ else if nI m.1 = 3 then _ else if nI m.1 = 4 then _ else if nI m.1 = 5 then _ else _)
    have hn : ∀ n, n ≤ 6 → (nI m.1 = nI n ↔ m.1 = n) := fun n hn => nI_eq (by omega) (by omega)
    rcases (show m.1 = 0 ∨ m.1 = 1 ∨ m.1 = 2 ∨ m.1 = 3 ∨ m.1 = 4 ∨ m.1 = 5 ∨ m.1 = 6 by omega) with z | z | z | z | z | z | z
    · rw [z, if_pos (by decide)]; exact st_conn hE h hv hq z
    · rw [z, if_neg (by decide), if_pos (by decide)]; exact st_init hE h hv hq z
    · rw [z, if_neg (by decide), if_neg (by decide), if_pos (by decide)]; exact st_tst hE h hv hq z
    · rw [z, if_neg (by decide), if_neg (by decide), if_neg (by decide), if_pos (by decide)]; exact st_acc hE h hv hq z
    · rw [z, if_neg (by decide), if_neg (by decide), if_neg (by decide), if_neg (by decide), if_pos (by decide)]; exact st_rjt hE h hv hq z
    · rw [z, if_neg (by decide), if_neg (by decide), if_neg (by decide), if_neg (by decide), if_neg (by decide), if_pos (by decide)]; exact st_rep hE h hv hq z (hb.2.2.2.2 z)
    · rw [z, if_neg (by decide), if_neg (by decide), if_neg (by decide), if_neg (by decide), if_neg (by decide), if_neg (by decide)]; exact st_core hE h hv hq z
end GLY
