/-! The network: when a class may move or connect, by program (wip/th). -/
section
variable {own : Nat → Nat → Prop} {o : Nat → Nat → Nat} {w : Nat → Nat} {F : gh_F} {mk : Nat → Nat → Nat} {c : Nat → Nat → List gh_M}
theorem ry_go {v : Nat} (Hn : gh_Net own o w) (h : gI own o w F mk c) (hcu : gi_cur F v) (hg : F 8 v < 100) (hset : ∀ x, F 8 x = F 8 v → F 11 x = 1 ∧ F 0 x = 2) (h49 : F 4 v = F 9 v) (hR : ∀ x, F 8 x = F 8 v → x = v ∨ x = o v (F 9 v) ∨ gi_NR o F x) (hz : F 8 (o v (F 9 v)) = F 8 v ∧ F 9 (o v (F 9 v)) = F 9 v) (h9 : own v (F 9 v)) (hph2 : F 13 (F 8 v) = 1 ∨ F 13 (F 8 v) = 2) (hnk : ∀ y e, own y e → F 8 y = F 8 v → ¬ gh_has 6 (c y e)) (hnc : ∀ y e, own y e → F 8 y = F 8 v → F 8 (o y e) = F 8 v → ¬ gh_has 0 (c y e)) (hnp0 : ∀ y e a m, own y e → F 8 y = F 8 v → m ∈ c y e → m.1 = 5 → gm_p own o w F mk c (o y e) y e a m → (mk y e = 1 ∧ F 0 y = 2 ∧ F 4 y = e ∧ m.2.1 < F 6 y ∧ F 9 y = e ∧ y ≠ v ∧ ((F 9 (o y e) ≠ e ∧ (¬ gi_cur F y ∨ F 4 (o y e) ≠ F 9 (o y e))) ∨ (o y e = v ∧ e = F 9 v)) ∧ a = F 1 y ∧ 1 ≤ F 1 y)) (hb12 : F 5 v ≠ 12) : own v (F 5 v) ∧
    (mk v (F 5 v) = 1 → gI own o w (gh_H (gh_R F v (F 5 v)) (F 8 v) 2 (o v (F 5 v)) (F 5 v)) mk (gh_A c (o v (F 5 v)) (F 5 v) (6, 0, 0, 0))) ∧
    (mk v (F 5 v) ≠ 1 → mk (o v (F 5 v)) (F 5 v) ≠ 1 → gI own o w (gh_H (gh_R F v (F 5 v)) (F 8 v) 3 v (F 5 v)) (gh_K mk v (F 5 v) 1) (gh_A c (o v (F 5 v)) (F 5 v) (0, F 1 v, 0, 0))) ∧
    (mk v (F 5 v) ≠ 1 → mk (o v (F 5 v)) (F 5 v) = 1 → gI own o w (ga_mg F v (o v (F 5 v)) (w (F 5 v)) (F 5 v)) (gh_K mk v (F 5 v) 1) (gh_A c (o v (F 5 v)) (F 5 v) (0, F 1 v, 0, 0))) := by
  have h' := h
  obtain ⟨Hst, Hb1, Hb2, Hb3, Hb4, Hb5, Hb6, Hs0, HpA, Hs1, Hs2, HSl, Hs3, Hs4, How, Hs5, Hs6, HSr, HSn, HM, HC, Hph, H6, H7, Hbc, HK, Hrj, Htw, Hts, Han, Hsz, Hch⟩ := h
  have Xi := gx_iI Hch
  have Xc := gx_cI Hch
  have Xt := gx_tI Hch
  have Xa := gx_aI Hch
  have Xr := gx_rI Hch
  have Xk := gx_kI Hch
  have Xp := gx_pI Hch
  have Xl := gx_lI Hch
  have Xb := gx_bI Hch
  have Xn := gx_nI Hn Hph HpA HSr HSn HM HC
  obtain ⟨b, hbe⟩ : ∃ b, F 5 v = b := ⟨_, rfl⟩
  have hob : own v b := by rw [← hbe]; exact (How v).1 hb12
  rw [hbe] at hb12 ⊢
  have hbc := Hbc v b (o v b) hbe hb12 rfl hcu hph2 h49
  have q0 := Hn.1 v b hob
  have q9 := Hn.1 v (F 9 v) h9
  have h9m : mk v (F 9 v) = 1 := ((Hs6 v).2 (by omega)).2
  have hb9 : b ≠ F 9 v := by
    intro z
    by_cases q : mk v b = 1
    · exact (hbc.1 q).2.1 z.symm
    · rw [z] at q; exact q h9m
  have hK9 : ∀ e, own v e → mk v e = 1 → F 8 (o v e) = F 8 v → F 9 (o v e) = e ∨ e = b := by
    intro e e1 e2 e3
    rcases ((HK v e (o v e) e1 rfl e2).1 e3.symm).2 with q | q
    · left; rw [← q]; exact hz.2
    · exact Or.inl q
  have hph : F 13 (F 8 v) ≠ 3 := by omega
  have hnp : ∀ y e a m, own y e → F 8 y = F 8 v → m ∈ c y e → m.1 = 5 → gm_p own o w F mk c (o y e) y e a m → (mk y e = 1 ∧ F 0 y = 2 ∧ F 4 y = e ∧ m.2.1 < F 6 y ∧ F 9 y = e ∧ y ≠ v ∧ gh_R F v b 9 (o y e) ≠ e ∧ a = F 1 y ∧ (¬ gi_cur F y ∨ F 4 (o y e) ≠ gh_R F v b 9 (o y e)) ∧ 1 ≤ F 1 y) := by
    intro y e a m e1 e2 e3 e4 e5
    obtain ⟨a1, a2, a3, a4, a5, a6, a7, a8, a9⟩ := hnp0 y e a m e1 e2 e3 e4 e5
    have er : gh_R F v b 9 (o y e) = if o y e = v then b else F 9 (o y e) := by simp [gh_R]
    rw [er]
    have q1 := Hn.1 y e e1
    by_cases hov : o y e = v
    · rw [if_pos hov]
      have hye : o v e = y := by rw [← hov]; exact q1.2.1
      refine ⟨a1, a2, a3, a4, a5, a6, ?_, a8, ?_, a9⟩
      · intro z
        subst z
        rcases a7 with q | q
        · rw [hov] at q
          have c1 := q.2.resolve_right (fun z => z h49)
          by_cases q2 : mk v b = 1
          · have := (hbc.1 q2).2.2.2.1
            rw [hye] at this
            exact c1 this
          · have := (HK y b v e1 hov a1).1 e2
            exact q2 this.1
        · exact hb9 q.2
      · right
        rw [hov, h49]
        exact fun z => hb9 z.symm
    · rw [if_neg hov]
      rcases a7 with q | q
      · exact ⟨a1, a2, a3, a4, a5, a6, q.1, a8, q.2, a9⟩
      · exact absurd q.1 hov
  have hNz : gi_NR o (gh_R F v b) (o v (F 9 v)) := by
    unfold gi_NR
    have n1 : o v (F 9 v) ≠ v := q9.2.2.1
    simp (decide := true) only [gh_R, if_true, if_false]
    rw [if_neg n1, hz.2, q9.2.1, if_pos rfl, if_pos rfl, if_neg n1]
    exact ⟨by omega, hz.1.symm, hb9, Nat.succ_pos _⟩
  have hNx : ∀ x, x ≠ v → gi_NR o F x → (o x (F 9 x) = v → F 9 x ≠ b) → gi_NR o (gh_R F v b) x := by
    intro x n1 hx hb
    unfold gi_NR at hx ⊢
    simp (decide := true) only [gh_R, if_true, if_false]
    clear Hst Hb1 Hb2 Hb3 Hb4 Hb5 Hb6 Hs0 HpA Hs1 Hs2 HSl Hs3 Hs4 How Hs5 Hs6 HSr HSn HM HC Hph H6 H7 Hbc HK Hrj Htw Hts Han Hsz Hch Xi Xc Xt Xa Xr Xk Xp Xl Xb Xn hnp hnp0 hnc hnk hR hset Hn hK9
    grind
  refine ⟨hob, fun hb1 => ?_, fun hb1 hy => ?_, fun hb1 hy => ?_⟩
  · have hb2 := hbc.1 hb1
    have hR9 : ∀ x, F 8 x = F 8 v → x = v ∨ x = o v b ∨ gi_NR o (gh_R F v b) x := by
      intro x hx
      by_cases n1 : x = v
      · exact Or.inl n1
      · by_cases n2 : x = o v b
        · exact Or.inr (Or.inl n2)
        · refine Or.inr (Or.inr ?_)
          rcases (hR x hx).resolve_left n1 with z | z
          · rw [z]; exact hNz
          · refine hNx x n1 z (fun e1 e2 => n2 ?_)
            have := Hn.1 x (F 9 x) ((Hs6 x).2 z.1).1
            rw [e1, e2] at this
            exact this.2.1.symm
    have hs4 := Hs4 v
    have hs4b := Hs4 (o v b)
    exact mv_I Hn h' hcu hset hR9 hK9 hph hnk hnc hnp hob hph2 hg h49 hz.2 h9 hb1 hb9 ⟨hb2.1, hb2.2.2.1, hb2.2.2.2.1, hb2.2.2.2.2.2.2.1, fun z => by
      have := hb2.2.2.2.2.2.1
      have h1 := hs4b.1.mp z
      rw [this] at h1
      have h2 := hs4.1.mpr h1
      omega⟩
  all_goals
    have hb2 := hbc.2 hb1
    have hR9 : ∀ x, F 8 x = F 8 v → x = v ∨ gi_NR o (gh_R F v b) x := by
      intro x hx
      by_cases n1 : x = v
      · exact Or.inl n1
      · refine Or.inr ?_
        rcases (hR x hx).resolve_left n1 with z | z
        · rw [z]; exact hNz
        · refine hNx x n1 z (fun e1 e2 => ?_)
          have k1 := (Hs6 x).2 z.1
          have := ((HK x (F 9 x) v k1.1 e1 k1.2).1 hx).1
          rw [e2] at this
          exact hb1 this
  · have hy0 : mk (o v b) b = 0 := by
      have k1 := Hrj (o v b) b q0.1
      have : mk (o v b) b ≠ 2 := fun z => by
        have := k1.2 z
        rw [q0.2.1] at this
        exact hb2.2.1 this
      omega
    exact cc_I Hn h' hcu hset hR9 hK9 hph hnk hnc hnp hob hb2.1 hb2.2.1 hb2.2.2 hy0
  · exact ck_I Hn h' hcu hset hR9 hK9 hph hnk hnc hnp hob hb2.1 hb2.2.1 hb2.2.2 hy
theorem ry_M {v j : Nat} (Hn : gh_Net own o w) (h : gI own o w F mk c) {m0 : gh_M} {t : List gh_M} (hj : own v j) (hc : c v j = m0 :: t) (hk : m0.1 = 6) : F 5 v ≠ 12 ∧ own v (F 5 v) ∧
    (mk v (F 5 v) = 1 → gI own o w (gh_H (gh_R F v (F 5 v)) (F 8 v) 2 (o v (F 5 v)) (F 5 v)) mk (gh_A (gh_T c v j) (o v (F 5 v)) (F 5 v) (6, 0, 0, 0))) ∧
    (mk v (F 5 v) ≠ 1 → mk (o v (F 5 v)) (F 5 v) ≠ 1 → gI own o w (gh_H (gh_R F v (F 5 v)) (F 8 v) 3 v (F 5 v)) (gh_K mk v (F 5 v) 1) (gh_A (gh_T c v j) (o v (F 5 v)) (F 5 v) (0, F 1 v, 0, 0))) ∧
    (mk v (F 5 v) ≠ 1 → mk (o v (F 5 v)) (F 5 v) = 1 → gI own o w (ga_mg F v (o v (F 5 v)) (w (F 5 v)) (F 5 v)) (gh_K mk v (F 5 v) 1) (gh_A (gh_T c v j) (o v (F 5 v)) (F 5 v) (0, F 1 v, 0, 0))) := by
  have g := kd_I Hn h hj hc hk
  have hd := (gi_hd h.2.2.2.2.2.2.2.2.2.2.2.2.2.2.2.2.2.2.2.2.2.2.2.2.2.2.2.2.2.2.2 hj hc).2.2.2.2.2.2.1 hk
  have hTw := gp_W hc h.2.2.2.2.2.2.2.2.2.2.2.2.2.2.2.2.2.2.2.2.2.2.2.2.2.2.2.1 hj (by omega)
  rw [hk] at hTw
  have h := g
  obtain ⟨c1, hc1⟩ : ∃ c1, gh_T c v j = c1 := ⟨_, rfl⟩
  rw [hc1] at g h hTw ⊢
  obtain ⟨Hst, Hb1, Hb2, Hb3, Hb4, Hb5, Hb6, Hs0, HpA, Hs1, Hs2, HSl, Hs3, Hs4, How, Hs5, Hs6, HSr, HSn, HM, HC, Hph, H6, H7, Hbc, HK, Hrj, Htw, Hts, Han, Hsz, Hch⟩ := h
  have Xk := gx_kI Hch
  have Xc := gx_cI Hch
  obtain ⟨a1, a2, a3, a4, a5, a6, a7, a8, a9, a10, a11, a12, -⟩ := HM v hd.1 v j (o v j) hd.2.1 hd.2.2 rfl
  have hM : ∀ x, F 8 x = F 8 v → F 11 x = 1 ∧ (x = v ∨ x = o v j ∨ gi_NR o F x) := fun x hx => by
    have := HM x (by rw [hx]; exact hd.1) v j (o v j) (by rw [hx]; exact hd.2.1) (by rw [hx]; exact hd.2.2) rfl
    exact ⟨this.2.2.2.2.2.2.2.2.2.2.1, this.2.2.2.2.2.2.2.2.2.2.2.2⟩
  have hq := Hn.1 v j hj
  refine ⟨a6, ry_go Hn g a4 a12 (fun x hx => ⟨(hM x hx).1, ?_⟩) (a5.trans a3.symm) (fun x hx => by rw [a3]; exact (hM x hx).2) (by rw [a3]; exact ⟨a7, a8⟩) (by rw [a3]; exact a2) (Or.inr hd.1) (fun y e e1 e2 z => ?_) (fun y e e1 e2 e3 z => ?_) (fun y e a m e1 e2 e3 e4 e5 => ?_) a6⟩
  · have b1 := Hst x
    have b2 := Hs0 x
    have b3 := Hs2 x
    rw [hx, hd.1] at b2 b3
    have : F 0 x ≠ 0 := fun z => by have := b2 z; omega
    have : F 0 x ≠ 1 := fun z => by have := (b3 z).2.1; omega
    omega
  · have := Xk y e e1 z
    rw [e2] at this
    have h1 : y = v := this.2.1.symm.trans hd.2.1
    have h2 : e = j := this.2.2.symm.trans hd.2.2
    rw [h1, h2] at z
    exact hTw z
  · have := ((Xc y e e1 z).2 (e3.trans e2.symm)).1
    rw [e2, hd.1] at this
    omega
  · obtain ⟨b1, b2⟩ := e5 e4
    rw [b1, e2, hd.1] at b2
    rcases b2 with q | q | q
    · omega
    · omega
    · refine ⟨q.1, q.2.1, q.2.2.1, q.2.2.2.1, q.2.2.2.2.1, ?_, Or.inl ⟨q.2.2.2.2.2.1, q.2.2.2.2.2.2.2.1⟩, q.2.2.2.2.2.2.1, q.2.2.2.2.2.2.2.2⟩
      intro z
      subst z
      have h1 : j = e := a3.symm.trans q.2.2.2.2.1
      subst h1
      exact q.2.2.2.2.2.1 a8
theorem ry_R {v j : Nat} (Hn : gh_Net own o w) (h : gI own o w F mk c) {m0 : gh_M} {t : List gh_M} (hj : own v j) (hc : c v j = m0 :: t) (hk : m0.1 = 5) (h4 : j = F 4 v) (h0 : F 0 v ≠ 1) (h6 : F 6 v < m0.2.1) : F 5 v ≠ 12 ∧ own v (F 5 v) ∧
    (mk v (F 5 v) = 1 → gI own o w (gh_H (gh_R F v (F 5 v)) (F 8 v) 2 (o v (F 5 v)) (F 5 v)) mk (gh_A (gh_T c v j) (o v (F 5 v)) (F 5 v) (6, 0, 0, 0))) ∧
    (mk v (F 5 v) ≠ 1 → mk (o v (F 5 v)) (F 5 v) ≠ 1 → gI own o w (gh_H (gh_R F v (F 5 v)) (F 8 v) 3 v (F 5 v)) (gh_K mk v (F 5 v) 1) (gh_A (gh_T c v j) (o v (F 5 v)) (F 5 v) (0, F 1 v, 0, 0))) ∧
    (mk v (F 5 v) ≠ 1 → mk (o v (F 5 v)) (F 5 v) = 1 → gI own o w (ga_mg F v (o v (F 5 v)) (w (F 5 v)) (F 5 v)) (gh_K mk v (F 5 v) 1) (gh_A (gh_T c v j) (o v (F 5 v)) (F 5 v) (0, F 1 v, 0, 0))) := by
  have g := rd_I Hn h hj hc hk h4 h0
  have hd := (gi_hd h.2.2.2.2.2.2.2.2.2.2.2.2.2.2.2.2.2.2.2.2.2.2.2.2.2.2.2.2.2.2.2 hj hc).2.2.2.2.2.2.2 hk
  have hTw := gp_W hc h.2.2.2.2.2.2.2.2.2.2.2.2.2.2.2.2.2.2.2.2.2.2.2.2.2.2.2.1 hj (by omega)
  rw [hk] at hTw
  have h := g
  obtain ⟨c1, hc1⟩ : ∃ c1, gh_T c v j = c1 := ⟨_, rfl⟩
  rw [hc1] at g h hTw ⊢
  obtain ⟨Hst, Hb1, Hb2, Hb3, Hb4, Hb5, Hb6, Hs0, HpA, Hs1, Hs2, HSl, Hs3, Hs4, How, Hs5, Hs6, HSr, HSn, HM, HC, Hph, H6, H7, Hbc, HK, Hrj, Htw, Hts, Han, Hsz, Hch⟩ := h
  have Xk := gx_kI Hch
  have Xc := gx_cI Hch

  have hr9 : ∀ v j, own v j → F 8 (o v j) = F 8 v → F 13 (F 8 v) = 1 → w j = F 8 v → F 9 (o v j) = j ∧ F 9 v = j ∧ mk v j = 1 := by
    intro v j hj hs hp1 hw
    have q0 := Hn.1 v j hj
    obtain ⟨y, e, r1, r2, r3, r4, r5, r6⟩ := Hb6 v (HSl v hp1)
    have b2 : e = j := Hn.2.2 y v e j r1 hj (by rw [r2, hw])
    subst b2
    have b3 := Hn.2.1 v y e hj r1
    have b5 : mk v e = 1 := by
      rcases b3 with z | z
      · rw [← z]; exact r5
      · rw [z, q0.2.1] at r6; exact r6
    have b4 := ((HK v e (o v e) hj rfl b5).1 hs.symm).2
    have b6 := HSr v hp1
    have b7 := HSr (o v e) (by rw [hs]; exact hp1)
    rcases b4 with z | z
    · have := (b6 (by rw [z]; exact hw)).1
      rw [z] at this
      exact ⟨this, z, b5⟩
    · have := (b7 (by rw [z, hs]; exact hw)).1
      rw [z, q0.2.1] at this
      exact ⟨z, this, b5⟩
  
  have hq := Hn.1 v j hj
  obtain ⟨hs, hd2⟩ := hd
  rw [hs] at hd2
  have hd3 : F 13 (F 8 v) = 1 ∧ w j = F 8 v ∧ gi_cur F (o v j) ∧ F 0 (o v j) = 2 ∧ m0.2.1 = F 6 (o v j) ∧ F 1 v = F 12 (F 8 v) := by
    rcases hd2 with q | q | q
    · exact absurd q.2.2.2.2.2.2.1 h0
    · exact q
    · have := q.2.2.2.1; omega
  obtain ⟨hp1, hw, hcx, h0x, h6x, hcu⟩ := hd3
  obtain ⟨h9x, h9v, hm1⟩ := hr9 v j hj hs hp1 hw
  have hg := HSl v hp1
  have hcv : gi_cur F v := hcu
  have h0v : F 0 v = 2 := by
    have a1 := Hst v
    have a2 := Hs0 v
    have : F 0 v ≠ 0 := fun z => by have := a2 z; omega
    omega
  have hsv : F 11 v = 1 := Hs3 v hcv h0v hg
  have hsx : F 11 (o v j) = 1 := Hs3 (o v j) hcx h0x (by rw [hs]; exact hg)
  have hRx : ∀ x, F 8 x = F 8 v → x = v ∨ x = o v j ∨ gi_NR o F x := by
    intro x hx
    by_cases z : w (F 9 x) = F 8 x
    · have k1 := ((Hs6 x).2 ((Hs6 x).1 (by rw [hx]; exact hg))).1
      have k2 : F 9 x = j := Hn.2.2 x v (F 9 x) j k1 hj (by rw [z, hx, hw])
      rw [k2] at k1
      rcases Hn.2.1 v x j hj k1 with q | q
      · exact Or.inl q
      · exact Or.inr (Or.inl q)
    · exact Or.inr (Or.inr (HSn x (by rw [hx]; exact hp1) z))
  have hset : ∀ n x, F 10 x < n → F 8 x = F 8 v → F 11 x = 1 := by
    intro n
    induction n with
    | zero => intro x hx; omega
    | succ n ih =>
      intro x hx hx8
      rcases hRx x hx8 with q | q | q
      · rw [q]; exact hsv
      · rw [q]; exact hsx
      · exact (H7 x q).1 (ih _ (by have := q.2.2.2; omega) (q.2.1.trans hx8))
  have h5 : F 5 v ≠ 12 := fun z => by
    have := (Hs4 v).1.mp z
    have := (Hs4 (o v j)).2
    omega
  have hnj : ∀ y e, own y e → w e = F 8 v → e = j := fun y e e1 e2 => Hn.2.2 y v e j e1 hj (by omega)
  refine ⟨h5, ry_go Hn g hcv hg (fun x hx => ?_) (h4.symm.trans h9v.symm) (fun x hx => by rw [h9v]; exact hRx x hx) (by rw [h9v]; exact ⟨hs, h9x⟩) (by rw [h9v]; exact hj) (Or.inl hp1) (fun y e e1 e2 z => ?_) (fun y e e1 e2 e3 z => ?_) (fun y e a m e1 e2 e3 e4 e5 => ?_) h5⟩
  · have b0 := hset (F 10 x + 1) x (by omega) hx
    have b1 := Hst x
    have b2 := Hs0 x
    have b3 := Hs2 x
    rw [hx, hp1] at b2
    have : F 0 x ≠ 0 := fun z => by have := b2 z; omega
    have : F 0 x ≠ 1 := fun z => by have := (b3 z).2.2; omega
    exact ⟨b0, by omega⟩
  · have := (Xk y e e1 z).1
    rw [e2, hp1] at this
    omega
  · have k1 := (Xc y e e1 z).2 (e3.trans e2.symm)
    rw [e2] at k1
    have k2 := hnj y e e1 k1.2.1
    subst k2
    unfold gi_cur at hcx
    rcases Hn.2.1 v y e hj e1 with q | q
    · rw [q] at k1; omega
    · rw [q] at k1; rw [hs] at hcx; omega
  · obtain ⟨b1, b2⟩ := e5 e4
    rw [b1, e2] at b2
    have hb0 := hset (F 10 y + 1) y (by omega) e2
    rcases b2 with q | q | q
    · have := (Hs2 y q.2.2.2.2.2.2.1).2.2; omega
    · have k2 := hnj y e e1 q.2.1
      subst k2
      rcases Hn.2.1 v y e hj e1 with z | z
      · rw [z] at e3; exact absurd ⟨m, e3, e4⟩ hTw
      · subst z
        rw [hq.2.1] at q
        have k3 := (HK v e (o v e) hj rfl hm1).1 hs.symm
        have k4 := Hs5 (o v e) hcx (by rw [hs]; exact hp1)
        have k5 := Hb2 v
        unfold gi_cur at hcx
        rw [hs] at hcx
        refine ⟨k3.1, h0x, k4.trans h9x, by omega, h9x, hq.2.2.1, Or.inr ⟨hq.2.1, h9v.symm⟩, by omega, ?_⟩
        have : F 12 (F 8 v) ≠ 0 := fun z => by have := k5.1.mpr z; omega
        omega
    · refine ⟨q.1, q.2.1, q.2.2.1, q.2.2.2.1, q.2.2.2.2.1, ?_, Or.inl ⟨q.2.2.2.2.2.1, q.2.2.2.2.2.2.2.1⟩, q.2.2.2.2.2.2.1, q.2.2.2.2.2.2.2.2⟩
      intro z
      subst z
      have h1 : j = e := h9v.symm.trans q.2.2.2.2.1
      subst h1
      exact q.2.2.2.2.2.1 h9x
theorem ry_W {v b : Nat} (Hn : gh_Net own o w) (h : gI own o w F mk c) (h0 : F 0 v = 0) (hob : own v b) :
    (mk (o v b) b ≠ 1 → gI own o w (gh_H (gh_R (gh_U (gh_U F 0 v 2) 11 v 1) v b) (F 8 v) 3 v b) (gh_K mk v b 1) (gh_A c (o v b) b (0, F 1 v, 0, 0))) ∧
    (mk (o v b) b = 1 → gI own o w (ga_mg (gh_U (gh_U F 0 v 2) 11 v 1) v (o v b) (w b) b) (gh_K mk v b 1) (gh_A c (o v b) b (0, F 1 v, 0, 0))) ∧ F 1 v = 0 ∧ mk v b = 0 := by
  have g := w0_I Hn h h0
  have hA := h.2.2.2.2.2.2.2.1 v h0
  obtain ⟨F9, hF9⟩ : ∃ F9, gh_U (gh_U F 0 v 2) 11 v 1 = F9 := ⟨_, rfl⟩
  have e0 : F9 0 v = 2 := by rw [← hF9]; simp [gh_U]
  have e11 : F9 11 v = 1 := by rw [← hF9]; simp [gh_U]
  have e8 : F9 8 v = F 8 v := by rw [← hF9]; simp [gh_U]
  have e13 : F9 13 (F 8 v) = F 13 (F 8 v) := by rw [← hF9]; simp [gh_U]
  have e1 : F9 1 v = F 1 v := by rw [← hF9]; simp [gh_U]
  rw [hF9] at g ⊢
  rw [← e13, ← e8] at hA
  rw [← e8, ← e1]
  have h := g
  clear hF9 e13 e8 e1
  obtain ⟨Hst, Hb1, Hb2, Hb3, Hb4, Hb5, Hb6, Hs0, HpA, Hs1, Hs2, HSl, Hs3, Hs4, How, Hs5, Hs6, HSr, HSn, HM, HC, Hph, H6, H7, Hbc, HK, Hrj, Htw, Hts, Han, Hsz, Hch⟩ := h
  have Xk := gx_kI Hch
  obtain ⟨p1, p2, p3⟩ := HpA v hA
  have hone : ∀ x, F9 8 x = F9 8 v → x = v := fun x hx => by
    have k1 := (Hb2 x).2.1 (by rw [hx]; exact p1)
    have k2 := (Hb2 v).2.1 p1
    omega
  have q0 := Hn.1 v b hob
  have hlv : F9 12 (F9 8 v) = 0 := (Hb2 v).1.mp p1
  have hl1 := Hb1 v
  have hl : F9 1 v = 0 := by omega
  have hcu : gi_cur F9 v := by unfold gi_cur; omega
  have hset : ∀ x, F9 8 x = F9 8 v → F9 11 x = 1 ∧ F9 0 x = 2 := fun x hx => by rw [hone x hx]; exact ⟨e11, e0⟩
  have hR9 : ∀ x, F9 8 x = F9 8 v → x = v ∨ gi_NR o (gh_R F9 v b) x := fun x hx => Or.inl (hone x hx)
  have hK9 : ∀ e, own v e → mk v e = 1 → F9 8 (o v e) = F9 8 v → F9 9 (o v e) = e ∨ e = b := fun e k1 k2 _ => by have := p3 e k1; omega
  have hph : F9 13 (F9 8 v) ≠ 3 := by omega
  have hnk : ∀ y e, own y e → F9 8 y = F9 8 v → ¬ gh_has 6 (c y e) := fun y e k1 k2 z => by
    have := (Xk y e k1 z).1
    rw [k2, hA] at this
    omega
  have hnc : ∀ y e, own y e → F9 8 y = F9 8 v → F9 8 (o y e) = F9 8 v → ¬ gh_has 0 (c y e) := fun y e k1 k2 k3 z => by
    have k4 := hone y k2
    have k5 := hone _ k3
    exact (Hn.1 y e k1).2.2.1 (k5.trans k4.symm)
  have hbo : F9 8 (o v b) ≠ F9 8 v := fun z => q0.2.2.1 (hone _ z)
  have hb0 := p3 b hob
  have hnp : ∀ y e a m, own y e → F9 8 y = F9 8 v → m ∈ c y e → m.1 = 5 → gm_p own o w F9 mk c (o y e) y e a m → (mk y e = 1 ∧ F9 0 y = 2 ∧ F9 4 y = e ∧ m.2.1 < F9 6 y ∧ F9 9 y = e ∧ y ≠ v ∧ gh_R F9 v b 9 (o y e) ≠ e ∧ a = F9 1 y ∧ (¬ gi_cur F9 y ∨ F9 4 (o y e) ≠ gh_R F9 v b 9 (o y e)) ∧ 1 ≤ F9 1 y) := fun y e a m k1 k2 k3 k4 k5 => by
    have k6 := (k5 k4).1
    exact absurd ((hone _ (k6.trans k2)).trans (hone y k2).symm) (Hn.1 y e k1).2.2.1
  refine ⟨fun hy => ?_, fun hy => ?_, hl, hb0⟩
  · have hy0 : mk (o v b) b = 0 := by
      have k1 := Hrj (o v b) b q0.1
      have : mk (o v b) b ≠ 2 := fun z => by
        have := k1.2 z
        rw [q0.2.1] at this
        exact hbo this
      omega
    exact cc_I Hn g hcu hset hR9 hK9 hph hnk hnc hnp hob hb0 hbo (by omega) hy0
  · exact ck_I Hn g hcu hset hR9 hK9 hph hnk hnc hnp hob hb0 hbo (by omega) hy
end
