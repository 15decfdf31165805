/-! The pure steps keep the invariants, by program (wip/mk77.py). -/
section GLT
variable {E : kE} {S : kS} {F : gh_F} {mk : Nat → Nat → Nat} {Q : gl_Q} {v j : Nat}
theorem gU_ne {F : gh_F} {k x a k' x' : Nat} (h : k' ≠ k) : gh_U F k x a k' x' = F k' x' := if_neg (fun z => h z.1)
theorem gU_eq {F : gh_F} {k x a : Nat} : gh_U F k x a k x = a := if_pos ⟨rfl, rfl⟩
theorem gU_nx {F : gh_F} {k x a x' : Nat} (h : x' ≠ x) : gh_U F k x a k x' = F k x' := if_neg (fun z => h z.2)
theorem st_report (hE : kNet E) (h : gst E S F mk Q) (hv : v < 7) (h0 : F 0 v = 1) : gX E (k_report E S v) := by
  obtain ⟨hR, hI⟩ := h
  have Hn := hE.net
  have sm := hI.small hE hv
  have hf := hR.1 v
  have hI' := hI
  obtain ⟨Hst, Hb1, Hb2, Hb3, Hb4, Hb5, Hb6, Hs0, HpA, Hs1, Hs2, HSl, Hs3, Hs4, How, Hs5, Hs6, HSr, HSn, HM, HC, Hph, H6, H7, Hbc, HK, Hrj, Htw, Hts, Han, Hsz, Hch⟩ := hI
  unfold k_report
  by_cases hc : F 3 v = 0 ∧ F 7 v = 12
  · have hc' : S.1 v 3 = 0 ∧ S.1 v 7 = -1 := ⟨by rw [hf.2.2.2.1, hc.1]; rfl, by rw [hf.2.2.2.2.2.2.2, hc.2]; rfl⟩
    rw [if_pos hc']
    have q2 := Hs2 v h0
    have q5 := Hs5 v q2.1 q2.2.1
    have q6 := (Hs6 v).1 (HSl v q2.2.1)
    have q7 := ((Hs6 v).2 q6).1
    have g := rp_I Hn hI' h0 hc.1 hc.2
    have r1 := hR.fld (x := v) (k := 0) (a := 2) (i := 2) (by decide) rfl (by decide)
    have f1 := r1.1 v
    have hq : ((5, (k_fld S v 0 2).1 v 4, (k_fld S v 0 2).1 v 6, 0, 0) : kM) = gl_m (F 9 v, (5, F 6 v, 0, 0)) := by
      rw [f1.2.2.2.2.1, f1.2.2.2.2.2.2.1, gU_ne (by decide), gU_ne (by decide), q5, gl_e_ne q6]
      rfl
    have r2 := r1.post hE (m := (5, F 6 v, 0, 0)) q7 hq ⟨fun _ => ⟨rfl, rfl⟩, fun _ => rfl⟩
    refine ⟨_, mk, _, r2.ghost (F' := gh_U (gh_U F 0 v 2) 11 v 1) (fun k x hk => gU_ne (by omega)), ?_⟩
    rw [gl_ch_app]
    exact g
  · have hc' : ¬ (S.1 v 3 = 0 ∧ S.1 v 7 = -1) := fun z => hc ⟨by have := z.1; rw [hf.2.2.2.1] at this; rcases Nat.eq_zero_or_pos (F 3 v) with w | w; exact w; exact absurd this (nI_ne0 w (by omega)), by have := z.2; rw [hf.2.2.2.2.2.2.2] at this; exact (gl_e_m1 sm.2.2.2.2.2.2).mp this⟩
    rw [if_neg hc']
    exact ⟨F, mk, Q, hR, hI'⟩
theorem k_lb_some {x : Nat} : ∀ {k j : Nat}, k_lb E S x k = some j → j < k ∧ S.2.1 x j = 0
  | 0, j, h => by cases h
  | k + 1, j, h => by
    by_cases hz : S.2.1 x k = 0
    · have ih := fun i => k_lb_some (x := x) (k := k) (j := i)
      unfold k_lb at h
      rw [if_pos hz] at h
      split at h
      · cases h; exact ⟨by omega, hz⟩
      · rename_i i hi
        split at h
        · cases h; exact ⟨by omega, hz⟩
        · cases h; have := ih j hi; exact ⟨by omega, this.2⟩
    · rw [k_lb1 hz] at h
      have := k_lb_some h
      exact ⟨by omega, this.2⟩
theorem gR.m0 (h : gR E S F mk Q) {x e : Nat} (hz : S.2.1 x e = 0) (hm : mk x e ≤ 2) : gl_own E x e ∧ mk x e = 0 := by
  by_cases ho : gl_own E x e
  · refine ⟨ho, ?_⟩
    have := (h.2.1 x e).1 ho
    rw [hz] at this
    rcases Nat.eq_zero_or_pos (mk x e) with w | w
    · exact w
    · exact absurd this.symm (nI_ne0 w (by omega))
  · have := (h.2.1 x e).2 ho
    rw [hz] at this
    exact absurd this (by decide)
theorem k_fld2 {x k : Nat} {a b : Int32} : k_fld (k_fld S x k a) x k b = k_fld S x k b := by
  unfold k_fld
  refine congrArg (fun z => (z, S.2)) ?_
  funext i
  by_cases hi : i = x
  · subst hi
    dsimp only
    rw [kup_self, kup_self, kup_self]
    funext i9
    by_cases hk : i9 = k
    · subst hk; rw [pk_us, pk_us]
    · rw [pk_un hk, pk_un hk, pk_un hk]
  · dsimp only
    rw [kup_ne _ _ hi, kup_ne _ _ hi, kup_ne _ _ hi]
theorem k_lb_fld {x k : Nat} {a : Int32} {y : Nat} : ∀ n, k_lb E (k_fld S x k a) y n = k_lb E S y n
  | 0 => rfl
  | n + 1 => by
    unfold k_lb
    rw [k_lb_fld n]
    rfl
theorem st_test (hE : kNet E) (h : gst E (k_fld S v 7 (-1)) F mk Q) (hv : v < 7) (h0 : F 0 v = 1) (h7 : F 7 v = 12) : gX E (k_test E S v) := by
  have h' := h
  obtain ⟨hR, hI⟩ := h
  have Hn := hE.net
  have hI' := hI
  obtain ⟨Hst, Hb1, Hb2, Hb3, Hb4, Hb5, Hb6, Hs0, HpA, Hs1, Hs2, HSl, Hs3, Hs4, How, Hs5, Hs6, HSr, HSn, HM, HC, Hph, H6, H7, Hbc, HK, Hrj, Htw, Hts, Han, Hsz, Hch⟩ := hI
  unfold k_test
  cases hl : k_lb E S v E.2.1 with
  | none => exact st_report hE h' hv h0
  | some j =>
    obtain ⟨hj, hz⟩ := k_lb_some hl
    obtain ⟨ho, hm⟩ := hR.m0 (x := v) (e := j) hz (by
      by_cases z : gl_own E v j
      · exact (Hrj v j z).1
      · exact absurd (((hR.2.1 v j).2 z).symm.trans hz) (by decide))
    have g := tt_I Hn hI' ho h0 h7 hm
    have hj12 := (Hn.1 v j ho).2.2.2.1
    have r1 := hR.fld (x := v) (k := 7) (a := j) (i := nI j) (by decide) (by rw [if_pos (by decide), gl_e_ne (by omega)]) (fun z => by omega)
    rw [k_fld2] at r1
    have f1 := r1.1 v
    have hq : ((2, (k_fld S v 7 (nI j)).1 v 7, (k_fld S v 7 (nI j)).1 v 1, (k_fld S v 7 (nI j)).1 v 2, 0) : kM) = gl_m (j, (2, F 1 v, F 2 v, 0)) := by
      rw [f1.2.1, f1.2.2.1, f1.2.2.2.2.2.2.2, show gh_U F 7 v j 7 v = j from gU_eq, show gh_U F 7 v j 1 v = F 1 v from gU_ne (by decide), show gh_U F 7 v j 2 v = F 2 v from gU_ne (by decide), gl_e_ne (by omega)]
      rfl
    have r2 := r1.post hE (m := (2, F 1 v, F 2 v, 0)) ho hq ⟨fun z => by simp at z, fun _ => rfl⟩
    refine ⟨_, mk, _, r2, ?_⟩
    rw [gl_ch_app]
    exact g
end GLT
