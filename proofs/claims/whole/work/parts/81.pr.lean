/-! What the walks ask of a state, from the invariants: kPr; no queue is longer than 144. -/
section GLP
variable {E : kE} {S : kS} {F : gh_F} {mk : Nat → Nat → Nat} {Q : gl_Q} {v j : Nat}
theorem gl_c_no {e : Nat} : ∀ l : List (Nat × gh_M), (∀ p ∈ l, p.1 ≠ e) → gl_c l e = []
  | [], _ => rfl
  | p :: t, h => by
    show (if p.1 = e then _ else _) = _
    rw [if_neg (h p List.mem_cons_self)]
    exact gl_c_no t (fun q hq => h q (List.mem_cons_of_mem _ hq))
def gl_sum (l : List (Nat × gh_M)) : Nat → Nat
  | 0 => 0
  | n + 1 => gl_sum l n + (gl_c l n).length
theorem gl_sum_nil : ∀ n, gl_sum [] n = 0
  | 0 => rfl
  | n + 1 => by show gl_sum [] n + 0 = 0; rw [gl_sum_nil n]
theorem gl_sum_cons {p : Nat × gh_M} {t : List (Nat × gh_M)} : ∀ n, gl_sum (p :: t) n = gl_sum t n + if p.1 < n then 1 else 0
  | 0 => rfl
  | n + 1 => by
    show gl_sum (p :: t) n + (if p.1 = n then p.2 :: gl_c t n else gl_c t n).length = gl_sum t n + (gl_c t n).length + _
    rw [gl_sum_cons n]
    by_cases h : p.1 = n
    · rw [if_pos h, if_neg (by omega), if_pos (by omega)]
      show _ + (_ + 1) = _
      omega
    · rw [if_neg h]
      by_cases h2 : p.1 < n
      · rw [if_pos h2, if_pos (by omega)]; omega
      · rw [if_neg h2, if_neg (by omega)]; omega
theorem gl_sum_len {n : Nat} : ∀ l : List (Nat × gh_M), (∀ p ∈ l, p.1 < n) → l.length = gl_sum l n
  | [], _ => (gl_sum_nil n).symm
  | p :: t, h => by
    rw [gl_sum_cons, if_pos (h p List.mem_cons_self), ← gl_sum_len t (fun q hq => h q (List.mem_cons_of_mem _ hq))]
    rfl
theorem gl_sum_le {l : List (Nat × gh_M)} (h : ∀ e, (gl_c l e).length ≤ 12) : ∀ n, gl_sum l n ≤ 12 * n
  | 0 => Nat.le_refl _
  | n + 1 => by
    have := gl_sum_le h n
    have := h n
    show gl_sum l n + (gl_c l n).length ≤ _
    omega
theorem gi_inc {own : Nat → Nat → Prop} {o : Nat → Nat → Nat} {w : Nat → Nat} {c : Nat → Nat → List gh_M} {x y e : Nat} : ∀ (l : List gh_M) (a : Nat), gh_Ch (gi_m own o w F mk c x y e) a l → gh_Ch gh_inc a l := fun l a h => gh_Ch_mono l a (fun b m _ hp h1 => (hp.2.1 h1).1) h
/-- a channel holds at most twelve -/
theorem gl_ch_len (hE : kNet E) (hI : gI (gl_own E) (k_to E) (gl_w E) F mk (gl_ch Q)) (ho : gl_own E v j) : (gl_ch Q v j).length ≤ 12 := by
  have Hn := hE.net
  have hj := Hn.1 v j ho
  obtain ⟨Hst, Hb1, Hb2, Hb3, Hb4, Hb5, Hb6, Hs0, HpA, Hs1, Hs2, HSl, Hs3, Hs4, How, Hs5, Hs6, HSr, HSn, HM, HC, Hph, H6, H7, Hbc, HK, Hrj, Htw, Hts, Han, Hsz, Hch⟩ := hI
  have hc := Hch v j ho
  have hv7 : v < 7 := hj.2.2.2.2.1
  have lv := gi_lv Hb1 Hsz hv7
  have hu := Hn.1 _ j hj.1
  have lu := (gi_lv Hb1 Hsz hu.2.2.2.2.1).2
  have h6 : ∀ m ∈ gl_ch Q v j, m.1 ≤ 6 := fun m hm => by
    obtain ⟨b, hb⟩ := gh_Ch_mem _ _ hc m hm
    exact hb.1
  have h1 : ∀ m ∈ gl_ch Q v j, m.1 = 1 → m.2.1 ≤ 6 := fun m hm hk => by
    obtain ⟨b, hb⟩ := gh_Ch_mem _ _ hc m hm
    have := (hb.2.1 hk).2.2.2.2.1
    omega
  have hi := gh_inc_le (B := 6) _ _ lv.1 (gi_inc _ _ hc) h1
  have hl := gh_len _ h6
  have t0 := Htw v j ho 0 (by decide)
  have t2 := Htw v j ho 2 (by decide)
  have t3 := Htw v j ho 3 (by decide)
  have t4 := Htw v j ho 4 (by decide)
  have t5 := Htw v j ho 5 (by decide)
  have t6 := Htw v j ho 6 (by decide)
  omega
theorem gst.len (hE : kNet E) (h : gst E S F mk Q) (v : Nat) : (S.2.2.1 v).length ≤ 144 := by
  obtain ⟨hR, hI⟩ := h
  have h4 := hR.2.2.2.1 v
  rw [hR.2.2.1 v, List.length_map, gl_sum_len (n := 12) (Q v) (fun p hp => by have := (h4 p hp).1.1; have := hE.2.1; omega)]
  refine gl_sum_le (fun e => ?_) 12
  by_cases ho : gl_own E v e
  · exact gl_ch_len hE hI ho
  · rw [gl_c_no (e := e) (Q v) (fun p hp z => ho (by rw [← z]; exact (h4 p hp).1))]
    exact Nat.zero_le _
theorem gst.way (hE : kNet E) (h : gst E S F mk Q) (h0 : gi_cur F v ∧ F 13 (F 8 v) = 1) : k_v E (S.1 v 4) := by
  obtain ⟨hR, hI⟩ := h
  obtain ⟨Hst, Hb1, Hb2, Hb3, Hb4, Hb5, Hb6, Hs0, HpA, Hs1, Hs2, HSl, Hs3, Hs4, How, Hs5, Hs6, HSr, HSn, HM, HC, Hph, H6, H7, Hbc, HK, Hrj, Htw, Hts, Han, Hsz, Hch⟩ := hI
  have a1 := Hs5 v h0.1 h0.2
  have a2 := HSl v h0.2
  have a3 := (Hs6 v).1 a2
  have a4 := ((Hs6 v).2 a3).1
  refine ⟨F 9 v, a4.1, ?_⟩
  rw [(hR.1 v).2.2.2.2.1, a1, gl_e_ne a3]
theorem gst.best (h : gst E S F mk Q) (h0 : F 5 v ≠ 12) (ho : gl_own E v (F 5 v)) : k_v E (S.1 v 5) := ⟨F 5 v, ho.1, by rw [(h.1.1 v).2.2.2.2.2.1, gl_e_ne h0]⟩
theorem gst.or (hE : kNet E) (h : gst E S F mk Q) (hv : v < 7) {m : gh_M} {t : List (Nat × gh_M)} (hq : Q v = (j, m) :: t) : kOR E S v (gl_m (j, m)) := by
  have h' := h
  obtain ⟨hR, hI⟩ := h
  have Hn := hE.net
  obtain ⟨ho, hsh⟩ := hR.2.2.2.1 v (j, m) (by rw [hq]; exact List.mem_cons_self)
  have hc : gl_ch Q v j = m :: gl_c t j := gl_ch_hd hq
  have hb := gl_hd hE hI ho hc
  have hd := gi_hd hI.2.2.2.2.2.2.2.2.2.2.2.2.2.2.2.2.2.2.2.2.2.2.2.2.2.2.2.2.2.2.2 ho hc
  have sm := hI.small hE hv
  have hI' := hI
  obtain ⟨Hst, Hb1, Hb2, Hb3, Hb4, Hb5, Hb6, Hs0, HpA, Hs1, Hs2, HSl, Hs3, Hs4, How, Hs5, Hs6, HSr, HSn, HM, HC, Hph, H6, H7, Hbc, HK, Hrj, Htw, Hts, Han, Hsz, Hch⟩ := hI
  have hn : ∀ n, n ≤ 6 → (nI m.1 = nI n ↔ m.1 = n) := fun n hn => nI_eq (by omega) (by omega)
  have hm12 := hE.2.1
  have hj12 := ho.1
  have w1 : F 0 v = 1 → k_v E (S.1 v 4) := fun z => h'.way hE ⟨(Hs2 v z).1, (Hs2 v z).2.1⟩
  have e4 : S.1 v 4 = gl_e (F 4 v) := (hR.1 v).2.2.2.2.1
  have e5 : S.1 v 5 = gl_e (F 5 v) := (hR.1 v).2.2.2.2.2.1
  have e7 : S.1 v 7 = gl_e (F 7 v) := (hR.1 v).2.2.2.2.2.2.2
  have e6 : S.1 v 6 = nI (F 6 v) := (hR.1 v).2.2.2.2.2.2.1
  have e0 : S.1 v 0 = nI (F 0 v) := (hR.1 v).1
  have h412 := hR.2.2.2.2 v
  refine ⟨⟨⟨j, ho.1, rfl⟩, fun z z2 => ?_, fun z => ?_, fun z => ⟨fun z2 => ?_, fun z2 z3 z4 => ?_⟩, fun z0 z1 z2 z3 z4 z5 => ?_⟩, fun i hi z => ?_, fun i hi z => ?_, fun z => ?_, fun z => ?_⟩
  · have z3 : nI j = gl_e (F 7 v) := z2.symm.trans e7
    have z4 := (gl_e_eq sm.2.2.2.2.2.2 (by omega)).mp z3
    refine w1 (Decidable.byContradiction (fun z5 => ?_))
    have := (Hs1 v z5).1
    omega
  · rcases z with z | z
    · exact w1 ((hd.2.2.2.2.1 ((hn 3 (by omega)).mp z)).1.1)
    · exact w1 ((hd.2.2.2.2.2.1 ((hn 4 (by omega)).mp z)).1.1)
  · have k5 : m.1 = 5 := (hn 5 (by omega)).mp z
    rcases (hd.2.2.2.2.2.2.2 k5).2 with q | q | q
    · exact w1 q.2.2.2.2.2.2.1
    · have s8 := (hd.2.2.2.2.2.2.2 k5).1
      refine h'.way hE ⟨?_, ?_⟩
      · unfold gi_cur; rw [q.2.2.2.2.2, s8]
      · rw [← s8]; exact q.1
    · refine absurd ?_ z2
      show nI j = _
      rw [e4, q.2.2.1, gl_e_ne (by omega)]
  · have k5 : m.1 = 5 := (hn 5 (by omega)).mp z
    have z2' : nI j = gl_e (F 4 v) := z2.trans e4
    have r := ry_R Hn hI' ho hc k5 ((gl_e_eq h412 (by omega)).mp z2') (fun y => z3 (by rw [e0, y]; rfl)) (by
      have z4' : nI (F 6 v) < nI m.2.1 := by rw [← e6]; exact z4
      have := hb.2.2.2.2 k5
      have := sm.2.2.2.2.2.1
      exact (nI_ltI (by omega) (by omega)).mp z4')
    exact h'.best r.1 r.2.1
  · have k6 : m.1 = 6 := by
      have : m.1 ≤ 6 := hb.1
      have n0 : m.1 ≠ 0 := fun y => z0 ((hn 0 (by omega)).mpr y)
      have n1 : m.1 ≠ 1 := fun y => z1 ((hn 1 (by omega)).mpr y)
      have n2 : m.1 ≠ 2 := fun y => z2 ((hn 2 (by omega)).mpr y)
      have n3 : m.1 ≠ 3 := fun y => z3 ((hn 3 (by omega)).mpr y)
      have n4 : m.1 ≠ 4 := fun y => z4 ((hn 4 (by omega)).mpr y)
      have n5 : m.1 ≠ 5 := fun y => z5 ((hn 5 (by omega)).mpr y)
      omega
    have r := ry_M Hn hI' ho hc k6
    exact h'.best r.1 r.2.1
  · have z' : nI j = nI i := z
    have : j = i := (nI_eq (by omega) (by omega)).mp z'
    rw [← this]
    exact ho.2
  · have z' : nI i = gl_e (F 5 v) := z.symm.trans e5
    have z2 := (gl_e_eq sm.2.2.2.2.1 (by omega)).mp z'
    rw [z2]
    exact ((How v).1 (by omega)).2
  · have k : m.1 = 0 ∨ m.1 = 5 := z.elim (fun y => Or.inl ((hn 0 (by omega)).mp y)) (fun y => Or.inr ((hn 5 (by omega)).mp y))
    have q := hsh.1 k
    exact ⟨by show nI m.2.2.1 = 0; rw [q.1]; rfl, by show nI m.2.2.2 = 0; rw [q.2]; rfl⟩
  · have q := hsh.2 ((hn 2 (by omega)).mp z)
    show nI m.2.2.2 = 0
    rw [q]; rfl
/-- the kind of the first message -/
theorem gst.fk (hE : kNet E) (h : gst E S F mk Q) : (k_fk S v = -1 ∧ S.2.2.1 v = []) ∨ 0 ≤ k_fk S v := by
  have hqv := h.1.2.2.1 v
  cases hq : Q v with
  | nil =>
    rw [hq] at hqv
    have hqv : S.2.2.1 v = [] := hqv
    exact Or.inl ⟨by unfold k_fk; rw [hqv], hqv⟩
  | cons p t =>
    obtain ⟨j, m⟩ := p
    rw [hq] at hqv
    obtain ⟨ho, hsh⟩ := h.1.2.2.2.1 v (j, m) (by rw [hq]; exact List.mem_cons_self)
    have hc : gl_ch Q v j = m :: gl_c t j := gl_ch_hd hq
    have hb := gl_hd hE h.2 ho hc
    refine Or.inr ?_
    have : k_fk S v = nI m.1 := by unfold k_fk; rw [hqv]; rfl
    rw [this]
    exact nI_pos' (by omega)
theorem gX.fk (hE : kNet E) (h : gX E S) (hk : k_fk S v = -1) : S.2.2.1 v = [] := by
  obtain ⟨F, mk, Q, h⟩ := h
  rcases h.fk hE (v := v) with q | q
  · exact q.2
  · rw [hk] at q; exact absurd q (by decide)
theorem gX.len (hE : kNet E) (h : gX E S) (v : Nat) : (S.2.2.1 v).length ≤ 144 := by
  obtain ⟨F, mk, Q, h⟩ := h
  exact h.len hE v
theorem gX.no (h : gX E S) (ho : ¬ (E.2.2.1 j = v ∨ E.2.2.2.1 j = v)) : S.2.1 v j = -1 := by
  obtain ⟨F, mk, Q, h⟩ := h
  exact (h.1.2.1 v j).2 (fun z => ho z.2)
theorem gX.pr (hE : kNet E) (h : gX E S) : kPr E S := by
  have hl := fun i => h.len hE i
  obtain ⟨F, mk, Q, h⟩ := h
  have h' := h
  obtain ⟨hR, hI⟩ := h
  have hI' := hI
  obtain ⟨Hst, Hb1, Hb2, Hb3, Hb4, Hb5, Hb6, Hs0, HpA, Hs1, Hs2, HSl, Hs3, Hs4, How, Hs5, Hs6, HSr, HSn, HM, HC, Hph, H6, H7, Hbc, HK, Hrj, Htw, Hts, Han, Hsz, Hch⟩ := hI
  have h7 := hE.1
  refine ⟨⟨hE.WE, fun j hj => ⟨(hE.2.2.1 j hj).1, (hE.2.2.1 j hj).2.1⟩, fun j hj => (hE.2.2.1 j hj).2.2.1⟩, fun i hi => by have := hl i; omega, fun v hv => ?_⟩
  have sm := hI'.small hE (x := v) (by omega)
  have e0 : S.1 v 0 = nI (F 0 v) := (hR.1 v).1
  refine ⟨?_, fun k hk z => ?_, fun z k hk ho => ?_, ?_, fun q l hq => ?_, ?_⟩
  · by_cases z : F 0 v = 0
    · exact Or.inl (by rw [e0, z]; rfl)
    · refine Or.inr ?_
      rw [e0]
      exact nI_lt (a := 0) (by omega) (by omega)
  · by_cases ho : gl_own E v k
    · exact ho.2
    · have := (hR.2.1 v k).2 ho
      rw [this] at z
      rcases z with z | z <;> exact absurd z (by decide)
  · have z0 : F 0 v = 0 := by
      rw [e0] at z
      exact (nI_eq (b := 0) (by omega) (by omega)).mp z
    have := (HpA v (Hs0 v z0)).2.2 k ⟨hk, ho⟩
    rw [(hR.2.1 v k).1 ⟨hk, ho⟩, this]
    rfl
  · rw [(hR.1 v).2.2.2.2.2.2.2]
    by_cases z : F 7 v = 12
    · left; rw [z]; rfl
    · right; rw [gl_e_ne z]; exact nI_pos' (by omega)
  · have hqv := hR.2.2.1 v
    rw [hq] at hqv
    cases hQ : Q v with
    | nil => rw [hQ] at hqv; exact absurd hqv (by simp)
    | cons p t =>
      obtain ⟨j, m⟩ := p
      rw [hQ] at hqv
      have : q = gl_m (j, m) := (List.cons.inj hqv).1
      rw [this]
      exact h'.or hE (by omega) hQ
  · rcases h'.fk hE (v := v) with q | q
    · exact Or.inl q.1
    · exact Or.inr q
end GLP
