/-! The network's numbers and the pure steps: how they belong together. -/
def gl_own (E : kE) (x e : Nat) : Prop := e < E.2.1 ∧ (E.2.2.1 e = x ∨ E.2.2.2.1 e = x)
def gl_w (E : kE) (e : Nat) : Nat := kx (E.2.2.2.2 e)
def kNet (E : kE) : Prop := E.1 ≤ 7 ∧ E.2.1 ≤ 12 ∧ (∀ j, j < E.2.1 → E.2.2.1 j < E.1 ∧ E.2.2.2.1 j < E.1 ∧ E.2.2.1 j ≠ E.2.2.2.1 j ∧ E.2.2.2.2 j = nI (gl_w E j) ∧ 1 ≤ gl_w E j ∧ gl_w E j < 100) ∧ ∀ i j, i < E.2.1 → j < E.2.1 → gl_w E i = gl_w E j → i = j
theorem kNet.net {E : kE} (h : kNet E) : gh_Net (gl_own E) (k_to E) (gl_w E) := by
  obtain ⟨h1, h2, h3, h4⟩ := h
  refine ⟨fun x e ⟨q1, q2⟩ => ?_, fun x y e ⟨q1, q2⟩ ⟨q3, q4⟩ => ?_, fun x y e f q1 q2 q3 => h4 e f q1.1 q2.1 q3⟩
  · have := h3 e q1
    unfold gl_own k_to
    by_cases z : E.2.2.1 e = x
    · rw [if_pos z]
      have n1 : E.2.2.1 e ≠ E.2.2.2.1 e := this.2.2.1
      rw [if_neg n1]
      exact ⟨⟨q1, Or.inr rfl⟩, z, fun w => n1 (z.trans w.symm), by omega, by omega, this.2.2.2.2⟩
    · rw [if_neg z, if_pos rfl]
      have z2 := q2.resolve_left z
      exact ⟨⟨q1, Or.inl rfl⟩, z2, z, by omega, by omega, this.2.2.2.2⟩
  · unfold k_to
    by_cases z : E.2.2.1 e = x
    · rw [if_pos z]
      rcases q4 with w | w
      · exact Or.inl (w.symm.trans z)
      · exact Or.inr w.symm
    · rw [if_neg z]
      have z2 := q2.resolve_left z
      rcases q4 with w | w
      · exact Or.inr w.symm
      · exact Or.inl (w.symm.trans z2)
theorem kNet.WE {E : kE} (h : kNet E) : kWE E := ⟨fun j hj => by have := h.2.2.1 j hj; have := h.1; omega, fun j hj => by have := h.2.2.1 j hj; have := h.1; omega⟩
def gl_e (a : Nat) : Int32 := if a = 12 then -1 else nI a
def gl_m (p : Nat × gh_M) : kM := (nI p.2.1, nI p.1, nI p.2.2.1, nI p.2.2.2.1, nI p.2.2.2.2)
def gl_c : List (Nat × gh_M) → Nat → List gh_M
  | [], _ => []
  | p :: t, e => if p.1 = e then p.2 :: gl_c t e else gl_c t e
abbrev gl_Q : Type := Nat → List (Nat × gh_M)
def gl_ch (Q : gl_Q) : Nat → Nat → List gh_M := fun y e => gl_c (Q y) e
theorem gl_c_app {m : gh_M} {j e : Nat} : ∀ l : List (Nat × gh_M), gl_c (l ++ [(j, m)]) e = gl_c l e ++ (if j = e then [m] else [])
  | [] => by
    show (if j = e then m :: gl_c [] e else gl_c [] e) = _
    split <;> rfl
  | p :: t => by
    have ih := gl_c_app (m := m) (j := j) (e := e) t
    show (if p.1 = e then p.2 :: gl_c (t ++ [(j, m)]) e else gl_c (t ++ [(j, m)]) e) = (if p.1 = e then p.2 :: gl_c t e else gl_c t e) ++ _
    rw [ih]
    split <;> simp
theorem gl_ch_app {Q : gl_Q} {y j : Nat} {m : gh_M} : gl_ch (kup Q y (Q y ++ [(j, m)])) = gh_A (gl_ch Q) y j m := by
  funext y' e'
  unfold gl_ch gh_A gh_C
  by_cases h : y' = y
  · subst h
    rw [kup_self, gl_c_app]
    by_cases h2 : e' = j
    · subst h2; rw [if_pos rfl, if_pos ⟨rfl, rfl⟩]
    · rw [if_neg (fun z => h2 z.symm), if_neg (fun z => h2 z.2), List.append_nil]
  · rw [kup_ne _ _ h, if_neg (fun z => h z.1)]
theorem gl_ch_hd {Q : gl_Q} {x : Nat} {p : Nat × gh_M} {t : List (Nat × gh_M)} (h : Q x = p :: t) : gl_ch Q x p.1 = p.2 :: gl_c t p.1 := by
  unfold gl_ch
  rw [h]
  exact if_pos rfl
theorem gl_ch_pop {Q : gl_Q} {x : Nat} {p : Nat × gh_M} {t : List (Nat × gh_M)} (h : Q x = p :: t) : gl_ch (kup Q x t) = gh_T (gl_ch Q) x p.1 := by
  funext y' e'
  unfold gh_T gh_C
  by_cases h1 : y' = x
  · subst h1
    by_cases h2 : e' = p.1
    · rw [if_pos ⟨rfl, h2⟩, gl_ch_hd h, h2]
      unfold gl_ch
      rw [kup_self]
      rfl
    · rw [if_neg (fun z => h2 z.2)]
      unfold gl_ch
      rw [kup_self, h]
      exact (if_neg (fun z => h2 z.symm)).symm
  · rw [if_neg (fun z => h1 z.1)]
    unfold gl_ch
    rw [kup_ne _ _ h1]
/-- what a message has not, is 0 -/
def gl_sh (m : gh_M) : Prop := (m.1 = 0 ∨ m.1 = 5 → m.2.2.1 = 0 ∧ m.2.2.2 = 0) ∧ (m.1 = 2 → m.2.2.2 = 0)
/-- the numbers of the state are these -/
def gR (E : kE) (S : kS) (F : gh_F) (mk : Nat → Nat → Nat) (Q : gl_Q) : Prop :=
  (∀ x, S.1 x 0 = nI (F 0 x) ∧ S.1 x 1 = nI (F 1 x) ∧ S.1 x 2 = nI (F 2 x) ∧ S.1 x 3 = nI (F 3 x) ∧ S.1 x 4 = gl_e (F 4 x) ∧ S.1 x 5 = gl_e (F 5 x) ∧ S.1 x 6 = nI (F 6 x) ∧ S.1 x 7 = gl_e (F 7 x)) ∧
  (∀ x e, (gl_own E x e → S.2.1 x e = nI (mk x e)) ∧ (¬ gl_own E x e → S.2.1 x e = -1)) ∧
  (∀ y, S.2.2.1 y = (Q y).map gl_m) ∧ (∀ y p, p ∈ Q y → gl_own E y p.1 ∧ gl_sh p.2) ∧ ∀ x, F 4 x ≤ 12
section GLS
variable {E : kE} {S : kS} {F F' : gh_F} {mk : Nat → Nat → Nat} {Q : gl_Q}
theorem gR.ghost (h : gR E S F mk Q) (hk : ∀ k x, k < 8 → F' k x = F k x) : gR E S F' mk Q := by
  obtain ⟨h1, h2, h3, h4, h5⟩ := h
  refine ⟨fun x => ?_, h2, h3, h4, fun x => by rw [hk 4 x (by omega)]; exact h5 x⟩
  rw [hk 0 x (by omega), hk 1 x (by omega), hk 2 x (by omega), hk 3 x (by omega), hk 4 x (by omega), hk 5 x (by omega), hk 6 x (by omega), hk 7 x (by omega)]
  exact h1 x
theorem gR.same {S' : kS} (h : gR E S F mk Q) (h1 : ∀ x k, k < 8 → S'.1 x k = S.1 x k) (h2 : S'.2.1 = S.2.1) (h3 : S'.2.2.1 = S.2.2.1) : gR E S' F mk Q := by
  obtain ⟨a1, a2, a3, a4, a5⟩ := h
  refine ⟨fun x => ?_, by rw [h2]; exact a2, by rw [h3]; exact a3, a4, a5⟩
  rw [h1 x 0 (by omega), h1 x 1 (by omega), h1 x 2 (by omega), h1 x 3 (by omega), h1 x 4 (by omega), h1 x 5 (by omega), h1 x 6 (by omega), h1 x 7 (by omega)]
  exact a1 x
/-- a field is written -/
theorem gR.fld {x k a : Nat} {i : Int32} (h : gR E S F mk Q) (hk : k < 8) (hi : i = if k = 4 ∨ k = 5 ∨ k = 7 then gl_e a else nI a) (ha : k = 4 → a ≤ 12) : gR E (k_fld S x k i) (gh_U F k x a) mk Q := by
  obtain ⟨h1, h2, h3, h4, h5⟩ := h
  have e : ∀ y k', (k_fld S x k i).1 y k' = if y = x ∧ k' = k then i else S.1 y k' := fun y k' => by
    show kup S.1 x (upd (S.1 x) k i) y k' = _
    by_cases hy : y = x
    · subst hy
      rw [kup_self]
      by_cases hk' : k' = k
      · subst hk'; rw [pk_us, if_pos ⟨rfl, rfl⟩]
      · rw [pk_un hk', if_neg (fun z => hk' z.2)]
    · rw [kup_ne _ _ hy, if_neg (fun z => hy z.1)]
  refine ⟨fun y => ?_, h2, h3, h4, fun y => ?_⟩
  · have hy := h1 y
    rw [e, e, e, e, e, e, e, e]
    have : k = 0 ∨ k = 1 ∨ k = 2 ∨ k = 3 ∨ k = 4 ∨ k = 5 ∨ k = 6 ∨ k = 7 := by omega
    by_cases hyx : y = x
    · subst hyx
      rcases this with z | z | z | z | z | z | z | z <;> subst z <;> simp [gh_U] at hi ⊢ <;> simp [hi, hy]
    · rcases this with z | z | z | z | z | z | z | z <;> subst z <;> simp [gh_U, hyx] <;> exact hy
  · unfold gh_U
    by_cases hq : 4 = k ∧ y = x
    · rw [if_pos hq]; exact ha hq.1.symm
    · rw [if_neg hq]; exact h5 y
/-- a mark is written -/
theorem gR.mark {x j a : Nat} {i : Int32} (h : gR E S F mk Q) (ho : gl_own E x j) (hi : i = nI a) : gR E (k_mark S x j i) F (gh_K mk x j a) Q := by
  obtain ⟨h1, h2, h3, h4, h5⟩ := h
  have e : ∀ y e, (k_mark S x j i).2.1 y e = if y = x ∧ e = j then i else S.2.1 y e := fun y e => by
    show kup S.2.1 x (upd (S.2.1 x) j i) y e = _
    by_cases hy : y = x
    · subst hy
      rw [kup_self]
      by_cases hk' : e = j
      · subst hk'; rw [pk_us, if_pos ⟨rfl, rfl⟩]
      · rw [pk_un hk', if_neg (fun z => hk' z.2)]
    · rw [kup_ne _ _ hy, if_neg (fun z => hy z.1)]
  refine ⟨h1, fun y e' => ?_, h3, h4, h5⟩
  rw [e]
  unfold gh_K
  by_cases hq : y = x ∧ e' = j
  · rw [if_pos hq, if_pos hq]
    exact ⟨fun _ => hi, fun z => absurd (by rw [hq.1, hq.2]; exact ho) z⟩
  · rw [if_neg hq, if_neg hq]
    exact h2 y e'
/-- a message more in y's queue -/
theorem gR.add {y j : Nat} {m : gh_M} (h : gR E S F mk Q) (ho : gl_own E y j) (hsh : gl_sh m) : gR E (k_add S y (gl_m (j, m))) F mk (kup Q y (Q y ++ [(j, m)])) := by
  obtain ⟨h1, h2, h3, h4, h5⟩ := h
  refine ⟨h1, h2, fun y' => ?_, fun y' p hp => ?_, h5⟩
  · show kup S.2.2.1 y (S.2.2.1 y ++ [gl_m (j, m)]) y' = _
    by_cases hy : y' = y
    · subst hy
      rw [kup_self, kup_self, h3 y', List.map_append]
      rfl
    · rw [kup_ne _ _ hy, kup_ne _ _ hy]
      exact h3 y'
  · by_cases hy : y' = y
    · subst hy
      rw [kup_self] at hp
      rcases List.mem_append.mp hp with z | z
      · exact h4 y' p z
      · rw [List.mem_singleton.mp z]; exact ⟨ho, hsh⟩
    · rw [kup_ne _ _ hy] at hp
      exact h4 y' p hp
theorem gR.post {x j : Nat} {m : gh_M} {q : kM} (hE : kNet E) (h : gR E S F mk Q) (ho : gl_own E x j) (hq : q = gl_m (j, m)) (hsh : gl_sh m) : gR E (k_post E S x q) F mk (kup Q (k_to E x j) (Q (k_to E x j) ++ [(j, m)])) := by
  have hn := (hE.net.1 x j ho).1
  have e : k_to E x (kx q.2.1) = k_to E x j := by
    rw [hq]
    show k_to E x (kx (nI j)) = _
    rw [kx_nI (by have := ho.1; have := hE.2.1; omega)]
  have h1 := (h.same (S' := k_use S 1 5) (fun _ _ _ => rfl) rfl rfl).add (m := m) hn hsh
  unfold k_post k_send
  rw [e, hq]
  exact h1.same (fun _ _ _ => rfl) rfl rfl
/-- the head is taken -/
theorem gR.pop {x : Nat} {p : Nat × gh_M} {t : List (Nat × gh_M)} (h : gR E S F mk Q) (hq : Q x = p :: t) : gR E (k_pop S x (t.map gl_m)) F mk (kup Q x t) := by
  obtain ⟨h1, h2, h3, h4, h5⟩ := h
  refine ⟨h1, h2, fun y' => ?_, fun y' p' hp => ?_, h5⟩
  · show kup S.2.2.1 x (t.map gl_m) y' = _
    by_cases hy : y' = x
    · subst hy; rw [kup_self, kup_self]
    · rw [kup_ne _ _ hy, kup_ne _ _ hy]; exact h3 y'
  · by_cases hy : y' = x
    · subst hy
      rw [kup_self] at hp
      exact h4 y' p' (by rw [hq]; exact List.mem_cons_of_mem _ hp)
    · rw [kup_ne _ _ hy] at hp
      exact h4 y' p' hp
end GLS
/-! numbers that are small -/
def gst (E : kE) (S : kS) (F : gh_F) (mk : Nat → Nat → Nat) (Q : gl_Q) : Prop := gR E S F mk Q ∧ gI (gl_own E) (k_to E) (gl_w E) F mk (gl_ch Q)
def gX (E : kE) (S : kS) : Prop := ∃ F mk Q, gst E S F mk Q
section GLB
variable {E : kE} {S : kS} {F : gh_F} {mk : Nat → Nat → Nat} {Q : gl_Q}
theorem gl_e_ne {a : Nat} (h : a ≠ 12) : gl_e a = nI a := if_neg h
theorem gl_e_eq {a j : Nat} (ha : a ≤ 12) (hj : j < 12) : nI j = gl_e a ↔ j = a := by
  unfold gl_e
  split
  · rename_i z
    refine ⟨fun h => absurd (show (0 : Int32) ≤ nI j from nI_pos' (by omega)) (by rw [h]; decide), fun h => by omega⟩
  · exact nI_eq (by omega) (by omega)
theorem gl_e_m1 {a : Nat} (ha : a ≤ 12) : gl_e a = -1 ↔ a = 12 := by
  unfold gl_e
  split
  · rename_i z; exact ⟨fun _ => z, fun _ => rfl⟩
  · rename_i z
    refine ⟨fun h => absurd (show (0 : Int32) ≤ nI a from nI_pos' (by omega)) (by rw [h]; decide), fun h => absurd h z⟩
theorem gI.small (hE : kNet E) (h : gI (gl_own E) (k_to E) (gl_w E) F mk (gl_ch Q)) {x : Nat} (hx : x < 7) : F 0 x ≤ 2 ∧ F 1 x ≤ 6 ∧ F 2 x < 100 ∧ F 3 x ≤ 12 ∧ F 5 x ≤ 12 ∧ F 6 x ≤ 100 ∧ F 7 x ≤ 12 := by
  have Hn := hE.net
  obtain ⟨Hst, Hb1, Hb2, Hb3, Hb4, Hb5, Hb6, Hs0, HpA, Hs1, Hs2, HSl, Hs3, Hs4, How, Hs5, Hs6, HSr, HSn, HM, HC, Hph, H6, H7, Hbc, HK, Hrj, Htw, Hts, Han, Hsz, Hch⟩ := h
  refine ⟨(Hst x).1, (gi_lv Hb1 Hsz hx).1, ?_, ?_, ?_, (Hs4 x).2, ?_⟩
  · by_cases z : F 2 x = 0
    · omega
    · obtain ⟨y, e, q1, q2, -⟩ := Hb5 x z
      have := (Hn.1 y e q1).2.2.2.2.2.2
      omega
  · by_cases z : F 0 x = 1
    · obtain ⟨l, l1, l2, l3⟩ := Han x z
      have := gi_nodup_le 12 l l1 (fun e he => (Hn.1 x e ((l3 e).mp he).1).2.2.2.1)
      omega
    · have := (Hs1 x z).2; omega
  · by_cases z : F 5 x = 12
    · omega
    · have := (Hn.1 x _ ((How x).1 z)).2.2.2.1; omega
  · by_cases z : F 7 x = 12
    · omega
    · have := (Hn.1 x _ ((How x).2 z)).2.2.2.1; omega
end GLB
