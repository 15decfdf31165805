/-! What a step makes: cells and slots against the queues' growth. -/
def kpc (a : Nat) : Nat := if a = 0 then 8 else if a = 10 then 7 else if a = 15 then 6 else if a = 22 then 5 else if a = 33 then 4 else if a = 49 then 3 else if a = 73 then 2 else if a = 109 then 1 else 0
def kps (a : Nat) : Nat := if a = 0 then 474 else if a = 10 then 464 else if a = 15 then 449 else if a = 22 then 427 else if a = 33 then 394 else if a = 49 then 345 else if a = 73 then 272 else if a = 109 then 163 else 0
def kcO (a : Nat) : Prop := a = 0 ∨ a = 10 ∨ a = 15 ∨ a = 22 ∨ a = 33 ∨ a = 49 ∨ a = 73 ∨ a = 109 ∨ a = 163
theorem kcO.step {a k : Nat} (h : kcO a) (hk : k ≤ 162) : kcO (kcap k a) ∧ kmc k a + kpc (kcap k a) ≤ kpc a ∧ kms k a + kps (kcap k a) ≤ kps a := by
  unfold kms kmc
  by_cases z : k = a
  · subst z
    unfold kcap
    rw [if_pos rfl, if_pos rfl, if_pos rfl]
    rcases h with h | h | h | h | h | h | h | h | h <;> subst h
    · exact ⟨Or.inr (Or.inl rfl), by decide, by decide⟩
    · exact ⟨Or.inr (Or.inr (Or.inl rfl)), by decide, by decide⟩
    · exact ⟨Or.inr (Or.inr (Or.inr (Or.inl rfl))), by decide, by decide⟩
    · exact ⟨Or.inr (Or.inr (Or.inr (Or.inr (Or.inl rfl)))), by decide, by decide⟩
    · exact ⟨Or.inr (Or.inr (Or.inr (Or.inr (Or.inr (Or.inl rfl))))), by decide, by decide⟩
    · exact ⟨Or.inr (Or.inr (Or.inr (Or.inr (Or.inr (Or.inr (Or.inl rfl)))))), by decide, by decide⟩
    · exact ⟨Or.inr (Or.inr (Or.inr (Or.inr (Or.inr (Or.inr (Or.inr (Or.inl rfl))))))), by decide, by decide⟩
    · exact ⟨Or.inr (Or.inr (Or.inr (Or.inr (Or.inr (Or.inr (Or.inr (Or.inr rfl))))))), by decide, by decide⟩
    · omega
  · have e : kcap k a = a := if_neg z
    rw [e, if_neg z, if_neg z]
    exact ⟨h, by omega, by omega⟩
def kS7 (g : Nat → Nat) : Nat := g 0 + g 1 + g 2 + g 3 + g 4 + g 5 + g 6
theorem kS7_up {g g' : Nat → Nat} {i d : Nat} (hi : i < 7) (h : ∀ x, x ≠ i → g' x = g x) (hd : d + g' i ≤ g i) : kS7 g' + d ≤ kS7 g := by
  unfold kS7
  rcases (show i = 0 ∨ i = 1 ∨ i = 2 ∨ i = 3 ∨ i = 4 ∨ i = 5 ∨ i = 6 by omega) with z | z | z | z | z | z | z <;> subst z
  · rw [h 1 (by decide), h 2 (by decide), h 3 (by decide), h 4 (by decide), h 5 (by decide), h 6 (by decide)]; omega
  · rw [h 0 (by decide), h 2 (by decide), h 3 (by decide), h 4 (by decide), h 5 (by decide), h 6 (by decide)]; omega
  · rw [h 0 (by decide), h 1 (by decide), h 3 (by decide), h 4 (by decide), h 5 (by decide), h 6 (by decide)]; omega
  · rw [h 0 (by decide), h 1 (by decide), h 2 (by decide), h 4 (by decide), h 5 (by decide), h 6 (by decide)]; omega
  · rw [h 0 (by decide), h 1 (by decide), h 2 (by decide), h 3 (by decide), h 5 (by decide), h 6 (by decide)]; omega
  · rw [h 0 (by decide), h 1 (by decide), h 2 (by decide), h 3 (by decide), h 4 (by decide), h 6 (by decide)]; omega
  · rw [h 0 (by decide), h 1 (by decide), h 2 (by decide), h 3 (by decide), h 4 (by decide), h 5 (by decide)]; omega
theorem kS7_le {g : Nat → Nat} {B : Nat} (h : ∀ x, g x ≤ B) : kS7 g ≤ 7 * B := by
  unfold kS7
  have := h 0
  have := h 1
  have := h 2
  have := h 3
  have := h 4
  have := h 5
  have := h 6
  omega
/-- lengths, room, and what has been made, with what may still be made by growth -/
def qB (d n c s : Nat) (T : kS) : Prop := (∀ i, i < 7 → (T.2.2.1 i).length ≤ 144 + d) ∧ (∀ i, i < 7 → kcO (T.2.2.2.1 i)) ∧ k_cu T + kS7 (fun i => kpc (T.2.2.2.1 i)) ≤ c + n ∧ k_su T + kS7 (fun i => kps (T.2.2.2.1 i)) ≤ s + 5 * n
section GCO
variable {E : kE} {S T U : kS} {x i d n c s d1 n1 d2 n2 : Nat} {q : kM}
theorem qB.mono (h : qB d n c s T) (hd : d ≤ d1) (hn : n ≤ n1) : qB d1 n1 c s T := ⟨fun i hi => by have := h.1 i hi; omega, h.2.1, by have := h.2.2.1; omega, by have := h.2.2.2; omega⟩
theorem qB.add (h : qB d n c s T) (hd : d ≤ 18) (hi : i < 7) : qB (d + 1) n c s (k_add T i q) := by
  obtain ⟨h1, h2, h3, h4⟩ := h
  obtain ⟨a1, a2, a3⟩ := (h2 i hi).step (k := (T.2.2.1 i).length) (by have := h1 i hi; omega)
  have ec : (k_add T i q).2.2.2.1 = kup T.2.2.2.1 i (kcap (T.2.2.1 i).length (T.2.2.2.1 i)) := rfl
  have el : (k_add T i q).2.2.1 = kup T.2.2.1 i (T.2.2.1 i ++ [q]) := rfl
  have eu : k_cu (k_add T i q) = k_cu T + kmc (T.2.2.1 i).length (T.2.2.2.1 i) := rfl
  have es : k_su (k_add T i q) = k_su T + kms (T.2.2.1 i).length (T.2.2.2.1 i) := rfl
  refine ⟨fun y hy => ?_, fun y hy => ?_, ?_, ?_⟩
  · rw [el]
    by_cases z : y = i
    · subst z; rw [kup_self, List.length_append]; have := h1 y hy; show _ + 1 ≤ _; omega
    · rw [kup_ne _ _ z]; have := h1 y hy; omega
  · rw [ec]
    by_cases z : y = i
    · subst z; rw [kup_self]; exact a1
    · rw [kup_ne _ _ z]; exact h2 y hy
  · have := kS7_up (g := fun y => kpc (T.2.2.2.1 y)) (g' := fun y => kpc ((k_add T i q).2.2.2.1 y)) (d := kmc (T.2.2.1 i).length (T.2.2.2.1 i)) hi (fun y hy => by rw [ec, kup_ne _ _ hy]) (by rw [ec, kup_self]; exact a2)
    rw [eu]
    omega
  · have := kS7_up (g := fun y => kps (T.2.2.2.1 y)) (g' := fun y => kps ((k_add T i q).2.2.2.1 y)) (d := kms (T.2.2.1 i).length (T.2.2.2.1 i)) hi (fun y hy => by rw [ec, kup_ne _ _ hy]) (by rw [ec, kup_self]; exact a3)
    rw [es]
    omega
def kas (S : kS) (x : Nat) : Nat := if S.1 x 0 = 0 then 1 else 0
def kA7 (E : kE) : Prop := ∀ j, E.2.2.1 j < 7 ∧ E.2.2.2.1 j < 7
theorem kA7.to (h : kA7 E) (x j : Nat) : k_to E x j < 7 := by
  unfold k_to
  split
  · exact (h j).2
  · exact (h j).1
theorem qB.post (hA : kA7 E) (h : qB d n c s T) (hd : d ≤ 18) : qB (d + 1) (n + 1) c s (k_post E T x q) := by
  have h1 : qB d (n + 1) c s (k_use T 1 5) := ⟨h.1, h.2.1, by have := h.2.2.1; show k_cu T + 1 + _ ≤ _; show k_cu T + 1 + kS7 (fun i => kpc (T.2.2.2.1 i)) ≤ _; omega, by have := h.2.2.2; show k_su T + 5 + kS7 (fun i => kps (T.2.2.2.1 i)) ≤ _; omega⟩
  exact h1.add hd (hA.to x (kx q.2.1))
/-- a step of x: d messages more at most, n of them new -/
def kst (d n x : Nat) (S T : kS) : Prop := (∀ i, i ≠ x → T.1 i = S.1 i) ∧ T.1 x 1 = S.1 x 1 ∧ (T.1 x 0 = S.1 x 0 ∨ T.1 x 0 = 2) ∧ ∀ d0 n0 c s, d0 + d ≤ 18 → qB d0 n0 c s S → qB (d0 + d) (n0 + n) c s T
theorem kst.rf : kst 0 0 x S S := ⟨fun _ _ => rfl, rfl, Or.inl rfl, fun _ _ _ _ _ h => h⟩
theorem kst.trans (h1 : kst d1 n1 x S T) (h2 : kst d2 n2 x T U) : kst (d1 + d2) (n1 + n2) x S U := by
  obtain ⟨a1, a2, a3, a4⟩ := h1
  obtain ⟨b1, b2, b3, b4⟩ := h2
  refine ⟨fun i hi => (b1 i hi).trans (a1 i hi), b2.trans a2, ?_, fun d0 n0 c s hd h => ?_⟩
  · rcases b3 with z | z
    · rw [z]; exact a3
    · exact Or.inr z
  · have := b4 (d0 + d1) (n0 + n1) c s (by omega) (a4 d0 n0 c s (by omega) h)
    exact this.mono (by omega) (by omega)
theorem kst.mono (h : kst d n x S T) (hd : d ≤ d1) (hn : n ≤ n1) : kst d1 n1 x S T := ⟨h.1, h.2.1, h.2.2.1, fun d0 n0 c s hd0 hq => (h.2.2.2 d0 n0 c s (by omega) hq).mono (by omega) (by omega)⟩
theorem kst.post (hA : kA7 E) : kst 1 1 x S (k_post E S x q) := ⟨fun _ _ => rfl, rfl, Or.inl rfl, fun d0 n0 c s hd h => h.post hA (by omega)⟩
theorem kst.add (hx : x < 7) : kst 1 0 x S (k_add S x q) := ⟨fun _ _ => rfl, rfl, Or.inl rfl, fun d0 n0 c s hd h => h.add (by omega) hx⟩
theorem kst.mark {j : Nat} {a : Int32} : kst 0 0 x S (k_mark S x j a) := ⟨fun _ _ => rfl, rfl, Or.inl rfl, fun _ _ _ _ _ h => h⟩
theorem kst.rej {j : Nat} : kst 0 0 x S (k_rej S x j) := ⟨fun _ _ => rfl, rfl, Or.inl rfl, fun _ _ _ _ _ h => h⟩
theorem kst.fld {k : Nat} {a : Int32} (h1 : k ≠ 1) (h0 : k = 0 → a = 2) : kst 0 0 x S (k_fld S x k a) := by
  refine ⟨fun i hi => kup_ne _ _ hi, k_fld_ne (fun z => h1 z.symm), ?_, fun _ _ _ _ _ h => h⟩
  by_cases z : k = 0
  · subst z; right; rw [k_fld_self]; exact h0 rfl
  · left; exact k_fld_ne (fun y => z y.symm)
theorem kst.best {e w : Int32} : kst 0 0 x S (k_best S x e w) := ⟨fun i hi => kup_ne _ _ hi, k_best_ne (by decide) (by decide), Or.inl (k_best_ne (by decide) (by decide)), fun _ _ _ _ _ h => h⟩
theorem kst.report (hA : kA7 E) : kst 1 1 x S (k_report E S x) := by
  unfold k_report
  split
  · exact (kst.fld (by decide) (fun _ => rfl)).trans (kst.post hA)
  · exact kst.rf.mono (by omega) (by omega)
theorem kst.test (hA : kA7 E) : kst 1 1 x S (k_test E S x) := by
  unfold k_test
  split
  · exact (kst.fld (by decide) (fun z => absurd z (by decide))).trans (kst.report hA)
  · exact (kst.fld (by decide) (fun z => absurd z (by decide))).trans (kst.post hA)
theorem kst.move (hA : kA7 E) : kst 1 1 x S (k_move E S x) := by
  unfold k_move
  split
  · exact kst.post hA
  · exact (kst.post hA).trans kst.mark
theorem kst.wake (hA : kA7 E) : kst 1 (kas S x) x S (k_wake E S x) ∧ (k_wake E S x).1 x 0 ≠ 0 := by
  unfold kas
  by_cases h : S.1 x 0 = 0
  · rw [if_pos h]
    cases hl : k_lb E (k_fld S x 0 2) x E.2.1 with
    | none =>
      rw [k_wake1 h hl]
      exact ⟨(kst.fld (by decide) (fun _ => rfl)).mono (by omega) (by omega), by rw [k_fld_self]; decide⟩
    | some j =>
      rw [k_wake2 h hl]
      refine ⟨((kst.fld (by decide) (fun _ => rfl)).trans kst.mark).trans (kst.post hA), ?_⟩
      show (k_fld S x 0 2).1 x 0 ≠ 0
      rw [k_fld_self]; decide
  · rw [if_neg h, k_wake0 h]
    exact ⟨kst.rf.mono (by omega) (by omega), h⟩
theorem kst.ini1 (hA : kA7 E) {j : Nat} : kst 1 1 x S (k_ini1 E S x j) := by
  unfold k_ini1
  split
  · exact (kst.post hA).trans (kst.fld (by decide) (fun z => absurd z (by decide)))
  · exact kst.post hA
theorem kst.acc (hA : kA7 E) : kst 1 1 x S (k_acc E S x q) := ((kst.fld (by decide) (fun z => absurd z (by decide))).trans kst.best).trans (kst.report hA)
theorem kst.rjt (hA : kA7 E) : kst 1 1 x S (k_rjt E S x q) := kst.rej.trans (kst.test hA)
theorem kst.rep (hA : kA7 E) (hx : x < 7) : kst 1 1 x S (k_rep E S x q) := by
  unfold k_rep
  split
  · split
    · exact (kst.add hx).mono (by omega) (by omega)
    · split
      · exact kst.move hA
      · split
        · exact (kst.fld (by decide) (fun z => absurd z (by decide))).mono (by omega) (by omega)
        · exact kst.rf.mono (by omega) (by omega)
  · exact ((kst.fld (by decide) (fun z => absurd z (by decide))).trans kst.best).trans (kst.report hA)
/-- a step of x that is awake behind it -/
theorem kst.aw (h : kst d n x S T) (h0 : S.1 x 0 ≠ 0) : T.1 x 0 ≠ 0 := by
  rcases h.2.2.1 with z | z
  · rw [z]; exact h0
  · rw [z]; decide
theorem kst.conn (hA : kA7 E) (hx : x < 7) : kst 2 (1 + kas S x) x S (k_conn E S x q) ∧ (k_conn E S x q).1 x 0 ≠ 0 := by
  obtain ⟨w1, w2⟩ := kst.wake (S := S) (x := x) hA
  have key : ∀ U, kst 1 1 x (k_wake E S x) U → kst 2 (1 + kas S x) x S U ∧ U.1 x 0 ≠ 0 := fun U hU => ⟨(w1.trans hU).mono (by omega) (by omega), hU.aw w2⟩
  unfold k_conn
  split
  · exact key _ (kst.mark.trans (kst.ini1 hA))
  · split
    · exact key _ ((kst.add hx).mono (by omega) (by omega))
    · exact key _ (kst.post hA)
theorem kst.tst (hA : kA7 E) (hx : x < 7) : kst 2 (1 + kas S x) x S (k_tst E S x q) ∧ (k_tst E S x q).1 x 0 ≠ 0 := by
  obtain ⟨w1, w2⟩ := kst.wake (S := S) (x := x) hA
  have key : ∀ U, kst 1 1 x (k_wake E S x) U → kst 2 (1 + kas S x) x S U ∧ U.1 x 0 ≠ 0 := fun U hU => ⟨(w1.trans hU).mono (by omega) (by omega), hU.aw w2⟩
  unfold k_tst
  split
  · exact key _ ((kst.add hx).mono (by omega) (by omega))
  · split
    · split
      · exact key _ (kst.rej.trans (kst.test hA))
      · exact key _ (kst.rej.trans (kst.post hA))
    · exact key _ (kst.post hA)
theorem k_ini1_4 {j : Nat} : (k_ini1 E S x j).1 x 4 = S.1 x 4 := by
  unfold k_ini1
  split
  · exact k_fld_ne (by decide)
  · rfl
theorem k_inis_4 : ∀ k, (k_inis E S x k).1 x 4 = S.1 x 4
  | 0 => rfl
  | k + 1 => by
    have ih := k_inis_4 k
    show (if _ then (if _ then _ else _) else _ : kS).1 x 4 = _
    split
    · split
      · exact ih
      · rw [k_ini1_4]; exact ih
    · exact ih
theorem kst.inis (hA : kA7 E) {j : Nat} (h4 : S.1 x 4 = nI j) : ∀ k, kst k (if j < k then k - 1 else k) x S (k_inis E S x k)
  | 0 => kst.rf.mono (by omega) (by omega)
  | k + 1 => by
    have ih := kst.inis hA h4 k
    show kst (k + 1) _ x S (if _ then (if _ then _ else _) else _)
    by_cases hm : (k_inis E S x k).2.1 x k = 1
    · rw [if_pos hm]
      by_cases hk : nI k = (k_inis E S x k).1 x 4
      · rw [if_pos hk]
        exact ih.mono (by omega) (by split <;> split <;> omega)
      · rw [if_neg hk]
        have hkj : k ≠ j := fun z => hk (by rw [k_inis_4, h4, z])
        exact (ih.trans (kst.ini1 hA)).mono (by omega) (by split <;> split <;> omega)
    · rw [if_neg hm]
      exact ih.mono (by omega) (by split <;> split <;> omega)
end GCO
