/-! The class's state and how it lies in the pool. Every known address has a tag (τ); ad k is the address with tag k: 0 the object, 1 nodes, 2 ones, 3 twos, 4 weights, 10 + i node i, 20 + i its marks, 30 + i its list. Tag 40 + i: the list's row (its address changes). 5: messages; 6: what nobody has any more; from 100 on: not the class's. -/
def kup {α : Type} (z : Nat → α) (x : Nat) (a : α) : Nat → α := fun y => if y = x then a else z y
theorem kup_self {α : Type} (z : Nat → α) (x : Nat) (a : α) : kup z x a x = a := if_pos rfl
theorem kup_ne {α : Type} (z : Nat → α) {x y : Nat} (a : α) (h : y ≠ x) : kup z x a y = z y := if_neg h
abbrev kM : Type := Int32 × Int32 × Int32 × Int32 × Int32
/-- the network: how many nodes, edges; an edge's ends, its weight -/
abbrev kE : Type := Nat × Nat × (Nat → Nat) × (Nat → Nat) × (Nat → Int32)
/-- the rest: a node's nine numbers, its marks, its queue, the row's length; how many were sent; how many cells and slots were made on the way -/
abbrev kS : Type := (Nat → Nat → Int32) × (Nat → Nat → Int32) × (Nat → List kM) × (Nat → Nat) × Int32 × Nat × Nat
abbrev kg (ad : Nat → Nat) (n m sc : Int32) : va_E := .inr (0, [.ref (ad 1), .ref (ad 2), .ref (ad 3), .ref (ad 4), .int n, .int m, .int sc])
abbrev kai (c : ClassId) (n : Nat) (g : Nat → Int32) : va_E := .inl (c, n, .inl g)
abbrev kar (c : ClassId) (n : Nat) (g : Nat → Option Nat) : va_E := .inl (c, n, .inr (.inr (.inr (.inr g))))
/-- an int row whose first n are known -/
def kI (c : ClassId) (N : Nat) (L : List Nat) (f : Nat → va_E) (a n : Nat) (z : Nat → Int32) : Prop := ∃ g : Nat → Int32, hp_at L f a (kai c N g) ∧ ∀ j, j < n → g j = z j
/-- a list's row: the shared empty one, or one of its own -/
def kQr (cO : ClassId) (de : Nat) (τ : Nat → Nat) (L : List Nat) (f : Nat → va_E) (i ea cap : Nat) (l : List kM) : Prop :=
  (ea = de ∧ l = [] ∧ cap = 0) ∨ (τ ea = 40 + i ∧ (10 ≤ cap ∧ cap < 2 ^ 20) ∧ l.length ≤ cap ∧ ∃ g : Nat → Option Nat, hp_at L f ea (kar cO cap g) ∧ ∀ k x, l[k]? = some x → ∃ a, g k = some a ∧ τ a = 5 ∧ hp_at L f a (km x))
def kQ (cO : ClassId) (de : Nat) (ad τ : Nat → Nat) (L : List Nat) (f : Nat → va_E) (i cap : Nat) (l : List kM) : Prop :=
  ∃ (ea : Nat) (mo : Int32), hp_at L f (ad (30 + i)) (ka ea (nI l.length) mo) ∧ kQr cO de τ L f i ea cap l
/-- K of the seven nodes stand -/
def kH (K : Nat) (cI cO cN : ClassId) (de : Nat) (ad τ : Nat → Nat) (L : List Nat) (f : Nat → va_E) (E : kE) (S : kS) : Prop :=
  hp_at L f (ad 0) (kg ad (nI E.1) (nI E.2.1) S.2.2.2.2.1) ∧
  (∃ g : Nat → Option Nat, hp_at L f (ad 1) (kar cN 7 g) ∧ ∀ i, i < K → g i = some (ad (10 + i))) ∧
  kI cI 12 L f (ad 2) E.2.1 (fun j => nI (E.2.2.1 j)) ∧ kI cI 12 L f (ad 3) E.2.1 (fun j => nI (E.2.2.2.1 j)) ∧ kI cI 12 L f (ad 4) E.2.1 E.2.2.2.2 ∧
  (∀ i, i < K → hp_at L f (ad (10 + i)) (kn i (ad (20 + i)) (ad (30 + i)) (S.1 i))) ∧
  (∀ i, i < K → kI cI 12 L f (ad (20 + i)) 12 (S.2.1 i)) ∧
  (∀ i, i < K → kQ cO de ad τ L f i (S.2.2.2.1 i) (S.2.2.1 i)) ∧
  (τ (ad 0) = 0 ∧ τ (ad 1) = 1 ∧ τ (ad 2) = 2 ∧ τ (ad 3) = 3 ∧ τ (ad 4) = 4) ∧
  (∀ i, i < K → τ (ad (10 + i)) = 10 + i ∧ τ (ad (20 + i)) = 20 + i ∧ τ (ad (30 + i)) = 30 + i) ∧ E.1 ≤ 7 ∧ E.2.1 ≤ 12 ∧ K ≤ 7
abbrev kG : ClassId → ClassId → ClassId → Nat → (Nat → Nat) → (Nat → Nat) → List Nat → (Nat → va_E) → kE → kS → Prop := kH 7
section KG
variable {K : Nat} {cI cO cN : ClassId} {de : Nat} {ad τ : Nat → Nat} {L L1 : List Nat} {f f1 : Nat → va_E} {E : kE} {S : kS} {a b : Nat} {e e' : va_E} {x : Nat}
theorem kne {i j : Nat} (h1 : τ a = i) (h2 : τ b = j) (h : i ≠ j) : a ≠ b := fun z => h (by rw [← h1, ← h2, z])
theorem kI.go {c : ClassId} {N n : Nat} {z : Nat → Int32} (h : kI c N L f a n z) (hs : ∀ e, hp_at L f a e → hp_at L1 f1 a e) : kI c N L1 f1 a n z := by
  obtain ⟨g, h1, h2⟩ := h
  exact ⟨g, hs _ h1, h2⟩
theorem kQ.go {i cap : Nat} {l : List kM} {τ1 : Nat → Nat} (h : kQ cO de ad τ L f i cap l) (hs : ∀ a e, (a = ad (30 + i) ∨ τ a = 40 + i ∨ τ a = 5) → hp_at L f a e → hp_at L1 f1 a e ∧ τ1 a = τ a) : kQ cO de ad τ1 L1 f1 i cap l := by
  obtain ⟨ea, mo, h1, h2⟩ := h
  refine ⟨ea, mo, (hs _ _ (Or.inl rfl) h1).1, ?_⟩
  rcases h2 with h2 | ⟨h2, h3, h4, g, h5, h6⟩
  · exact Or.inl h2
  · have h7 := hs _ _ (Or.inr (Or.inl h2)) h5
    refine Or.inr ⟨by rw [h7.2]; exact h2, h3, h4, g, h7.1, fun k y hy => ?_⟩
    obtain ⟨b, h8, h9, h10⟩ := h6 k y hy
    have h11 := hs _ _ (Or.inr (Or.inr h9)) h10
    exact ⟨b, h8, by rw [h11.2]; exact h9, h11.1⟩
/-- what the class has stays, with its tags: so does the class -/
theorem kH.go {τ1 : Nat → Nat} (h : kH K cI cO cN de ad τ L f E S) (hs : ∀ a e, τ a < 100 → hp_at L f a e → hp_at L1 f1 a e ∧ τ1 a = τ a) : kH K cI cO cN de ad τ1 L1 f1 E S := by
  obtain ⟨h0, ⟨g, h1, h1'⟩, h2, h3, h4, h5, h6, h7, ⟨t0, t1, t2, t3, t4⟩, t5, h8⟩ := h
  have hK7 := h8.2.2
  have hi : ∀ {c : ClassId} {N n a : Nat} {z : Nat → Int32}, τ a < 100 → kI c N L f a n z → kI c N L1 f1 a n z ∧ τ1 a = τ a := fun ht hk => by
    obtain ⟨g, k1, k2⟩ := hk
    exact ⟨⟨g, (hs _ _ ht k1).1, k2⟩, (hs _ _ ht k1).2⟩
  have a0 := hs _ _ (by omega) h0
  have a1 := hs _ _ (by omega) h1
  have a2 := hi (by omega) h2
  have a3 := hi (by omega) h3
  have a4 := hi (by omega) h4
  refine ⟨a0.1, ⟨g, a1.1, h1'⟩, a2.1, a3.1, a4.1, fun i hi' => (hs _ _ (by have := t5 i hi'; omega) (h5 i hi')).1, fun i hi' => (hi (by have := t5 i hi'; omega) (h6 i hi')).1, fun i hi' => ?_, ⟨by rw [a0.2]; exact t0, by rw [a1.2]; exact t1, by rw [a2.2]; exact t2, by rw [a3.2]; exact t3, by rw [a4.2]; exact t4⟩, fun i hi' => ?_, h8⟩
  · refine kQ.go (h7 i hi') (fun b e hb he => hs b e ?_ he)
    have := t5 i hi'
    rcases hb with rfl | hb | hb <;> omega
  · have k := t5 i hi'
    obtain ⟨ea0, mo, q1, -⟩ := h7 i hi'
    refine ⟨by rw [(hs _ _ (by omega) (h5 i hi')).2]; exact k.1, by rw [(hi (by omega) (h6 i hi')).2]; exact k.2.1, by rw [(hs _ _ (by omega) q1).2]; exact k.2.2⟩
/-- one cell is written whose tag is t: cells with other tags stay -/
theorem hp_at.tag {t : Nat} (hf : f1 = va_up f a e') (hta : τ a = t) (h : hp_at L f b e) (ht : τ b ≠ t) : hp_at L f1 b e := h.ne' hf (fun z => ht (by rw [z]; exact hta))
theorem kH.node (h : kH K cI cO cN de ad τ L f E S) (hx : x < K) : hp_at L f (ad (10 + x)) (kn x (ad (20 + x)) (ad (30 + x)) (S.1 x)) := h.2.2.2.2.2.1 x hx
/-- a node's numbers are written -/
theorem kH.wN (h : kH K cI cO cN de ad τ L f E S) (hx : x < K) {v' : Nat → Int32} (hf : f1 = va_up f (ad (10 + x)) (kn x (ad (20 + x)) (ad (30 + x)) v')) : kH K cI cO cN de ad τ L f1 E (kup S.1 x v', S.2) := by
  obtain ⟨h0, ⟨g, h1, h1'⟩, h2, h3, h4, h5, h6, h7, ⟨t0, t1, t2, t3, t4⟩, t5, h8⟩ := h
  have hK7 := h8.2.2
  have tx := (t5 x hx).1
  have o : ∀ {b : Nat} {e : va_E}, hp_at L f b e → τ b ≠ 10 + x → hp_at L f1 b e := fun hb ht => hb.tag hf tx ht
  refine ⟨o h0 (by omega), ⟨g, o h1 (by omega), h1'⟩, h2.go (fun e he => o he (by omega)), h3.go (fun e he => o he (by omega)), h4.go (fun e he => o he (by omega)), fun i hi => ?_, fun i hi => (h6 i hi).go (fun e he => o he (by have := t5 i hi; omega)), fun i hi => (h7 i hi).go (fun b e hb he => ⟨o he (by have := t5 i hi; rcases hb with rfl | hb | hb <;> omega), rfl⟩), ⟨t0, t1, t2, t3, t4⟩, t5, h8⟩
  by_cases hix : i = x
  · subst hix
    dsimp only
    rw [kup_self]
    exact (h5 i hi).self' hf
  · dsimp only
    rw [kup_ne _ _ hix]
    exact o (h5 i hi) (by have := t5 i hi; omega)
/-- a node's marks are written -/
theorem kH.wM (h : kH K cI cO cN de ad τ L f E S) (hx : x < K) {g' z : Nat → Int32} (hf : f1 = va_up f (ad (20 + x)) (kai cI 12 g')) (hz : ∀ j, j < 12 → g' j = z j) : kH K cI cO cN de ad τ L f1 E (S.1, kup S.2.1 x z, S.2.2) := by
  obtain ⟨h0, ⟨g, h1, h1'⟩, h2, h3, h4, h5, h6, h7, ⟨t0, t1, t2, t3, t4⟩, t5, h8⟩ := h
  have hK7 := h8.2.2
  have tx := (t5 x hx).2.1
  have o : ∀ {b : Nat} {e : va_E}, hp_at L f b e → τ b ≠ 20 + x → hp_at L f1 b e := fun hb ht => hb.tag hf tx ht
  refine ⟨o h0 (by omega), ⟨g, o h1 (by omega), h1'⟩, h2.go (fun e he => o he (by omega)), h3.go (fun e he => o he (by omega)), h4.go (fun e he => o he (by omega)), fun i hi => o (h5 i hi) (by have := t5 i hi; omega), fun i hi => ?_, fun i hi => (h7 i hi).go (fun b e hb he => ⟨o he (by have := t5 i hi; rcases hb with rfl | hb | hb <;> omega), rfl⟩), ⟨t0, t1, t2, t3, t4⟩, t5, h8⟩
  by_cases hix : i = x
  · subst hix
    dsimp only
    rw [kup_self]
    obtain ⟨g0, k1, k2⟩ := h6 i hi
    exact ⟨g', k1.self' hf, hz⟩
  · dsimp only
    rw [kup_ne _ _ hix]
    exact (h6 i hi).go (fun e he => o he (by have := t5 i hi; omega))
/-- the object's numbers are written -/
theorem kH.wO (h : kH K cI cO cN de ad τ L f E S) {n m : Nat} {sc : Int32} (hn : n ≤ 7) (hm : m ≤ E.2.1) (hf : f1 = va_up f (ad 0) (kg ad (nI n) (nI m) sc)) : kH K cI cO cN de ad τ L f1 (n, m, E.2.2) (S.1, S.2.1, S.2.2.1, S.2.2.2.1, sc, S.2.2.2.2.2) := by
  obtain ⟨h0, ⟨g, h1, h1'⟩, ⟨g2, h2, h2'⟩, ⟨g3, h3, h3'⟩, ⟨g4, h4, h4'⟩, h5, h6, h7, ⟨t0, t1, t2, t3, t4⟩, t5, h8⟩ := h
  have hK7 := h8.2.2
  have o : ∀ {b : Nat} {e : va_E}, hp_at L f b e → τ b ≠ 0 → hp_at L f1 b e := fun hb ht => hb.tag hf t0 ht
  exact ⟨h0.self' hf, ⟨g, o h1 (by omega), h1'⟩, ⟨g2, o h2 (by omega), fun j hj => h2' j (by dsimp only at hj; omega)⟩, ⟨g3, o h3 (by omega), fun j hj => h3' j (by dsimp only at hj; omega)⟩, ⟨g4, o h4 (by omega), fun j hj => h4' j (by dsimp only at hj; omega)⟩, fun i hi => o (h5 i hi) (by have := t5 i hi; omega), fun i hi => (h6 i hi).go (fun e he => o he (by have := t5 i hi; omega)), fun i hi => (h7 i hi).go (fun b e hb he => ⟨o he (by have := t5 i hi; rcases hb with rfl | hb | hb <;> omega), rfl⟩), ⟨t0, t1, t2, t3, t4⟩, t5, hn, by dsimp only; omega, hK7⟩
end KG
