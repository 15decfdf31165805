/-! The reference's relation: what a write does to it. -/
def kFq (τ : Nat → Nat) (L : List Nat) (f : Nat → va_E) (u : hp_U) : Prop := u.1 = L ∧ ∀ b, b ∈ L → (τ b < 100 ∨ 120 ≤ τ b) → u.2 b = f b
def kRP (cI cZ : ClassId) (ad τ : Nat → Nat) (L : List Nat) (f : Nat → va_E) (code : Int32) (E : kE) (S : kS) (u : hp_U) : Prop := kR cI cZ ad τ u.1 u.2 code E S ∧ kFq τ L f u
theorem k_fld_ne2 {S : kS} {x k k' i : Nat} {a : Int32} (h : k' ≠ k) : (k_fld S x k a).1 i k' = S.1 i k' := by
  show kup S.1 x (upd (S.1 x) k a) i k' = S.1 i k'
  by_cases hi : i = x
  · subst hi; rw [kup_self]; exact pk_un h
  · rw [kup_ne _ _ hi]
section KRS
variable {cI cZ : ClassId} {ad τ : Nat → Nat} {L : List Nat} {f f1 : Nat → va_E} {code : Int32} {E : kE} {S : kS}
theorem kFq.rf : kFq τ L f (L, f) := ⟨rfl, fun _ _ _ => rfl⟩
theorem kFq.trans {u w : hp_U} (h1 : kFq τ L f u) (h2 : kFq τ u.1 u.2 w) : kFq τ L f w := ⟨h2.1.trans h1.1, fun b hb ht => (h2.2 b (by rw [h1.1]; exact hb) ht).trans (h1.2 b hb ht)⟩
theorem kFq.w {a t : Nat} {e : va_E} (hf : f1 = va_up f a e) (ht : τ a = t) (h1 : 100 ≤ t) (h2 : t < 120) : kFq τ L f (L, f1) := ⟨rfl, fun b _ hb2 => by
  have hne : b ≠ a := by
    intro z
    subst z
    omega
  dsimp only
  rw [hf, va_up_ne _ _ hne]⟩
theorem kI2.go {a m : Nat} {z1 z2 : Nat → Int32} (h : kI2 cI L f a m z1 z2) (hs : ∀ e, hp_at L f a e → hp_at L f1 a e) : kI2 cI L f1 a m z1 z2 := by
  obtain ⟨g, h1, h2⟩ := h
  exact ⟨g, hs _ h1, h2⟩
/-- what the reference has stays -/
theorem kRq.go {n : Nat} {q : Nat → List kM} (h : kRq cI ad L f n q) (hs : ∀ k e, 113 ≤ k → k < 120 → hp_at L f (ad k) e → hp_at L f1 (ad k) e) : kRq cI ad L f1 n q := by
  obtain ⟨fr, h1, h2, h3, h4⟩ := h
  refine ⟨fr, h1.go (fun e he => hs 113 e (by omega) (by omega) he), h2.go (fun e he => hs 114 e (by omega) (by omega) he), h3, fun c hc => ?_⟩
  obtain ⟨g, h5, h6⟩ := h4 c hc
  exact ⟨g, hs (115 + c) _ (by omega) (by omega) h5, h6⟩
/-- a number of a node is written -/
theorem kR.wF {k x : Nat} {a : Int32} {g' : Nat → Int32} (h : kR cI cZ ad τ L f code E S) (hk : k < 8) (hf : f1 = va_up f (ad (104 + k)) (kai cI 7 g')) (hz : ∀ i, i < E.1 → g' i = (k_fld S x k a).1 i k) : kR cI cZ ad τ L f1 code E (k_fld S x k a) := by
  obtain ⟨h0, h1, h2, h3, h4, h5, h6, t⟩ := h
  have o : ∀ c e, 100 ≤ c → c < 120 → c ≠ 104 + k → hp_at L f (ad c) e → hp_at L f1 (ad c) e := fun c e c1 c2 c3 hb => hb.tag hf (t (104 + k) (by omega) (by omega)) (by rw [t c c1 c2]; exact c3)
  refine ⟨o 100 _ (by omega) (by omega) (by omega) h0, h1.go (fun e he => o 101 e (by omega) (by omega) (by omega) he), h2.go (fun e he => o 102 e (by omega) (by omega) (by omega) he), h3.go (fun e he => o 103 e (by omega) (by omega) (by omega) he), fun k' hk' => ?_, ?_, h6.go (fun c e c1 c2 he => o c e (by omega) (by omega) (by omega) he), t⟩
  · by_cases hkk : k' = k
    · subst hkk
      obtain ⟨g0, z1, -⟩ := h4 k' hk'
      exact ⟨g', z1.self' hf, hz⟩
    · obtain ⟨g0, z1, z2⟩ := h4 k' hk'
      exact ⟨g0, o (104 + k') _ (by omega) (by omega) (by omega) z1, fun i hi => (z2 i hi).trans (k_fld_ne2 hkk).symm⟩
  · obtain ⟨g0, z1, z2⟩ := h5
    exact ⟨g0, o 112 _ (by omega) (by omega) (by omega) z1, fun i hi => (z2 i hi).trans (k_fld_ne2 (by omega)).symm⟩
theorem kR.wD {x : Nat} {a : Int32} {g' : Nat → Int32} (h : kR cI cZ ad τ L f code E S) (hf : f1 = va_up f (ad 112) (kai cZ 7 g')) (hz : ∀ i, i < E.1 → g' i = (k_fld S x 8 a).1 i 8) : kR cI cZ ad τ L f1 code E (k_fld S x 8 a) := by
  obtain ⟨h0, h1, h2, h3, h4, h5, h6, t⟩ := h
  have o : ∀ c e, 100 ≤ c → c < 120 → c ≠ 112 → hp_at L f (ad c) e → hp_at L f1 (ad c) e := fun c e c1 c2 c3 hb => hb.tag hf (t 112 (by omega) (by omega)) (by rw [t c c1 c2]; exact c3)
  refine ⟨o 100 _ (by omega) (by omega) (by omega) h0, h1.go (fun e he => o 101 e (by omega) (by omega) (by omega) he), h2.go (fun e he => o 102 e (by omega) (by omega) (by omega) he), h3.go (fun e he => o 103 e (by omega) (by omega) (by omega) he), fun k' hk' => ?_, ?_, h6.go (fun c e c1 c2 he => o c e (by omega) (by omega) (by omega) he), t⟩
  · obtain ⟨g0, z1, z2⟩ := h4 k' hk'
    exact ⟨g0, o (104 + k') _ (by omega) (by omega) (by omega) z1, fun i hi => (z2 i hi).trans (k_fld_ne2 (by omega)).symm⟩
  · obtain ⟨g0, z1, -⟩ := h5
    exact ⟨g', z1.self' hf, hz⟩
/-- the marks are written -/
theorem kR.wK {z : Nat → Nat → Int32} {g' : Nat → Int32} (h : kR cI cZ ad τ L f code E S) (hf : f1 = va_up f (ad 103) (kai cI 24 g')) (hz : ∀ j, j < E.2.1 → g' (2 * j) = z (E.2.2.1 j) j ∧ g' (2 * j + 1) = z (E.2.2.2.1 j) j) : kR cI cZ ad τ L f1 code E (S.1, z, S.2.2) := by
  obtain ⟨h0, h1, h2, h3, h4, h5, h6, t⟩ := h
  have o : ∀ c e, 100 ≤ c → c < 120 → c ≠ 103 → hp_at L f (ad c) e → hp_at L f1 (ad c) e := fun c e c1 c2 c3 hb => hb.tag hf (t 103 (by omega) (by omega)) (by rw [t c c1 c2]; exact c3)
  refine ⟨o 100 _ (by omega) (by omega) (by omega) h0, h1.go (fun e he => o 101 e (by omega) (by omega) (by omega) he), h2.go (fun e he => o 102 e (by omega) (by omega) (by omega) he), ?_, fun k' hk' => (h4 k' hk').go (fun e he => o (104 + k') e (by omega) (by omega) (by omega) he), h5.go (fun e he => o 112 e (by omega) (by omega) (by omega) he), h6.go (fun c e c1 c2 he => o c e (by omega) (by omega) (by omega) he), t⟩
  obtain ⟨g0, z1, -⟩ := h3
  exact ⟨g', z1.self' hf, hz⟩
/-- the object's numbers are written: no more nodes or edges than before -/
theorem kR.wO {code' sc : Int32} (h : kR cI cZ ad τ L f code E S) (hf : f1 = va_up f (ad 100) (kro ad code' (nI E.1) (nI E.2.1) sc)) : kR cI cZ ad τ L f1 code' E (S.1, S.2.1, S.2.2.1, S.2.2.2.1, sc, S.2.2.2.2.2) := by
  obtain ⟨h0, h1, h2, h3, h4, h5, h6, t⟩ := h
  have o : ∀ c e, 100 ≤ c → c < 120 → c ≠ 100 → hp_at L f (ad c) e → hp_at L f1 (ad c) e := fun c e c1 c2 c3 hb => hb.tag hf (t 100 (by omega) (by omega)) (by rw [t c c1 c2]; exact c3)
  exact ⟨h0.self' hf, h1.go (fun e he => o 101 e (by omega) (by omega) (by omega) he), h2.go (fun e he => o 102 e (by omega) (by omega) (by omega) he), h3.go (fun e he => o 103 e (by omega) (by omega) (by omega) he), fun k' hk' => (h4 k' hk').go (fun e he => o (104 + k') e (by omega) (by omega) (by omega) he), h5.go (fun e he => o 112 e (by omega) (by omega) (by omega) he), h6.go (fun c e c1 c2 he => o c e (by omega) (by omega) (by omega) he), t⟩
/-- the queues are others: six rows are written -/
theorem kR.goQ {q : Nat → List kM} (h : kR cI cZ ad τ L f code E S) (hs : ∀ c e, 100 ≤ c → c < 113 → hp_at L f (ad c) e → hp_at L f1 (ad c) e) (hq : kRq cI ad L f1 E.1 q) : kR cI cZ ad τ L f1 code E (S.1, S.2.1, q, S.2.2.2) := by
  obtain ⟨h0, h1, h2, h3, h4, h5, h6, t⟩ := h
  exact ⟨hs 100 _ (by omega) (by omega) h0, h1.go (fun e he => hs 101 e (by omega) (by omega) he), h2.go (fun e he => hs 102 e (by omega) (by omega) he), h3.go (fun e he => hs 103 e (by omega) (by omega) he), fun k' hk' => (h4 k' hk').go (fun e he => hs (104 + k') e (by omega) (by omega) he), h5.go (fun e he => hs 112 e (by omega) (by omega) he), hq, t⟩
/-- what the relation doesn't speak of: the rows' lengths, the counters -/
theorem kR.ghost {S' : kS} (h : kR cI cZ ad τ L f code E S) (h1 : S'.1 = S.1) (h2 : S'.2.1 = S.2.1) (h3 : S'.2.2.1 = S.2.2.1) (h4 : S'.2.2.2.2.1 = S.2.2.2.2.1) : kR cI cZ ad τ L f code E S' := by
  unfold kR at h ⊢
  rw [h1, h2, h3, h4]
  exact h
end KRS
