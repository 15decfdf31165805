/-! What the law's walk wants of the network: an interface; the relations behind the other side's call. -/
def kIf (Iv : Nat → kE → kS → Prop) : Prop :=
  Iv 0 kE0 kS0 ∧
  (∀ k E S, Iv k E S → E.1 ≤ 7 ∧ E.2.1 ≤ 12 ∧ kPr E S ∧ (∀ i, i < 7 → (S.2.2.1 i).length + 41 < 2 ^ 19) ∧ (∀ v j, v < E.1 → j < E.2.1 → ¬ (E.2.2.1 j = v ∨ E.2.2.2.1 j = v) → S.2.1 v j = -1) ∧ Iv (k + 1) E S) ∧
  (∀ k E S n, Iv k E S → 1 ≤ n → n ≤ 7 → Iv (k + 1) (n, 0, E.2.2) (k_begin S)) ∧
  (∀ k E S a b w, Iv k E S → a < E.1 → b < E.1 → a ≠ b → 1 ≤ w → w ≤ 99 → (∀ j, j < E.2.1 → ¬ E.2.2.2.2 j = w) → (∀ i, i < E.1 → S.1 i 0 = 0) → E.2.1 < 12 → Iv (k + 1) (k_edgeE E a b w) (k_edge E S a b)) ∧
  (∀ k E S v, Iv k E S → v < E.1 → Iv (k + 1) E (k_wake E S v) ∧ Iv (k + 1) E (k_first E S v)) ∧
  (∀ k E S v most, Iv k E S → v < E.1 → most ≤ 999 → Iv (k + 1) E (k_run E most (most * E.1) S v 0).1 ∧ ∃ J : kS → Prop, J S ∧ (∀ T, J T → kPr E T ∧ (∀ i, i < 7 → (T.2.2.1 i).length + 41 < 2 ^ 19)) ∧ (∀ T a, J T → a < E.1 → J (k_first E T a)) ∧ (∀ T a, J T → a < E.1 → k_fk T a = -1 → T.2.2.1 a = [])) ∧
  (∀ k E S, k ≤ 512 → Iv k E S → k_cu S ≤ 600000 ∧ k_su S ≤ 7280000)
section LWR
variable {cI cO cN cZ cJ : ClassId} {de : Nat} {ad τ τ1 : Nat → Nat} {L L1 : List Nat} {f f1 : Nat → va_E} {code : Int32} {E : kE} {S : kS} {o9 : Nat}
theorem kR.move (h : kR cI cZ ad τ L f code E S) (hm : ∀ b, b ∈ L → b ∈ L1 ∧ (100 ≤ τ b → τ1 b = τ b ∧ (b ≠ o9 → f1 b = f b))) (ho : τ o9 = 200) : kR cI cZ ad τ1 L1 f1 code E S := by
  obtain ⟨h0, h1, h2, h3, h4, h5, h6, t⟩ := h
  have o : ∀ k e, 100 ≤ k → k < 120 → hp_at L f (ad k) e → hp_at L1 f1 (ad k) e := fun k e k1 k2 hb => by
    have hk := t k k1 k2
    obtain ⟨z1, z2⟩ := hm _ hb.1
    exact ⟨z1, ((z2 (by omega)).2 (fun z => by rw [z] at hk; omega)).trans hb.2⟩
  have hin : ∀ k, 100 ≤ k → k < 120 → ad k ∈ L := fun k k1 k2 => by
    rcases Nat.lt_or_ge k 113 with z | z
    · rcases (show k = 100 ∨ k = 101 ∨ k = 102 ∨ k = 103 ∨ (104 ≤ k ∧ k < 112) ∨ k = 112 by omega) with rfl | rfl | rfl | rfl | q | rfl
      · exact h0.1
      · obtain ⟨g, z1, -⟩ := h1; exact z1.1
      · obtain ⟨g, z1, -⟩ := h2; exact z1.1
      · obtain ⟨g, z1, -⟩ := h3; exact z1.1
      · obtain ⟨g, z1, -⟩ := h4 (k - 104) (by omega)
        rw [show 104 + (k - 104) = k by omega] at z1
        exact z1.1
      · obtain ⟨g, z1, -⟩ := h5; exact z1.1
    · obtain ⟨fr, ⟨g1, a1, -⟩, ⟨g2, a2, -⟩, -, a4⟩ := h6
      rcases (show k = 113 ∨ k = 114 ∨ (115 ≤ k ∧ k < 120) by omega) with rfl | rfl | q
      · exact a1.1
      · exact a2.1
      · obtain ⟨g, z1, -⟩ := a4 (k - 115) (by omega)
        rw [show 115 + (k - 115) = k by omega] at z1
        exact z1.1
  refine ⟨o 100 _ (by omega) (by omega) h0, ?_, ?_, ?_, fun k hk => ?_, ?_, ?_, fun k k1 k2 => ((hm _ (hin k k1 k2)).2 (by rw [t k k1 k2]; exact k1)).1.trans (t k k1 k2)⟩
  · obtain ⟨g, z1, z2⟩ := h1; exact ⟨g, o 101 _ (by omega) (by omega) z1, z2⟩
  · obtain ⟨g, z1, z2⟩ := h2; exact ⟨g, o 102 _ (by omega) (by omega) z1, z2⟩
  · obtain ⟨g, z1, z2⟩ := h3; exact ⟨g, o 103 _ (by omega) (by omega) z1, z2⟩
  · obtain ⟨g, z1, z2⟩ := h4 k hk; exact ⟨g, o (104 + k) _ (by omega) (by omega) z1, z2⟩
  · obtain ⟨g, z1, z2⟩ := h5; exact ⟨g, o 112 _ (by omega) (by omega) z1, z2⟩
  · obtain ⟨fr, ⟨g1, a1, b1⟩, ⟨g2, a2, b2⟩, a3, a4⟩ := h6
    refine ⟨fr, ⟨g1, o 113 _ (by omega) (by omega) a1, b1⟩, ⟨g2, o 114 _ (by omega) (by omega) a2, b2⟩, a3, fun c hc => ?_⟩
    obtain ⟨g, z1, z2⟩ := a4 c hc
    exact ⟨g, o (115 + c) _ (by omega) (by omega) z1, z2⟩
theorem kG.moveR (h : kG cI cO cN de ad τ L f E S) (hF : kFq τ L f (L1, f1)) : kG cI cO cN de ad τ L1 f1 E S := by
  have e : L1 = L := hF.1
  subst e
  exact h.go (fun a e ha hb => ⟨⟨hb.1, (hF.2 a hb.1 (Or.inl ha)).trans hb.2⟩, rfl⟩)
/-- between two calls of the law: both sides hold the same state -/
def lwS (cI cO cN cZ cJ : ClassId) (de : Nat) (D : va_G) (A : Nat → Prop) (H0 : Heap) (Iv : Nat → kE → kS → Prop) (ad : Nat → Nat) (k : Nat) (E : kE) (S : kS) (τ : Nat → Nat) (L : List Nat) (f : Nat → va_E) (cx sx : Nat) (H : Heap) (locs : List Loc) : Prop :=
  kG cI cO cN de ad τ L f E S ∧ (∃ code, kR cI cZ ad τ L f code E S) ∧ (∃ g, hp_at L f (ad 200) (kal cJ g)) ∧ τ (ad 200) = 200 ∧ Iv k E S ∧ cx ≤ 100 + k_cu S + k ∧ sx ≤ 8000 + k_su S + 6 * k ∧ hp_W D kc A H0 L f H locs
end LWR
theorem tab11 {a : Int32} (h0 : ¬ a = 0) (h1 : ¬ a = 1) (h2 : ¬ a = 2) (h3 : ¬ a = 3) (h4 : ¬ a = 4) (h5 : ¬ a = 5) (h6 : ¬ a = 6) (h7 : ¬ a = 7) (h8 : ¬ a = 8) (h9 : ¬ a = 9) (h10 : ¬ a = 10) : a.toInt < 0 ∨ 10 < a.toInt := by
  by_cases h : a.toInt < 0 ∨ 10 < a.toInt
  · exact h
  · have : a.toInt = 0 ∨ a.toInt = 1 ∨ a.toInt = 2 ∨ a.toInt = 3 ∨ a.toInt = 4 ∨ a.toInt = 5 ∨ a.toInt = 6 ∨ a.toInt = 7 ∨ a.toInt = 8 ∨ a.toInt = 9 ∨ a.toInt = 10 := by omega
    rcases this with z | z | z | z | z | z | z | z | z | z | z
    · exact absurd (Int32.toInt_inj.mp (by rw [z]; rfl)) h0
    · exact absurd (Int32.toInt_inj.mp (by rw [z]; rfl)) h1
    · exact absurd (Int32.toInt_inj.mp (by rw [z]; rfl)) h2
    · exact absurd (Int32.toInt_inj.mp (by rw [z]; rfl)) h3
    · exact absurd (Int32.toInt_inj.mp (by rw [z]; rfl)) h4
    · exact absurd (Int32.toInt_inj.mp (by rw [z]; rfl)) h5
    · exact absurd (Int32.toInt_inj.mp (by rw [z]; rfl)) h6
    · exact absurd (Int32.toInt_inj.mp (by rw [z]; rfl)) h7
    · exact absurd (Int32.toInt_inj.mp (by rw [z]; rfl)) h8
    · exact absurd (Int32.toInt_inj.mp (by rw [z]; rfl)) h9
    · exact absurd (Int32.toInt_inj.mp (by rw [z]; rfl)) h10
