/-! The network: a class goes over, by program (wip/th). -/
section
variable {own : Nat → Nat → Prop} {o : Nat → Nat → Nat} {w : Nat → Nat} {F : gh_F} {mk : Nat → Nat → Nat} {c : Nat → Nat → List gh_M}
theorem ab_st {v j n3 : Nat} (Hst : gi_st F) (Hs2 : gi_s2 F) {c1 : Nat → Nat → List gh_M} {m0 : gh_M} (hj : own v j) (hT : ∀ k y e, gh_has k (c y e) ↔ gh_has k (c1 y e) ∨ (y = v ∧ e = j ∧ k = m0.1)) (hTc : ∀ k y e, gh_cnt k (c y e) = gh_cnt k (c1 y e) + if y = v ∧ e = j ∧ k = m0.1 then 1 else 0) (hTm : ∀ y e m, m ∈ c y e ↔ m ∈ c1 y e ∨ (y = v ∧ e = j ∧ m = m0)) (hTw : ¬ gh_has m0.1 (c1 v j)) (hk : m0.1 = 0) (hs : F 8 (o v j) ≠ F 8 v) (hl : F 1 (o v j) < F 1 v) (hu : mk (o v j) j = 1) (hv0 : mk v j = 0) (hp : F 13 (F 8 (o v j)) = 3) (hcu : gi_cur F (o v j)) (hg : F 8 v < 100) (hC : ∀ x, F 8 x = F 8 (o v j) → F 11 x = 1 ∧ (x = o v j ∨ gi_NR o F x)) (h9 : F 9 (o v j) = j) (h9v : F 9 v ≠ j) (h0 : F 0 v = 1 ∨ F 0 v = 2) (hn3 : (F 0 v = 1 ∧ n3 = F 3 v + 1) ∨ (F 0 v = 2 ∧ n3 = F 3 v)) (hX1 : ∀ x e, own x e → mk x e = 1 → F 8 x = F 8 v → F 8 (o x e) = F 8 (o v j) → False) (hX2 : ∀ x e, own x e → mk x e = 1 → F 8 x = F 8 (o v j) → F 8 (o x e) ≠ F 8 (o v j) → x = o v j ∧ e = j) (hX3 : ∀ x, F 8 x = F 8 (o v j) → F 1 x < F 12 (F 8 v)) (hX4 : ∀ y e, own y e → w e = F 8 v → F 8 y = F 8 v) (hlv : F 1 v ≤ F 12 (F 8 v))  : gi_st (ga_ab F v (o v j) n3) := by
  clear hT hTc hTm hX1 hX2 hC
  dsimp only [gi_st, gi_s2, gi_cur, gi_NR, gi_wt, gi_open, gh_Net] at *
  try simp (decide := true) only [ga_ab, gh_U, gh_K, gh_A_has, gh_A_cnt, gh_A_mem, false_and, true_and, and_false, or_false, if_false, if_true, and_true]
  grind (splits := 25)
theorem ab_b1 {v j n3 : Nat} (Hb1 : gi_b1 F) {c1 : Nat → Nat → List gh_M} {m0 : gh_M} (hj : own v j) (hT : ∀ k y e, gh_has k (c y e) ↔ gh_has k (c1 y e) ∨ (y = v ∧ e = j ∧ k = m0.1)) (hTc : ∀ k y e, gh_cnt k (c y e) = gh_cnt k (c1 y e) + if y = v ∧ e = j ∧ k = m0.1 then 1 else 0) (hTm : ∀ y e m, m ∈ c y e ↔ m ∈ c1 y e ∨ (y = v ∧ e = j ∧ m = m0)) (hTw : ¬ gh_has m0.1 (c1 v j)) (hk : m0.1 = 0) (hs : F 8 (o v j) ≠ F 8 v) (hl : F 1 (o v j) < F 1 v) (hu : mk (o v j) j = 1) (hv0 : mk v j = 0) (hp : F 13 (F 8 (o v j)) = 3) (hcu : gi_cur F (o v j)) (hg : F 8 v < 100) (hC : ∀ x, F 8 x = F 8 (o v j) → F 11 x = 1 ∧ (x = o v j ∨ gi_NR o F x)) (h9 : F 9 (o v j) = j) (h9v : F 9 v ≠ j) (h0 : F 0 v = 1 ∨ F 0 v = 2) (hn3 : (F 0 v = 1 ∧ n3 = F 3 v + 1) ∨ (F 0 v = 2 ∧ n3 = F 3 v)) (hX1 : ∀ x e, own x e → mk x e = 1 → F 8 x = F 8 v → F 8 (o x e) = F 8 (o v j) → False) (hX2 : ∀ x e, own x e → mk x e = 1 → F 8 x = F 8 (o v j) → F 8 (o x e) ≠ F 8 (o v j) → x = o v j ∧ e = j) (hX3 : ∀ x, F 8 x = F 8 (o v j) → F 1 x < F 12 (F 8 v)) (hX4 : ∀ y e, own y e → w e = F 8 v → F 8 y = F 8 v) (hlv : F 1 v ≤ F 12 (F 8 v))  : gi_b1 (ga_ab F v (o v j) n3) := by
  clear hT hTc hTm hX1 hX2 hC
  dsimp only [gi_b1, gi_cur, gi_NR, gi_wt, gi_open, gh_Net] at *
  try simp (decide := true) only [ga_ab, gh_U, gh_K, gh_A_has, gh_A_cnt, gh_A_mem, false_and, true_and, and_false, or_false, if_false, if_true, and_true]
  grind (splits := 25)
theorem ab_b2 {v j n3 : Nat} (Hb2 : gi_b2 F) {c1 : Nat → Nat → List gh_M} {m0 : gh_M} (hj : own v j) (hT : ∀ k y e, gh_has k (c y e) ↔ gh_has k (c1 y e) ∨ (y = v ∧ e = j ∧ k = m0.1)) (hTc : ∀ k y e, gh_cnt k (c y e) = gh_cnt k (c1 y e) + if y = v ∧ e = j ∧ k = m0.1 then 1 else 0) (hTm : ∀ y e m, m ∈ c y e ↔ m ∈ c1 y e ∨ (y = v ∧ e = j ∧ m = m0)) (hTw : ¬ gh_has m0.1 (c1 v j)) (hk : m0.1 = 0) (hs : F 8 (o v j) ≠ F 8 v) (hl : F 1 (o v j) < F 1 v) (hu : mk (o v j) j = 1) (hv0 : mk v j = 0) (hp : F 13 (F 8 (o v j)) = 3) (hcu : gi_cur F (o v j)) (hg : F 8 v < 100) (hC : ∀ x, F 8 x = F 8 (o v j) → F 11 x = 1 ∧ (x = o v j ∨ gi_NR o F x)) (h9 : F 9 (o v j) = j) (h9v : F 9 v ≠ j) (h0 : F 0 v = 1 ∨ F 0 v = 2) (hn3 : (F 0 v = 1 ∧ n3 = F 3 v + 1) ∨ (F 0 v = 2 ∧ n3 = F 3 v)) (hX1 : ∀ x e, own x e → mk x e = 1 → F 8 x = F 8 v → F 8 (o x e) = F 8 (o v j) → False) (hX2 : ∀ x e, own x e → mk x e = 1 → F 8 x = F 8 (o v j) → F 8 (o x e) ≠ F 8 (o v j) → x = o v j ∧ e = j) (hX3 : ∀ x, F 8 x = F 8 (o v j) → F 1 x < F 12 (F 8 v)) (hX4 : ∀ y e, own y e → w e = F 8 v → F 8 y = F 8 v) (hlv : F 1 v ≤ F 12 (F 8 v))  : gi_b2 (ga_ab F v (o v j) n3) := by
  clear hT hTc hTm hX1 hX2 hC
  dsimp only [gi_b2, gi_cur, gi_NR, gi_wt, gi_open, gh_Net] at *
  try simp (decide := true) only [ga_ab, gh_U, gh_K, gh_A_has, gh_A_cnt, gh_A_mem, false_and, true_and, and_false, or_false, if_false, if_true, and_true]
  grind (splits := 25)
theorem ab_b3 {v j n3 : Nat} (Hb3 : gi_b3 F) (Hn : gh_Net own o w) (Hb5 : gi_b5 own o w F) (Hb2 : gi_b2 F) (Hb1 : gi_b1 F) {c1 : Nat → Nat → List gh_M} {m0 : gh_M} (hj : own v j) (hT : ∀ k y e, gh_has k (c y e) ↔ gh_has k (c1 y e) ∨ (y = v ∧ e = j ∧ k = m0.1)) (hTc : ∀ k y e, gh_cnt k (c y e) = gh_cnt k (c1 y e) + if y = v ∧ e = j ∧ k = m0.1 then 1 else 0) (hTm : ∀ y e m, m ∈ c y e ↔ m ∈ c1 y e ∨ (y = v ∧ e = j ∧ m = m0)) (hTw : ¬ gh_has m0.1 (c1 v j)) (hk : m0.1 = 0) (hs : F 8 (o v j) ≠ F 8 v) (hl : F 1 (o v j) < F 1 v) (hu : mk (o v j) j = 1) (hv0 : mk v j = 0) (hp : F 13 (F 8 (o v j)) = 3) (hcu : gi_cur F (o v j)) (hg : F 8 v < 100) (hC : ∀ x, F 8 x = F 8 (o v j) → F 11 x = 1 ∧ (x = o v j ∨ gi_NR o F x)) (h9 : F 9 (o v j) = j) (h9v : F 9 v ≠ j) (h0 : F 0 v = 1 ∨ F 0 v = 2) (hn3 : (F 0 v = 1 ∧ n3 = F 3 v + 1) ∨ (F 0 v = 2 ∧ n3 = F 3 v)) (hX1 : ∀ x e, own x e → mk x e = 1 → F 8 x = F 8 v → F 8 (o x e) = F 8 (o v j) → False) (hX2 : ∀ x e, own x e → mk x e = 1 → F 8 x = F 8 (o v j) → F 8 (o x e) ≠ F 8 (o v j) → x = o v j ∧ e = j) (hX3 : ∀ x, F 8 x = F 8 (o v j) → F 1 x < F 12 (F 8 v)) (hX4 : ∀ y e, own y e → w e = F 8 v → F 8 y = F 8 v) (hlv : F 1 v ≤ F 12 (F 8 v))  : gi_b3 (ga_ab F v (o v j) n3) := by
  intro x
  have a1 := Hb3 x
  have a2 := Hb5 x
  have a3 := Hb2 v
  have a4 := hX3 x
  have a5 : F 8 x = F 8 (o v j) → F 2 x ≠ F 8 v := by
    intro h1 h2
    obtain ⟨y, e, q1, q2, q3, q4⟩ := a2 (by grind)
    have := hX4 y e q1 (q2.trans h2)
    grind (splits := 30)
  clear hT hTc hTm hX1 hX2 hC Hb3 Hb5 Hb2 Hb1 hX3 hX4 a2 Hn
  dsimp only [gi_cur] at *
  simp (decide := true) only [ga_ab, gh_U, gh_K, gh_A_has, gh_A_cnt, gh_A_mem, false_and, true_and, and_false, or_false, if_false, if_true, and_true]
  grind (splits := 30)
theorem ab_b4 {v j n3 : Nat} (Hb4 : gi_b4 F) {c1 : Nat → Nat → List gh_M} {m0 : gh_M} (hj : own v j) (hT : ∀ k y e, gh_has k (c y e) ↔ gh_has k (c1 y e) ∨ (y = v ∧ e = j ∧ k = m0.1)) (hTc : ∀ k y e, gh_cnt k (c y e) = gh_cnt k (c1 y e) + if y = v ∧ e = j ∧ k = m0.1 then 1 else 0) (hTm : ∀ y e m, m ∈ c y e ↔ m ∈ c1 y e ∨ (y = v ∧ e = j ∧ m = m0)) (hTw : ¬ gh_has m0.1 (c1 v j)) (hk : m0.1 = 0) (hs : F 8 (o v j) ≠ F 8 v) (hl : F 1 (o v j) < F 1 v) (hu : mk (o v j) j = 1) (hv0 : mk v j = 0) (hp : F 13 (F 8 (o v j)) = 3) (hcu : gi_cur F (o v j)) (hg : F 8 v < 100) (hC : ∀ x, F 8 x = F 8 (o v j) → F 11 x = 1 ∧ (x = o v j ∨ gi_NR o F x)) (h9 : F 9 (o v j) = j) (h9v : F 9 v ≠ j) (h0 : F 0 v = 1 ∨ F 0 v = 2) (hn3 : (F 0 v = 1 ∧ n3 = F 3 v + 1) ∨ (F 0 v = 2 ∧ n3 = F 3 v)) (hX1 : ∀ x e, own x e → mk x e = 1 → F 8 x = F 8 v → F 8 (o x e) = F 8 (o v j) → False) (hX2 : ∀ x e, own x e → mk x e = 1 → F 8 x = F 8 (o v j) → F 8 (o x e) ≠ F 8 (o v j) → x = o v j ∧ e = j) (hX3 : ∀ x, F 8 x = F 8 (o v j) → F 1 x < F 12 (F 8 v)) (hX4 : ∀ y e, own y e → w e = F 8 v → F 8 y = F 8 v) (hlv : F 1 v ≤ F 12 (F 8 v))  : gi_b4 (ga_ab F v (o v j) n3) := by
  clear hT hTc hTm hX1 hX2 hC
  dsimp only [gi_b4, gi_cur, gi_NR, gi_wt, gi_open, gh_Net] at *
  try simp (decide := true) only [ga_ab, gh_U, gh_K, gh_A_has, gh_A_cnt, gh_A_mem, false_and, true_and, and_false, or_false, if_false, if_true, and_true]
  grind (splits := 25)
theorem ab_b5 {v j n3 : Nat} (Hb5 : gi_b5 own o w F) {c1 : Nat → Nat → List gh_M} {m0 : gh_M} (hj : own v j) (hT : ∀ k y e, gh_has k (c y e) ↔ gh_has k (c1 y e) ∨ (y = v ∧ e = j ∧ k = m0.1)) (hTc : ∀ k y e, gh_cnt k (c y e) = gh_cnt k (c1 y e) + if y = v ∧ e = j ∧ k = m0.1 then 1 else 0) (hTm : ∀ y e m, m ∈ c y e ↔ m ∈ c1 y e ∨ (y = v ∧ e = j ∧ m = m0)) (hTw : ¬ gh_has m0.1 (c1 v j)) (hk : m0.1 = 0) (hs : F 8 (o v j) ≠ F 8 v) (hl : F 1 (o v j) < F 1 v) (hu : mk (o v j) j = 1) (hv0 : mk v j = 0) (hp : F 13 (F 8 (o v j)) = 3) (hcu : gi_cur F (o v j)) (hg : F 8 v < 100) (hC : ∀ x, F 8 x = F 8 (o v j) → F 11 x = 1 ∧ (x = o v j ∨ gi_NR o F x)) (h9 : F 9 (o v j) = j) (h9v : F 9 v ≠ j) (h0 : F 0 v = 1 ∨ F 0 v = 2) (hn3 : (F 0 v = 1 ∧ n3 = F 3 v + 1) ∨ (F 0 v = 2 ∧ n3 = F 3 v)) (hX1 : ∀ x e, own x e → mk x e = 1 → F 8 x = F 8 v → F 8 (o x e) = F 8 (o v j) → False) (hX2 : ∀ x e, own x e → mk x e = 1 → F 8 x = F 8 (o v j) → F 8 (o x e) ≠ F 8 (o v j) → x = o v j ∧ e = j) (hX3 : ∀ x, F 8 x = F 8 (o v j) → F 1 x < F 12 (F 8 v)) (hX4 : ∀ y e, own y e → w e = F 8 v → F 8 y = F 8 v) (hlv : F 1 v ≤ F 12 (F 8 v))  : gi_b5 own o w (ga_ab F v (o v j) n3) := by
  intro x hx
  obtain ⟨y, e, q1, q2, q3, q4⟩ := Hb5 x (by simpa (decide := true) [ga_ab] using hx)
  refine ⟨y, e, q1, by simpa (decide := true) [ga_ab] using q2, ?_, ?_⟩
  · simp (decide := true) only [ga_ab, if_true]; rw [q3]
  · simp (decide := true) only [ga_ab, if_true]; rw [q4]
theorem ab_b6 {v j n3 : Nat} (Hb6 : gi_b6 own o w F mk) {c1 : Nat → Nat → List gh_M} {m0 : gh_M} (hj : own v j) (hT : ∀ k y e, gh_has k (c y e) ↔ gh_has k (c1 y e) ∨ (y = v ∧ e = j ∧ k = m0.1)) (hTc : ∀ k y e, gh_cnt k (c y e) = gh_cnt k (c1 y e) + if y = v ∧ e = j ∧ k = m0.1 then 1 else 0) (hTm : ∀ y e m, m ∈ c y e ↔ m ∈ c1 y e ∨ (y = v ∧ e = j ∧ m = m0)) (hTw : ¬ gh_has m0.1 (c1 v j)) (hk : m0.1 = 0) (hs : F 8 (o v j) ≠ F 8 v) (hl : F 1 (o v j) < F 1 v) (hu : mk (o v j) j = 1) (hv0 : mk v j = 0) (hp : F 13 (F 8 (o v j)) = 3) (hcu : gi_cur F (o v j)) (hg : F 8 v < 100) (hC : ∀ x, F 8 x = F 8 (o v j) → F 11 x = 1 ∧ (x = o v j ∨ gi_NR o F x)) (h9 : F 9 (o v j) = j) (h9v : F 9 v ≠ j) (h0 : F 0 v = 1 ∨ F 0 v = 2) (hn3 : (F 0 v = 1 ∧ n3 = F 3 v + 1) ∨ (F 0 v = 2 ∧ n3 = F 3 v)) (hX1 : ∀ x e, own x e → mk x e = 1 → F 8 x = F 8 v → F 8 (o x e) = F 8 (o v j) → False) (hX2 : ∀ x e, own x e → mk x e = 1 → F 8 x = F 8 (o v j) → F 8 (o x e) ≠ F 8 (o v j) → x = o v j ∧ e = j) (hX3 : ∀ x, F 8 x = F 8 (o v j) → F 1 x < F 12 (F 8 v)) (hX4 : ∀ y e, own y e → w e = F 8 v → F 8 y = F 8 v) (hlv : F 1 v ≤ F 12 (F 8 v))  : gi_b6 own o w (ga_ab F v (o v j) n3) (gh_K mk v j 1) := by
  intro x hx
  have h1 : F 8 x = F 8 (o v j) ∨ F 8 x ≠ F 8 (o v j) := by omega
  have e8 : ∀ z, ga_ab F v (o v j) n3 8 z = if F 8 z = F 8 (o v j) then F 8 v else F 8 z := fun z => by simp [ga_ab]
  rcases h1 with h1 | h1
  · obtain ⟨y, e, q1, q2, q3, q4, q5, q6⟩ := Hb6 v hg
    refine ⟨y, e, q1, ?_, ?_, ?_, ?_, ?_⟩
    · rw [e8, if_pos h1]; exact q2
    · rw [e8, e8, if_pos h1, q3]; simp
    · rw [e8, e8, if_pos h1, q4]; simp
    · unfold gh_K; split; rfl; exact q5
    · unfold gh_K; split; rfl; exact q6
  · rw [e8, if_neg h1] at hx
    obtain ⟨y, e, q1, q2, q3, q4, q5, q6⟩ := Hb6 x hx
    refine ⟨y, e, q1, ?_, ?_, ?_, ?_, ?_⟩
    · rw [e8, if_neg h1]; exact q2
    · rw [e8, e8, if_neg h1, q3]; simp [h1]
    · rw [e8, e8, if_neg h1, q4]; simp [h1]
    · unfold gh_K; split; rfl; exact q5
    · unfold gh_K; split; rfl; exact q6
theorem ab_s0 {v j n3 : Nat} (Hs0 : gi_s0 own F mk) (HpA : gi_pA own F mk) {c1 : Nat → Nat → List gh_M} {m0 : gh_M} (hj : own v j) (hT : ∀ k y e, gh_has k (c y e) ↔ gh_has k (c1 y e) ∨ (y = v ∧ e = j ∧ k = m0.1)) (hTc : ∀ k y e, gh_cnt k (c y e) = gh_cnt k (c1 y e) + if y = v ∧ e = j ∧ k = m0.1 then 1 else 0) (hTm : ∀ y e m, m ∈ c y e ↔ m ∈ c1 y e ∨ (y = v ∧ e = j ∧ m = m0)) (hTw : ¬ gh_has m0.1 (c1 v j)) (hk : m0.1 = 0) (hs : F 8 (o v j) ≠ F 8 v) (hl : F 1 (o v j) < F 1 v) (hu : mk (o v j) j = 1) (hv0 : mk v j = 0) (hp : F 13 (F 8 (o v j)) = 3) (hcu : gi_cur F (o v j)) (hg : F 8 v < 100) (hC : ∀ x, F 8 x = F 8 (o v j) → F 11 x = 1 ∧ (x = o v j ∨ gi_NR o F x)) (h9 : F 9 (o v j) = j) (h9v : F 9 v ≠ j) (h0 : F 0 v = 1 ∨ F 0 v = 2) (hn3 : (F 0 v = 1 ∧ n3 = F 3 v + 1) ∨ (F 0 v = 2 ∧ n3 = F 3 v)) (hX1 : ∀ x e, own x e → mk x e = 1 → F 8 x = F 8 v → F 8 (o x e) = F 8 (o v j) → False) (hX2 : ∀ x e, own x e → mk x e = 1 → F 8 x = F 8 (o v j) → F 8 (o x e) ≠ F 8 (o v j) → x = o v j ∧ e = j) (hX3 : ∀ x, F 8 x = F 8 (o v j) → F 1 x < F 12 (F 8 v)) (hX4 : ∀ y e, own y e → w e = F 8 v → F 8 y = F 8 v) (hlv : F 1 v ≤ F 12 (F 8 v))  : gi_s0 own (ga_ab F v (o v j) n3) (gh_K mk v j 1) := by
  clear hT hTc hTm hX1 hX2
  dsimp only [gi_s0, gi_pA, gi_cur, gi_NR, gi_wt, gi_open, gh_Net] at *
  try simp (decide := true) only [ga_ab, gh_U, gh_K, gh_A_has, gh_A_cnt, gh_A_mem, false_and, true_and, and_false, or_false, if_false, if_true, and_true]
  grind (splits := 25)
theorem ab_pA {v j n3 : Nat} (HpA : gi_pA own F mk) (Hn : gh_Net own o w) {c1 : Nat → Nat → List gh_M} {m0 : gh_M} (hj : own v j) (hT : ∀ k y e, gh_has k (c y e) ↔ gh_has k (c1 y e) ∨ (y = v ∧ e = j ∧ k = m0.1)) (hTc : ∀ k y e, gh_cnt k (c y e) = gh_cnt k (c1 y e) + if y = v ∧ e = j ∧ k = m0.1 then 1 else 0) (hTm : ∀ y e m, m ∈ c y e ↔ m ∈ c1 y e ∨ (y = v ∧ e = j ∧ m = m0)) (hTw : ¬ gh_has m0.1 (c1 v j)) (hk : m0.1 = 0) (hs : F 8 (o v j) ≠ F 8 v) (hl : F 1 (o v j) < F 1 v) (hu : mk (o v j) j = 1) (hv0 : mk v j = 0) (hp : F 13 (F 8 (o v j)) = 3) (hcu : gi_cur F (o v j)) (hg : F 8 v < 100) (hC : ∀ x, F 8 x = F 8 (o v j) → F 11 x = 1 ∧ (x = o v j ∨ gi_NR o F x)) (h9 : F 9 (o v j) = j) (h9v : F 9 v ≠ j) (h0 : F 0 v = 1 ∨ F 0 v = 2) (hn3 : (F 0 v = 1 ∧ n3 = F 3 v + 1) ∨ (F 0 v = 2 ∧ n3 = F 3 v)) (hX1 : ∀ x e, own x e → mk x e = 1 → F 8 x = F 8 v → F 8 (o x e) = F 8 (o v j) → False) (hX2 : ∀ x e, own x e → mk x e = 1 → F 8 x = F 8 (o v j) → F 8 (o x e) ≠ F 8 (o v j) → x = o v j ∧ e = j) (hX3 : ∀ x, F 8 x = F 8 (o v j) → F 1 x < F 12 (F 8 v)) (hX4 : ∀ y e, own y e → w e = F 8 v → F 8 y = F 8 v) (hlv : F 1 v ≤ F 12 (F 8 v))  : gi_pA own (ga_ab F v (o v j) n3) (gh_K mk v j 1) := by
  intro x hx
  have a1 := HpA v
  have a3 := HpA x
  clear hT hTc hTm hX1 hX2 hC HpA Hn
  simp (decide := true) only [ga_ab, gh_U, gh_K, gh_A_has, gh_A_cnt, gh_A_mem, false_and, true_and, and_false, or_false, if_false, if_true, and_true] at *
  grind (splits := 30)
theorem ab_s1 {v j n3 : Nat} (Hs1 : gi_s1 F) {c1 : Nat → Nat → List gh_M} {m0 : gh_M} (hj : own v j) (hT : ∀ k y e, gh_has k (c y e) ↔ gh_has k (c1 y e) ∨ (y = v ∧ e = j ∧ k = m0.1)) (hTc : ∀ k y e, gh_cnt k (c y e) = gh_cnt k (c1 y e) + if y = v ∧ e = j ∧ k = m0.1 then 1 else 0) (hTm : ∀ y e m, m ∈ c y e ↔ m ∈ c1 y e ∨ (y = v ∧ e = j ∧ m = m0)) (hTw : ¬ gh_has m0.1 (c1 v j)) (hk : m0.1 = 0) (hs : F 8 (o v j) ≠ F 8 v) (hl : F 1 (o v j) < F 1 v) (hu : mk (o v j) j = 1) (hv0 : mk v j = 0) (hp : F 13 (F 8 (o v j)) = 3) (hcu : gi_cur F (o v j)) (hg : F 8 v < 100) (hC : ∀ x, F 8 x = F 8 (o v j) → F 11 x = 1 ∧ (x = o v j ∨ gi_NR o F x)) (h9 : F 9 (o v j) = j) (h9v : F 9 v ≠ j) (h0 : F 0 v = 1 ∨ F 0 v = 2) (hn3 : (F 0 v = 1 ∧ n3 = F 3 v + 1) ∨ (F 0 v = 2 ∧ n3 = F 3 v)) (hX1 : ∀ x e, own x e → mk x e = 1 → F 8 x = F 8 v → F 8 (o x e) = F 8 (o v j) → False) (hX2 : ∀ x e, own x e → mk x e = 1 → F 8 x = F 8 (o v j) → F 8 (o x e) ≠ F 8 (o v j) → x = o v j ∧ e = j) (hX3 : ∀ x, F 8 x = F 8 (o v j) → F 1 x < F 12 (F 8 v)) (hX4 : ∀ y e, own y e → w e = F 8 v → F 8 y = F 8 v) (hlv : F 1 v ≤ F 12 (F 8 v))  : gi_s1 (ga_ab F v (o v j) n3) := by
  clear hT hTc hTm hX1 hX2
  clear hC
  dsimp only [gi_s1, gi_cur, gi_NR, gi_wt, gi_open, gh_Net] at *
  try simp (decide := true) only [ga_ab, gh_U, gh_K, gh_A_has, gh_A_cnt, gh_A_mem, false_and, true_and, and_false, or_false, if_false, if_true, and_true]
  grind (splits := 25)
theorem ab_s2 {v j n3 : Nat} (Hs2 : gi_s2 F) {c1 : Nat → Nat → List gh_M} {m0 : gh_M} (hj : own v j) (hT : ∀ k y e, gh_has k (c y e) ↔ gh_has k (c1 y e) ∨ (y = v ∧ e = j ∧ k = m0.1)) (hTc : ∀ k y e, gh_cnt k (c y e) = gh_cnt k (c1 y e) + if y = v ∧ e = j ∧ k = m0.1 then 1 else 0) (hTm : ∀ y e m, m ∈ c y e ↔ m ∈ c1 y e ∨ (y = v ∧ e = j ∧ m = m0)) (hTw : ¬ gh_has m0.1 (c1 v j)) (hk : m0.1 = 0) (hs : F 8 (o v j) ≠ F 8 v) (hl : F 1 (o v j) < F 1 v) (hu : mk (o v j) j = 1) (hv0 : mk v j = 0) (hp : F 13 (F 8 (o v j)) = 3) (hcu : gi_cur F (o v j)) (hg : F 8 v < 100) (hC : ∀ x, F 8 x = F 8 (o v j) → F 11 x = 1 ∧ (x = o v j ∨ gi_NR o F x)) (h9 : F 9 (o v j) = j) (h9v : F 9 v ≠ j) (h0 : F 0 v = 1 ∨ F 0 v = 2) (hn3 : (F 0 v = 1 ∧ n3 = F 3 v + 1) ∨ (F 0 v = 2 ∧ n3 = F 3 v)) (hX1 : ∀ x e, own x e → mk x e = 1 → F 8 x = F 8 v → F 8 (o x e) = F 8 (o v j) → False) (hX2 : ∀ x e, own x e → mk x e = 1 → F 8 x = F 8 (o v j) → F 8 (o x e) ≠ F 8 (o v j) → x = o v j ∧ e = j) (hX3 : ∀ x, F 8 x = F 8 (o v j) → F 1 x < F 12 (F 8 v)) (hX4 : ∀ y e, own y e → w e = F 8 v → F 8 y = F 8 v) (hlv : F 1 v ≤ F 12 (F 8 v))  : gi_s2 (ga_ab F v (o v j) n3) := by
  clear hT hTc hTm hX1 hX2
  dsimp only [gi_s2, gi_cur, gi_NR, gi_wt, gi_open, gh_Net] at *
  try simp (decide := true) only [ga_ab, gh_U, gh_K, gh_A_has, gh_A_cnt, gh_A_mem, false_and, true_and, and_false, or_false, if_false, if_true, and_true]
  grind (splits := 25)
theorem ab_Sl {v j n3 : Nat} (HSl : gi_Sl F) {c1 : Nat → Nat → List gh_M} {m0 : gh_M} (hj : own v j) (hT : ∀ k y e, gh_has k (c y e) ↔ gh_has k (c1 y e) ∨ (y = v ∧ e = j ∧ k = m0.1)) (hTc : ∀ k y e, gh_cnt k (c y e) = gh_cnt k (c1 y e) + if y = v ∧ e = j ∧ k = m0.1 then 1 else 0) (hTm : ∀ y e m, m ∈ c y e ↔ m ∈ c1 y e ∨ (y = v ∧ e = j ∧ m = m0)) (hTw : ¬ gh_has m0.1 (c1 v j)) (hk : m0.1 = 0) (hs : F 8 (o v j) ≠ F 8 v) (hl : F 1 (o v j) < F 1 v) (hu : mk (o v j) j = 1) (hv0 : mk v j = 0) (hp : F 13 (F 8 (o v j)) = 3) (hcu : gi_cur F (o v j)) (hg : F 8 v < 100) (hC : ∀ x, F 8 x = F 8 (o v j) → F 11 x = 1 ∧ (x = o v j ∨ gi_NR o F x)) (h9 : F 9 (o v j) = j) (h9v : F 9 v ≠ j) (h0 : F 0 v = 1 ∨ F 0 v = 2) (hn3 : (F 0 v = 1 ∧ n3 = F 3 v + 1) ∨ (F 0 v = 2 ∧ n3 = F 3 v)) (hX1 : ∀ x e, own x e → mk x e = 1 → F 8 x = F 8 v → F 8 (o x e) = F 8 (o v j) → False) (hX2 : ∀ x e, own x e → mk x e = 1 → F 8 x = F 8 (o v j) → F 8 (o x e) ≠ F 8 (o v j) → x = o v j ∧ e = j) (hX3 : ∀ x, F 8 x = F 8 (o v j) → F 1 x < F 12 (F 8 v)) (hX4 : ∀ y e, own y e → w e = F 8 v → F 8 y = F 8 v) (hlv : F 1 v ≤ F 12 (F 8 v))  : gi_Sl (ga_ab F v (o v j) n3) := by
  clear hT hTc hTm hX1 hX2 hC
  dsimp only [gi_Sl, gi_cur, gi_NR, gi_wt, gi_open, gh_Net] at *
  try simp (decide := true) only [ga_ab, gh_U, gh_K, gh_A_has, gh_A_cnt, gh_A_mem, false_and, true_and, and_false, or_false, if_false, if_true, and_true]
  grind (splits := 25)
theorem ab_s3 {v j n3 : Nat} (Hs3 : gi_s3 F) {c1 : Nat → Nat → List gh_M} {m0 : gh_M} (hj : own v j) (hT : ∀ k y e, gh_has k (c y e) ↔ gh_has k (c1 y e) ∨ (y = v ∧ e = j ∧ k = m0.1)) (hTc : ∀ k y e, gh_cnt k (c y e) = gh_cnt k (c1 y e) + if y = v ∧ e = j ∧ k = m0.1 then 1 else 0) (hTm : ∀ y e m, m ∈ c y e ↔ m ∈ c1 y e ∨ (y = v ∧ e = j ∧ m = m0)) (hTw : ¬ gh_has m0.1 (c1 v j)) (hk : m0.1 = 0) (hs : F 8 (o v j) ≠ F 8 v) (hl : F 1 (o v j) < F 1 v) (hu : mk (o v j) j = 1) (hv0 : mk v j = 0) (hp : F 13 (F 8 (o v j)) = 3) (hcu : gi_cur F (o v j)) (hg : F 8 v < 100) (hC : ∀ x, F 8 x = F 8 (o v j) → F 11 x = 1 ∧ (x = o v j ∨ gi_NR o F x)) (h9 : F 9 (o v j) = j) (h9v : F 9 v ≠ j) (h0 : F 0 v = 1 ∨ F 0 v = 2) (hn3 : (F 0 v = 1 ∧ n3 = F 3 v + 1) ∨ (F 0 v = 2 ∧ n3 = F 3 v)) (hX1 : ∀ x e, own x e → mk x e = 1 → F 8 x = F 8 v → F 8 (o x e) = F 8 (o v j) → False) (hX2 : ∀ x e, own x e → mk x e = 1 → F 8 x = F 8 (o v j) → F 8 (o x e) ≠ F 8 (o v j) → x = o v j ∧ e = j) (hX3 : ∀ x, F 8 x = F 8 (o v j) → F 1 x < F 12 (F 8 v)) (hX4 : ∀ y e, own y e → w e = F 8 v → F 8 y = F 8 v) (hlv : F 1 v ≤ F 12 (F 8 v))  : gi_s3 (ga_ab F v (o v j) n3) := by
  clear hT hTc hTm hX1 hX2
  dsimp only [gi_s3, gi_cur, gi_NR, gi_wt, gi_open, gh_Net] at *
  try simp (decide := true) only [ga_ab, gh_U, gh_K, gh_A_has, gh_A_cnt, gh_A_mem, false_and, true_and, and_false, or_false, if_false, if_true, and_true]
  grind (splits := 25)
theorem ab_s5 {v j n3 : Nat} (Hs5 : gi_s5 F) {c1 : Nat → Nat → List gh_M} {m0 : gh_M} (hj : own v j) (hT : ∀ k y e, gh_has k (c y e) ↔ gh_has k (c1 y e) ∨ (y = v ∧ e = j ∧ k = m0.1)) (hTc : ∀ k y e, gh_cnt k (c y e) = gh_cnt k (c1 y e) + if y = v ∧ e = j ∧ k = m0.1 then 1 else 0) (hTm : ∀ y e m, m ∈ c y e ↔ m ∈ c1 y e ∨ (y = v ∧ e = j ∧ m = m0)) (hTw : ¬ gh_has m0.1 (c1 v j)) (hk : m0.1 = 0) (hs : F 8 (o v j) ≠ F 8 v) (hl : F 1 (o v j) < F 1 v) (hu : mk (o v j) j = 1) (hv0 : mk v j = 0) (hp : F 13 (F 8 (o v j)) = 3) (hcu : gi_cur F (o v j)) (hg : F 8 v < 100) (hC : ∀ x, F 8 x = F 8 (o v j) → F 11 x = 1 ∧ (x = o v j ∨ gi_NR o F x)) (h9 : F 9 (o v j) = j) (h9v : F 9 v ≠ j) (h0 : F 0 v = 1 ∨ F 0 v = 2) (hn3 : (F 0 v = 1 ∧ n3 = F 3 v + 1) ∨ (F 0 v = 2 ∧ n3 = F 3 v)) (hX1 : ∀ x e, own x e → mk x e = 1 → F 8 x = F 8 v → F 8 (o x e) = F 8 (o v j) → False) (hX2 : ∀ x e, own x e → mk x e = 1 → F 8 x = F 8 (o v j) → F 8 (o x e) ≠ F 8 (o v j) → x = o v j ∧ e = j) (hX3 : ∀ x, F 8 x = F 8 (o v j) → F 1 x < F 12 (F 8 v)) (hX4 : ∀ y e, own y e → w e = F 8 v → F 8 y = F 8 v) (hlv : F 1 v ≤ F 12 (F 8 v))  : gi_s5 (ga_ab F v (o v j) n3) := by
  clear hT hTc hTm hX1 hX2
  dsimp only [gi_s5, gi_cur, gi_NR, gi_wt, gi_open, gh_Net] at *
  try simp (decide := true) only [ga_ab, gh_U, gh_K, gh_A_has, gh_A_cnt, gh_A_mem, false_and, true_and, and_false, or_false, if_false, if_true, and_true]
  grind (splits := 25)
theorem ab_s6 {v j n3 : Nat} (Hs6 : gi_s6 own F mk) (Hn : gh_Net own o w) {c1 : Nat → Nat → List gh_M} {m0 : gh_M} (hj : own v j) (hT : ∀ k y e, gh_has k (c y e) ↔ gh_has k (c1 y e) ∨ (y = v ∧ e = j ∧ k = m0.1)) (hTc : ∀ k y e, gh_cnt k (c y e) = gh_cnt k (c1 y e) + if y = v ∧ e = j ∧ k = m0.1 then 1 else 0) (hTm : ∀ y e m, m ∈ c y e ↔ m ∈ c1 y e ∨ (y = v ∧ e = j ∧ m = m0)) (hTw : ¬ gh_has m0.1 (c1 v j)) (hk : m0.1 = 0) (hs : F 8 (o v j) ≠ F 8 v) (hl : F 1 (o v j) < F 1 v) (hu : mk (o v j) j = 1) (hv0 : mk v j = 0) (hp : F 13 (F 8 (o v j)) = 3) (hcu : gi_cur F (o v j)) (hg : F 8 v < 100) (hC : ∀ x, F 8 x = F 8 (o v j) → F 11 x = 1 ∧ (x = o v j ∨ gi_NR o F x)) (h9 : F 9 (o v j) = j) (h9v : F 9 v ≠ j) (h0 : F 0 v = 1 ∨ F 0 v = 2) (hn3 : (F 0 v = 1 ∧ n3 = F 3 v + 1) ∨ (F 0 v = 2 ∧ n3 = F 3 v)) (hX1 : ∀ x e, own x e → mk x e = 1 → F 8 x = F 8 v → F 8 (o x e) = F 8 (o v j) → False) (hX2 : ∀ x e, own x e → mk x e = 1 → F 8 x = F 8 (o v j) → F 8 (o x e) ≠ F 8 (o v j) → x = o v j ∧ e = j) (hX3 : ∀ x, F 8 x = F 8 (o v j) → F 1 x < F 12 (F 8 v)) (hX4 : ∀ y e, own y e → w e = F 8 v → F 8 y = F 8 v) (hlv : F 1 v ≤ F 12 (F 8 v))  : gi_s6 own (ga_ab F v (o v j) n3) (gh_K mk v j 1) := by
  clear hT hTc hTm hX1 hX2
  dsimp only [gi_s6, gi_cur, gi_NR, gi_wt, gi_open, gh_Net] at *
  try simp (decide := true) only [ga_ab, gh_U, gh_K, gh_A_has, gh_A_cnt, gh_A_mem, false_and, true_and, and_false, or_false, if_false, if_true, and_true]
  grind (splits := 25)
theorem ab_Sr {v j n3 : Nat} (HSr : gi_Sr o w F c) (Hn : gh_Net own o w) (HSl : gi_Sl F) (Hs6 : gi_s6 own F mk) {c1 : Nat → Nat → List gh_M} {m0 : gh_M} (hj : own v j) (hT : ∀ k y e, gh_has k (c y e) ↔ gh_has k (c1 y e) ∨ (y = v ∧ e = j ∧ k = m0.1)) (hTc : ∀ k y e, gh_cnt k (c y e) = gh_cnt k (c1 y e) + if y = v ∧ e = j ∧ k = m0.1 then 1 else 0) (hTm : ∀ y e m, m ∈ c y e ↔ m ∈ c1 y e ∨ (y = v ∧ e = j ∧ m = m0)) (hTw : ¬ gh_has m0.1 (c1 v j)) (hk : m0.1 = 0) (hs : F 8 (o v j) ≠ F 8 v) (hl : F 1 (o v j) < F 1 v) (hu : mk (o v j) j = 1) (hv0 : mk v j = 0) (hp : F 13 (F 8 (o v j)) = 3) (hcu : gi_cur F (o v j)) (hg : F 8 v < 100) (hC : ∀ x, F 8 x = F 8 (o v j) → F 11 x = 1 ∧ (x = o v j ∨ gi_NR o F x)) (h9 : F 9 (o v j) = j) (h9v : F 9 v ≠ j) (h0 : F 0 v = 1 ∨ F 0 v = 2) (hn3 : (F 0 v = 1 ∧ n3 = F 3 v + 1) ∨ (F 0 v = 2 ∧ n3 = F 3 v)) (hX1 : ∀ x e, own x e → mk x e = 1 → F 8 x = F 8 v → F 8 (o x e) = F 8 (o v j) → False) (hX2 : ∀ x e, own x e → mk x e = 1 → F 8 x = F 8 (o v j) → F 8 (o x e) ≠ F 8 (o v j) → x = o v j ∧ e = j) (hX3 : ∀ x, F 8 x = F 8 (o v j) → F 1 x < F 12 (F 8 v)) (hX4 : ∀ y e, own y e → w e = F 8 v → F 8 y = F 8 v) (hlv : F 1 v ≤ F 12 (F 8 v))  : gi_Sr o w (ga_ab F v (o v j) n3) (gh_A c1 (o v j) j (1, F 1 v, F 2 v, F 0 v)) := by
  have hNR : ∀ x, gi_NR o F x → gi_NR o (ga_ab F v (o v j) n3) x := by
    intro x hx
    clear hT hTc hTm hX1 hX2 hC
    dsimp only [gi_NR] at *
    simp (decide := true) only [ga_ab, if_true, if_false, false_and]
    grind (splits := 30)
  have hNu : F 9 v ≠ j → o (o v j) j = v → j ≠ 12 → gi_NR o (ga_ab F v (o v j) n3) (o v j) := by
    intro q1 q2 q3
    clear hT hTc hTm hX1 hX2 hC
    dsimp only [gi_NR] at *
    simp (decide := true) only [ga_ab, if_true, if_false, false_and]
    grind (splits := 30)
  have hjn := Hn.1 v j hj
  have hNg : ∀ x, F 8 x = F 8 (o v j) → gi_NR o (ga_ab F v (o v j) n3) x := by
    intro x hx
    rcases (hC x hx).2 with z | z
    · rw [z]; exact hNu h9v hjn.2.1 (by omega)
    · exact hNR x z
  have e8 : ∀ z, ga_ab F v (o v j) n3 8 z = if F 8 z = F 8 (o v j) then F 8 v else F 8 z := fun z => by simp [ga_ab]
  
  intro x h1 h2
  have hxg : F 8 x ≠ F 8 (o v j) := by
    intro z
    rw [e8, if_pos z] at h2
    have q0 : own x (F 9 x) := by
      rcases (hC x z).2 with q | q
      · rw [q, h9]; exact hjn.1
      · exact ((Hs6 x).2 q.1).1
    have q1 := hX4 x (F 9 x) q0 (by simpa (decide := true) [ga_ab] using h2)
    omega
  have h1 : F 13 (F 8 x) = 1 := by rw [e8, if_neg hxg] at h1; simpa (decide := true) [ga_ab] using h1
  have h2 : w (F 9 x) = F 8 x := by rw [e8, if_neg hxg] at h2; simpa (decide := true) [ga_ab] using h2
  obtain ⟨a1, a2, a3⟩ := HSr x h1 h2
  have e9 : ∀ k z, k ≠ 8 → k ≠ 10 → k ≠ 11 → k ≠ 3 → ga_ab F v (o v j) n3 k z = F k z := fun k z k1 k2 k3 k4 => by simp [ga_ab, k1, k2, k3, k4]
  have e11 : ga_ab F v (o v j) n3 11 x = F 11 x := by simp [ga_ab, hxg]
  rw [e9 9 x (by omega) (by omega) (by omega) (by omega)]
  refine ⟨by rw [e9 9 _ (by omega) (by omega) (by omega) (by omega)]; exact a1, by rw [e8, e8, a2], fun hc => ?_⟩
  have hc2 : ¬ gi_cur F x := fun z => hc (by unfold gi_cur at z ⊢; rw [e9 1 _ (by omega) (by omega) (by omega) (by omega), e9 12 _ (by omega) (by omega) (by omega) (by omega), e8, if_neg hxg]; exact z)
  refine ⟨by rw [e11]; exact (a3 hc2).1, ?_⟩
  rcases (a3 hc2).2 with z | ⟨m, m1, m2, m3⟩
  · refine Or.inl (gh_A_has.mpr (Or.inl ?_))
    rcases (hT 0 _ _).mp z with q | q
    · exact q
    · exfalso
      have q1 := Hn.1 x (F 9 x) ((Hs6 x).2 ((Hs6 x).1 (HSl x h1))).1
      rw [q.1, q.2.1] at q1
      have := q1.2.1
      rw [this] at hxg
      exact hxg rfl
  · refine Or.inr ⟨m, gh_A_mem.mpr (Or.inl ?_), m2, ?_⟩
    · rcases (hTm _ _ _).mp m1 with q | q
      · exact q
      · rw [q.2.2, hk] at m2; cases m2
    · rw [e9 12 _ (by omega) (by omega) (by omega) (by omega), e8, if_neg hxg]; exact m3
theorem ab_Sn {v j n3 : Nat} (HSn : gi_Sn o w F) (Hn : gh_Net own o w) (Hs6 : gi_s6 own F mk) {c1 : Nat → Nat → List gh_M} {m0 : gh_M} (hj : own v j) (hT : ∀ k y e, gh_has k (c y e) ↔ gh_has k (c1 y e) ∨ (y = v ∧ e = j ∧ k = m0.1)) (hTc : ∀ k y e, gh_cnt k (c y e) = gh_cnt k (c1 y e) + if y = v ∧ e = j ∧ k = m0.1 then 1 else 0) (hTm : ∀ y e m, m ∈ c y e ↔ m ∈ c1 y e ∨ (y = v ∧ e = j ∧ m = m0)) (hTw : ¬ gh_has m0.1 (c1 v j)) (hk : m0.1 = 0) (hs : F 8 (o v j) ≠ F 8 v) (hl : F 1 (o v j) < F 1 v) (hu : mk (o v j) j = 1) (hv0 : mk v j = 0) (hp : F 13 (F 8 (o v j)) = 3) (hcu : gi_cur F (o v j)) (hg : F 8 v < 100) (hC : ∀ x, F 8 x = F 8 (o v j) → F 11 x = 1 ∧ (x = o v j ∨ gi_NR o F x)) (h9 : F 9 (o v j) = j) (h9v : F 9 v ≠ j) (h0 : F 0 v = 1 ∨ F 0 v = 2) (hn3 : (F 0 v = 1 ∧ n3 = F 3 v + 1) ∨ (F 0 v = 2 ∧ n3 = F 3 v)) (hX1 : ∀ x e, own x e → mk x e = 1 → F 8 x = F 8 v → F 8 (o x e) = F 8 (o v j) → False) (hX2 : ∀ x e, own x e → mk x e = 1 → F 8 x = F 8 (o v j) → F 8 (o x e) ≠ F 8 (o v j) → x = o v j ∧ e = j) (hX3 : ∀ x, F 8 x = F 8 (o v j) → F 1 x < F 12 (F 8 v)) (hX4 : ∀ y e, own y e → w e = F 8 v → F 8 y = F 8 v) (hlv : F 1 v ≤ F 12 (F 8 v))  : gi_Sn o w (ga_ab F v (o v j) n3) := by
  have hNR : ∀ x, gi_NR o F x → gi_NR o (ga_ab F v (o v j) n3) x := by
    intro x hx
    clear hT hTc hTm hX1 hX2 hC
    dsimp only [gi_NR] at *
    simp (decide := true) only [ga_ab, if_true, if_false, false_and]
    grind (splits := 30)
  have hNu : F 9 v ≠ j → o (o v j) j = v → j ≠ 12 → gi_NR o (ga_ab F v (o v j) n3) (o v j) := by
    intro q1 q2 q3
    clear hT hTc hTm hX1 hX2 hC
    dsimp only [gi_NR] at *
    simp (decide := true) only [ga_ab, if_true, if_false, false_and]
    grind (splits := 30)
  have hjn := Hn.1 v j hj
  have hNg : ∀ x, F 8 x = F 8 (o v j) → gi_NR o (ga_ab F v (o v j) n3) x := by
    intro x hx
    rcases (hC x hx).2 with z | z
    · rw [z]; exact hNu h9v hjn.2.1 (by omega)
    · exact hNR x z
  have e8 : ∀ z, ga_ab F v (o v j) n3 8 z = if F 8 z = F 8 (o v j) then F 8 v else F 8 z := fun z => by simp [ga_ab]
  
  intro x h1 h2
  by_cases hxg : F 8 x = F 8 (o v j)
  · exact hNg x hxg
  · refine hNR x (HSn x ?_ ?_)
    · rw [e8, if_neg hxg] at h1; simpa (decide := true) [ga_ab] using h1
    · rw [e8, if_neg hxg] at h2; simpa (decide := true) [ga_ab] using h2
theorem ab_M {v j n3 : Nat} (HM : gi_M own o F) (Hn : gh_Net own o w) {c1 : Nat → Nat → List gh_M} {m0 : gh_M} (hj : own v j) (hT : ∀ k y e, gh_has k (c y e) ↔ gh_has k (c1 y e) ∨ (y = v ∧ e = j ∧ k = m0.1)) (hTc : ∀ k y e, gh_cnt k (c y e) = gh_cnt k (c1 y e) + if y = v ∧ e = j ∧ k = m0.1 then 1 else 0) (hTm : ∀ y e m, m ∈ c y e ↔ m ∈ c1 y e ∨ (y = v ∧ e = j ∧ m = m0)) (hTw : ¬ gh_has m0.1 (c1 v j)) (hk : m0.1 = 0) (hs : F 8 (o v j) ≠ F 8 v) (hl : F 1 (o v j) < F 1 v) (hu : mk (o v j) j = 1) (hv0 : mk v j = 0) (hp : F 13 (F 8 (o v j)) = 3) (hcu : gi_cur F (o v j)) (hg : F 8 v < 100) (hC : ∀ x, F 8 x = F 8 (o v j) → F 11 x = 1 ∧ (x = o v j ∨ gi_NR o F x)) (h9 : F 9 (o v j) = j) (h9v : F 9 v ≠ j) (h0 : F 0 v = 1 ∨ F 0 v = 2) (hn3 : (F 0 v = 1 ∧ n3 = F 3 v + 1) ∨ (F 0 v = 2 ∧ n3 = F 3 v)) (hX1 : ∀ x e, own x e → mk x e = 1 → F 8 x = F 8 v → F 8 (o x e) = F 8 (o v j) → False) (hX2 : ∀ x e, own x e → mk x e = 1 → F 8 x = F 8 (o v j) → F 8 (o x e) ≠ F 8 (o v j) → x = o v j ∧ e = j) (hX3 : ∀ x, F 8 x = F 8 (o v j) → F 1 x < F 12 (F 8 v)) (hX4 : ∀ y e, own y e → w e = F 8 v → F 8 y = F 8 v) (hlv : F 1 v ≤ F 12 (F 8 v))  : gi_M own o (ga_ab F v (o v j) n3) := by
  have hNR : ∀ x, gi_NR o F x → gi_NR o (ga_ab F v (o v j) n3) x := by
    intro x hx
    clear hT hTc hTm hX1 hX2 hC
    dsimp only [gi_NR] at *
    simp (decide := true) only [ga_ab, if_true, if_false, false_and]
    grind (splits := 30)
  have hNu : F 9 v ≠ j → o (o v j) j = v → j ≠ 12 → gi_NR o (ga_ab F v (o v j) n3) (o v j) := by
    intro q1 q2 q3
    clear hT hTc hTm hX1 hX2 hC
    dsimp only [gi_NR] at *
    simp (decide := true) only [ga_ab, if_true, if_false, false_and]
    grind (splits := 30)
  have hjn := Hn.1 v j hj
  have hNg : ∀ x, F 8 x = F 8 (o v j) → gi_NR o (ga_ab F v (o v j) n3) x := by
    intro x hx
    rcases (hC x hx).2 with z | z
    · rw [z]; exact hNu h9v hjn.2.1 (by omega)
    · exact hNR x z
  have e8 : ∀ z, ga_ab F v (o v j) n3 8 z = if F 8 z = F 8 (o v j) then F 8 v else F 8 z := fun z => by simp [ga_ab]
  
  intro x hx y e z h1 h2 h3
  have a0 := hNg x
  have a1 := HM x
  have a2 := HM v
  have a3 := hNR x
  clear HM hNR hNu hNg hT hTc hTm hX1 hX2 hC Hn
  dsimp only [gi_cur] at *
  simp (decide := true) only [ga_ab, if_true, if_false, false_and] at *
  grind (splits := 30)
theorem ab_C {v j n3 : Nat} (HC : gi_C own o F mk) (Hn : gh_Net own o w) {c1 : Nat → Nat → List gh_M} {m0 : gh_M} (hj : own v j) (hT : ∀ k y e, gh_has k (c y e) ↔ gh_has k (c1 y e) ∨ (y = v ∧ e = j ∧ k = m0.1)) (hTc : ∀ k y e, gh_cnt k (c y e) = gh_cnt k (c1 y e) + if y = v ∧ e = j ∧ k = m0.1 then 1 else 0) (hTm : ∀ y e m, m ∈ c y e ↔ m ∈ c1 y e ∨ (y = v ∧ e = j ∧ m = m0)) (hTw : ¬ gh_has m0.1 (c1 v j)) (hk : m0.1 = 0) (hs : F 8 (o v j) ≠ F 8 v) (hl : F 1 (o v j) < F 1 v) (hu : mk (o v j) j = 1) (hv0 : mk v j = 0) (hp : F 13 (F 8 (o v j)) = 3) (hcu : gi_cur F (o v j)) (hg : F 8 v < 100) (hC : ∀ x, F 8 x = F 8 (o v j) → F 11 x = 1 ∧ (x = o v j ∨ gi_NR o F x)) (h9 : F 9 (o v j) = j) (h9v : F 9 v ≠ j) (h0 : F 0 v = 1 ∨ F 0 v = 2) (hn3 : (F 0 v = 1 ∧ n3 = F 3 v + 1) ∨ (F 0 v = 2 ∧ n3 = F 3 v)) (hX1 : ∀ x e, own x e → mk x e = 1 → F 8 x = F 8 v → F 8 (o x e) = F 8 (o v j) → False) (hX2 : ∀ x e, own x e → mk x e = 1 → F 8 x = F 8 (o v j) → F 8 (o x e) ≠ F 8 (o v j) → x = o v j ∧ e = j) (hX3 : ∀ x, F 8 x = F 8 (o v j) → F 1 x < F 12 (F 8 v)) (hX4 : ∀ y e, own y e → w e = F 8 v → F 8 y = F 8 v) (hlv : F 1 v ≤ F 12 (F 8 v))  : gi_C own o (ga_ab F v (o v j) n3) (gh_K mk v j 1) := by
  have hNR : ∀ x, gi_NR o F x → gi_NR o (ga_ab F v (o v j) n3) x := by
    intro x hx
    clear hT hTc hTm hX1 hX2 hC
    dsimp only [gi_NR] at *
    simp (decide := true) only [ga_ab, if_true, if_false, false_and]
    grind (splits := 30)
  have hNu : F 9 v ≠ j → o (o v j) j = v → j ≠ 12 → gi_NR o (ga_ab F v (o v j) n3) (o v j) := by
    intro q1 q2 q3
    clear hT hTc hTm hX1 hX2 hC
    dsimp only [gi_NR] at *
    simp (decide := true) only [ga_ab, if_true, if_false, false_and]
    grind (splits := 30)
  have hjn := Hn.1 v j hj
  have hNg : ∀ x, F 8 x = F 8 (o v j) → gi_NR o (ga_ab F v (o v j) n3) x := by
    intro x hx
    rcases (hC x hx).2 with z | z
    · rw [z]; exact hNu h9v hjn.2.1 (by omega)
    · exact hNR x z
  have e8 : ∀ z, ga_ab F v (o v j) n3 8 z = if F 8 z = F 8 (o v j) then F 8 v else F 8 z := fun z => by simp [ga_ab]
  
  intro x hx u e h1 h2
  have a0 := hNg x
  have a1 := HC x
  have a2 := HC v
  have a3 := hNR x
  have a4 := hX1 u e
  clear HC hNR hNu hNg hT hTc hTm hX1 hX2 hC Hn
  dsimp only [gi_cur] at *
  simp (decide := true) only [ga_ab, gh_U, gh_K, gh_A_has, gh_A_cnt, gh_A_mem, false_and, true_and, and_false, or_false, if_false, if_true, and_true] at *
  grind (splits := 30)
theorem ab_6 {v j n3 : Nat} (H6 : gi_6 o F c) (Hn : gh_Net own o w) (Hs6 : gi_s6 own F mk) (Xi : gx_i own o w F mk c) {c1 : Nat → Nat → List gh_M} {m0 : gh_M} (hj : own v j) (hT : ∀ k y e, gh_has k (c y e) ↔ gh_has k (c1 y e) ∨ (y = v ∧ e = j ∧ k = m0.1)) (hTc : ∀ k y e, gh_cnt k (c y e) = gh_cnt k (c1 y e) + if y = v ∧ e = j ∧ k = m0.1 then 1 else 0) (hTm : ∀ y e m, m ∈ c y e ↔ m ∈ c1 y e ∨ (y = v ∧ e = j ∧ m = m0)) (hTw : ¬ gh_has m0.1 (c1 v j)) (hk : m0.1 = 0) (hs : F 8 (o v j) ≠ F 8 v) (hl : F 1 (o v j) < F 1 v) (hu : mk (o v j) j = 1) (hv0 : mk v j = 0) (hp : F 13 (F 8 (o v j)) = 3) (hcu : gi_cur F (o v j)) (hg : F 8 v < 100) (hC : ∀ x, F 8 x = F 8 (o v j) → F 11 x = 1 ∧ (x = o v j ∨ gi_NR o F x)) (h9 : F 9 (o v j) = j) (h9v : F 9 v ≠ j) (h0 : F 0 v = 1 ∨ F 0 v = 2) (hn3 : (F 0 v = 1 ∧ n3 = F 3 v + 1) ∨ (F 0 v = 2 ∧ n3 = F 3 v)) (hX1 : ∀ x e, own x e → mk x e = 1 → F 8 x = F 8 v → F 8 (o x e) = F 8 (o v j) → False) (hX2 : ∀ x e, own x e → mk x e = 1 → F 8 x = F 8 (o v j) → F 8 (o x e) ≠ F 8 (o v j) → x = o v j ∧ e = j) (hX3 : ∀ x, F 8 x = F 8 (o v j) → F 1 x < F 12 (F 8 v)) (hX4 : ∀ y e, own y e → w e = F 8 v → F 8 y = F 8 v) (hlv : F 1 v ≤ F 12 (F 8 v))  : gi_6 o (ga_ab F v (o v j) n3) (gh_A c1 (o v j) j (1, F 1 v, F 2 v, F 0 v)) := by
  have hjn := Hn.1 v j hj
  have e8 : ∀ z, ga_ab F v (o v j) n3 8 z = if F 8 z = F 8 (o v j) then F 8 v else F 8 z := fun z => by simp [ga_ab]
  have hRev : ∀ x, gi_NR o (ga_ab F v (o v j) n3) x → (gi_NR o F x ∧ x ≠ o v j) ∨ x = o v j := by
    intro x hx
    have q1 := Hs6 x
    have q2 := hX1 x (F 9 x)
    have q3 := hX2 x (F 9 x)
    clear hT hTc hTm hX1 hX2 hC Hs6 Hn
    dsimp only [gi_NR] at *
    simp (decide := true) only [ga_ab, if_true, if_false, false_and] at *
    grind (splits := 30)
  
  intro x hx
  have e1 : ∀ z, ga_ab F v (o v j) n3 1 z = F 1 z := fun z => by simp [ga_ab]
  have e9 : ∀ z, ga_ab F v (o v j) n3 9 z = F 9 z := fun z => by simp [ga_ab]
  rcases hRev x hx with ⟨z, zu⟩ | z
  · obtain ⟨a1, a2⟩ := H6 x z
    rw [e1, e1, e9]
    refine ⟨a1, fun m hm hm1 => ?_⟩
    rcases gh_A_mem.mp hm with q | q
    · exact a2 m ((hTm _ _ _).mpr (Or.inl q)) hm1
    · exact absurd q.1 zu
  · rw [e1, e1, e9, z, h9, hjn.2.1]
    refine ⟨by omega, fun m hm hm1 => ?_⟩
    rcases gh_A_mem.mp hm with q | q
    · have q1 := Xi (o v j) j hjn.1 ⟨m, (hTm _ _ _).mpr (Or.inl q), hm1⟩
      rw [hjn.2.1] at q1
      exact absurd q1.1.symm hs
    · rw [q.2.2]; exact Nat.le_refl _
theorem ab_7 {v j n3 : Nat} (H7 : gi_7 o F) (Hn : gh_Net own o w) (Hs6 : gi_s6 own F mk) (Hs2 : gi_s2 F) {c1 : Nat → Nat → List gh_M} {m0 : gh_M} (hj : own v j) (hT : ∀ k y e, gh_has k (c y e) ↔ gh_has k (c1 y e) ∨ (y = v ∧ e = j ∧ k = m0.1)) (hTc : ∀ k y e, gh_cnt k (c y e) = gh_cnt k (c1 y e) + if y = v ∧ e = j ∧ k = m0.1 then 1 else 0) (hTm : ∀ y e m, m ∈ c y e ↔ m ∈ c1 y e ∨ (y = v ∧ e = j ∧ m = m0)) (hTw : ¬ gh_has m0.1 (c1 v j)) (hk : m0.1 = 0) (hs : F 8 (o v j) ≠ F 8 v) (hl : F 1 (o v j) < F 1 v) (hu : mk (o v j) j = 1) (hv0 : mk v j = 0) (hp : F 13 (F 8 (o v j)) = 3) (hcu : gi_cur F (o v j)) (hg : F 8 v < 100) (hC : ∀ x, F 8 x = F 8 (o v j) → F 11 x = 1 ∧ (x = o v j ∨ gi_NR o F x)) (h9 : F 9 (o v j) = j) (h9v : F 9 v ≠ j) (h0 : F 0 v = 1 ∨ F 0 v = 2) (hn3 : (F 0 v = 1 ∧ n3 = F 3 v + 1) ∨ (F 0 v = 2 ∧ n3 = F 3 v)) (hX1 : ∀ x e, own x e → mk x e = 1 → F 8 x = F 8 v → F 8 (o x e) = F 8 (o v j) → False) (hX2 : ∀ x e, own x e → mk x e = 1 → F 8 x = F 8 (o v j) → F 8 (o x e) ≠ F 8 (o v j) → x = o v j ∧ e = j) (hX3 : ∀ x, F 8 x = F 8 (o v j) → F 1 x < F 12 (F 8 v)) (hX4 : ∀ y e, own y e → w e = F 8 v → F 8 y = F 8 v) (hlv : F 1 v ≤ F 12 (F 8 v))  : gi_7 o (ga_ab F v (o v j) n3) := by
  have hjn := Hn.1 v j hj
  have e8 : ∀ z, ga_ab F v (o v j) n3 8 z = if F 8 z = F 8 (o v j) then F 8 v else F 8 z := fun z => by simp [ga_ab]
  have hRev : ∀ x, gi_NR o (ga_ab F v (o v j) n3) x → (gi_NR o F x ∧ x ≠ o v j) ∨ x = o v j := by
    intro x hx
    have q1 := Hs6 x
    have q2 := hX1 x (F 9 x)
    have q3 := hX2 x (F 9 x)
    clear hT hTc hTm hX1 hX2 hC Hs6 Hn
    dsimp only [gi_NR] at *
    simp (decide := true) only [ga_ab, if_true, if_false, false_and] at *
    grind (splits := 30)
  
  intro x hx
  have q1 := Hs2 v
  have q2 := Hs2 (o x (F 9 x))
  rcases hRev x hx with ⟨z, zu⟩ | z
  · obtain ⟨a1, a2, a3⟩ := H7 x z
    clear hT hTc hTm hX1 hX2 hC Hs6 Hn H7 Hs2 hRev hx
    dsimp only [gi_NR, gi_cur] at *
    simp (decide := true) only [ga_ab, if_true, if_false, false_and] at *
    grind (splits := 30)
  · subst z
    clear hT hTc hTm hX1 hX2 hC Hs6 Hn H7 Hs2 hRev hx
    dsimp only [gi_NR, gi_cur] at *
    simp (decide := true) only [ga_ab, if_true, if_false, false_and] at *
    grind (splits := 30)
theorem ab_bc {v j n3 : Nat} (Hbc : gi_bc o F mk c) (Hn : gh_Net own o w) (Hb1 : gi_b1 F) {c1 : Nat → Nat → List gh_M} {m0 : gh_M} (hj : own v j) (hT : ∀ k y e, gh_has k (c y e) ↔ gh_has k (c1 y e) ∨ (y = v ∧ e = j ∧ k = m0.1)) (hTc : ∀ k y e, gh_cnt k (c y e) = gh_cnt k (c1 y e) + if y = v ∧ e = j ∧ k = m0.1 then 1 else 0) (hTm : ∀ y e m, m ∈ c y e ↔ m ∈ c1 y e ∨ (y = v ∧ e = j ∧ m = m0)) (hTw : ¬ gh_has m0.1 (c1 v j)) (hk : m0.1 = 0) (hs : F 8 (o v j) ≠ F 8 v) (hl : F 1 (o v j) < F 1 v) (hu : mk (o v j) j = 1) (hv0 : mk v j = 0) (hp : F 13 (F 8 (o v j)) = 3) (hcu : gi_cur F (o v j)) (hg : F 8 v < 100) (hC : ∀ x, F 8 x = F 8 (o v j) → F 11 x = 1 ∧ (x = o v j ∨ gi_NR o F x)) (h9 : F 9 (o v j) = j) (h9v : F 9 v ≠ j) (h0 : F 0 v = 1 ∨ F 0 v = 2) (hn3 : (F 0 v = 1 ∧ n3 = F 3 v + 1) ∨ (F 0 v = 2 ∧ n3 = F 3 v)) (hX1 : ∀ x e, own x e → mk x e = 1 → F 8 x = F 8 v → F 8 (o x e) = F 8 (o v j) → False) (hX2 : ∀ x e, own x e → mk x e = 1 → F 8 x = F 8 (o v j) → F 8 (o x e) ≠ F 8 (o v j) → x = o v j ∧ e = j) (hX3 : ∀ x, F 8 x = F 8 (o v j) → F 1 x < F 12 (F 8 v)) (hX4 : ∀ y e, own y e → w e = F 8 v → F 8 y = F 8 v) (hlv : F 1 v ≤ F 12 (F 8 v))  : gi_bc o (ga_ab F v (o v j) n3) (gh_K mk v j 1) (gh_A c1 (o v j) j (1, F 1 v, F 2 v, F 0 v)) := by
  intro x b y hb hb1 hy hcu9 hph hw
  have b1 := Hbc x b y
  have b3 := hT 5 x b
  have b4 := Hb1 y
  have b5 := hX3 x
  have b6 := hX3 y
  have b7 := Hn.1 v j hj
  clear Hbc hT hTc hTm hX1 hX2 hC Hn Hb1 hX3 hX4
  dsimp only [gi_cur] at *
  simp (decide := true) only [ga_ab, gh_U, gh_K, gh_A_has, gh_A_cnt, gh_A_mem, false_and, true_and, and_false, or_false, if_false, if_true, and_true] at *
  grind (splits := 30)
theorem ab_K {v j n3 : Nat} (HK : gi_K own o F mk c) (Hn : gh_Net own o w) {c1 : Nat → Nat → List gh_M} {m0 : gh_M} (hj : own v j) (hT : ∀ k y e, gh_has k (c y e) ↔ gh_has k (c1 y e) ∨ (y = v ∧ e = j ∧ k = m0.1)) (hTc : ∀ k y e, gh_cnt k (c y e) = gh_cnt k (c1 y e) + if y = v ∧ e = j ∧ k = m0.1 then 1 else 0) (hTm : ∀ y e m, m ∈ c y e ↔ m ∈ c1 y e ∨ (y = v ∧ e = j ∧ m = m0)) (hTw : ¬ gh_has m0.1 (c1 v j)) (hk : m0.1 = 0) (hs : F 8 (o v j) ≠ F 8 v) (hl : F 1 (o v j) < F 1 v) (hu : mk (o v j) j = 1) (hv0 : mk v j = 0) (hp : F 13 (F 8 (o v j)) = 3) (hcu : gi_cur F (o v j)) (hg : F 8 v < 100) (hC : ∀ x, F 8 x = F 8 (o v j) → F 11 x = 1 ∧ (x = o v j ∨ gi_NR o F x)) (h9 : F 9 (o v j) = j) (h9v : F 9 v ≠ j) (h0 : F 0 v = 1 ∨ F 0 v = 2) (hn3 : (F 0 v = 1 ∧ n3 = F 3 v + 1) ∨ (F 0 v = 2 ∧ n3 = F 3 v)) (hX1 : ∀ x e, own x e → mk x e = 1 → F 8 x = F 8 v → F 8 (o x e) = F 8 (o v j) → False) (hX2 : ∀ x e, own x e → mk x e = 1 → F 8 x = F 8 (o v j) → F 8 (o x e) ≠ F 8 (o v j) → x = o v j ∧ e = j) (hX3 : ∀ x, F 8 x = F 8 (o v j) → F 1 x < F 12 (F 8 v)) (hX4 : ∀ y e, own y e → w e = F 8 v → F 8 y = F 8 v) (hlv : F 1 v ≤ F 12 (F 8 v))  : gi_K own o (ga_ab F v (o v j) n3) (gh_K mk v j 1) (gh_A c1 (o v j) j (1, F 1 v, F 2 v, F 0 v)) := by
  intro x e y h1 h2 h3
  have b1 := HK x e y h1 h2
  have b4 := hT 0 y e
  have b5 := Hn.1 x e h1
  have b6 := Hn.2.1 v x e
  have b7 := Hn.1 v j hj
  have b8 := hX1 x e h1
  have b9 := hX2 x e h1
  have b10 := hX3 y
  have b11 := hX3 x
  clear HK hT hTc hTm hX1 hX2 hC Hn hX3 hX4
  dsimp only [gi_cur] at *
  simp (decide := true) only [ga_ab, gh_U, gh_K, gh_A_has, gh_A_cnt, gh_A_mem, false_and, true_and, and_false, or_false, if_false, if_true, and_true] at *
  grind (splits := 30)
theorem ab_an {v j n3 : Nat} (Han : gi_an own o F mk c) (Hn : gh_Net own o w) (Hs6 : gi_s6 own F mk) (Hs2 : gi_s2 F) (HK : gi_K own o F mk c) {c1 : Nat → Nat → List gh_M} {m0 : gh_M} (hj : own v j) (hT : ∀ k y e, gh_has k (c y e) ↔ gh_has k (c1 y e) ∨ (y = v ∧ e = j ∧ k = m0.1)) (hTc : ∀ k y e, gh_cnt k (c y e) = gh_cnt k (c1 y e) + if y = v ∧ e = j ∧ k = m0.1 then 1 else 0) (hTm : ∀ y e m, m ∈ c y e ↔ m ∈ c1 y e ∨ (y = v ∧ e = j ∧ m = m0)) (hTw : ¬ gh_has m0.1 (c1 v j)) (hk : m0.1 = 0) (hs : F 8 (o v j) ≠ F 8 v) (hl : F 1 (o v j) < F 1 v) (hu : mk (o v j) j = 1) (hv0 : mk v j = 0) (hp : F 13 (F 8 (o v j)) = 3) (hcu : gi_cur F (o v j)) (hg : F 8 v < 100) (hC : ∀ x, F 8 x = F 8 (o v j) → F 11 x = 1 ∧ (x = o v j ∨ gi_NR o F x)) (h9 : F 9 (o v j) = j) (h9v : F 9 v ≠ j) (h0 : F 0 v = 1 ∨ F 0 v = 2) (hn3 : (F 0 v = 1 ∧ n3 = F 3 v + 1) ∨ (F 0 v = 2 ∧ n3 = F 3 v)) (hX1 : ∀ x e, own x e → mk x e = 1 → F 8 x = F 8 v → F 8 (o x e) = F 8 (o v j) → False) (hX2 : ∀ x e, own x e → mk x e = 1 → F 8 x = F 8 (o v j) → F 8 (o x e) ≠ F 8 (o v j) → x = o v j ∧ e = j) (hX3 : ∀ x, F 8 x = F 8 (o v j) → F 1 x < F 12 (F 8 v)) (hX4 : ∀ y e, own y e → w e = F 8 v → F 8 y = F 8 v) (hlv : F 1 v ≤ F 12 (F 8 v))  : gi_an own o (ga_ab F v (o v j) n3) (gh_K mk v j 1) (gh_A c1 (o v j) j (1, F 1 v, F 2 v, F 0 v)) := by
  intro x hx
  have hjn := Hn.1 v j hj
  have hx1 : F 0 x = 1 := by simpa (decide := true) [ga_ab] using hx
  have q2 := Hs2 x hx1
  obtain ⟨l, l1, l2, l3⟩ := Han x hx1
  by_cases hxv : x = v
  · subst hxv
    refine ⟨j :: l, List.nodup_cons.mpr ⟨fun z => ?_, l1⟩, ?_, fun e => ?_⟩
    · have := (l3 j).mp z; omega
    · simp (decide := true) only [ga_ab, if_true, if_false, false_and, true_and, List.length_cons]; omega
    · rw [List.mem_cons, l3 e]
      have b1 := hT 5 x e
      have b3 := hX3 (o x e)
      have b6 := Hn.1 x e
      have b4 := hX1 x e
      have b5 := hX2 x e
      clear hT hTc hTm hX1 hX2 hC Hs6 Hn Han Hs2 hX3 hX4 l3
      dsimp only [gi_NR, gi_cur, gi_open] at *
      simp (decide := true) only [ga_ab, gh_U, gh_K, gh_A_has, gh_A_cnt, gh_A_mem, false_and, true_and, and_false, or_false, if_false, if_true, and_true] at *
      grind (splits := 30)
  · refine ⟨l, l1, by simp (decide := true) only [ga_ab, if_true, if_false, false_and, hxv, and_false]; exact l2, fun e => (l3 e).trans ?_⟩
    have b1 := hT 5 x e
    have b3 := hX3 (o x e)
    have b6 := Hn.1 x e
    have b8 := HK x e (o x e)
    clear HK
    have b4 := hX1 x e
    have b5 := hX2 x e
    clear hT hTc hTm hX1 hX2 hC Hs6 Hn Han Hs2 hX3 hX4 l3
    dsimp only [gi_NR, gi_cur, gi_open] at *
    simp (decide := true) only [ga_ab, gh_U, gh_K, gh_A_has, gh_A_cnt, gh_A_mem, false_and, true_and, and_false, or_false, if_false, if_true, and_true] at *
    grind (splits := 30)
theorem ab_sz {v j n3 : Nat} (Hsz : gi_sz F) (Hn : gh_Net own o w) {c1 : Nat → Nat → List gh_M} {m0 : gh_M} (hj : own v j) (hT : ∀ k y e, gh_has k (c y e) ↔ gh_has k (c1 y e) ∨ (y = v ∧ e = j ∧ k = m0.1)) (hTc : ∀ k y e, gh_cnt k (c y e) = gh_cnt k (c1 y e) + if y = v ∧ e = j ∧ k = m0.1 then 1 else 0) (hTm : ∀ y e m, m ∈ c y e ↔ m ∈ c1 y e ∨ (y = v ∧ e = j ∧ m = m0)) (hTw : ¬ gh_has m0.1 (c1 v j)) (hk : m0.1 = 0) (hs : F 8 (o v j) ≠ F 8 v) (hl : F 1 (o v j) < F 1 v) (hu : mk (o v j) j = 1) (hv0 : mk v j = 0) (hp : F 13 (F 8 (o v j)) = 3) (hcu : gi_cur F (o v j)) (hg : F 8 v < 100) (hC : ∀ x, F 8 x = F 8 (o v j) → F 11 x = 1 ∧ (x = o v j ∨ gi_NR o F x)) (h9 : F 9 (o v j) = j) (h9v : F 9 v ≠ j) (h0 : F 0 v = 1 ∨ F 0 v = 2) (hn3 : (F 0 v = 1 ∧ n3 = F 3 v + 1) ∨ (F 0 v = 2 ∧ n3 = F 3 v)) (hX1 : ∀ x e, own x e → mk x e = 1 → F 8 x = F 8 v → F 8 (o x e) = F 8 (o v j) → False) (hX2 : ∀ x e, own x e → mk x e = 1 → F 8 x = F 8 (o v j) → F 8 (o x e) ≠ F 8 (o v j) → x = o v j ∧ e = j) (hX3 : ∀ x, F 8 x = F 8 (o v j) → F 1 x < F 12 (F 8 v)) (hX4 : ∀ y e, own y e → w e = F 8 v → F 8 y = F 8 v) (hlv : F 1 v ≤ F 12 (F 8 v))  : gi_sz (ga_ab F v (o v j) n3) := by
  intro x hx
  have hjn := Hn.1 v j hj
  have e8 : ∀ z, ga_ab F v (o v j) n3 8 z = if F 8 z = F 8 (o v j) then F 8 v else F 8 z := fun z => by simp [ga_ab]
  have e12 : ∀ z, ga_ab F v (o v j) n3 12 z = F 12 z := fun z => by simp [ga_ab]
  by_cases hxg : F 8 x = F 8 (o v j)
  · obtain ⟨l, l1, l2, l3⟩ := Hsz v (by omega)
    refine ⟨l, l1, by rw [e12, e8, if_pos hxg]; exact l2, fun y hy => ⟨(l3 y hy).1, ?_⟩⟩
    rw [e8, e8, if_pos hxg, (l3 y hy).2]; simp
  · obtain ⟨l, l1, l2, l3⟩ := Hsz x hx
    refine ⟨l, l1, by rw [e12, e8, if_neg hxg]; exact l2, fun y hy => ⟨(l3 y hy).1, ?_⟩⟩
    rw [e8, e8, if_neg hxg, (l3 y hy).2, if_neg hxg]
theorem ab_tw {v j n3 : Nat} (Htw : gi_tw own c) (Hn : gh_Net own o w) {c1 : Nat → Nat → List gh_M} {m0 : gh_M} (hj : own v j) (hT : ∀ k y e, gh_has k (c y e) ↔ gh_has k (c1 y e) ∨ (y = v ∧ e = j ∧ k = m0.1)) (hTc : ∀ k y e, gh_cnt k (c y e) = gh_cnt k (c1 y e) + if y = v ∧ e = j ∧ k = m0.1 then 1 else 0) (hTm : ∀ y e m, m ∈ c y e ↔ m ∈ c1 y e ∨ (y = v ∧ e = j ∧ m = m0)) (hTw : ¬ gh_has m0.1 (c1 v j)) (hk : m0.1 = 0) (hs : F 8 (o v j) ≠ F 8 v) (hl : F 1 (o v j) < F 1 v) (hu : mk (o v j) j = 1) (hv0 : mk v j = 0) (hp : F 13 (F 8 (o v j)) = 3) (hcu : gi_cur F (o v j)) (hg : F 8 v < 100) (hC : ∀ x, F 8 x = F 8 (o v j) → F 11 x = 1 ∧ (x = o v j ∨ gi_NR o F x)) (h9 : F 9 (o v j) = j) (h9v : F 9 v ≠ j) (h0 : F 0 v = 1 ∨ F 0 v = 2) (hn3 : (F 0 v = 1 ∧ n3 = F 3 v + 1) ∨ (F 0 v = 2 ∧ n3 = F 3 v)) (hX1 : ∀ x e, own x e → mk x e = 1 → F 8 x = F 8 v → F 8 (o x e) = F 8 (o v j) → False) (hX2 : ∀ x e, own x e → mk x e = 1 → F 8 x = F 8 (o v j) → F 8 (o x e) ≠ F 8 (o v j) → x = o v j ∧ e = j) (hX3 : ∀ x, F 8 x = F 8 (o v j) → F 1 x < F 12 (F 8 v)) (hX4 : ∀ y e, own y e → w e = F 8 v → F 8 y = F 8 v) (hlv : F 1 v ≤ F 12 (F 8 v))  : gi_tw own (gh_A c1 (o v j) j (1, F 1 v, F 2 v, F 0 v)) := by
  clear hTm hX1 hX2 hC
  dsimp only [gi_tw, gi_cur, gi_NR, gi_wt, gi_open, gh_Net] at *
  try simp (decide := true) only [ga_ab, gh_U, gh_K, gh_A_has, gh_A_cnt, gh_A_mem, false_and, true_and, and_false, or_false, if_false, if_true, and_true]
  grind (splits := 25)
theorem ab_ts {v j n3 : Nat} (Hts : gi_ts own o F c) (Hn : gh_Net own o w) {c1 : Nat → Nat → List gh_M} {m0 : gh_M} (hj : own v j) (hT : ∀ k y e, gh_has k (c y e) ↔ gh_has k (c1 y e) ∨ (y = v ∧ e = j ∧ k = m0.1)) (hTc : ∀ k y e, gh_cnt k (c y e) = gh_cnt k (c1 y e) + if y = v ∧ e = j ∧ k = m0.1 then 1 else 0) (hTm : ∀ y e m, m ∈ c y e ↔ m ∈ c1 y e ∨ (y = v ∧ e = j ∧ m = m0)) (hTw : ¬ gh_has m0.1 (c1 v j)) (hk : m0.1 = 0) (hs : F 8 (o v j) ≠ F 8 v) (hl : F 1 (o v j) < F 1 v) (hu : mk (o v j) j = 1) (hv0 : mk v j = 0) (hp : F 13 (F 8 (o v j)) = 3) (hcu : gi_cur F (o v j)) (hg : F 8 v < 100) (hC : ∀ x, F 8 x = F 8 (o v j) → F 11 x = 1 ∧ (x = o v j ∨ gi_NR o F x)) (h9 : F 9 (o v j) = j) (h9v : F 9 v ≠ j) (h0 : F 0 v = 1 ∨ F 0 v = 2) (hn3 : (F 0 v = 1 ∧ n3 = F 3 v + 1) ∨ (F 0 v = 2 ∧ n3 = F 3 v)) (hX1 : ∀ x e, own x e → mk x e = 1 → F 8 x = F 8 v → F 8 (o x e) = F 8 (o v j) → False) (hX2 : ∀ x e, own x e → mk x e = 1 → F 8 x = F 8 (o v j) → F 8 (o x e) ≠ F 8 (o v j) → x = o v j ∧ e = j) (hX3 : ∀ x, F 8 x = F 8 (o v j) → F 1 x < F 12 (F 8 v)) (hX4 : ∀ y e, own y e → w e = F 8 v → F 8 y = F 8 v) (hlv : F 1 v ≤ F 12 (F 8 v))  : gi_ts own o (ga_ab F v (o v j) n3) (gh_A c1 (o v j) j (1, F 1 v, F 2 v, F 0 v)) := by
  clear hTm hX1 hX2 hC
  dsimp only [gi_ts, gi_cur, gi_NR, gi_wt, gi_open, gh_Net] at *
  try simp (decide := true) only [ga_ab, gh_U, gh_K, gh_A_has, gh_A_cnt, gh_A_mem, false_and, true_and, and_false, or_false, if_false, if_true, and_true]
  grind (splits := 25)
theorem ab_rj {v j n3 : Nat} (Hrj : gi_rj own o F mk) (Hn : gh_Net own o w) {c1 : Nat → Nat → List gh_M} {m0 : gh_M} (hj : own v j) (hT : ∀ k y e, gh_has k (c y e) ↔ gh_has k (c1 y e) ∨ (y = v ∧ e = j ∧ k = m0.1)) (hTc : ∀ k y e, gh_cnt k (c y e) = gh_cnt k (c1 y e) + if y = v ∧ e = j ∧ k = m0.1 then 1 else 0) (hTm : ∀ y e m, m ∈ c y e ↔ m ∈ c1 y e ∨ (y = v ∧ e = j ∧ m = m0)) (hTw : ¬ gh_has m0.1 (c1 v j)) (hk : m0.1 = 0) (hs : F 8 (o v j) ≠ F 8 v) (hl : F 1 (o v j) < F 1 v) (hu : mk (o v j) j = 1) (hv0 : mk v j = 0) (hp : F 13 (F 8 (o v j)) = 3) (hcu : gi_cur F (o v j)) (hg : F 8 v < 100) (hC : ∀ x, F 8 x = F 8 (o v j) → F 11 x = 1 ∧ (x = o v j ∨ gi_NR o F x)) (h9 : F 9 (o v j) = j) (h9v : F 9 v ≠ j) (h0 : F 0 v = 1 ∨ F 0 v = 2) (hn3 : (F 0 v = 1 ∧ n3 = F 3 v + 1) ∨ (F 0 v = 2 ∧ n3 = F 3 v)) (hX1 : ∀ x e, own x e → mk x e = 1 → F 8 x = F 8 v → F 8 (o x e) = F 8 (o v j) → False) (hX2 : ∀ x e, own x e → mk x e = 1 → F 8 x = F 8 (o v j) → F 8 (o x e) ≠ F 8 (o v j) → x = o v j ∧ e = j) (hX3 : ∀ x, F 8 x = F 8 (o v j) → F 1 x < F 12 (F 8 v)) (hX4 : ∀ y e, own y e → w e = F 8 v → F 8 y = F 8 v) (hlv : F 1 v ≤ F 12 (F 8 v))  : gi_rj own o (ga_ab F v (o v j) n3) (gh_K mk v j 1) := by
  clear hT hTc hTm hX1 hX2
  dsimp only [gi_rj, gi_cur, gi_NR, gi_wt, gi_open, gh_Net] at *
  try simp (decide := true) only [ga_ab, gh_U, gh_K, gh_A_has, gh_A_cnt, gh_A_mem, false_and, true_and, and_false, or_false, if_false, if_true, and_true]
  grind (splits := 25)
theorem ab_ph {v j n3 : Nat} (Hph : gi_ph F) {c1 : Nat → Nat → List gh_M} {m0 : gh_M} (hj : own v j) (hT : ∀ k y e, gh_has k (c y e) ↔ gh_has k (c1 y e) ∨ (y = v ∧ e = j ∧ k = m0.1)) (hTc : ∀ k y e, gh_cnt k (c y e) = gh_cnt k (c1 y e) + if y = v ∧ e = j ∧ k = m0.1 then 1 else 0) (hTm : ∀ y e m, m ∈ c y e ↔ m ∈ c1 y e ∨ (y = v ∧ e = j ∧ m = m0)) (hTw : ¬ gh_has m0.1 (c1 v j)) (hk : m0.1 = 0) (hs : F 8 (o v j) ≠ F 8 v) (hl : F 1 (o v j) < F 1 v) (hu : mk (o v j) j = 1) (hv0 : mk v j = 0) (hp : F 13 (F 8 (o v j)) = 3) (hcu : gi_cur F (o v j)) (hg : F 8 v < 100) (hC : ∀ x, F 8 x = F 8 (o v j) → F 11 x = 1 ∧ (x = o v j ∨ gi_NR o F x)) (h9 : F 9 (o v j) = j) (h9v : F 9 v ≠ j) (h0 : F 0 v = 1 ∨ F 0 v = 2) (hn3 : (F 0 v = 1 ∧ n3 = F 3 v + 1) ∨ (F 0 v = 2 ∧ n3 = F 3 v)) (hX1 : ∀ x e, own x e → mk x e = 1 → F 8 x = F 8 v → F 8 (o x e) = F 8 (o v j) → False) (hX2 : ∀ x e, own x e → mk x e = 1 → F 8 x = F 8 (o v j) → F 8 (o x e) ≠ F 8 (o v j) → x = o v j ∧ e = j) (hX3 : ∀ x, F 8 x = F 8 (o v j) → F 1 x < F 12 (F 8 v)) (hX4 : ∀ y e, own y e → w e = F 8 v → F 8 y = F 8 v) (hlv : F 1 v ≤ F 12 (F 8 v))  : gi_ph (ga_ab F v (o v j) n3) := by
  clear hT hTc hTm hX1 hX2
  dsimp only [gi_ph, gi_cur, gi_NR, gi_wt, gi_open, gh_Net] at *
  try simp (decide := true) only [ga_ab, gh_U, gh_K, gh_A_has, gh_A_cnt, gh_A_mem, false_and, true_and, and_false, or_false, if_false, if_true, and_true]
  grind (splits := 25)
theorem ab_s4 {v j n3 : Nat} (Hs4 : gi_s4 F) {c1 : Nat → Nat → List gh_M} {m0 : gh_M} (hj : own v j) (hT : ∀ k y e, gh_has k (c y e) ↔ gh_has k (c1 y e) ∨ (y = v ∧ e = j ∧ k = m0.1)) (hTc : ∀ k y e, gh_cnt k (c y e) = gh_cnt k (c1 y e) + if y = v ∧ e = j ∧ k = m0.1 then 1 else 0) (hTm : ∀ y e m, m ∈ c y e ↔ m ∈ c1 y e ∨ (y = v ∧ e = j ∧ m = m0)) (hTw : ¬ gh_has m0.1 (c1 v j)) (hk : m0.1 = 0) (hs : F 8 (o v j) ≠ F 8 v) (hl : F 1 (o v j) < F 1 v) (hu : mk (o v j) j = 1) (hv0 : mk v j = 0) (hp : F 13 (F 8 (o v j)) = 3) (hcu : gi_cur F (o v j)) (hg : F 8 v < 100) (hC : ∀ x, F 8 x = F 8 (o v j) → F 11 x = 1 ∧ (x = o v j ∨ gi_NR o F x)) (h9 : F 9 (o v j) = j) (h9v : F 9 v ≠ j) (h0 : F 0 v = 1 ∨ F 0 v = 2) (hn3 : (F 0 v = 1 ∧ n3 = F 3 v + 1) ∨ (F 0 v = 2 ∧ n3 = F 3 v)) (hX1 : ∀ x e, own x e → mk x e = 1 → F 8 x = F 8 v → F 8 (o x e) = F 8 (o v j) → False) (hX2 : ∀ x e, own x e → mk x e = 1 → F 8 x = F 8 (o v j) → F 8 (o x e) ≠ F 8 (o v j) → x = o v j ∧ e = j) (hX3 : ∀ x, F 8 x = F 8 (o v j) → F 1 x < F 12 (F 8 v)) (hX4 : ∀ y e, own y e → w e = F 8 v → F 8 y = F 8 v) (hlv : F 1 v ≤ F 12 (F 8 v))  : gi_s4 (ga_ab F v (o v j) n3) := by
  dsimp only [gi_s4, gi_cur, gi_NR, gi_wt, gi_open, gh_Net] at *
  try simp (decide := true) only [ga_ab, gh_U, gh_K, gh_A_has, gh_A_cnt, gh_A_mem, false_and, true_and, and_false, or_false, if_false, if_true, and_true]
  grind (splits := 25)
theorem ab_ow {v j n3 : Nat} (How : gi_ow own F) {c1 : Nat → Nat → List gh_M} {m0 : gh_M} (hj : own v j) (hT : ∀ k y e, gh_has k (c y e) ↔ gh_has k (c1 y e) ∨ (y = v ∧ e = j ∧ k = m0.1)) (hTc : ∀ k y e, gh_cnt k (c y e) = gh_cnt k (c1 y e) + if y = v ∧ e = j ∧ k = m0.1 then 1 else 0) (hTm : ∀ y e m, m ∈ c y e ↔ m ∈ c1 y e ∨ (y = v ∧ e = j ∧ m = m0)) (hTw : ¬ gh_has m0.1 (c1 v j)) (hk : m0.1 = 0) (hs : F 8 (o v j) ≠ F 8 v) (hl : F 1 (o v j) < F 1 v) (hu : mk (o v j) j = 1) (hv0 : mk v j = 0) (hp : F 13 (F 8 (o v j)) = 3) (hcu : gi_cur F (o v j)) (hg : F 8 v < 100) (hC : ∀ x, F 8 x = F 8 (o v j) → F 11 x = 1 ∧ (x = o v j ∨ gi_NR o F x)) (h9 : F 9 (o v j) = j) (h9v : F 9 v ≠ j) (h0 : F 0 v = 1 ∨ F 0 v = 2) (hn3 : (F 0 v = 1 ∧ n3 = F 3 v + 1) ∨ (F 0 v = 2 ∧ n3 = F 3 v)) (hX1 : ∀ x e, own x e → mk x e = 1 → F 8 x = F 8 v → F 8 (o x e) = F 8 (o v j) → False) (hX2 : ∀ x e, own x e → mk x e = 1 → F 8 x = F 8 (o v j) → F 8 (o x e) ≠ F 8 (o v j) → x = o v j ∧ e = j) (hX3 : ∀ x, F 8 x = F 8 (o v j) → F 1 x < F 12 (F 8 v)) (hX4 : ∀ y e, own y e → w e = F 8 v → F 8 y = F 8 v) (hlv : F 1 v ≤ F 12 (F 8 v))  : gi_ow own (ga_ab F v (o v j) n3) := by
  dsimp only [gi_ow, gi_cur, gi_NR, gi_wt, gi_open, gh_Net] at *
  try simp (decide := true) only [ga_ab, gh_U, gh_K, gh_A_has, gh_A_cnt, gh_A_mem, false_and, true_and, and_false, or_false, if_false, if_true, and_true]
  grind (splits := 25)
theorem ab_mi {v j n3 : Nat} (Hn : gh_Net own o w) (Hb1 : gi_b1 F) {c1 : Nat → Nat → List gh_M} {m0 : gh_M} (hj : own v j) (hT : ∀ k y e, gh_has k (c y e) ↔ gh_has k (c1 y e) ∨ (y = v ∧ e = j ∧ k = m0.1)) (hTc : ∀ k y e, gh_cnt k (c y e) = gh_cnt k (c1 y e) + if y = v ∧ e = j ∧ k = m0.1 then 1 else 0) (hTm : ∀ y e m, m ∈ c y e ↔ m ∈ c1 y e ∨ (y = v ∧ e = j ∧ m = m0)) (hTw : ¬ gh_has m0.1 (c1 v j)) (hk : m0.1 = 0) (hs : F 8 (o v j) ≠ F 8 v) (hl : F 1 (o v j) < F 1 v) (hu : mk (o v j) j = 1) (hv0 : mk v j = 0) (hp : F 13 (F 8 (o v j)) = 3) (hcu : gi_cur F (o v j)) (hg : F 8 v < 100) (hC : ∀ x, F 8 x = F 8 (o v j) → F 11 x = 1 ∧ (x = o v j ∨ gi_NR o F x)) (h9 : F 9 (o v j) = j) (h9v : F 9 v ≠ j) (h0 : F 0 v = 1 ∨ F 0 v = 2) (hn3 : (F 0 v = 1 ∧ n3 = F 3 v + 1) ∨ (F 0 v = 2 ∧ n3 = F 3 v)) (hX1 : ∀ x e, own x e → mk x e = 1 → F 8 x = F 8 v → F 8 (o x e) = F 8 (o v j) → False) (hX2 : ∀ x e, own x e → mk x e = 1 → F 8 x = F 8 (o v j) → F 8 (o x e) ≠ F 8 (o v j) → x = o v j ∧ e = j) (hX3 : ∀ x, F 8 x = F 8 (o v j) → F 1 x < F 12 (F 8 v)) (hX4 : ∀ y e, own y e → w e = F 8 v → F 8 y = F 8 v) (hlv : F 1 v ≤ F 12 (F 8 v))  {x y e a : Nat} {m : gh_M} (hx : o y e = x) (hy : own y e) (hm : m ∈ c1 y e) (ha : F 1 y ≤ a) (hb : ¬ gh_has 1 (c y e) → a = F 1 y)  (h : gm_i own o w F mk c x y e a m) : gm_i own o w (ga_ab F v (o v j) n3) (gh_K mk v j 1) (gh_A c1 (o v j) j (1, F 1 v, F 2 v, F 0 v)) x y e a m := by
  have hh : ∀ k, m.1 = k → gh_has k (c1 y e) := fun k hk => ⟨m, hm, hk⟩
  intro hm1
  have h := h hm1
  have b1 := hX3 y
  have b2 := hC y
  have b3 := Hn.1 y e hy
  have b4 := hX4 y e hy
  have b5 : F 8 y = F 8 (o v j) → m.2.2.1 ≠ F 8 v := by
    intro z1 z2
    obtain ⟨y', f, r1, r2, r3, r4⟩ := h.2.2.2.2.2.2.2.2.2.2
    have := hX4 y' f r1 (r2.trans z2)
    grind (splits := 30)
  have b6 : ∃ y' f, own y' f ∧ w f = m.2.2.1 ∧ ga_ab F v (o v j) n3 8 y' = ga_ab F v (o v j) n3 8 x ∧ ga_ab F v (o v j) n3 8 (o y' f) = ga_ab F v (o v j) n3 8 x := by
    obtain ⟨y', f, r1, r2, r3, r4⟩ := h.2.2.2.2.2.2.2.2.2.2
    refine ⟨y', f, r1, r2, ?_, ?_⟩
    · simp (decide := true) only [ga_ab, if_true]; rw [r3]
    · simp (decide := true) only [ga_ab, if_true]; rw [r4]
  obtain ⟨h1, h2, h3, h4, h5, h6, h7, h8, h9', h10, h11⟩ := h
  refine ⟨h1, ?_, ?_, ?_, ?_, ?_, h7, h8, ?_, ?_, b6⟩
  all_goals
    clear hT hTc hTm hX1 hX2 hC Hn hX3 hX4 hh b6 h11
    dsimp only [gi_cur, gi_NR] at *
    simp (decide := true) only [ga_ab, gh_U, gh_K, gh_A_has, gh_A_cnt, gh_A_mem, false_and, true_and, and_false, or_false, if_false, if_true, and_true] at *
    grind (splits := 30)
theorem ab_mc {v j n3 : Nat} (Hn : gh_Net own o w) {c1 : Nat → Nat → List gh_M} {m0 : gh_M} (hj : own v j) (hT : ∀ k y e, gh_has k (c y e) ↔ gh_has k (c1 y e) ∨ (y = v ∧ e = j ∧ k = m0.1)) (hTc : ∀ k y e, gh_cnt k (c y e) = gh_cnt k (c1 y e) + if y = v ∧ e = j ∧ k = m0.1 then 1 else 0) (hTm : ∀ y e m, m ∈ c y e ↔ m ∈ c1 y e ∨ (y = v ∧ e = j ∧ m = m0)) (hTw : ¬ gh_has m0.1 (c1 v j)) (hk : m0.1 = 0) (hs : F 8 (o v j) ≠ F 8 v) (hl : F 1 (o v j) < F 1 v) (hu : mk (o v j) j = 1) (hv0 : mk v j = 0) (hp : F 13 (F 8 (o v j)) = 3) (hcu : gi_cur F (o v j)) (hg : F 8 v < 100) (hC : ∀ x, F 8 x = F 8 (o v j) → F 11 x = 1 ∧ (x = o v j ∨ gi_NR o F x)) (h9 : F 9 (o v j) = j) (h9v : F 9 v ≠ j) (h0 : F 0 v = 1 ∨ F 0 v = 2) (hn3 : (F 0 v = 1 ∧ n3 = F 3 v + 1) ∨ (F 0 v = 2 ∧ n3 = F 3 v)) (hX1 : ∀ x e, own x e → mk x e = 1 → F 8 x = F 8 v → F 8 (o x e) = F 8 (o v j) → False) (hX2 : ∀ x e, own x e → mk x e = 1 → F 8 x = F 8 (o v j) → F 8 (o x e) ≠ F 8 (o v j) → x = o v j ∧ e = j) (hX3 : ∀ x, F 8 x = F 8 (o v j) → F 1 x < F 12 (F 8 v)) (hX4 : ∀ y e, own y e → w e = F 8 v → F 8 y = F 8 v) (hlv : F 1 v ≤ F 12 (F 8 v))  {x y e a : Nat} {m : gh_M} (hx : o y e = x) (hy : own y e) (hm : m ∈ c1 y e) (ha : F 1 y ≤ a) (hb : ¬ gh_has 1 (c y e) → a = F 1 y)  (h : gm_c own o w F mk c x y e a m) : gm_c own o w (ga_ab F v (o v j) n3) (gh_K mk v j 1) (gh_A c1 (o v j) j (1, F 1 v, F 2 v, F 0 v)) x y e a m := by
  have hh : ∀ k, m.1 = k → gh_has k (c1 y e) := fun k hk => ⟨m, hm, hk⟩
  intro hm1
  have h := h hm1
  have b2 := hh 0 hm1
  have b7 := Hn.1 v j hj
  have b3 := Hn.1 y e hy
  have b4 := hX1 x e
  have b5 := hX2 x e
  have b6 := hT 1 x e
  clear hT hTc hTm hX1 hX2 hC Hn hX3 hX4 hh
  rw [hk] at hTw
  dsimp only [gi_cur] at *
  simp (decide := true) only [ga_ab, gh_U, gh_K, gh_A_has, gh_A_cnt, gh_A_mem, false_and, true_and, and_false, or_false, if_false, if_true, and_true] at *
  grind (splits := 30)
theorem ab_mt {v j n3 : Nat} (Hn : gh_Net own o w) {c1 : Nat → Nat → List gh_M} {m0 : gh_M} (hj : own v j) (hT : ∀ k y e, gh_has k (c y e) ↔ gh_has k (c1 y e) ∨ (y = v ∧ e = j ∧ k = m0.1)) (hTc : ∀ k y e, gh_cnt k (c y e) = gh_cnt k (c1 y e) + if y = v ∧ e = j ∧ k = m0.1 then 1 else 0) (hTm : ∀ y e m, m ∈ c y e ↔ m ∈ c1 y e ∨ (y = v ∧ e = j ∧ m = m0)) (hTw : ¬ gh_has m0.1 (c1 v j)) (hk : m0.1 = 0) (hs : F 8 (o v j) ≠ F 8 v) (hl : F 1 (o v j) < F 1 v) (hu : mk (o v j) j = 1) (hv0 : mk v j = 0) (hp : F 13 (F 8 (o v j)) = 3) (hcu : gi_cur F (o v j)) (hg : F 8 v < 100) (hC : ∀ x, F 8 x = F 8 (o v j) → F 11 x = 1 ∧ (x = o v j ∨ gi_NR o F x)) (h9 : F 9 (o v j) = j) (h9v : F 9 v ≠ j) (h0 : F 0 v = 1 ∨ F 0 v = 2) (hn3 : (F 0 v = 1 ∧ n3 = F 3 v + 1) ∨ (F 0 v = 2 ∧ n3 = F 3 v)) (hX1 : ∀ x e, own x e → mk x e = 1 → F 8 x = F 8 v → F 8 (o x e) = F 8 (o v j) → False) (hX2 : ∀ x e, own x e → mk x e = 1 → F 8 x = F 8 (o v j) → F 8 (o x e) ≠ F 8 (o v j) → x = o v j ∧ e = j) (hX3 : ∀ x, F 8 x = F 8 (o v j) → F 1 x < F 12 (F 8 v)) (hX4 : ∀ y e, own y e → w e = F 8 v → F 8 y = F 8 v) (hlv : F 1 v ≤ F 12 (F 8 v))  {x y e a : Nat} {m : gh_M} (hx : o y e = x) (hy : own y e) (hm : m ∈ c1 y e) (ha : F 1 y ≤ a) (hb : ¬ gh_has 1 (c y e) → a = F 1 y)  (h : gm_t own o w F mk c x y e a m) : gm_t own o w (ga_ab F v (o v j) n3) (gh_K mk v j 1) (gh_A c1 (o v j) j (1, F 1 v, F 2 v, F 0 v)) x y e a m := by
  have hh : ∀ k, m.1 = k → gh_has k (c1 y e) := fun k hk => ⟨m, hm, hk⟩
  dsimp only [gm_t, gi_cur, gi_NR, gi_wt, gi_open, gh_Net] at *
  try simp (decide := true) only [ga_ab, gh_U, gh_K, gh_A_has, gh_A_cnt, gh_A_mem, false_and, true_and, and_false, or_false, if_false, if_true, and_true]
  grind (splits := 25)
theorem ab_ma {v j n3 : Nat} (Hn : gh_Net own o w) (Hs2 : gi_s2 F) (Hb1 : gi_b1 F) {c1 : Nat → Nat → List gh_M} {m0 : gh_M} (hj : own v j) (hT : ∀ k y e, gh_has k (c y e) ↔ gh_has k (c1 y e) ∨ (y = v ∧ e = j ∧ k = m0.1)) (hTc : ∀ k y e, gh_cnt k (c y e) = gh_cnt k (c1 y e) + if y = v ∧ e = j ∧ k = m0.1 then 1 else 0) (hTm : ∀ y e m, m ∈ c y e ↔ m ∈ c1 y e ∨ (y = v ∧ e = j ∧ m = m0)) (hTw : ¬ gh_has m0.1 (c1 v j)) (hk : m0.1 = 0) (hs : F 8 (o v j) ≠ F 8 v) (hl : F 1 (o v j) < F 1 v) (hu : mk (o v j) j = 1) (hv0 : mk v j = 0) (hp : F 13 (F 8 (o v j)) = 3) (hcu : gi_cur F (o v j)) (hg : F 8 v < 100) (hC : ∀ x, F 8 x = F 8 (o v j) → F 11 x = 1 ∧ (x = o v j ∨ gi_NR o F x)) (h9 : F 9 (o v j) = j) (h9v : F 9 v ≠ j) (h0 : F 0 v = 1 ∨ F 0 v = 2) (hn3 : (F 0 v = 1 ∧ n3 = F 3 v + 1) ∨ (F 0 v = 2 ∧ n3 = F 3 v)) (hX1 : ∀ x e, own x e → mk x e = 1 → F 8 x = F 8 v → F 8 (o x e) = F 8 (o v j) → False) (hX2 : ∀ x e, own x e → mk x e = 1 → F 8 x = F 8 (o v j) → F 8 (o x e) ≠ F 8 (o v j) → x = o v j ∧ e = j) (hX3 : ∀ x, F 8 x = F 8 (o v j) → F 1 x < F 12 (F 8 v)) (hX4 : ∀ y e, own y e → w e = F 8 v → F 8 y = F 8 v) (hlv : F 1 v ≤ F 12 (F 8 v))  {x y e a : Nat} {m : gh_M} (hx : o y e = x) (hy : own y e) (hm : m ∈ c1 y e) (ha : F 1 y ≤ a) (hb : ¬ gh_has 1 (c y e) → a = F 1 y)  (h : gm_a own o w F mk c x y e a m) : gm_a own o w (ga_ab F v (o v j) n3) (gh_K mk v j 1) (gh_A c1 (o v j) j (1, F 1 v, F 2 v, F 0 v)) x y e a m := by
  have hh : ∀ k, m.1 = k → gh_has k (c1 y e) := fun k hk => ⟨m, hm, hk⟩
  intro hm1
  have h := h hm1
  have b1 := Hs2 y
  have b2 := hX3 x
  have b3 := Hn.1 y e hy
  have b4 := hT 2 x e
  clear hT hTc hTm hX1 hX2 hC Hn hX3 hX4 hh Hs2 Hb1
  dsimp only [gi_s2, gi_b1, gm_a, gi_cur, gi_NR, gi_wt, gi_open, gh_Net] at *
  try simp (decide := true) only [ga_ab, gh_U, gh_K, gh_A_has, gh_A_cnt, gh_A_mem, false_and, true_and, and_false, or_false, if_false, if_true, and_true]
  grind (splits := 25)
theorem ab_mr {v j n3 : Nat} (Hn : gh_Net own o w) {c1 : Nat → Nat → List gh_M} {m0 : gh_M} (hj : own v j) (hT : ∀ k y e, gh_has k (c y e) ↔ gh_has k (c1 y e) ∨ (y = v ∧ e = j ∧ k = m0.1)) (hTc : ∀ k y e, gh_cnt k (c y e) = gh_cnt k (c1 y e) + if y = v ∧ e = j ∧ k = m0.1 then 1 else 0) (hTm : ∀ y e m, m ∈ c y e ↔ m ∈ c1 y e ∨ (y = v ∧ e = j ∧ m = m0)) (hTw : ¬ gh_has m0.1 (c1 v j)) (hk : m0.1 = 0) (hs : F 8 (o v j) ≠ F 8 v) (hl : F 1 (o v j) < F 1 v) (hu : mk (o v j) j = 1) (hv0 : mk v j = 0) (hp : F 13 (F 8 (o v j)) = 3) (hcu : gi_cur F (o v j)) (hg : F 8 v < 100) (hC : ∀ x, F 8 x = F 8 (o v j) → F 11 x = 1 ∧ (x = o v j ∨ gi_NR o F x)) (h9 : F 9 (o v j) = j) (h9v : F 9 v ≠ j) (h0 : F 0 v = 1 ∨ F 0 v = 2) (hn3 : (F 0 v = 1 ∧ n3 = F 3 v + 1) ∨ (F 0 v = 2 ∧ n3 = F 3 v)) (hX1 : ∀ x e, own x e → mk x e = 1 → F 8 x = F 8 v → F 8 (o x e) = F 8 (o v j) → False) (hX2 : ∀ x e, own x e → mk x e = 1 → F 8 x = F 8 (o v j) → F 8 (o x e) ≠ F 8 (o v j) → x = o v j ∧ e = j) (hX3 : ∀ x, F 8 x = F 8 (o v j) → F 1 x < F 12 (F 8 v)) (hX4 : ∀ y e, own y e → w e = F 8 v → F 8 y = F 8 v) (hlv : F 1 v ≤ F 12 (F 8 v))  {x y e a : Nat} {m : gh_M} (hx : o y e = x) (hy : own y e) (hm : m ∈ c1 y e) (ha : F 1 y ≤ a) (hb : ¬ gh_has 1 (c y e) → a = F 1 y)  (h : gm_r own o w F mk c x y e a m) : gm_r own o w (ga_ab F v (o v j) n3) (gh_K mk v j 1) (gh_A c1 (o v j) j (1, F 1 v, F 2 v, F 0 v)) x y e a m := by
  have hh : ∀ k, m.1 = k → gh_has k (c1 y e) := fun k hk => ⟨m, hm, hk⟩
  intro hm1
  have h := h hm1
  have b4 := hT 2 x e
  have b5 := hT 2 y e
  clear hT hTc hTm hX1 hX2 hC Hn hX3 hX4 hh
  dsimp only [gm_r, gi_cur, gi_NR, gi_wt, gi_open, gh_Net] at *
  try simp (decide := true) only [ga_ab, gh_U, gh_K, gh_A_has, gh_A_cnt, gh_A_mem, false_and, true_and, and_false, or_false, if_false, if_true, and_true]
  grind (splits := 25)
theorem ab_mk {v j n3 : Nat} (Hn : gh_Net own o w) {c1 : Nat → Nat → List gh_M} {m0 : gh_M} (hj : own v j) (hT : ∀ k y e, gh_has k (c y e) ↔ gh_has k (c1 y e) ∨ (y = v ∧ e = j ∧ k = m0.1)) (hTc : ∀ k y e, gh_cnt k (c y e) = gh_cnt k (c1 y e) + if y = v ∧ e = j ∧ k = m0.1 then 1 else 0) (hTm : ∀ y e m, m ∈ c y e ↔ m ∈ c1 y e ∨ (y = v ∧ e = j ∧ m = m0)) (hTw : ¬ gh_has m0.1 (c1 v j)) (hk : m0.1 = 0) (hs : F 8 (o v j) ≠ F 8 v) (hl : F 1 (o v j) < F 1 v) (hu : mk (o v j) j = 1) (hv0 : mk v j = 0) (hp : F 13 (F 8 (o v j)) = 3) (hcu : gi_cur F (o v j)) (hg : F 8 v < 100) (hC : ∀ x, F 8 x = F 8 (o v j) → F 11 x = 1 ∧ (x = o v j ∨ gi_NR o F x)) (h9 : F 9 (o v j) = j) (h9v : F 9 v ≠ j) (h0 : F 0 v = 1 ∨ F 0 v = 2) (hn3 : (F 0 v = 1 ∧ n3 = F 3 v + 1) ∨ (F 0 v = 2 ∧ n3 = F 3 v)) (hX1 : ∀ x e, own x e → mk x e = 1 → F 8 x = F 8 v → F 8 (o x e) = F 8 (o v j) → False) (hX2 : ∀ x e, own x e → mk x e = 1 → F 8 x = F 8 (o v j) → F 8 (o x e) ≠ F 8 (o v j) → x = o v j ∧ e = j) (hX3 : ∀ x, F 8 x = F 8 (o v j) → F 1 x < F 12 (F 8 v)) (hX4 : ∀ y e, own y e → w e = F 8 v → F 8 y = F 8 v) (hlv : F 1 v ≤ F 12 (F 8 v))  {x y e a : Nat} {m : gh_M} (hx : o y e = x) (hy : own y e) (hm : m ∈ c1 y e) (ha : F 1 y ≤ a) (hb : ¬ gh_has 1 (c y e) → a = F 1 y)  (h : gm_k own o w F mk c x y e a m) : gm_k own o w (ga_ab F v (o v j) n3) (gh_K mk v j 1) (gh_A c1 (o v j) j (1, F 1 v, F 2 v, F 0 v)) x y e a m := by
  have hh : ∀ k, m.1 = k → gh_has k (c1 y e) := fun k hk => ⟨m, hm, hk⟩
  clear hT hTc hTm hX1 hX2 hC Hn hX3 hX4 hh
  dsimp only [gm_k, gi_cur, gi_NR, gi_wt, gi_open, gh_Net] at *
  try simp (decide := true) only [ga_ab, gh_U, gh_K, gh_A_has, gh_A_cnt, gh_A_mem, false_and, true_and, and_false, or_false, if_false, if_true, and_true]
  grind (splits := 25)
theorem ab_mp {v j n3 : Nat} (Hn : gh_Net own o w) (Hs2 : gi_s2 F) {c1 : Nat → Nat → List gh_M} {m0 : gh_M} (hj : own v j) (hT : ∀ k y e, gh_has k (c y e) ↔ gh_has k (c1 y e) ∨ (y = v ∧ e = j ∧ k = m0.1)) (hTc : ∀ k y e, gh_cnt k (c y e) = gh_cnt k (c1 y e) + if y = v ∧ e = j ∧ k = m0.1 then 1 else 0) (hTm : ∀ y e m, m ∈ c y e ↔ m ∈ c1 y e ∨ (y = v ∧ e = j ∧ m = m0)) (hTw : ¬ gh_has m0.1 (c1 v j)) (hk : m0.1 = 0) (hs : F 8 (o v j) ≠ F 8 v) (hl : F 1 (o v j) < F 1 v) (hu : mk (o v j) j = 1) (hv0 : mk v j = 0) (hp : F 13 (F 8 (o v j)) = 3) (hcu : gi_cur F (o v j)) (hg : F 8 v < 100) (hC : ∀ x, F 8 x = F 8 (o v j) → F 11 x = 1 ∧ (x = o v j ∨ gi_NR o F x)) (h9 : F 9 (o v j) = j) (h9v : F 9 v ≠ j) (h0 : F 0 v = 1 ∨ F 0 v = 2) (hn3 : (F 0 v = 1 ∧ n3 = F 3 v + 1) ∨ (F 0 v = 2 ∧ n3 = F 3 v)) (hX1 : ∀ x e, own x e → mk x e = 1 → F 8 x = F 8 v → F 8 (o x e) = F 8 (o v j) → False) (hX2 : ∀ x e, own x e → mk x e = 1 → F 8 x = F 8 (o v j) → F 8 (o x e) ≠ F 8 (o v j) → x = o v j ∧ e = j) (hX3 : ∀ x, F 8 x = F 8 (o v j) → F 1 x < F 12 (F 8 v)) (hX4 : ∀ y e, own y e → w e = F 8 v → F 8 y = F 8 v) (hlv : F 1 v ≤ F 12 (F 8 v))  {x y e a : Nat} {m : gh_M} (hx : o y e = x) (hy : own y e) (hm : m ∈ c1 y e) (ha : F 1 y ≤ a) (hb : ¬ gh_has 1 (c y e) → a = F 1 y)  (h : gm_p own o w F mk c x y e a m) : gm_p own o w (ga_ab F v (o v j) n3) (gh_K mk v j 1) (gh_A c1 (o v j) j (1, F 1 v, F 2 v, F 0 v)) x y e a m := by
  have hh : ∀ k, m.1 = k → gh_has k (c1 y e) := fun k hk => ⟨m, hm, hk⟩
  intro hm1
  have h := h hm1
  have b1 := hX3 y
  have b3 := Hn.1 y e hy
  clear hT hTc hTm hX1 hX2 hC Hn hX3 hX4 hh Hs2
  dsimp only [gi_s2, gm_p, gi_cur, gi_NR, gi_wt, gi_open, gh_Net] at *
  try simp (decide := true) only [ga_ab, gh_U, gh_K, gh_A_has, gh_A_cnt, gh_A_mem, false_and, true_and, and_false, or_false, if_false, if_true, and_true]
  grind (splits := 25)
theorem ab_new {v j n3 : Nat} (Hn : gh_Net own o w) (Hb1 : gi_b1 F) (Hb2 : gi_b2 F) (Hb3 : gi_b3 F) (Hb4 : gi_b4 F) (Hb5 : gi_b5 own o w F) (Hs2 : gi_s2 F) (Hs3 : gi_s3 F) (Hst : gi_st F) (Xi : gx_i own o w F mk c) {c1 : Nat → Nat → List gh_M} {m0 : gh_M} (hj : own v j) (hT : ∀ k y e, gh_has k (c y e) ↔ gh_has k (c1 y e) ∨ (y = v ∧ e = j ∧ k = m0.1)) (hTc : ∀ k y e, gh_cnt k (c y e) = gh_cnt k (c1 y e) + if y = v ∧ e = j ∧ k = m0.1 then 1 else 0) (hTm : ∀ y e m, m ∈ c y e ↔ m ∈ c1 y e ∨ (y = v ∧ e = j ∧ m = m0)) (hTw : ¬ gh_has m0.1 (c1 v j)) (hk : m0.1 = 0) (hs : F 8 (o v j) ≠ F 8 v) (hl : F 1 (o v j) < F 1 v) (hu : mk (o v j) j = 1) (hv0 : mk v j = 0) (hp : F 13 (F 8 (o v j)) = 3) (hcu : gi_cur F (o v j)) (hg : F 8 v < 100) (hC : ∀ x, F 8 x = F 8 (o v j) → F 11 x = 1 ∧ (x = o v j ∨ gi_NR o F x)) (h9 : F 9 (o v j) = j) (h9v : F 9 v ≠ j) (h0 : F 0 v = 1 ∨ F 0 v = 2) (hn3 : (F 0 v = 1 ∧ n3 = F 3 v + 1) ∨ (F 0 v = 2 ∧ n3 = F 3 v)) (hX1 : ∀ x e, own x e → mk x e = 1 → F 8 x = F 8 v → F 8 (o x e) = F 8 (o v j) → False) (hX2 : ∀ x e, own x e → mk x e = 1 → F 8 x = F 8 (o v j) → F 8 (o x e) ≠ F 8 (o v j) → x = o v j ∧ e = j) (hX3 : ∀ x, F 8 x = F 8 (o v j) → F 1 x < F 12 (F 8 v)) (hX4 : ∀ y e, own y e → w e = F 8 v → F 8 y = F 8 v) (hlv : F 1 v ≤ F 12 (F 8 v))   : gm_i own o w (ga_ab F v (o v j) n3) (gh_K mk v j 1) (gh_A c1 (o v j) j (1, F 1 v, F 2 v, F 0 v)) (o (o v j) (j)) (o v j) (j) (gh_last (F 1 (o v j)) (c1 (o v j) j)) (1, F 1 v, F 2 v, F 0 v) := by
  intro _
  have a11 := Hn.1 v j hj
  have a1 : ¬ gh_has 1 (c1 (o v j) j) := fun z => by
    have := (Xi (o v j) j a11.1 ((hT 1 _ _).mpr (Or.inl z))).1
    rw [a11.2.1] at this
    exact hs this.symm
  rw [gh_last_no _ _ a1, a11.2.1]
  have e8 : ∀ z, ga_ab F v (o v j) n3 8 z = if F 8 z = F 8 (o v j) then F 8 v else F 8 z := fun z => by simp [ga_ab]
  have e11 : ga_ab F v (o v j) n3 11 (o v j) = F 11 v := by simp [ga_ab]
  have e12 : ∀ z, ga_ab F v (o v j) n3 12 z = F 12 z := fun z => by simp [ga_ab]
  have e13 : ∀ z, ga_ab F v (o v j) n3 13 z = F 13 z := fun z => by simp [ga_ab]
  have e9 : ∀ z, ga_ab F v (o v j) n3 9 z = F 9 z := fun z => by simp [ga_ab]
  have f8 : ga_ab F v (o v j) n3 8 v = F 8 v := by rw [e8]; split <;> rfl
  have f8u : ga_ab F v (o v j) n3 8 (o v j) = F 8 v := by rw [e8, if_pos rfl]
  have b3 := Hb3 v
  have b4 := Hb4 v
  have b5 := Hs2 v
  have b6 := Hs3 v
  have b7 := Hst v
  have b8 := hX4 (o v j) j a11.1
  obtain ⟨y', f, r1, r2, r3, r4⟩ := Hb5 v (by grind)
  refine ⟨hl, by rw [f8, f8u], by simp [gh_K], by rw [e9]; exact h9, by rw [e12, f8]; exact hlv, ?_, ?_, h0, ?_, ?_, ⟨y', f, r1, r2, by rw [e8, f8]; split; rfl; exact r3, by rw [e8, f8]; split; rfl; exact r4⟩⟩
  · rw [e12, f8]; clear hC hX1 hX2 hX3 hX4 hT hTc hTm Hb1 Hb2 Hb3 Hb4 Hb5 Hs2 Hs3 Hst Xi Hn; unfold gi_cur at *; grind
  · grind
  · rw [e12, f8, e11]; clear hC hX1 hX2 hX3 hX4 hT hTc hTm Hb1 Hb2 Hb3 Hb4 Hb5 Hs2 Hs3 Hst Xi Hn; unfold gi_cur at *; grind
  · rw [e13, e12, f8]; intro _ z; exact absurd (b8 z) hs
theorem ab_I {v j n3 : Nat} (Hn : gh_Net own o w) (h : gI own o w F mk c) {m0 : gh_M} {t : List gh_M} (hj : own v j) (hc : c v j = m0 :: t) (hk : m0.1 = 0) (hl0 : m0.2.1 < F 1 v) (hn3 : (F 0 v = 1 ∧ n3 = F 3 v + 1) ∨ (F 0 v = 2 ∧ n3 = F 3 v))  : gI own o w (ga_ab F v (o v j) n3) (gh_K mk v j 1) (gh_A (gh_T c v j) (o v j) j (1, F 1 v, F 2 v, F 0 v)) := by
  obtain ⟨Hst, Hb1, Hb2, Hb3, Hb4, Hb5, Hb6, Hs0, HpA, Hs1, Hs2, HSl, Hs3, Hs4, How, Hs5, Hs6, HSr, HSn, HM, HC, Hph, H6, H7, Hbc, HK, Hrj, Htw, Hts, Han, Hsz, Hch⟩ := h
  have Xi := gx_iI Hch
  have Xc := gx_cI Hch
  have Xt := gx_tI Hch
  have Xa := gx_aI Hch
  have Xr := gx_rI Hch
  have Xk := gx_kI Hch
  have Xp := gx_pI Hch
  have Xl := gx_lI Hch
  have Xb := gx_bI Hch
  have Xn := gx_nI Hn Hph HpA HSr HSn HM HC
  have hT := gp_T hc
  have hTc := gp_C hc
  have hTm := gp_M hc
  have hTw := gp_W hc Htw hj (by omega)
  have hd0 := gi_hd Hch hj hc
  have q0 := Hn.1 v j hj
  have q1 := hd0.2.2.1 hk
  have hs : F 8 (o v j) ≠ F 8 v := fun z => by have := q1.2.1 z; omega
  have hl : F 1 (o v j) < F 1 v := by have := q1.2.2 hs; omega
  have hu := q1.1
  have q2 := (HK (o v j) j v q0.1 q0.2.1 hu).2 hs
  have hp := q2.1
  have hv0 := q2.2.2.2.1
  have hcu := q2.2.2.2.2.1
  have hlv := Hb1 v
  have hg : F 8 v < 100 := by have := Hb2 v; omega
  have q3 := HC (o v j) hp _ _ rfl rfl
  rw [q2.2.1, q2.2.2.1] at q3
  have hC : ∀ x, F 8 x = F 8 (o v j) → F 11 x = 1 ∧ (x = o v j ∨ gi_NR o F x) := fun x hx => by
    have := HC x (by rw [hx]; exact hp) _ _ rfl rfl
    rw [hx, q2.2.1] at this
    exact ⟨this.2.2.2.2.2.1, this.2.2.2.2.2.2⟩
  have h9 := q3.2.2.2.2.1
  have h9v : F 9 v ≠ j := fun z => by
    have := ((Hs6 v).2 (by rw [z]; omega)).2
    rw [z] at this
    omega
  have h0 : F 0 v = 1 ∨ F 0 v = 2 := by
    have a1 := Hst v
    have a2 := Hs0 v
    have a3 := HpA v
    have : F 0 v ≠ 0 := fun z => by have := (a3 (a2 z)).1; omega
    omega
  have hX3 : ∀ x, F 8 x = F 8 (o v j) → F 1 x < F 12 (F 8 v) := fun x hx => by
    have a1 := Hb1 x
    unfold gi_cur at hcu
    rw [hx] at a1
    omega
  have hX1 : ∀ x e, own x e → mk x e = 1 → F 8 x = F 8 v → F 8 (o x e) = F 8 (o v j) → False := fun x e e1 e2 e3 e4 => by
    have a1 := (HK x e (o x e) e1 rfl e2).2 (fun z => hs (e4.symm.trans (z.symm.trans e3)))
    have a2 := hX3 (o x e) e4
    unfold gi_cur at a1
    rw [e3] at a1
    omega
  have hX2 : ∀ x e, own x e → mk x e = 1 → F 8 x = F 8 (o v j) → F 8 (o x e) ≠ F 8 (o v j) → x = o v j ∧ e = j := fun x e e1 e2 e3 e4 => by
    have a1 := (HK x e (o x e) e1 rfl e2).2 (fun z => e4 (z.symm.trans e3))
    rw [e3] at a1
    exact ⟨a1.2.1.symm.trans q2.2.1, a1.2.2.1.symm.trans q2.2.2.1⟩
  have hX4 : ∀ y e, own y e → w e = F 8 v → F 8 y = F 8 v := fun y e e1 e2 => by
    obtain ⟨y', e', r1, r2, r3, r4, -⟩ := Hb6 v hg
    have b1 : e = e' := Hn.2.2 y y' e e' e1 r1 (by omega)
    subst b1
    rcases Hn.2.1 y' y e r1 e1 with z | z
    · rw [z]; exact r3
    · rw [z]; exact r4
  refine ⟨ab_st (c1 := gh_T c v j) Hst Hs2 hj hT hTc hTm hTw hk hs hl hu hv0 hp hcu hg hC h9 h9v h0 hn3 hX1 hX2 hX3 hX4 hlv, ab_b1 (c1 := gh_T c v j) Hb1 hj hT hTc hTm hTw hk hs hl hu hv0 hp hcu hg hC h9 h9v h0 hn3 hX1 hX2 hX3 hX4 hlv, ab_b2 (c1 := gh_T c v j) Hb2 hj hT hTc hTm hTw hk hs hl hu hv0 hp hcu hg hC h9 h9v h0 hn3 hX1 hX2 hX3 hX4 hlv, ab_b3 (c1 := gh_T c v j) Hb3 Hn Hb5 Hb2 Hb1 hj hT hTc hTm hTw hk hs hl hu hv0 hp hcu hg hC h9 h9v h0 hn3 hX1 hX2 hX3 hX4 hlv, ab_b4 (c1 := gh_T c v j) Hb4 hj hT hTc hTm hTw hk hs hl hu hv0 hp hcu hg hC h9 h9v h0 hn3 hX1 hX2 hX3 hX4 hlv, ab_b5 (c1 := gh_T c v j) Hb5 hj hT hTc hTm hTw hk hs hl hu hv0 hp hcu hg hC h9 h9v h0 hn3 hX1 hX2 hX3 hX4 hlv, ab_b6 (c1 := gh_T c v j) Hb6 hj hT hTc hTm hTw hk hs hl hu hv0 hp hcu hg hC h9 h9v h0 hn3 hX1 hX2 hX3 hX4 hlv, ab_s0 (c1 := gh_T c v j) Hs0 HpA hj hT hTc hTm hTw hk hs hl hu hv0 hp hcu hg hC h9 h9v h0 hn3 hX1 hX2 hX3 hX4 hlv, ab_pA (c1 := gh_T c v j) HpA Hn hj hT hTc hTm hTw hk hs hl hu hv0 hp hcu hg hC h9 h9v h0 hn3 hX1 hX2 hX3 hX4 hlv, ab_s1 (c1 := gh_T c v j) Hs1 hj hT hTc hTm hTw hk hs hl hu hv0 hp hcu hg hC h9 h9v h0 hn3 hX1 hX2 hX3 hX4 hlv, ab_s2 (c1 := gh_T c v j) Hs2 hj hT hTc hTm hTw hk hs hl hu hv0 hp hcu hg hC h9 h9v h0 hn3 hX1 hX2 hX3 hX4 hlv, ab_Sl (c1 := gh_T c v j) HSl hj hT hTc hTm hTw hk hs hl hu hv0 hp hcu hg hC h9 h9v h0 hn3 hX1 hX2 hX3 hX4 hlv, ab_s3 (c1 := gh_T c v j) Hs3 hj hT hTc hTm hTw hk hs hl hu hv0 hp hcu hg hC h9 h9v h0 hn3 hX1 hX2 hX3 hX4 hlv, ab_s4 (c1 := gh_T c v j) Hs4 hj hT hTc hTm hTw hk hs hl hu hv0 hp hcu hg hC h9 h9v h0 hn3 hX1 hX2 hX3 hX4 hlv, ab_ow (c1 := gh_T c v j) How hj hT hTc hTm hTw hk hs hl hu hv0 hp hcu hg hC h9 h9v h0 hn3 hX1 hX2 hX3 hX4 hlv, ab_s5 (c1 := gh_T c v j) Hs5 hj hT hTc hTm hTw hk hs hl hu hv0 hp hcu hg hC h9 h9v h0 hn3 hX1 hX2 hX3 hX4 hlv, ab_s6 (c1 := gh_T c v j) Hs6 Hn hj hT hTc hTm hTw hk hs hl hu hv0 hp hcu hg hC h9 h9v h0 hn3 hX1 hX2 hX3 hX4 hlv, ab_Sr (c1 := gh_T c v j) HSr Hn HSl Hs6 hj hT hTc hTm hTw hk hs hl hu hv0 hp hcu hg hC h9 h9v h0 hn3 hX1 hX2 hX3 hX4 hlv, ab_Sn (c1 := gh_T c v j) HSn Hn Hs6 hj hT hTc hTm hTw hk hs hl hu hv0 hp hcu hg hC h9 h9v h0 hn3 hX1 hX2 hX3 hX4 hlv, ab_M (c1 := gh_T c v j) HM Hn hj hT hTc hTm hTw hk hs hl hu hv0 hp hcu hg hC h9 h9v h0 hn3 hX1 hX2 hX3 hX4 hlv, ab_C (c1 := gh_T c v j) HC Hn hj hT hTc hTm hTw hk hs hl hu hv0 hp hcu hg hC h9 h9v h0 hn3 hX1 hX2 hX3 hX4 hlv, ab_ph (c1 := gh_T c v j) Hph hj hT hTc hTm hTw hk hs hl hu hv0 hp hcu hg hC h9 h9v h0 hn3 hX1 hX2 hX3 hX4 hlv, ab_6 (c1 := gh_T c v j) H6 Hn Hs6 Xi hj hT hTc hTm hTw hk hs hl hu hv0 hp hcu hg hC h9 h9v h0 hn3 hX1 hX2 hX3 hX4 hlv, ab_7 (c1 := gh_T c v j) H7 Hn Hs6 Hs2 hj hT hTc hTm hTw hk hs hl hu hv0 hp hcu hg hC h9 h9v h0 hn3 hX1 hX2 hX3 hX4 hlv, ab_bc (c1 := gh_T c v j) Hbc Hn Hb1 hj hT hTc hTm hTw hk hs hl hu hv0 hp hcu hg hC h9 h9v h0 hn3 hX1 hX2 hX3 hX4 hlv, ab_K (c1 := gh_T c v j) HK Hn hj hT hTc hTm hTw hk hs hl hu hv0 hp hcu hg hC h9 h9v h0 hn3 hX1 hX2 hX3 hX4 hlv, ab_rj (c1 := gh_T c v j) Hrj Hn hj hT hTc hTm hTw hk hs hl hu hv0 hp hcu hg hC h9 h9v h0 hn3 hX1 hX2 hX3 hX4 hlv, ab_tw (c1 := gh_T c v j) Htw Hn hj hT hTc hTm hTw hk hs hl hu hv0 hp hcu hg hC h9 h9v h0 hn3 hX1 hX2 hX3 hX4 hlv, ab_ts (c1 := gh_T c v j) Hts Hn hj hT hTc hTm hTw hk hs hl hu hv0 hp hcu hg hC h9 h9v h0 hn3 hX1 hX2 hX3 hX4 hlv, ab_an (c1 := gh_T c v j) Han Hn Hs6 Hs2 HK hj hT hTc hTm hTw hk hs hl hu hv0 hp hcu hg hC h9 h9v h0 hn3 hX1 hX2 hX3 hX4 hlv, ab_sz (c1 := gh_T c v j) Hsz Hn hj hT hTc hTm hTw hk hs hl hu hv0 hp hcu hg hC h9 h9v h0 hn3 hX1 hX2 hX3 hX4 hlv, ?_⟩
  have K1 : gi_all own (ga_ab F v (o v j) n3) (gh_T c v j) (fun y e => gi_m own o w (ga_ab F v (o v j) n3) (gh_K mk v j 1) (gh_A (gh_T c v j) (o v j) j (1, F 1 v, F 2 v, F 0 v)) (o y e) y e) := gi_all_go (gi_all_popT Hch hc (by omega)) (fun y e q => (hT 1 y e).mpr (Or.inl q)) (fun y => (by simp [ga_ab])) (fun y e a m hy hm ha hb q => ⟨q.1, ab_mi Hn Hb1 hj hT hTc hTm hTw hk hs hl hu hv0 hp hcu hg hC h9 h9v h0 hn3 hX1 hX2 hX3 hX4 hlv rfl hy hm ha hb q.2.1, ab_mc Hn hj hT hTc hTm hTw hk hs hl hu hv0 hp hcu hg hC h9 h9v h0 hn3 hX1 hX2 hX3 hX4 hlv rfl hy hm ha hb q.2.2.1, ab_mt Hn hj hT hTc hTm hTw hk hs hl hu hv0 hp hcu hg hC h9 h9v h0 hn3 hX1 hX2 hX3 hX4 hlv rfl hy hm ha hb q.2.2.2.1, ab_ma Hn Hs2 Hb1 hj hT hTc hTm hTw hk hs hl hu hv0 hp hcu hg hC h9 h9v h0 hn3 hX1 hX2 hX3 hX4 hlv rfl hy hm ha hb q.2.2.2.2.1, ab_mr Hn hj hT hTc hTm hTw hk hs hl hu hv0 hp hcu hg hC h9 h9v h0 hn3 hX1 hX2 hX3 hX4 hlv rfl hy hm ha hb q.2.2.2.2.2.1, ab_mk Hn hj hT hTc hTm hTw hk hs hl hu hv0 hp hcu hg hC h9 h9v h0 hn3 hX1 hX2 hX3 hX4 hlv rfl hy hm ha hb q.2.2.2.2.2.2.1, ab_mp Hn Hs2 hj hT hTc hTm hTw hk hs hl hu hv0 hp hcu hg hC h9 h9v h0 hn3 hX1 hX2 hX3 hX4 hlv rfl hy hm ha hb q.2.2.2.2.2.2.2⟩)
  exact gi_all_appA K1 (fun hy => ⟨by simp, ab_new Hn Hb1 Hb2 Hb3 Hb4 Hb5 Hs2 Hs3 Hst Xi hj hT hTc hTm hTw hk hs hl hu hv0 hp hcu hg hC h9 h9v h0 hn3 hX1 hX2 hX3 hX4 hlv , fun z => absurd z (by simp), fun z => absurd z (by simp), fun z => absurd z (by simp), fun z => absurd z (by simp), fun z => absurd z (by simp), fun z => absurd z (by simp)⟩)
end
