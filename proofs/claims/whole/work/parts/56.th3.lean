/-! The network: a report from below, CORE taken, a node wakes, INITIATE, by program (wip/th). -/
section
variable {own : Nat → Nat → Prop} {o : Nat → Nat → Nat} {w : Nat → Nat} {F : gh_F} {mk : Nat → Nat → Nat} {c : Nat → Nat → List gh_M}
theorem ra_s4 {v j : Nat} (Hs4 : gi_s4 F) (Hn : gh_Net own o w) {c1 : Nat → Nat → List gh_M} {m0 : gh_M} (hj : own v j) (hT : ∀ k y e, gh_has k (c y e) ↔ gh_has k (c1 y e) ∨ (y = v ∧ e = j ∧ k = m0.1)) (hTc : ∀ k y e, gh_cnt k (c y e) = gh_cnt k (c1 y e) + if y = v ∧ e = j ∧ k = m0.1 then 1 else 0) (hTm : ∀ y e m, m ∈ c y e ↔ m ∈ c1 y e ∨ (y = v ∧ e = j ∧ m = m0)) (hTw : ¬ gh_has m0.1 (c1 v j)) (hk : m0.1 = 5) (h4 : j ≠ F 4 v) (F6 F5 : Nat) (hB : (F5 = F 5 v ∧ F6 = F 6 v ∧ ¬ m0.2.1 < F 6 v) ∨ (F5 = j ∧ F6 = m0.2.1 ∧ m0.2.1 < F 6 v)) (hr : F 8 (o v j) = F 8 v ∧ F 13 (F 8 v) = 1 ∧ mk v j = 1 ∧ F 9 (o v j) = j ∧ F 9 v ≠ j ∧ gi_cur F (o v j) ∧ gi_cur F v ∧ F 0 v = 1 ∧ F 0 (o v j) = 2 ∧ m0.2.1 = F 6 (o v j) ∧ F 4 (o v j) = j)  : gi_s4 (gh_U (gh_U (gh_U F 3 v (F 3 v - 1)) 5 v F5) 6 v F6) := by
  dsimp only [gi_s4, gi_cur, gi_NR, gi_wt, gi_open, gh_Net] at *
  try simp (decide := true) only [gh_U, gh_K, gh_A_has, gh_A_cnt, gh_A_mem, false_and, true_and, and_false, or_false, if_false, if_true, and_true]
  grind (splits := 25)
theorem ra_ow {v j : Nat} (How : gi_ow own F) (Hn : gh_Net own o w) {c1 : Nat → Nat → List gh_M} {m0 : gh_M} (hj : own v j) (hT : ∀ k y e, gh_has k (c y e) ↔ gh_has k (c1 y e) ∨ (y = v ∧ e = j ∧ k = m0.1)) (hTc : ∀ k y e, gh_cnt k (c y e) = gh_cnt k (c1 y e) + if y = v ∧ e = j ∧ k = m0.1 then 1 else 0) (hTm : ∀ y e m, m ∈ c y e ↔ m ∈ c1 y e ∨ (y = v ∧ e = j ∧ m = m0)) (hTw : ¬ gh_has m0.1 (c1 v j)) (hk : m0.1 = 5) (h4 : j ≠ F 4 v) (F6 F5 : Nat) (hB : (F5 = F 5 v ∧ F6 = F 6 v ∧ ¬ m0.2.1 < F 6 v) ∨ (F5 = j ∧ F6 = m0.2.1 ∧ m0.2.1 < F 6 v)) (hr : F 8 (o v j) = F 8 v ∧ F 13 (F 8 v) = 1 ∧ mk v j = 1 ∧ F 9 (o v j) = j ∧ F 9 v ≠ j ∧ gi_cur F (o v j) ∧ gi_cur F v ∧ F 0 v = 1 ∧ F 0 (o v j) = 2 ∧ m0.2.1 = F 6 (o v j) ∧ F 4 (o v j) = j)  : gi_ow own (gh_U (gh_U (gh_U F 3 v (F 3 v - 1)) 5 v F5) 6 v F6) := by
  dsimp only [gi_ow, gi_cur, gi_NR, gi_wt, gi_open, gh_Net] at *
  try simp (decide := true) only [gh_U, gh_K, gh_A_has, gh_A_cnt, gh_A_mem, false_and, true_and, and_false, or_false, if_false, if_true, and_true]
  grind (splits := 25)
theorem ra_Sr {v j : Nat} (HSr : gi_Sr o w F c) {c1 : Nat → Nat → List gh_M} {m0 : gh_M} (hj : own v j) (hT : ∀ k y e, gh_has k (c y e) ↔ gh_has k (c1 y e) ∨ (y = v ∧ e = j ∧ k = m0.1)) (hTc : ∀ k y e, gh_cnt k (c y e) = gh_cnt k (c1 y e) + if y = v ∧ e = j ∧ k = m0.1 then 1 else 0) (hTm : ∀ y e m, m ∈ c y e ↔ m ∈ c1 y e ∨ (y = v ∧ e = j ∧ m = m0)) (hTw : ¬ gh_has m0.1 (c1 v j)) (hk : m0.1 = 5) (h4 : j ≠ F 4 v) (F6 F5 : Nat) (hB : (F5 = F 5 v ∧ F6 = F 6 v ∧ ¬ m0.2.1 < F 6 v) ∨ (F5 = j ∧ F6 = m0.2.1 ∧ m0.2.1 < F 6 v)) (hr : F 8 (o v j) = F 8 v ∧ F 13 (F 8 v) = 1 ∧ mk v j = 1 ∧ F 9 (o v j) = j ∧ F 9 v ≠ j ∧ gi_cur F (o v j) ∧ gi_cur F v ∧ F 0 v = 1 ∧ F 0 (o v j) = 2 ∧ m0.2.1 = F 6 (o v j) ∧ F 4 (o v j) = j)  : gi_Sr o w (gh_U (gh_U (gh_U F 3 v (F 3 v - 1)) 5 v F5) 6 v F6) c1 := by
  intro x h1 h2
  obtain ⟨a1, a2, a3⟩ := HSr x h1 h2
  refine ⟨a1, a2, fun hc => ⟨(a3 hc).1, ?_⟩⟩
  rcases (a3 hc).2 with z | ⟨m, m1, m2, m3⟩
  · refine Or.inl ?_
    have b1 := hT 0 (o x (F 9 x)) (F 9 x)
    clear HSr a3
    try simp (decide := true) only [gh_U, gh_K, gh_A_has, gh_A_cnt, gh_A_mem, false_and, true_and, and_false, or_false, if_false, if_true, and_true]
    grind
  · refine Or.inr ⟨m, ?_, m2, m3⟩
    have b1 := hTm x (F 9 x) m
    clear HSr a3
    try simp (decide := true) only [gh_U, gh_K, gh_A_has, gh_A_cnt, gh_A_mem, false_and, true_and, and_false, or_false, if_false, if_true, and_true]
    grind
theorem ra_M {v j : Nat} (HM : gi_M own o F) (Hn : gh_Net own o w) {c1 : Nat → Nat → List gh_M} {m0 : gh_M} (hj : own v j) (hT : ∀ k y e, gh_has k (c y e) ↔ gh_has k (c1 y e) ∨ (y = v ∧ e = j ∧ k = m0.1)) (hTc : ∀ k y e, gh_cnt k (c y e) = gh_cnt k (c1 y e) + if y = v ∧ e = j ∧ k = m0.1 then 1 else 0) (hTm : ∀ y e m, m ∈ c y e ↔ m ∈ c1 y e ∨ (y = v ∧ e = j ∧ m = m0)) (hTw : ¬ gh_has m0.1 (c1 v j)) (hk : m0.1 = 5) (h4 : j ≠ F 4 v) (F6 F5 : Nat) (hB : (F5 = F 5 v ∧ F6 = F 6 v ∧ ¬ m0.2.1 < F 6 v) ∨ (F5 = j ∧ F6 = m0.2.1 ∧ m0.2.1 < F 6 v)) (hr : F 8 (o v j) = F 8 v ∧ F 13 (F 8 v) = 1 ∧ mk v j = 1 ∧ F 9 (o v j) = j ∧ F 9 v ≠ j ∧ gi_cur F (o v j) ∧ gi_cur F v ∧ F 0 v = 1 ∧ F 0 (o v j) = 2 ∧ m0.2.1 = F 6 (o v j) ∧ F 4 (o v j) = j)  : gi_M own o (gh_U (gh_U (gh_U F 3 v (F 3 v - 1)) 5 v F5) 6 v F6) := by
  intro x hx y e z h1 h2 h3
  have a1 := HM x hx y e z h1 h2 h3
  have a2 := Hn.1 v j hj
  clear HM Hn
  dsimp only [gi_cur, gi_NR, gh_U] at *
  grind
theorem ra_an {v j : Nat} (Han : gi_an own o F mk c) (Hn : gh_Net own o w) {c1 : Nat → Nat → List gh_M} {m0 : gh_M} (hj : own v j) (hT : ∀ k y e, gh_has k (c y e) ↔ gh_has k (c1 y e) ∨ (y = v ∧ e = j ∧ k = m0.1)) (hTc : ∀ k y e, gh_cnt k (c y e) = gh_cnt k (c1 y e) + if y = v ∧ e = j ∧ k = m0.1 then 1 else 0) (hTm : ∀ y e m, m ∈ c y e ↔ m ∈ c1 y e ∨ (y = v ∧ e = j ∧ m = m0)) (hTw : ¬ gh_has m0.1 (c1 v j)) (hk : m0.1 = 5) (h4 : j ≠ F 4 v) (F6 F5 : Nat) (hB : (F5 = F 5 v ∧ F6 = F 6 v ∧ ¬ m0.2.1 < F 6 v) ∨ (F5 = j ∧ F6 = m0.2.1 ∧ m0.2.1 < F 6 v)) (hr : F 8 (o v j) = F 8 v ∧ F 13 (F 8 v) = 1 ∧ mk v j = 1 ∧ F 9 (o v j) = j ∧ F 9 v ≠ j ∧ gi_cur F (o v j) ∧ gi_cur F v ∧ F 0 v = 1 ∧ F 0 (o v j) = 2 ∧ m0.2.1 = F 6 (o v j) ∧ F 4 (o v j) = j)  : gi_an own o (gh_U (gh_U (gh_U F 3 v (F 3 v - 1)) 5 v F5) 6 v F6) mk c1 := by
  intro x hx
  have a2 := Hn.1 v j hj
  obtain ⟨l, l1, l2, l3⟩ := Han x hx
  by_cases hxv : x = v
  · subst hxv
    refine ⟨l.erase j, l1.erase j, ?_, fun e => ?_⟩
    · have hjl : j ∈ l := (l3 j).mpr ⟨hj, hr.2.2.1, fun z => hr.2.2.2.2.1 z.symm, fun z => z.2.2 ((hT 5 x j).mpr (Or.inr ⟨rfl, rfl, hk.symm⟩))⟩
      rw [List.length_erase_of_mem hjl, l2]; unfold gh_U; simp
    · rw [List.Nodup.mem_erase_iff l1, l3 e]
      have b1 := hT 5 x e
      rw [hk] at hTw
      clear Han l3 hTc hTm hT
      dsimp only [gi_open, gi_cur] at *
      simp (decide := true) only [gh_U, gh_K, gh_A_has, gh_A_cnt, gh_A_mem, false_and, true_and, and_false, or_false, if_false, if_true, and_true]
      grind
  · refine ⟨l, l1, by unfold gh_U; grind, fun e => (l3 e).trans ?_⟩
    have b1 := hT 5 x e
    clear Han l3 hTc hTm hT
    dsimp only [gi_open, gi_cur] at *
    simp (decide := true) only [gh_U, gh_K, gh_A_has, gh_A_cnt, gh_A_mem, false_and, true_and, and_false, or_false, if_false, if_true, and_true]
    grind
theorem ra_bc {v j : Nat} (Hbc : gi_bc o F mk c) (Hn : gh_Net own o w) {c1 : Nat → Nat → List gh_M} {m0 : gh_M} (hj : own v j) (hT : ∀ k y e, gh_has k (c y e) ↔ gh_has k (c1 y e) ∨ (y = v ∧ e = j ∧ k = m0.1)) (hTc : ∀ k y e, gh_cnt k (c y e) = gh_cnt k (c1 y e) + if y = v ∧ e = j ∧ k = m0.1 then 1 else 0) (hTm : ∀ y e m, m ∈ c y e ↔ m ∈ c1 y e ∨ (y = v ∧ e = j ∧ m = m0)) (hTw : ¬ gh_has m0.1 (c1 v j)) (hk : m0.1 = 5) (h4 : j ≠ F 4 v) (F6 F5 : Nat) (hB : (F5 = F 5 v ∧ F6 = F 6 v ∧ ¬ m0.2.1 < F 6 v) ∨ (F5 = j ∧ F6 = m0.2.1 ∧ m0.2.1 < F 6 v)) (hr : F 8 (o v j) = F 8 v ∧ F 13 (F 8 v) = 1 ∧ mk v j = 1 ∧ F 9 (o v j) = j ∧ F 9 v ≠ j ∧ gi_cur F (o v j) ∧ gi_cur F v ∧ F 0 v = 1 ∧ F 0 (o v j) = 2 ∧ m0.2.1 = F 6 (o v j) ∧ F 4 (o v j) = j)  : gi_bc o (gh_U (gh_U (gh_U F 3 v (F 3 v - 1)) 5 v F5) 6 v F6) mk c1 := by
  intro x b y hb hb1 hy hcu hph hw
  have b1 := Hbc x b y
  have b3 := hT 5 x b
  have hb5 : gh_U (gh_U (gh_U F 3 v (F 3 v - 1)) 5 v F5) 6 v F6 5 x = if x = v then F5 else F 5 x := by simp [gh_U]
  rw [hk] at hTw
  by_cases hxv : x = v
  · subst hxv
    rw [hb5, if_pos rfl] at hb
    clear Hbc Hn hTc hTm hT
    rcases hB with ⟨q1, q2, q3⟩ | ⟨q1, q2, q3⟩
    · dsimp only [gi_cur, gh_U, gi_wt] at *
      grind
    · clear b1
      dsimp only [gi_cur, gh_U, gi_wt] at *
      grind
  · rw [hb5, if_neg hxv] at hb
    clear Hbc Hn hTc hTm hT
    dsimp only [gi_cur, gh_U, gi_wt] at *
    grind
theorem ra_st {v j : Nat} (Hst : gi_st F) {c1 : Nat → Nat → List gh_M} {m0 : gh_M} (hj : own v j) (hT : ∀ k y e, gh_has k (c y e) ↔ gh_has k (c1 y e) ∨ (y = v ∧ e = j ∧ k = m0.1)) (hTc : ∀ k y e, gh_cnt k (c y e) = gh_cnt k (c1 y e) + if y = v ∧ e = j ∧ k = m0.1 then 1 else 0) (hTm : ∀ y e m, m ∈ c y e ↔ m ∈ c1 y e ∨ (y = v ∧ e = j ∧ m = m0)) (hTw : ¬ gh_has m0.1 (c1 v j)) (hk : m0.1 = 5) (h4 : j ≠ F 4 v) (F6 F5 : Nat) (hB : (F5 = F 5 v ∧ F6 = F 6 v ∧ ¬ m0.2.1 < F 6 v) ∨ (F5 = j ∧ F6 = m0.2.1 ∧ m0.2.1 < F 6 v)) (hr : F 8 (o v j) = F 8 v ∧ F 13 (F 8 v) = 1 ∧ mk v j = 1 ∧ F 9 (o v j) = j ∧ F 9 v ≠ j ∧ gi_cur F (o v j) ∧ gi_cur F v ∧ F 0 v = 1 ∧ F 0 (o v j) = 2 ∧ m0.2.1 = F 6 (o v j) ∧ F 4 (o v j) = j)  : gi_st (gh_U (gh_U (gh_U F 3 v (F 3 v - 1)) 5 v F5) 6 v F6) := by
  dsimp only [gi_st, gi_cur, gi_NR, gi_wt, gi_open, gh_Net] at *
  try simp (decide := true) only [gh_U, gh_K, gh_A_has, gh_A_cnt, gh_A_mem, false_and, true_and, and_false, or_false, if_false, if_true, and_true]
  grind (splits := 25)
theorem ra_b1 {v j : Nat} (Hb1 : gi_b1 F) {c1 : Nat → Nat → List gh_M} {m0 : gh_M} (hj : own v j) (hT : ∀ k y e, gh_has k (c y e) ↔ gh_has k (c1 y e) ∨ (y = v ∧ e = j ∧ k = m0.1)) (hTc : ∀ k y e, gh_cnt k (c y e) = gh_cnt k (c1 y e) + if y = v ∧ e = j ∧ k = m0.1 then 1 else 0) (hTm : ∀ y e m, m ∈ c y e ↔ m ∈ c1 y e ∨ (y = v ∧ e = j ∧ m = m0)) (hTw : ¬ gh_has m0.1 (c1 v j)) (hk : m0.1 = 5) (h4 : j ≠ F 4 v) (F6 F5 : Nat) (hB : (F5 = F 5 v ∧ F6 = F 6 v ∧ ¬ m0.2.1 < F 6 v) ∨ (F5 = j ∧ F6 = m0.2.1 ∧ m0.2.1 < F 6 v)) (hr : F 8 (o v j) = F 8 v ∧ F 13 (F 8 v) = 1 ∧ mk v j = 1 ∧ F 9 (o v j) = j ∧ F 9 v ≠ j ∧ gi_cur F (o v j) ∧ gi_cur F v ∧ F 0 v = 1 ∧ F 0 (o v j) = 2 ∧ m0.2.1 = F 6 (o v j) ∧ F 4 (o v j) = j)  : gi_b1 (gh_U (gh_U (gh_U F 3 v (F 3 v - 1)) 5 v F5) 6 v F6) := by
  dsimp only [gi_b1, gi_cur, gi_NR, gi_wt, gi_open, gh_Net] at *
  try simp (decide := true) only [gh_U, gh_K, gh_A_has, gh_A_cnt, gh_A_mem, false_and, true_and, and_false, or_false, if_false, if_true, and_true]
  grind (splits := 25)
theorem ra_b2 {v j : Nat} (Hb2 : gi_b2 F) {c1 : Nat → Nat → List gh_M} {m0 : gh_M} (hj : own v j) (hT : ∀ k y e, gh_has k (c y e) ↔ gh_has k (c1 y e) ∨ (y = v ∧ e = j ∧ k = m0.1)) (hTc : ∀ k y e, gh_cnt k (c y e) = gh_cnt k (c1 y e) + if y = v ∧ e = j ∧ k = m0.1 then 1 else 0) (hTm : ∀ y e m, m ∈ c y e ↔ m ∈ c1 y e ∨ (y = v ∧ e = j ∧ m = m0)) (hTw : ¬ gh_has m0.1 (c1 v j)) (hk : m0.1 = 5) (h4 : j ≠ F 4 v) (F6 F5 : Nat) (hB : (F5 = F 5 v ∧ F6 = F 6 v ∧ ¬ m0.2.1 < F 6 v) ∨ (F5 = j ∧ F6 = m0.2.1 ∧ m0.2.1 < F 6 v)) (hr : F 8 (o v j) = F 8 v ∧ F 13 (F 8 v) = 1 ∧ mk v j = 1 ∧ F 9 (o v j) = j ∧ F 9 v ≠ j ∧ gi_cur F (o v j) ∧ gi_cur F v ∧ F 0 v = 1 ∧ F 0 (o v j) = 2 ∧ m0.2.1 = F 6 (o v j) ∧ F 4 (o v j) = j)  : gi_b2 (gh_U (gh_U (gh_U F 3 v (F 3 v - 1)) 5 v F5) 6 v F6) := by
  dsimp only [gi_b2, gi_cur, gi_NR, gi_wt, gi_open, gh_Net] at *
  try simp (decide := true) only [gh_U, gh_K, gh_A_has, gh_A_cnt, gh_A_mem, false_and, true_and, and_false, or_false, if_false, if_true, and_true]
  grind (splits := 25)
theorem ra_b3 {v j : Nat} (Hb3 : gi_b3 F) {c1 : Nat → Nat → List gh_M} {m0 : gh_M} (hj : own v j) (hT : ∀ k y e, gh_has k (c y e) ↔ gh_has k (c1 y e) ∨ (y = v ∧ e = j ∧ k = m0.1)) (hTc : ∀ k y e, gh_cnt k (c y e) = gh_cnt k (c1 y e) + if y = v ∧ e = j ∧ k = m0.1 then 1 else 0) (hTm : ∀ y e m, m ∈ c y e ↔ m ∈ c1 y e ∨ (y = v ∧ e = j ∧ m = m0)) (hTw : ¬ gh_has m0.1 (c1 v j)) (hk : m0.1 = 5) (h4 : j ≠ F 4 v) (F6 F5 : Nat) (hB : (F5 = F 5 v ∧ F6 = F 6 v ∧ ¬ m0.2.1 < F 6 v) ∨ (F5 = j ∧ F6 = m0.2.1 ∧ m0.2.1 < F 6 v)) (hr : F 8 (o v j) = F 8 v ∧ F 13 (F 8 v) = 1 ∧ mk v j = 1 ∧ F 9 (o v j) = j ∧ F 9 v ≠ j ∧ gi_cur F (o v j) ∧ gi_cur F v ∧ F 0 v = 1 ∧ F 0 (o v j) = 2 ∧ m0.2.1 = F 6 (o v j) ∧ F 4 (o v j) = j)  : gi_b3 (gh_U (gh_U (gh_U F 3 v (F 3 v - 1)) 5 v F5) 6 v F6) := by
  dsimp only [gi_b3, gi_cur, gi_NR, gi_wt, gi_open, gh_Net] at *
  try simp (decide := true) only [gh_U, gh_K, gh_A_has, gh_A_cnt, gh_A_mem, false_and, true_and, and_false, or_false, if_false, if_true, and_true]
  grind (splits := 25)
theorem ra_b4 {v j : Nat} (Hb4 : gi_b4 F) {c1 : Nat → Nat → List gh_M} {m0 : gh_M} (hj : own v j) (hT : ∀ k y e, gh_has k (c y e) ↔ gh_has k (c1 y e) ∨ (y = v ∧ e = j ∧ k = m0.1)) (hTc : ∀ k y e, gh_cnt k (c y e) = gh_cnt k (c1 y e) + if y = v ∧ e = j ∧ k = m0.1 then 1 else 0) (hTm : ∀ y e m, m ∈ c y e ↔ m ∈ c1 y e ∨ (y = v ∧ e = j ∧ m = m0)) (hTw : ¬ gh_has m0.1 (c1 v j)) (hk : m0.1 = 5) (h4 : j ≠ F 4 v) (F6 F5 : Nat) (hB : (F5 = F 5 v ∧ F6 = F 6 v ∧ ¬ m0.2.1 < F 6 v) ∨ (F5 = j ∧ F6 = m0.2.1 ∧ m0.2.1 < F 6 v)) (hr : F 8 (o v j) = F 8 v ∧ F 13 (F 8 v) = 1 ∧ mk v j = 1 ∧ F 9 (o v j) = j ∧ F 9 v ≠ j ∧ gi_cur F (o v j) ∧ gi_cur F v ∧ F 0 v = 1 ∧ F 0 (o v j) = 2 ∧ m0.2.1 = F 6 (o v j) ∧ F 4 (o v j) = j)  : gi_b4 (gh_U (gh_U (gh_U F 3 v (F 3 v - 1)) 5 v F5) 6 v F6) := by
  dsimp only [gi_b4, gi_cur, gi_NR, gi_wt, gi_open, gh_Net] at *
  try simp (decide := true) only [gh_U, gh_K, gh_A_has, gh_A_cnt, gh_A_mem, false_and, true_and, and_false, or_false, if_false, if_true, and_true]
  grind (splits := 25)
theorem ra_b5 {v j : Nat} (Hb5 : gi_b5 own o w F) {c1 : Nat → Nat → List gh_M} {m0 : gh_M} (hj : own v j) (hT : ∀ k y e, gh_has k (c y e) ↔ gh_has k (c1 y e) ∨ (y = v ∧ e = j ∧ k = m0.1)) (hTc : ∀ k y e, gh_cnt k (c y e) = gh_cnt k (c1 y e) + if y = v ∧ e = j ∧ k = m0.1 then 1 else 0) (hTm : ∀ y e m, m ∈ c y e ↔ m ∈ c1 y e ∨ (y = v ∧ e = j ∧ m = m0)) (hTw : ¬ gh_has m0.1 (c1 v j)) (hk : m0.1 = 5) (h4 : j ≠ F 4 v) (F6 F5 : Nat) (hB : (F5 = F 5 v ∧ F6 = F 6 v ∧ ¬ m0.2.1 < F 6 v) ∨ (F5 = j ∧ F6 = m0.2.1 ∧ m0.2.1 < F 6 v)) (hr : F 8 (o v j) = F 8 v ∧ F 13 (F 8 v) = 1 ∧ mk v j = 1 ∧ F 9 (o v j) = j ∧ F 9 v ≠ j ∧ gi_cur F (o v j) ∧ gi_cur F v ∧ F 0 v = 1 ∧ F 0 (o v j) = 2 ∧ m0.2.1 = F 6 (o v j) ∧ F 4 (o v j) = j)  : gi_b5 own o w (gh_U (gh_U (gh_U F 3 v (F 3 v - 1)) 5 v F5) 6 v F6) := by
  dsimp only [gi_b5, gi_cur, gi_NR, gi_wt, gi_open, gh_Net] at *
  try simp (decide := true) only [gh_U, gh_K, gh_A_has, gh_A_cnt, gh_A_mem, false_and, true_and, and_false, or_false, if_false, if_true, and_true]
  grind (splits := 25)
theorem ra_b6 {v j : Nat} (Hb6 : gi_b6 own o w F mk) {c1 : Nat → Nat → List gh_M} {m0 : gh_M} (hj : own v j) (hT : ∀ k y e, gh_has k (c y e) ↔ gh_has k (c1 y e) ∨ (y = v ∧ e = j ∧ k = m0.1)) (hTc : ∀ k y e, gh_cnt k (c y e) = gh_cnt k (c1 y e) + if y = v ∧ e = j ∧ k = m0.1 then 1 else 0) (hTm : ∀ y e m, m ∈ c y e ↔ m ∈ c1 y e ∨ (y = v ∧ e = j ∧ m = m0)) (hTw : ¬ gh_has m0.1 (c1 v j)) (hk : m0.1 = 5) (h4 : j ≠ F 4 v) (F6 F5 : Nat) (hB : (F5 = F 5 v ∧ F6 = F 6 v ∧ ¬ m0.2.1 < F 6 v) ∨ (F5 = j ∧ F6 = m0.2.1 ∧ m0.2.1 < F 6 v)) (hr : F 8 (o v j) = F 8 v ∧ F 13 (F 8 v) = 1 ∧ mk v j = 1 ∧ F 9 (o v j) = j ∧ F 9 v ≠ j ∧ gi_cur F (o v j) ∧ gi_cur F v ∧ F 0 v = 1 ∧ F 0 (o v j) = 2 ∧ m0.2.1 = F 6 (o v j) ∧ F 4 (o v j) = j)  : gi_b6 own o w (gh_U (gh_U (gh_U F 3 v (F 3 v - 1)) 5 v F5) 6 v F6) mk := by
  dsimp only [gi_b6, gi_cur, gi_NR, gi_wt, gi_open, gh_Net] at *
  try simp (decide := true) only [gh_U, gh_K, gh_A_has, gh_A_cnt, gh_A_mem, false_and, true_and, and_false, or_false, if_false, if_true, and_true]
  grind (splits := 25)
theorem ra_s0 {v j : Nat} (Hs0 : gi_s0 own F mk) {c1 : Nat → Nat → List gh_M} {m0 : gh_M} (hj : own v j) (hT : ∀ k y e, gh_has k (c y e) ↔ gh_has k (c1 y e) ∨ (y = v ∧ e = j ∧ k = m0.1)) (hTc : ∀ k y e, gh_cnt k (c y e) = gh_cnt k (c1 y e) + if y = v ∧ e = j ∧ k = m0.1 then 1 else 0) (hTm : ∀ y e m, m ∈ c y e ↔ m ∈ c1 y e ∨ (y = v ∧ e = j ∧ m = m0)) (hTw : ¬ gh_has m0.1 (c1 v j)) (hk : m0.1 = 5) (h4 : j ≠ F 4 v) (F6 F5 : Nat) (hB : (F5 = F 5 v ∧ F6 = F 6 v ∧ ¬ m0.2.1 < F 6 v) ∨ (F5 = j ∧ F6 = m0.2.1 ∧ m0.2.1 < F 6 v)) (hr : F 8 (o v j) = F 8 v ∧ F 13 (F 8 v) = 1 ∧ mk v j = 1 ∧ F 9 (o v j) = j ∧ F 9 v ≠ j ∧ gi_cur F (o v j) ∧ gi_cur F v ∧ F 0 v = 1 ∧ F 0 (o v j) = 2 ∧ m0.2.1 = F 6 (o v j) ∧ F 4 (o v j) = j)  : gi_s0 own (gh_U (gh_U (gh_U F 3 v (F 3 v - 1)) 5 v F5) 6 v F6) mk := by
  dsimp only [gi_s0, gi_cur, gi_NR, gi_wt, gi_open, gh_Net] at *
  try simp (decide := true) only [gh_U, gh_K, gh_A_has, gh_A_cnt, gh_A_mem, false_and, true_and, and_false, or_false, if_false, if_true, and_true]
  grind (splits := 25)
theorem ra_pA {v j : Nat} (HpA : gi_pA own F mk) {c1 : Nat → Nat → List gh_M} {m0 : gh_M} (hj : own v j) (hT : ∀ k y e, gh_has k (c y e) ↔ gh_has k (c1 y e) ∨ (y = v ∧ e = j ∧ k = m0.1)) (hTc : ∀ k y e, gh_cnt k (c y e) = gh_cnt k (c1 y e) + if y = v ∧ e = j ∧ k = m0.1 then 1 else 0) (hTm : ∀ y e m, m ∈ c y e ↔ m ∈ c1 y e ∨ (y = v ∧ e = j ∧ m = m0)) (hTw : ¬ gh_has m0.1 (c1 v j)) (hk : m0.1 = 5) (h4 : j ≠ F 4 v) (F6 F5 : Nat) (hB : (F5 = F 5 v ∧ F6 = F 6 v ∧ ¬ m0.2.1 < F 6 v) ∨ (F5 = j ∧ F6 = m0.2.1 ∧ m0.2.1 < F 6 v)) (hr : F 8 (o v j) = F 8 v ∧ F 13 (F 8 v) = 1 ∧ mk v j = 1 ∧ F 9 (o v j) = j ∧ F 9 v ≠ j ∧ gi_cur F (o v j) ∧ gi_cur F v ∧ F 0 v = 1 ∧ F 0 (o v j) = 2 ∧ m0.2.1 = F 6 (o v j) ∧ F 4 (o v j) = j)  : gi_pA own (gh_U (gh_U (gh_U F 3 v (F 3 v - 1)) 5 v F5) 6 v F6) mk := by
  dsimp only [gi_pA, gi_cur, gi_NR, gi_wt, gi_open, gh_Net] at *
  try simp (decide := true) only [gh_U, gh_K, gh_A_has, gh_A_cnt, gh_A_mem, false_and, true_and, and_false, or_false, if_false, if_true, and_true]
  grind (splits := 25)
theorem ra_s1 {v j : Nat} (Hs1 : gi_s1 F) {c1 : Nat → Nat → List gh_M} {m0 : gh_M} (hj : own v j) (hT : ∀ k y e, gh_has k (c y e) ↔ gh_has k (c1 y e) ∨ (y = v ∧ e = j ∧ k = m0.1)) (hTc : ∀ k y e, gh_cnt k (c y e) = gh_cnt k (c1 y e) + if y = v ∧ e = j ∧ k = m0.1 then 1 else 0) (hTm : ∀ y e m, m ∈ c y e ↔ m ∈ c1 y e ∨ (y = v ∧ e = j ∧ m = m0)) (hTw : ¬ gh_has m0.1 (c1 v j)) (hk : m0.1 = 5) (h4 : j ≠ F 4 v) (F6 F5 : Nat) (hB : (F5 = F 5 v ∧ F6 = F 6 v ∧ ¬ m0.2.1 < F 6 v) ∨ (F5 = j ∧ F6 = m0.2.1 ∧ m0.2.1 < F 6 v)) (hr : F 8 (o v j) = F 8 v ∧ F 13 (F 8 v) = 1 ∧ mk v j = 1 ∧ F 9 (o v j) = j ∧ F 9 v ≠ j ∧ gi_cur F (o v j) ∧ gi_cur F v ∧ F 0 v = 1 ∧ F 0 (o v j) = 2 ∧ m0.2.1 = F 6 (o v j) ∧ F 4 (o v j) = j)  : gi_s1 (gh_U (gh_U (gh_U F 3 v (F 3 v - 1)) 5 v F5) 6 v F6) := by
  dsimp only [gi_s1, gi_cur, gi_NR, gi_wt, gi_open, gh_Net] at *
  try simp (decide := true) only [gh_U, gh_K, gh_A_has, gh_A_cnt, gh_A_mem, false_and, true_and, and_false, or_false, if_false, if_true, and_true]
  grind (splits := 25)
theorem ra_s2 {v j : Nat} (Hs2 : gi_s2 F) {c1 : Nat → Nat → List gh_M} {m0 : gh_M} (hj : own v j) (hT : ∀ k y e, gh_has k (c y e) ↔ gh_has k (c1 y e) ∨ (y = v ∧ e = j ∧ k = m0.1)) (hTc : ∀ k y e, gh_cnt k (c y e) = gh_cnt k (c1 y e) + if y = v ∧ e = j ∧ k = m0.1 then 1 else 0) (hTm : ∀ y e m, m ∈ c y e ↔ m ∈ c1 y e ∨ (y = v ∧ e = j ∧ m = m0)) (hTw : ¬ gh_has m0.1 (c1 v j)) (hk : m0.1 = 5) (h4 : j ≠ F 4 v) (F6 F5 : Nat) (hB : (F5 = F 5 v ∧ F6 = F 6 v ∧ ¬ m0.2.1 < F 6 v) ∨ (F5 = j ∧ F6 = m0.2.1 ∧ m0.2.1 < F 6 v)) (hr : F 8 (o v j) = F 8 v ∧ F 13 (F 8 v) = 1 ∧ mk v j = 1 ∧ F 9 (o v j) = j ∧ F 9 v ≠ j ∧ gi_cur F (o v j) ∧ gi_cur F v ∧ F 0 v = 1 ∧ F 0 (o v j) = 2 ∧ m0.2.1 = F 6 (o v j) ∧ F 4 (o v j) = j)  : gi_s2 (gh_U (gh_U (gh_U F 3 v (F 3 v - 1)) 5 v F5) 6 v F6) := by
  dsimp only [gi_s2, gi_cur, gi_NR, gi_wt, gi_open, gh_Net] at *
  try simp (decide := true) only [gh_U, gh_K, gh_A_has, gh_A_cnt, gh_A_mem, false_and, true_and, and_false, or_false, if_false, if_true, and_true]
  grind (splits := 25)
theorem ra_Sl {v j : Nat} (HSl : gi_Sl F) {c1 : Nat → Nat → List gh_M} {m0 : gh_M} (hj : own v j) (hT : ∀ k y e, gh_has k (c y e) ↔ gh_has k (c1 y e) ∨ (y = v ∧ e = j ∧ k = m0.1)) (hTc : ∀ k y e, gh_cnt k (c y e) = gh_cnt k (c1 y e) + if y = v ∧ e = j ∧ k = m0.1 then 1 else 0) (hTm : ∀ y e m, m ∈ c y e ↔ m ∈ c1 y e ∨ (y = v ∧ e = j ∧ m = m0)) (hTw : ¬ gh_has m0.1 (c1 v j)) (hk : m0.1 = 5) (h4 : j ≠ F 4 v) (F6 F5 : Nat) (hB : (F5 = F 5 v ∧ F6 = F 6 v ∧ ¬ m0.2.1 < F 6 v) ∨ (F5 = j ∧ F6 = m0.2.1 ∧ m0.2.1 < F 6 v)) (hr : F 8 (o v j) = F 8 v ∧ F 13 (F 8 v) = 1 ∧ mk v j = 1 ∧ F 9 (o v j) = j ∧ F 9 v ≠ j ∧ gi_cur F (o v j) ∧ gi_cur F v ∧ F 0 v = 1 ∧ F 0 (o v j) = 2 ∧ m0.2.1 = F 6 (o v j) ∧ F 4 (o v j) = j)  : gi_Sl (gh_U (gh_U (gh_U F 3 v (F 3 v - 1)) 5 v F5) 6 v F6) := by
  dsimp only [gi_Sl, gi_cur, gi_NR, gi_wt, gi_open, gh_Net] at *
  try simp (decide := true) only [gh_U, gh_K, gh_A_has, gh_A_cnt, gh_A_mem, false_and, true_and, and_false, or_false, if_false, if_true, and_true]
  grind (splits := 25)
theorem ra_s3 {v j : Nat} (Hs3 : gi_s3 F) {c1 : Nat → Nat → List gh_M} {m0 : gh_M} (hj : own v j) (hT : ∀ k y e, gh_has k (c y e) ↔ gh_has k (c1 y e) ∨ (y = v ∧ e = j ∧ k = m0.1)) (hTc : ∀ k y e, gh_cnt k (c y e) = gh_cnt k (c1 y e) + if y = v ∧ e = j ∧ k = m0.1 then 1 else 0) (hTm : ∀ y e m, m ∈ c y e ↔ m ∈ c1 y e ∨ (y = v ∧ e = j ∧ m = m0)) (hTw : ¬ gh_has m0.1 (c1 v j)) (hk : m0.1 = 5) (h4 : j ≠ F 4 v) (F6 F5 : Nat) (hB : (F5 = F 5 v ∧ F6 = F 6 v ∧ ¬ m0.2.1 < F 6 v) ∨ (F5 = j ∧ F6 = m0.2.1 ∧ m0.2.1 < F 6 v)) (hr : F 8 (o v j) = F 8 v ∧ F 13 (F 8 v) = 1 ∧ mk v j = 1 ∧ F 9 (o v j) = j ∧ F 9 v ≠ j ∧ gi_cur F (o v j) ∧ gi_cur F v ∧ F 0 v = 1 ∧ F 0 (o v j) = 2 ∧ m0.2.1 = F 6 (o v j) ∧ F 4 (o v j) = j)  : gi_s3 (gh_U (gh_U (gh_U F 3 v (F 3 v - 1)) 5 v F5) 6 v F6) := by
  dsimp only [gi_s3, gi_cur, gi_NR, gi_wt, gi_open, gh_Net] at *
  try simp (decide := true) only [gh_U, gh_K, gh_A_has, gh_A_cnt, gh_A_mem, false_and, true_and, and_false, or_false, if_false, if_true, and_true]
  grind (splits := 25)
theorem ra_s5 {v j : Nat} (Hs5 : gi_s5 F) {c1 : Nat → Nat → List gh_M} {m0 : gh_M} (hj : own v j) (hT : ∀ k y e, gh_has k (c y e) ↔ gh_has k (c1 y e) ∨ (y = v ∧ e = j ∧ k = m0.1)) (hTc : ∀ k y e, gh_cnt k (c y e) = gh_cnt k (c1 y e) + if y = v ∧ e = j ∧ k = m0.1 then 1 else 0) (hTm : ∀ y e m, m ∈ c y e ↔ m ∈ c1 y e ∨ (y = v ∧ e = j ∧ m = m0)) (hTw : ¬ gh_has m0.1 (c1 v j)) (hk : m0.1 = 5) (h4 : j ≠ F 4 v) (F6 F5 : Nat) (hB : (F5 = F 5 v ∧ F6 = F 6 v ∧ ¬ m0.2.1 < F 6 v) ∨ (F5 = j ∧ F6 = m0.2.1 ∧ m0.2.1 < F 6 v)) (hr : F 8 (o v j) = F 8 v ∧ F 13 (F 8 v) = 1 ∧ mk v j = 1 ∧ F 9 (o v j) = j ∧ F 9 v ≠ j ∧ gi_cur F (o v j) ∧ gi_cur F v ∧ F 0 v = 1 ∧ F 0 (o v j) = 2 ∧ m0.2.1 = F 6 (o v j) ∧ F 4 (o v j) = j)  : gi_s5 (gh_U (gh_U (gh_U F 3 v (F 3 v - 1)) 5 v F5) 6 v F6) := by
  dsimp only [gi_s5, gi_cur, gi_NR, gi_wt, gi_open, gh_Net] at *
  try simp (decide := true) only [gh_U, gh_K, gh_A_has, gh_A_cnt, gh_A_mem, false_and, true_and, and_false, or_false, if_false, if_true, and_true]
  grind (splits := 25)
theorem ra_s6 {v j : Nat} (Hs6 : gi_s6 own F mk) {c1 : Nat → Nat → List gh_M} {m0 : gh_M} (hj : own v j) (hT : ∀ k y e, gh_has k (c y e) ↔ gh_has k (c1 y e) ∨ (y = v ∧ e = j ∧ k = m0.1)) (hTc : ∀ k y e, gh_cnt k (c y e) = gh_cnt k (c1 y e) + if y = v ∧ e = j ∧ k = m0.1 then 1 else 0) (hTm : ∀ y e m, m ∈ c y e ↔ m ∈ c1 y e ∨ (y = v ∧ e = j ∧ m = m0)) (hTw : ¬ gh_has m0.1 (c1 v j)) (hk : m0.1 = 5) (h4 : j ≠ F 4 v) (F6 F5 : Nat) (hB : (F5 = F 5 v ∧ F6 = F 6 v ∧ ¬ m0.2.1 < F 6 v) ∨ (F5 = j ∧ F6 = m0.2.1 ∧ m0.2.1 < F 6 v)) (hr : F 8 (o v j) = F 8 v ∧ F 13 (F 8 v) = 1 ∧ mk v j = 1 ∧ F 9 (o v j) = j ∧ F 9 v ≠ j ∧ gi_cur F (o v j) ∧ gi_cur F v ∧ F 0 v = 1 ∧ F 0 (o v j) = 2 ∧ m0.2.1 = F 6 (o v j) ∧ F 4 (o v j) = j)  : gi_s6 own (gh_U (gh_U (gh_U F 3 v (F 3 v - 1)) 5 v F5) 6 v F6) mk := by
  dsimp only [gi_s6, gi_cur, gi_NR, gi_wt, gi_open, gh_Net] at *
  try simp (decide := true) only [gh_U, gh_K, gh_A_has, gh_A_cnt, gh_A_mem, false_and, true_and, and_false, or_false, if_false, if_true, and_true]
  grind (splits := 25)
theorem ra_Sn {v j : Nat} (HSn : gi_Sn o w F) {c1 : Nat → Nat → List gh_M} {m0 : gh_M} (hj : own v j) (hT : ∀ k y e, gh_has k (c y e) ↔ gh_has k (c1 y e) ∨ (y = v ∧ e = j ∧ k = m0.1)) (hTc : ∀ k y e, gh_cnt k (c y e) = gh_cnt k (c1 y e) + if y = v ∧ e = j ∧ k = m0.1 then 1 else 0) (hTm : ∀ y e m, m ∈ c y e ↔ m ∈ c1 y e ∨ (y = v ∧ e = j ∧ m = m0)) (hTw : ¬ gh_has m0.1 (c1 v j)) (hk : m0.1 = 5) (h4 : j ≠ F 4 v) (F6 F5 : Nat) (hB : (F5 = F 5 v ∧ F6 = F 6 v ∧ ¬ m0.2.1 < F 6 v) ∨ (F5 = j ∧ F6 = m0.2.1 ∧ m0.2.1 < F 6 v)) (hr : F 8 (o v j) = F 8 v ∧ F 13 (F 8 v) = 1 ∧ mk v j = 1 ∧ F 9 (o v j) = j ∧ F 9 v ≠ j ∧ gi_cur F (o v j) ∧ gi_cur F v ∧ F 0 v = 1 ∧ F 0 (o v j) = 2 ∧ m0.2.1 = F 6 (o v j) ∧ F 4 (o v j) = j)  : gi_Sn o w (gh_U (gh_U (gh_U F 3 v (F 3 v - 1)) 5 v F5) 6 v F6) := by
  dsimp only [gi_Sn, gi_cur, gi_NR, gi_wt, gi_open, gh_Net] at *
  try simp (decide := true) only [gh_U, gh_K, gh_A_has, gh_A_cnt, gh_A_mem, false_and, true_and, and_false, or_false, if_false, if_true, and_true]
  grind (splits := 25)
theorem ra_C {v j : Nat} (HC : gi_C own o F mk) {c1 : Nat → Nat → List gh_M} {m0 : gh_M} (hj : own v j) (hT : ∀ k y e, gh_has k (c y e) ↔ gh_has k (c1 y e) ∨ (y = v ∧ e = j ∧ k = m0.1)) (hTc : ∀ k y e, gh_cnt k (c y e) = gh_cnt k (c1 y e) + if y = v ∧ e = j ∧ k = m0.1 then 1 else 0) (hTm : ∀ y e m, m ∈ c y e ↔ m ∈ c1 y e ∨ (y = v ∧ e = j ∧ m = m0)) (hTw : ¬ gh_has m0.1 (c1 v j)) (hk : m0.1 = 5) (h4 : j ≠ F 4 v) (F6 F5 : Nat) (hB : (F5 = F 5 v ∧ F6 = F 6 v ∧ ¬ m0.2.1 < F 6 v) ∨ (F5 = j ∧ F6 = m0.2.1 ∧ m0.2.1 < F 6 v)) (hr : F 8 (o v j) = F 8 v ∧ F 13 (F 8 v) = 1 ∧ mk v j = 1 ∧ F 9 (o v j) = j ∧ F 9 v ≠ j ∧ gi_cur F (o v j) ∧ gi_cur F v ∧ F 0 v = 1 ∧ F 0 (o v j) = 2 ∧ m0.2.1 = F 6 (o v j) ∧ F 4 (o v j) = j)  : gi_C own o (gh_U (gh_U (gh_U F 3 v (F 3 v - 1)) 5 v F5) 6 v F6) mk := by
  dsimp only [gi_C, gi_cur, gi_NR, gi_wt, gi_open, gh_Net] at *
  try simp (decide := true) only [gh_U, gh_K, gh_A_has, gh_A_cnt, gh_A_mem, false_and, true_and, and_false, or_false, if_false, if_true, and_true]
  grind (splits := 25)
theorem ra_ph {v j : Nat} (Hph : gi_ph F) {c1 : Nat → Nat → List gh_M} {m0 : gh_M} (hj : own v j) (hT : ∀ k y e, gh_has k (c y e) ↔ gh_has k (c1 y e) ∨ (y = v ∧ e = j ∧ k = m0.1)) (hTc : ∀ k y e, gh_cnt k (c y e) = gh_cnt k (c1 y e) + if y = v ∧ e = j ∧ k = m0.1 then 1 else 0) (hTm : ∀ y e m, m ∈ c y e ↔ m ∈ c1 y e ∨ (y = v ∧ e = j ∧ m = m0)) (hTw : ¬ gh_has m0.1 (c1 v j)) (hk : m0.1 = 5) (h4 : j ≠ F 4 v) (F6 F5 : Nat) (hB : (F5 = F 5 v ∧ F6 = F 6 v ∧ ¬ m0.2.1 < F 6 v) ∨ (F5 = j ∧ F6 = m0.2.1 ∧ m0.2.1 < F 6 v)) (hr : F 8 (o v j) = F 8 v ∧ F 13 (F 8 v) = 1 ∧ mk v j = 1 ∧ F 9 (o v j) = j ∧ F 9 v ≠ j ∧ gi_cur F (o v j) ∧ gi_cur F v ∧ F 0 v = 1 ∧ F 0 (o v j) = 2 ∧ m0.2.1 = F 6 (o v j) ∧ F 4 (o v j) = j)  : gi_ph (gh_U (gh_U (gh_U F 3 v (F 3 v - 1)) 5 v F5) 6 v F6) := by
  dsimp only [gi_ph, gi_cur, gi_NR, gi_wt, gi_open, gh_Net] at *
  try simp (decide := true) only [gh_U, gh_K, gh_A_has, gh_A_cnt, gh_A_mem, false_and, true_and, and_false, or_false, if_false, if_true, and_true]
  grind (splits := 25)
theorem ra_6 {v j : Nat} (H6 : gi_6 o F c) {c1 : Nat → Nat → List gh_M} {m0 : gh_M} (hj : own v j) (hT : ∀ k y e, gh_has k (c y e) ↔ gh_has k (c1 y e) ∨ (y = v ∧ e = j ∧ k = m0.1)) (hTc : ∀ k y e, gh_cnt k (c y e) = gh_cnt k (c1 y e) + if y = v ∧ e = j ∧ k = m0.1 then 1 else 0) (hTm : ∀ y e m, m ∈ c y e ↔ m ∈ c1 y e ∨ (y = v ∧ e = j ∧ m = m0)) (hTw : ¬ gh_has m0.1 (c1 v j)) (hk : m0.1 = 5) (h4 : j ≠ F 4 v) (F6 F5 : Nat) (hB : (F5 = F 5 v ∧ F6 = F 6 v ∧ ¬ m0.2.1 < F 6 v) ∨ (F5 = j ∧ F6 = m0.2.1 ∧ m0.2.1 < F 6 v)) (hr : F 8 (o v j) = F 8 v ∧ F 13 (F 8 v) = 1 ∧ mk v j = 1 ∧ F 9 (o v j) = j ∧ F 9 v ≠ j ∧ gi_cur F (o v j) ∧ gi_cur F v ∧ F 0 v = 1 ∧ F 0 (o v j) = 2 ∧ m0.2.1 = F 6 (o v j) ∧ F 4 (o v j) = j)  : gi_6 o (gh_U (gh_U (gh_U F 3 v (F 3 v - 1)) 5 v F5) 6 v F6) c1 := by
  dsimp only [gi_6, gi_cur, gi_NR, gi_wt, gi_open, gh_Net] at *
  try simp (decide := true) only [gh_U, gh_K, gh_A_has, gh_A_cnt, gh_A_mem, false_and, true_and, and_false, or_false, if_false, if_true, and_true]
  grind (splits := 25)
theorem ra_7 {v j : Nat} (H7 : gi_7 o F) {c1 : Nat → Nat → List gh_M} {m0 : gh_M} (hj : own v j) (hT : ∀ k y e, gh_has k (c y e) ↔ gh_has k (c1 y e) ∨ (y = v ∧ e = j ∧ k = m0.1)) (hTc : ∀ k y e, gh_cnt k (c y e) = gh_cnt k (c1 y e) + if y = v ∧ e = j ∧ k = m0.1 then 1 else 0) (hTm : ∀ y e m, m ∈ c y e ↔ m ∈ c1 y e ∨ (y = v ∧ e = j ∧ m = m0)) (hTw : ¬ gh_has m0.1 (c1 v j)) (hk : m0.1 = 5) (h4 : j ≠ F 4 v) (F6 F5 : Nat) (hB : (F5 = F 5 v ∧ F6 = F 6 v ∧ ¬ m0.2.1 < F 6 v) ∨ (F5 = j ∧ F6 = m0.2.1 ∧ m0.2.1 < F 6 v)) (hr : F 8 (o v j) = F 8 v ∧ F 13 (F 8 v) = 1 ∧ mk v j = 1 ∧ F 9 (o v j) = j ∧ F 9 v ≠ j ∧ gi_cur F (o v j) ∧ gi_cur F v ∧ F 0 v = 1 ∧ F 0 (o v j) = 2 ∧ m0.2.1 = F 6 (o v j) ∧ F 4 (o v j) = j)  : gi_7 o (gh_U (gh_U (gh_U F 3 v (F 3 v - 1)) 5 v F5) 6 v F6) := by
  dsimp only [gi_7, gi_cur, gi_NR, gi_wt, gi_open, gh_Net] at *
  try simp (decide := true) only [gh_U, gh_K, gh_A_has, gh_A_cnt, gh_A_mem, false_and, true_and, and_false, or_false, if_false, if_true, and_true]
  grind (splits := 25)
theorem ra_K {v j : Nat} (HK : gi_K own o F mk c) {c1 : Nat → Nat → List gh_M} {m0 : gh_M} (hj : own v j) (hT : ∀ k y e, gh_has k (c y e) ↔ gh_has k (c1 y e) ∨ (y = v ∧ e = j ∧ k = m0.1)) (hTc : ∀ k y e, gh_cnt k (c y e) = gh_cnt k (c1 y e) + if y = v ∧ e = j ∧ k = m0.1 then 1 else 0) (hTm : ∀ y e m, m ∈ c y e ↔ m ∈ c1 y e ∨ (y = v ∧ e = j ∧ m = m0)) (hTw : ¬ gh_has m0.1 (c1 v j)) (hk : m0.1 = 5) (h4 : j ≠ F 4 v) (F6 F5 : Nat) (hB : (F5 = F 5 v ∧ F6 = F 6 v ∧ ¬ m0.2.1 < F 6 v) ∨ (F5 = j ∧ F6 = m0.2.1 ∧ m0.2.1 < F 6 v)) (hr : F 8 (o v j) = F 8 v ∧ F 13 (F 8 v) = 1 ∧ mk v j = 1 ∧ F 9 (o v j) = j ∧ F 9 v ≠ j ∧ gi_cur F (o v j) ∧ gi_cur F v ∧ F 0 v = 1 ∧ F 0 (o v j) = 2 ∧ m0.2.1 = F 6 (o v j) ∧ F 4 (o v j) = j)  : gi_K own o (gh_U (gh_U (gh_U F 3 v (F 3 v - 1)) 5 v F5) 6 v F6) mk c1 := by
  dsimp only [gi_K, gi_cur, gi_NR, gi_wt, gi_open, gh_Net] at *
  try simp (decide := true) only [gh_U, gh_K, gh_A_has, gh_A_cnt, gh_A_mem, false_and, true_and, and_false, or_false, if_false, if_true, and_true]
  grind (splits := 25)
theorem ra_rj {v j : Nat} (Hrj : gi_rj own o F mk) {c1 : Nat → Nat → List gh_M} {m0 : gh_M} (hj : own v j) (hT : ∀ k y e, gh_has k (c y e) ↔ gh_has k (c1 y e) ∨ (y = v ∧ e = j ∧ k = m0.1)) (hTc : ∀ k y e, gh_cnt k (c y e) = gh_cnt k (c1 y e) + if y = v ∧ e = j ∧ k = m0.1 then 1 else 0) (hTm : ∀ y e m, m ∈ c y e ↔ m ∈ c1 y e ∨ (y = v ∧ e = j ∧ m = m0)) (hTw : ¬ gh_has m0.1 (c1 v j)) (hk : m0.1 = 5) (h4 : j ≠ F 4 v) (F6 F5 : Nat) (hB : (F5 = F 5 v ∧ F6 = F 6 v ∧ ¬ m0.2.1 < F 6 v) ∨ (F5 = j ∧ F6 = m0.2.1 ∧ m0.2.1 < F 6 v)) (hr : F 8 (o v j) = F 8 v ∧ F 13 (F 8 v) = 1 ∧ mk v j = 1 ∧ F 9 (o v j) = j ∧ F 9 v ≠ j ∧ gi_cur F (o v j) ∧ gi_cur F v ∧ F 0 v = 1 ∧ F 0 (o v j) = 2 ∧ m0.2.1 = F 6 (o v j) ∧ F 4 (o v j) = j)  : gi_rj own o (gh_U (gh_U (gh_U F 3 v (F 3 v - 1)) 5 v F5) 6 v F6) mk := by
  dsimp only [gi_rj, gi_cur, gi_NR, gi_wt, gi_open, gh_Net] at *
  try simp (decide := true) only [gh_U, gh_K, gh_A_has, gh_A_cnt, gh_A_mem, false_and, true_and, and_false, or_false, if_false, if_true, and_true]
  grind (splits := 25)
theorem ra_tw {v j : Nat} (Htw : gi_tw own c) {c1 : Nat → Nat → List gh_M} {m0 : gh_M} (hj : own v j) (hT : ∀ k y e, gh_has k (c y e) ↔ gh_has k (c1 y e) ∨ (y = v ∧ e = j ∧ k = m0.1)) (hTc : ∀ k y e, gh_cnt k (c y e) = gh_cnt k (c1 y e) + if y = v ∧ e = j ∧ k = m0.1 then 1 else 0) (hTm : ∀ y e m, m ∈ c y e ↔ m ∈ c1 y e ∨ (y = v ∧ e = j ∧ m = m0)) (hTw : ¬ gh_has m0.1 (c1 v j)) (hk : m0.1 = 5) (h4 : j ≠ F 4 v) (F6 F5 : Nat) (hB : (F5 = F 5 v ∧ F6 = F 6 v ∧ ¬ m0.2.1 < F 6 v) ∨ (F5 = j ∧ F6 = m0.2.1 ∧ m0.2.1 < F 6 v)) (hr : F 8 (o v j) = F 8 v ∧ F 13 (F 8 v) = 1 ∧ mk v j = 1 ∧ F 9 (o v j) = j ∧ F 9 v ≠ j ∧ gi_cur F (o v j) ∧ gi_cur F v ∧ F 0 v = 1 ∧ F 0 (o v j) = 2 ∧ m0.2.1 = F 6 (o v j) ∧ F 4 (o v j) = j)  : gi_tw own c1 := by
  dsimp only [gi_tw, gi_cur, gi_NR, gi_wt, gi_open, gh_Net] at *
  try simp (decide := true) only [gh_U, gh_K, gh_A_has, gh_A_cnt, gh_A_mem, false_and, true_and, and_false, or_false, if_false, if_true, and_true]
  grind (splits := 25)
theorem ra_ts {v j : Nat} (Hts : gi_ts own o F c) {c1 : Nat → Nat → List gh_M} {m0 : gh_M} (hj : own v j) (hT : ∀ k y e, gh_has k (c y e) ↔ gh_has k (c1 y e) ∨ (y = v ∧ e = j ∧ k = m0.1)) (hTc : ∀ k y e, gh_cnt k (c y e) = gh_cnt k (c1 y e) + if y = v ∧ e = j ∧ k = m0.1 then 1 else 0) (hTm : ∀ y e m, m ∈ c y e ↔ m ∈ c1 y e ∨ (y = v ∧ e = j ∧ m = m0)) (hTw : ¬ gh_has m0.1 (c1 v j)) (hk : m0.1 = 5) (h4 : j ≠ F 4 v) (F6 F5 : Nat) (hB : (F5 = F 5 v ∧ F6 = F 6 v ∧ ¬ m0.2.1 < F 6 v) ∨ (F5 = j ∧ F6 = m0.2.1 ∧ m0.2.1 < F 6 v)) (hr : F 8 (o v j) = F 8 v ∧ F 13 (F 8 v) = 1 ∧ mk v j = 1 ∧ F 9 (o v j) = j ∧ F 9 v ≠ j ∧ gi_cur F (o v j) ∧ gi_cur F v ∧ F 0 v = 1 ∧ F 0 (o v j) = 2 ∧ m0.2.1 = F 6 (o v j) ∧ F 4 (o v j) = j)  : gi_ts own o (gh_U (gh_U (gh_U F 3 v (F 3 v - 1)) 5 v F5) 6 v F6) c1 := by
  dsimp only [gi_ts, gi_cur, gi_NR, gi_wt, gi_open, gh_Net] at *
  try simp (decide := true) only [gh_U, gh_K, gh_A_has, gh_A_cnt, gh_A_mem, false_and, true_and, and_false, or_false, if_false, if_true, and_true]
  grind (splits := 25)
theorem ra_sz {v j : Nat} (Hsz : gi_sz F) {c1 : Nat → Nat → List gh_M} {m0 : gh_M} (hj : own v j) (hT : ∀ k y e, gh_has k (c y e) ↔ gh_has k (c1 y e) ∨ (y = v ∧ e = j ∧ k = m0.1)) (hTc : ∀ k y e, gh_cnt k (c y e) = gh_cnt k (c1 y e) + if y = v ∧ e = j ∧ k = m0.1 then 1 else 0) (hTm : ∀ y e m, m ∈ c y e ↔ m ∈ c1 y e ∨ (y = v ∧ e = j ∧ m = m0)) (hTw : ¬ gh_has m0.1 (c1 v j)) (hk : m0.1 = 5) (h4 : j ≠ F 4 v) (F6 F5 : Nat) (hB : (F5 = F 5 v ∧ F6 = F 6 v ∧ ¬ m0.2.1 < F 6 v) ∨ (F5 = j ∧ F6 = m0.2.1 ∧ m0.2.1 < F 6 v)) (hr : F 8 (o v j) = F 8 v ∧ F 13 (F 8 v) = 1 ∧ mk v j = 1 ∧ F 9 (o v j) = j ∧ F 9 v ≠ j ∧ gi_cur F (o v j) ∧ gi_cur F v ∧ F 0 v = 1 ∧ F 0 (o v j) = 2 ∧ m0.2.1 = F 6 (o v j) ∧ F 4 (o v j) = j)  : gi_sz (gh_U (gh_U (gh_U F 3 v (F 3 v - 1)) 5 v F5) 6 v F6) := by
  dsimp only [gi_sz, gi_cur, gi_NR, gi_wt, gi_open, gh_Net] at *
  try simp (decide := true) only [gh_U, gh_K, gh_A_has, gh_A_cnt, gh_A_mem, false_and, true_and, and_false, or_false, if_false, if_true, and_true]
  grind (splits := 25)
theorem ra_mi {v j : Nat}  {c1 : Nat → Nat → List gh_M} {m0 : gh_M} (hj : own v j) (hT : ∀ k y e, gh_has k (c y e) ↔ gh_has k (c1 y e) ∨ (y = v ∧ e = j ∧ k = m0.1)) (hTc : ∀ k y e, gh_cnt k (c y e) = gh_cnt k (c1 y e) + if y = v ∧ e = j ∧ k = m0.1 then 1 else 0) (hTm : ∀ y e m, m ∈ c y e ↔ m ∈ c1 y e ∨ (y = v ∧ e = j ∧ m = m0)) (hTw : ¬ gh_has m0.1 (c1 v j)) (hk : m0.1 = 5) (h4 : j ≠ F 4 v) (F6 F5 : Nat) (hB : (F5 = F 5 v ∧ F6 = F 6 v ∧ ¬ m0.2.1 < F 6 v) ∨ (F5 = j ∧ F6 = m0.2.1 ∧ m0.2.1 < F 6 v)) (hr : F 8 (o v j) = F 8 v ∧ F 13 (F 8 v) = 1 ∧ mk v j = 1 ∧ F 9 (o v j) = j ∧ F 9 v ≠ j ∧ gi_cur F (o v j) ∧ gi_cur F v ∧ F 0 v = 1 ∧ F 0 (o v j) = 2 ∧ m0.2.1 = F 6 (o v j) ∧ F 4 (o v j) = j)  {x y e a : Nat} {m : gh_M} (hx : o y e = x) (hy : own y e) (hm : m ∈ c1 y e) (ha : F 1 y ≤ a) (hb : ¬ gh_has 1 (c y e) → a = F 1 y)  (h : gm_i own o w F mk c x y e a m) : gm_i own o w (gh_U (gh_U (gh_U F 3 v (F 3 v - 1)) 5 v F5) 6 v F6) mk c1 x y e a m := by
  have hh : ∀ k, m.1 = k → gh_has k (c1 y e) := fun k hk => ⟨m, hm, hk⟩
  dsimp only [gm_i, gi_cur, gi_NR, gi_wt, gi_open, gh_Net] at *
  try simp (decide := true) only [gh_U, gh_K, gh_A_has, gh_A_cnt, gh_A_mem, false_and, true_and, and_false, or_false, if_false, if_true, and_true]
  grind (splits := 25)
theorem ra_mc {v j : Nat}  {c1 : Nat → Nat → List gh_M} {m0 : gh_M} (hj : own v j) (hT : ∀ k y e, gh_has k (c y e) ↔ gh_has k (c1 y e) ∨ (y = v ∧ e = j ∧ k = m0.1)) (hTc : ∀ k y e, gh_cnt k (c y e) = gh_cnt k (c1 y e) + if y = v ∧ e = j ∧ k = m0.1 then 1 else 0) (hTm : ∀ y e m, m ∈ c y e ↔ m ∈ c1 y e ∨ (y = v ∧ e = j ∧ m = m0)) (hTw : ¬ gh_has m0.1 (c1 v j)) (hk : m0.1 = 5) (h4 : j ≠ F 4 v) (F6 F5 : Nat) (hB : (F5 = F 5 v ∧ F6 = F 6 v ∧ ¬ m0.2.1 < F 6 v) ∨ (F5 = j ∧ F6 = m0.2.1 ∧ m0.2.1 < F 6 v)) (hr : F 8 (o v j) = F 8 v ∧ F 13 (F 8 v) = 1 ∧ mk v j = 1 ∧ F 9 (o v j) = j ∧ F 9 v ≠ j ∧ gi_cur F (o v j) ∧ gi_cur F v ∧ F 0 v = 1 ∧ F 0 (o v j) = 2 ∧ m0.2.1 = F 6 (o v j) ∧ F 4 (o v j) = j)  {x y e a : Nat} {m : gh_M} (hx : o y e = x) (hy : own y e) (hm : m ∈ c1 y e) (ha : F 1 y ≤ a) (hb : ¬ gh_has 1 (c y e) → a = F 1 y)  (h : gm_c own o w F mk c x y e a m) : gm_c own o w (gh_U (gh_U (gh_U F 3 v (F 3 v - 1)) 5 v F5) 6 v F6) mk c1 x y e a m := by
  have hh : ∀ k, m.1 = k → gh_has k (c1 y e) := fun k hk => ⟨m, hm, hk⟩
  dsimp only [gm_c, gi_cur, gi_NR, gi_wt, gi_open, gh_Net] at *
  try simp (decide := true) only [gh_U, gh_K, gh_A_has, gh_A_cnt, gh_A_mem, false_and, true_and, and_false, or_false, if_false, if_true, and_true]
  grind (splits := 25)
theorem ra_mt {v j : Nat}  {c1 : Nat → Nat → List gh_M} {m0 : gh_M} (hj : own v j) (hT : ∀ k y e, gh_has k (c y e) ↔ gh_has k (c1 y e) ∨ (y = v ∧ e = j ∧ k = m0.1)) (hTc : ∀ k y e, gh_cnt k (c y e) = gh_cnt k (c1 y e) + if y = v ∧ e = j ∧ k = m0.1 then 1 else 0) (hTm : ∀ y e m, m ∈ c y e ↔ m ∈ c1 y e ∨ (y = v ∧ e = j ∧ m = m0)) (hTw : ¬ gh_has m0.1 (c1 v j)) (hk : m0.1 = 5) (h4 : j ≠ F 4 v) (F6 F5 : Nat) (hB : (F5 = F 5 v ∧ F6 = F 6 v ∧ ¬ m0.2.1 < F 6 v) ∨ (F5 = j ∧ F6 = m0.2.1 ∧ m0.2.1 < F 6 v)) (hr : F 8 (o v j) = F 8 v ∧ F 13 (F 8 v) = 1 ∧ mk v j = 1 ∧ F 9 (o v j) = j ∧ F 9 v ≠ j ∧ gi_cur F (o v j) ∧ gi_cur F v ∧ F 0 v = 1 ∧ F 0 (o v j) = 2 ∧ m0.2.1 = F 6 (o v j) ∧ F 4 (o v j) = j)  {x y e a : Nat} {m : gh_M} (hx : o y e = x) (hy : own y e) (hm : m ∈ c1 y e) (ha : F 1 y ≤ a) (hb : ¬ gh_has 1 (c y e) → a = F 1 y)  (h : gm_t own o w F mk c x y e a m) : gm_t own o w (gh_U (gh_U (gh_U F 3 v (F 3 v - 1)) 5 v F5) 6 v F6) mk c1 x y e a m := by
  have hh : ∀ k, m.1 = k → gh_has k (c1 y e) := fun k hk => ⟨m, hm, hk⟩
  dsimp only [gm_t, gi_cur, gi_NR, gi_wt, gi_open, gh_Net] at *
  try simp (decide := true) only [gh_U, gh_K, gh_A_has, gh_A_cnt, gh_A_mem, false_and, true_and, and_false, or_false, if_false, if_true, and_true]
  grind (splits := 25)
theorem ra_ma {v j : Nat}  {c1 : Nat → Nat → List gh_M} {m0 : gh_M} (hj : own v j) (hT : ∀ k y e, gh_has k (c y e) ↔ gh_has k (c1 y e) ∨ (y = v ∧ e = j ∧ k = m0.1)) (hTc : ∀ k y e, gh_cnt k (c y e) = gh_cnt k (c1 y e) + if y = v ∧ e = j ∧ k = m0.1 then 1 else 0) (hTm : ∀ y e m, m ∈ c y e ↔ m ∈ c1 y e ∨ (y = v ∧ e = j ∧ m = m0)) (hTw : ¬ gh_has m0.1 (c1 v j)) (hk : m0.1 = 5) (h4 : j ≠ F 4 v) (F6 F5 : Nat) (hB : (F5 = F 5 v ∧ F6 = F 6 v ∧ ¬ m0.2.1 < F 6 v) ∨ (F5 = j ∧ F6 = m0.2.1 ∧ m0.2.1 < F 6 v)) (hr : F 8 (o v j) = F 8 v ∧ F 13 (F 8 v) = 1 ∧ mk v j = 1 ∧ F 9 (o v j) = j ∧ F 9 v ≠ j ∧ gi_cur F (o v j) ∧ gi_cur F v ∧ F 0 v = 1 ∧ F 0 (o v j) = 2 ∧ m0.2.1 = F 6 (o v j) ∧ F 4 (o v j) = j)  {x y e a : Nat} {m : gh_M} (hx : o y e = x) (hy : own y e) (hm : m ∈ c1 y e) (ha : F 1 y ≤ a) (hb : ¬ gh_has 1 (c y e) → a = F 1 y)  (h : gm_a own o w F mk c x y e a m) : gm_a own o w (gh_U (gh_U (gh_U F 3 v (F 3 v - 1)) 5 v F5) 6 v F6) mk c1 x y e a m := by
  have hh : ∀ k, m.1 = k → gh_has k (c1 y e) := fun k hk => ⟨m, hm, hk⟩
  dsimp only [gm_a, gi_cur, gi_NR, gi_wt, gi_open, gh_Net] at *
  try simp (decide := true) only [gh_U, gh_K, gh_A_has, gh_A_cnt, gh_A_mem, false_and, true_and, and_false, or_false, if_false, if_true, and_true]
  grind (splits := 25)
theorem ra_mr {v j : Nat}  {c1 : Nat → Nat → List gh_M} {m0 : gh_M} (hj : own v j) (hT : ∀ k y e, gh_has k (c y e) ↔ gh_has k (c1 y e) ∨ (y = v ∧ e = j ∧ k = m0.1)) (hTc : ∀ k y e, gh_cnt k (c y e) = gh_cnt k (c1 y e) + if y = v ∧ e = j ∧ k = m0.1 then 1 else 0) (hTm : ∀ y e m, m ∈ c y e ↔ m ∈ c1 y e ∨ (y = v ∧ e = j ∧ m = m0)) (hTw : ¬ gh_has m0.1 (c1 v j)) (hk : m0.1 = 5) (h4 : j ≠ F 4 v) (F6 F5 : Nat) (hB : (F5 = F 5 v ∧ F6 = F 6 v ∧ ¬ m0.2.1 < F 6 v) ∨ (F5 = j ∧ F6 = m0.2.1 ∧ m0.2.1 < F 6 v)) (hr : F 8 (o v j) = F 8 v ∧ F 13 (F 8 v) = 1 ∧ mk v j = 1 ∧ F 9 (o v j) = j ∧ F 9 v ≠ j ∧ gi_cur F (o v j) ∧ gi_cur F v ∧ F 0 v = 1 ∧ F 0 (o v j) = 2 ∧ m0.2.1 = F 6 (o v j) ∧ F 4 (o v j) = j)  {x y e a : Nat} {m : gh_M} (hx : o y e = x) (hy : own y e) (hm : m ∈ c1 y e) (ha : F 1 y ≤ a) (hb : ¬ gh_has 1 (c y e) → a = F 1 y)  (h : gm_r own o w F mk c x y e a m) : gm_r own o w (gh_U (gh_U (gh_U F 3 v (F 3 v - 1)) 5 v F5) 6 v F6) mk c1 x y e a m := by
  have hh : ∀ k, m.1 = k → gh_has k (c1 y e) := fun k hk => ⟨m, hm, hk⟩
  dsimp only [gm_r, gi_cur, gi_NR, gi_wt, gi_open, gh_Net] at *
  try simp (decide := true) only [gh_U, gh_K, gh_A_has, gh_A_cnt, gh_A_mem, false_and, true_and, and_false, or_false, if_false, if_true, and_true]
  grind (splits := 25)
theorem ra_mk {v j : Nat}  {c1 : Nat → Nat → List gh_M} {m0 : gh_M} (hj : own v j) (hT : ∀ k y e, gh_has k (c y e) ↔ gh_has k (c1 y e) ∨ (y = v ∧ e = j ∧ k = m0.1)) (hTc : ∀ k y e, gh_cnt k (c y e) = gh_cnt k (c1 y e) + if y = v ∧ e = j ∧ k = m0.1 then 1 else 0) (hTm : ∀ y e m, m ∈ c y e ↔ m ∈ c1 y e ∨ (y = v ∧ e = j ∧ m = m0)) (hTw : ¬ gh_has m0.1 (c1 v j)) (hk : m0.1 = 5) (h4 : j ≠ F 4 v) (F6 F5 : Nat) (hB : (F5 = F 5 v ∧ F6 = F 6 v ∧ ¬ m0.2.1 < F 6 v) ∨ (F5 = j ∧ F6 = m0.2.1 ∧ m0.2.1 < F 6 v)) (hr : F 8 (o v j) = F 8 v ∧ F 13 (F 8 v) = 1 ∧ mk v j = 1 ∧ F 9 (o v j) = j ∧ F 9 v ≠ j ∧ gi_cur F (o v j) ∧ gi_cur F v ∧ F 0 v = 1 ∧ F 0 (o v j) = 2 ∧ m0.2.1 = F 6 (o v j) ∧ F 4 (o v j) = j)  {x y e a : Nat} {m : gh_M} (hx : o y e = x) (hy : own y e) (hm : m ∈ c1 y e) (ha : F 1 y ≤ a) (hb : ¬ gh_has 1 (c y e) → a = F 1 y)  (h : gm_k own o w F mk c x y e a m) : gm_k own o w (gh_U (gh_U (gh_U F 3 v (F 3 v - 1)) 5 v F5) 6 v F6) mk c1 x y e a m := by
  have hh : ∀ k, m.1 = k → gh_has k (c1 y e) := fun k hk => ⟨m, hm, hk⟩
  dsimp only [gm_k, gi_cur, gi_NR, gi_wt, gi_open, gh_Net] at *
  try simp (decide := true) only [gh_U, gh_K, gh_A_has, gh_A_cnt, gh_A_mem, false_and, true_and, and_false, or_false, if_false, if_true, and_true]
  grind (splits := 25)
theorem ra_mp {v j : Nat}  {c1 : Nat → Nat → List gh_M} {m0 : gh_M} (hj : own v j) (hT : ∀ k y e, gh_has k (c y e) ↔ gh_has k (c1 y e) ∨ (y = v ∧ e = j ∧ k = m0.1)) (hTc : ∀ k y e, gh_cnt k (c y e) = gh_cnt k (c1 y e) + if y = v ∧ e = j ∧ k = m0.1 then 1 else 0) (hTm : ∀ y e m, m ∈ c y e ↔ m ∈ c1 y e ∨ (y = v ∧ e = j ∧ m = m0)) (hTw : ¬ gh_has m0.1 (c1 v j)) (hk : m0.1 = 5) (h4 : j ≠ F 4 v) (F6 F5 : Nat) (hB : (F5 = F 5 v ∧ F6 = F 6 v ∧ ¬ m0.2.1 < F 6 v) ∨ (F5 = j ∧ F6 = m0.2.1 ∧ m0.2.1 < F 6 v)) (hr : F 8 (o v j) = F 8 v ∧ F 13 (F 8 v) = 1 ∧ mk v j = 1 ∧ F 9 (o v j) = j ∧ F 9 v ≠ j ∧ gi_cur F (o v j) ∧ gi_cur F v ∧ F 0 v = 1 ∧ F 0 (o v j) = 2 ∧ m0.2.1 = F 6 (o v j) ∧ F 4 (o v j) = j)  {x y e a : Nat} {m : gh_M} (hx : o y e = x) (hy : own y e) (hm : m ∈ c1 y e) (ha : F 1 y ≤ a) (hb : ¬ gh_has 1 (c y e) → a = F 1 y)  (h : gm_p own o w F mk c x y e a m) : gm_p own o w (gh_U (gh_U (gh_U F 3 v (F 3 v - 1)) 5 v F5) 6 v F6) mk c1 x y e a m := by
  have hh : ∀ k, m.1 = k → gh_has k (c1 y e) := fun k hk => ⟨m, hm, hk⟩
  dsimp only [gm_p, gi_cur, gi_NR, gi_wt, gi_open, gh_Net] at *
  try simp (decide := true) only [gh_U, gh_K, gh_A_has, gh_A_cnt, gh_A_mem, false_and, true_and, and_false, or_false, if_false, if_true, and_true]
  grind (splits := 25)
theorem ra_I {v j : Nat} (Hn : gh_Net own o w) (h : gI own o w F mk c) {m0 : gh_M} {t : List gh_M} (hj : own v j) (hc : c v j = m0 :: t) (hk : m0.1 = 5) (h4 : j ≠ F 4 v) (F6 F5 : Nat) (hB : (F5 = F 5 v ∧ F6 = F 6 v ∧ ¬ m0.2.1 < F 6 v) ∨ (F5 = j ∧ F6 = m0.2.1 ∧ m0.2.1 < F 6 v))  : gI own o w (gh_U (gh_U (gh_U F 3 v (F 3 v - 1)) 5 v F5) 6 v F6) mk (gh_T c v j) := by
  obtain ⟨Hst, Hb1, Hb2, Hb3, Hb4, Hb5, Hb6, Hs0, HpA, Hs1, Hs2, HSl, Hs3, Hs4, How, Hs5, Hs6, HSr, HSn, HM, HC, Hph, H6, H7, Hbc, HK, Hrj, Htw, Hts, Han, Hsz, Hch⟩ := h
  have Xi := gx_iI Hch
  have Xc := gx_cI Hch
  have Xt := gx_tI Hch
  have Xa := gx_aI Hch
  have Xr := gx_rI Hch
  have Xk := gx_kI Hch
  have Xp := gx_pI Hch
  have Xl := gx_lI Hch
  have Xb := gx_bI Hch
  have Xn := gx_nI Hn Hph HpA HSr HSn HM HC
  have hT := gp_T hc
  have hTc := gp_C hc
  have hTm := gp_M hc
  have hTw := gp_W hc Htw hj (by omega)
  have hd0 := gi_hd Hch hj hc
  have hr : F 8 (o v j) = F 8 v ∧ F 13 (F 8 v) = 1 ∧ mk v j = 1 ∧ F 9 (o v j) = j ∧ F 9 v ≠ j ∧ gi_cur F (o v j) ∧ gi_cur F v ∧ F 0 v = 1 ∧ F 0 (o v j) = 2 ∧ m0.2.1 = F 6 (o v j) ∧ F 4 (o v j) = j := by
    have a0 := hd0.2.2.2.2.2.2.2 hk
    have a1 := Hn.1 v j hj
    have a2 := Hs5 v
    have a3 := Hs5 (o v j)
    have a4 := HSr (o v j)
    have a5 := Hs6 (o v j)
    have a6 := HSr v
    have a7 := HSl v
    have a8 := Hs6 v
    have a9 := HK (o v j) j v
    have c1 := Hn.2.2 v v j (F 9 v) hj
    unfold gi_cur at *
    rcases a0.2 with q | q | q
    · grind
    · exfalso
      obtain ⟨y, e, r1, r2, r3, r4, r5, r6⟩ := Hb6 v (by grind)
      have b2 : e = j := Hn.2.2 y v e j r1 hj (by grind)
      subst b2
      have b3 := Hn.2.1 v y e hj r1
      have b4 := HK v e (o v e) hj rfl
      clear Hst Hb1 Hb2 Hb3 Hb4 Hb5 Hb6 Hs0 HpA Hs1 Hs2 HSl Hs3 Hs4 How Hs5 Hs6 HSr HSn HM HC Hph H6 H7 Hbc HK Hrj Htw Hts Han Hsz Hch Xi Xc Xt Xa Xr Xk Xp Xl Xb Xn hT hTc hTm Hn hd0
      unfold gi_cur at *
      grind
    · grind
  refine ⟨ra_st (c1 := gh_T c v j) Hst hj hT hTc hTm hTw hk h4 F6 F5 hB hr, ra_b1 (c1 := gh_T c v j) Hb1 hj hT hTc hTm hTw hk h4 F6 F5 hB hr, ra_b2 (c1 := gh_T c v j) Hb2 hj hT hTc hTm hTw hk h4 F6 F5 hB hr, ra_b3 (c1 := gh_T c v j) Hb3 hj hT hTc hTm hTw hk h4 F6 F5 hB hr, ra_b4 (c1 := gh_T c v j) Hb4 hj hT hTc hTm hTw hk h4 F6 F5 hB hr, ra_b5 (c1 := gh_T c v j) Hb5 hj hT hTc hTm hTw hk h4 F6 F5 hB hr, ra_b6 (c1 := gh_T c v j) Hb6 hj hT hTc hTm hTw hk h4 F6 F5 hB hr, ra_s0 (c1 := gh_T c v j) Hs0 hj hT hTc hTm hTw hk h4 F6 F5 hB hr, ra_pA (c1 := gh_T c v j) HpA hj hT hTc hTm hTw hk h4 F6 F5 hB hr, ra_s1 (c1 := gh_T c v j) Hs1 hj hT hTc hTm hTw hk h4 F6 F5 hB hr, ra_s2 (c1 := gh_T c v j) Hs2 hj hT hTc hTm hTw hk h4 F6 F5 hB hr, ra_Sl (c1 := gh_T c v j) HSl hj hT hTc hTm hTw hk h4 F6 F5 hB hr, ra_s3 (c1 := gh_T c v j) Hs3 hj hT hTc hTm hTw hk h4 F6 F5 hB hr, ra_s4 (c1 := gh_T c v j) Hs4 Hn hj hT hTc hTm hTw hk h4 F6 F5 hB hr, ra_ow (c1 := gh_T c v j) How Hn hj hT hTc hTm hTw hk h4 F6 F5 hB hr, ra_s5 (c1 := gh_T c v j) Hs5 hj hT hTc hTm hTw hk h4 F6 F5 hB hr, ra_s6 (c1 := gh_T c v j) Hs6 hj hT hTc hTm hTw hk h4 F6 F5 hB hr, ra_Sr (c1 := gh_T c v j) HSr hj hT hTc hTm hTw hk h4 F6 F5 hB hr, ra_Sn (c1 := gh_T c v j) HSn hj hT hTc hTm hTw hk h4 F6 F5 hB hr, ra_M (c1 := gh_T c v j) HM Hn hj hT hTc hTm hTw hk h4 F6 F5 hB hr, ra_C (c1 := gh_T c v j) HC hj hT hTc hTm hTw hk h4 F6 F5 hB hr, ra_ph (c1 := gh_T c v j) Hph hj hT hTc hTm hTw hk h4 F6 F5 hB hr, ra_6 (c1 := gh_T c v j) H6 hj hT hTc hTm hTw hk h4 F6 F5 hB hr, ra_7 (c1 := gh_T c v j) H7 hj hT hTc hTm hTw hk h4 F6 F5 hB hr, ra_bc (c1 := gh_T c v j) Hbc Hn hj hT hTc hTm hTw hk h4 F6 F5 hB hr, ra_K (c1 := gh_T c v j) HK hj hT hTc hTm hTw hk h4 F6 F5 hB hr, ra_rj (c1 := gh_T c v j) Hrj hj hT hTc hTm hTw hk h4 F6 F5 hB hr, ra_tw (c1 := gh_T c v j) Htw hj hT hTc hTm hTw hk h4 F6 F5 hB hr, ra_ts (c1 := gh_T c v j) Hts hj hT hTc hTm hTw hk h4 F6 F5 hB hr, ra_an (c1 := gh_T c v j) Han Hn hj hT hTc hTm hTw hk h4 F6 F5 hB hr, ra_sz (c1 := gh_T c v j) Hsz hj hT hTc hTm hTw hk h4 F6 F5 hB hr, ?_⟩
  have K1 : gi_all own (gh_U (gh_U (gh_U F 3 v (F 3 v - 1)) 5 v F5) 6 v F6) (gh_T c v j) (fun y e => gi_m own o w (gh_U (gh_U (gh_U F 3 v (F 3 v - 1)) 5 v F5) 6 v F6) mk (gh_T c v j) (o y e) y e) := gi_all_go (gi_all_popT Hch hc (by omega)) (fun y e q => (hT 1 y e).mpr (Or.inl q)) (fun y => (by simp [gh_U])) (fun y e a m hy hm ha hb q => ⟨q.1, ra_mi  hj hT hTc hTm hTw hk h4 F6 F5 hB hr rfl hy hm ha hb q.2.1, ra_mc  hj hT hTc hTm hTw hk h4 F6 F5 hB hr rfl hy hm ha hb q.2.2.1, ra_mt  hj hT hTc hTm hTw hk h4 F6 F5 hB hr rfl hy hm ha hb q.2.2.2.1, ra_ma  hj hT hTc hTm hTw hk h4 F6 F5 hB hr rfl hy hm ha hb q.2.2.2.2.1, ra_mr  hj hT hTc hTm hTw hk h4 F6 F5 hB hr rfl hy hm ha hb q.2.2.2.2.2.1, ra_mk  hj hT hTc hTm hTw hk h4 F6 F5 hB hr rfl hy hm ha hb q.2.2.2.2.2.2.1, ra_mp  hj hT hTc hTm hTw hk h4 F6 F5 hB hr rfl hy hm ha hb q.2.2.2.2.2.2.2⟩)
  exact K1
end
section
variable {own : Nat → Nat → Prop} {o : Nat → Nat → Nat} {w : Nat → Nat} {F : gh_F} {mk : Nat → Nat → Nat} {c : Nat → Nat → List gh_M}
theorem kd_an {v j : Nat} (Han : gi_an own o F mk c) {c1 : Nat → Nat → List gh_M} {m0 : gh_M} (hj : own v j) (hT : ∀ k y e, gh_has k (c y e) ↔ gh_has k (c1 y e) ∨ (y = v ∧ e = j ∧ k = m0.1)) (hTc : ∀ k y e, gh_cnt k (c y e) = gh_cnt k (c1 y e) + if y = v ∧ e = j ∧ k = m0.1 then 1 else 0) (hTm : ∀ y e m, m ∈ c y e ↔ m ∈ c1 y e ∨ (y = v ∧ e = j ∧ m = m0)) (hTw : ¬ gh_has m0.1 (c1 v j)) (hk : m0.1 = 6)  : gi_an own o F mk c1 := by
  intro x hx
  obtain ⟨l, l1, l2, l3⟩ := Han x hx
  refine ⟨l, l1, l2, fun e => (l3 e).trans ?_⟩
  have a1 := hT 5 x e
  
  clear Han l3
  dsimp only [gi_open, gi_cur] at *
  try simp (decide := true) only [gh_U, gh_K, gh_A_has, gh_A_cnt, gh_A_mem, false_and, true_and, and_false, or_false, if_false, if_true, and_true]
  grind
theorem kd_Sr {v j : Nat} (HSr : gi_Sr o w F c) {c1 : Nat → Nat → List gh_M} {m0 : gh_M} (hj : own v j) (hT : ∀ k y e, gh_has k (c y e) ↔ gh_has k (c1 y e) ∨ (y = v ∧ e = j ∧ k = m0.1)) (hTc : ∀ k y e, gh_cnt k (c y e) = gh_cnt k (c1 y e) + if y = v ∧ e = j ∧ k = m0.1 then 1 else 0) (hTm : ∀ y e m, m ∈ c y e ↔ m ∈ c1 y e ∨ (y = v ∧ e = j ∧ m = m0)) (hTw : ¬ gh_has m0.1 (c1 v j)) (hk : m0.1 = 6)  : gi_Sr o w F c1 := by
  intro x h1 h2
  obtain ⟨a1, a2, a3⟩ := HSr x h1 h2
  refine ⟨a1, a2, fun hc => ⟨(a3 hc).1, ?_⟩⟩
  rcases (a3 hc).2 with z | ⟨m, m1, m2, m3⟩
  · refine Or.inl ?_
    have b1 := hT 0 (o x (F 9 x)) (F 9 x)
    clear HSr a3
    try simp (decide := true) only [gh_U, gh_K, gh_A_has, gh_A_cnt, gh_A_mem, false_and, true_and, and_false, or_false, if_false, if_true, and_true]
    grind
  · refine Or.inr ⟨m, ?_, m2, m3⟩
    have b1 := hTm x (F 9 x) m
    clear HSr a3
    try simp (decide := true) only [gh_U, gh_K, gh_A_has, gh_A_cnt, gh_A_mem, false_and, true_and, and_false, or_false, if_false, if_true, and_true]
    grind
theorem kd_st {v j : Nat} (Hst : gi_st F) {c1 : Nat → Nat → List gh_M} {m0 : gh_M} (hj : own v j) (hT : ∀ k y e, gh_has k (c y e) ↔ gh_has k (c1 y e) ∨ (y = v ∧ e = j ∧ k = m0.1)) (hTc : ∀ k y e, gh_cnt k (c y e) = gh_cnt k (c1 y e) + if y = v ∧ e = j ∧ k = m0.1 then 1 else 0) (hTm : ∀ y e m, m ∈ c y e ↔ m ∈ c1 y e ∨ (y = v ∧ e = j ∧ m = m0)) (hTw : ¬ gh_has m0.1 (c1 v j)) (hk : m0.1 = 6)  : gi_st F := by
  dsimp only [gi_st, gi_cur, gi_NR, gi_wt, gi_open, gh_Net] at *
  try simp (decide := true) only [gh_U, gh_K, gh_A_has, gh_A_cnt, gh_A_mem, false_and, true_and, and_false, or_false, if_false, if_true, and_true]
  grind (splits := 25)
theorem kd_b1 {v j : Nat} (Hb1 : gi_b1 F) {c1 : Nat → Nat → List gh_M} {m0 : gh_M} (hj : own v j) (hT : ∀ k y e, gh_has k (c y e) ↔ gh_has k (c1 y e) ∨ (y = v ∧ e = j ∧ k = m0.1)) (hTc : ∀ k y e, gh_cnt k (c y e) = gh_cnt k (c1 y e) + if y = v ∧ e = j ∧ k = m0.1 then 1 else 0) (hTm : ∀ y e m, m ∈ c y e ↔ m ∈ c1 y e ∨ (y = v ∧ e = j ∧ m = m0)) (hTw : ¬ gh_has m0.1 (c1 v j)) (hk : m0.1 = 6)  : gi_b1 F := by
  dsimp only [gi_b1, gi_cur, gi_NR, gi_wt, gi_open, gh_Net] at *
  try simp (decide := true) only [gh_U, gh_K, gh_A_has, gh_A_cnt, gh_A_mem, false_and, true_and, and_false, or_false, if_false, if_true, and_true]
  grind (splits := 25)
theorem kd_b2 {v j : Nat} (Hb2 : gi_b2 F) {c1 : Nat → Nat → List gh_M} {m0 : gh_M} (hj : own v j) (hT : ∀ k y e, gh_has k (c y e) ↔ gh_has k (c1 y e) ∨ (y = v ∧ e = j ∧ k = m0.1)) (hTc : ∀ k y e, gh_cnt k (c y e) = gh_cnt k (c1 y e) + if y = v ∧ e = j ∧ k = m0.1 then 1 else 0) (hTm : ∀ y e m, m ∈ c y e ↔ m ∈ c1 y e ∨ (y = v ∧ e = j ∧ m = m0)) (hTw : ¬ gh_has m0.1 (c1 v j)) (hk : m0.1 = 6)  : gi_b2 F := by
  dsimp only [gi_b2, gi_cur, gi_NR, gi_wt, gi_open, gh_Net] at *
  try simp (decide := true) only [gh_U, gh_K, gh_A_has, gh_A_cnt, gh_A_mem, false_and, true_and, and_false, or_false, if_false, if_true, and_true]
  grind (splits := 25)
theorem kd_b3 {v j : Nat} (Hb3 : gi_b3 F) {c1 : Nat → Nat → List gh_M} {m0 : gh_M} (hj : own v j) (hT : ∀ k y e, gh_has k (c y e) ↔ gh_has k (c1 y e) ∨ (y = v ∧ e = j ∧ k = m0.1)) (hTc : ∀ k y e, gh_cnt k (c y e) = gh_cnt k (c1 y e) + if y = v ∧ e = j ∧ k = m0.1 then 1 else 0) (hTm : ∀ y e m, m ∈ c y e ↔ m ∈ c1 y e ∨ (y = v ∧ e = j ∧ m = m0)) (hTw : ¬ gh_has m0.1 (c1 v j)) (hk : m0.1 = 6)  : gi_b3 F := by
  dsimp only [gi_b3, gi_cur, gi_NR, gi_wt, gi_open, gh_Net] at *
  try simp (decide := true) only [gh_U, gh_K, gh_A_has, gh_A_cnt, gh_A_mem, false_and, true_and, and_false, or_false, if_false, if_true, and_true]
  grind (splits := 25)
theorem kd_b4 {v j : Nat} (Hb4 : gi_b4 F) {c1 : Nat → Nat → List gh_M} {m0 : gh_M} (hj : own v j) (hT : ∀ k y e, gh_has k (c y e) ↔ gh_has k (c1 y e) ∨ (y = v ∧ e = j ∧ k = m0.1)) (hTc : ∀ k y e, gh_cnt k (c y e) = gh_cnt k (c1 y e) + if y = v ∧ e = j ∧ k = m0.1 then 1 else 0) (hTm : ∀ y e m, m ∈ c y e ↔ m ∈ c1 y e ∨ (y = v ∧ e = j ∧ m = m0)) (hTw : ¬ gh_has m0.1 (c1 v j)) (hk : m0.1 = 6)  : gi_b4 F := by
  dsimp only [gi_b4, gi_cur, gi_NR, gi_wt, gi_open, gh_Net] at *
  try simp (decide := true) only [gh_U, gh_K, gh_A_has, gh_A_cnt, gh_A_mem, false_and, true_and, and_false, or_false, if_false, if_true, and_true]
  grind (splits := 25)
theorem kd_b5 {v j : Nat} (Hb5 : gi_b5 own o w F) {c1 : Nat → Nat → List gh_M} {m0 : gh_M} (hj : own v j) (hT : ∀ k y e, gh_has k (c y e) ↔ gh_has k (c1 y e) ∨ (y = v ∧ e = j ∧ k = m0.1)) (hTc : ∀ k y e, gh_cnt k (c y e) = gh_cnt k (c1 y e) + if y = v ∧ e = j ∧ k = m0.1 then 1 else 0) (hTm : ∀ y e m, m ∈ c y e ↔ m ∈ c1 y e ∨ (y = v ∧ e = j ∧ m = m0)) (hTw : ¬ gh_has m0.1 (c1 v j)) (hk : m0.1 = 6)  : gi_b5 own o w F := by
  dsimp only [gi_b5, gi_cur, gi_NR, gi_wt, gi_open, gh_Net] at *
  try simp (decide := true) only [gh_U, gh_K, gh_A_has, gh_A_cnt, gh_A_mem, false_and, true_and, and_false, or_false, if_false, if_true, and_true]
  grind (splits := 25)
theorem kd_b6 {v j : Nat} (Hb6 : gi_b6 own o w F mk) {c1 : Nat → Nat → List gh_M} {m0 : gh_M} (hj : own v j) (hT : ∀ k y e, gh_has k (c y e) ↔ gh_has k (c1 y e) ∨ (y = v ∧ e = j ∧ k = m0.1)) (hTc : ∀ k y e, gh_cnt k (c y e) = gh_cnt k (c1 y e) + if y = v ∧ e = j ∧ k = m0.1 then 1 else 0) (hTm : ∀ y e m, m ∈ c y e ↔ m ∈ c1 y e ∨ (y = v ∧ e = j ∧ m = m0)) (hTw : ¬ gh_has m0.1 (c1 v j)) (hk : m0.1 = 6)  : gi_b6 own o w F mk := by
  dsimp only [gi_b6, gi_cur, gi_NR, gi_wt, gi_open, gh_Net] at *
  try simp (decide := true) only [gh_U, gh_K, gh_A_has, gh_A_cnt, gh_A_mem, false_and, true_and, and_false, or_false, if_false, if_true, and_true]
  grind (splits := 25)
theorem kd_s0 {v j : Nat} (Hs0 : gi_s0 own F mk) {c1 : Nat → Nat → List gh_M} {m0 : gh_M} (hj : own v j) (hT : ∀ k y e, gh_has k (c y e) ↔ gh_has k (c1 y e) ∨ (y = v ∧ e = j ∧ k = m0.1)) (hTc : ∀ k y e, gh_cnt k (c y e) = gh_cnt k (c1 y e) + if y = v ∧ e = j ∧ k = m0.1 then 1 else 0) (hTm : ∀ y e m, m ∈ c y e ↔ m ∈ c1 y e ∨ (y = v ∧ e = j ∧ m = m0)) (hTw : ¬ gh_has m0.1 (c1 v j)) (hk : m0.1 = 6)  : gi_s0 own F mk := by
  dsimp only [gi_s0, gi_cur, gi_NR, gi_wt, gi_open, gh_Net] at *
  try simp (decide := true) only [gh_U, gh_K, gh_A_has, gh_A_cnt, gh_A_mem, false_and, true_and, and_false, or_false, if_false, if_true, and_true]
  grind (splits := 25)
theorem kd_pA {v j : Nat} (HpA : gi_pA own F mk) {c1 : Nat → Nat → List gh_M} {m0 : gh_M} (hj : own v j) (hT : ∀ k y e, gh_has k (c y e) ↔ gh_has k (c1 y e) ∨ (y = v ∧ e = j ∧ k = m0.1)) (hTc : ∀ k y e, gh_cnt k (c y e) = gh_cnt k (c1 y e) + if y = v ∧ e = j ∧ k = m0.1 then 1 else 0) (hTm : ∀ y e m, m ∈ c y e ↔ m ∈ c1 y e ∨ (y = v ∧ e = j ∧ m = m0)) (hTw : ¬ gh_has m0.1 (c1 v j)) (hk : m0.1 = 6)  : gi_pA own F mk := by
  dsimp only [gi_pA, gi_cur, gi_NR, gi_wt, gi_open, gh_Net] at *
  try simp (decide := true) only [gh_U, gh_K, gh_A_has, gh_A_cnt, gh_A_mem, false_and, true_and, and_false, or_false, if_false, if_true, and_true]
  grind (splits := 25)
theorem kd_s1 {v j : Nat} (Hs1 : gi_s1 F) {c1 : Nat → Nat → List gh_M} {m0 : gh_M} (hj : own v j) (hT : ∀ k y e, gh_has k (c y e) ↔ gh_has k (c1 y e) ∨ (y = v ∧ e = j ∧ k = m0.1)) (hTc : ∀ k y e, gh_cnt k (c y e) = gh_cnt k (c1 y e) + if y = v ∧ e = j ∧ k = m0.1 then 1 else 0) (hTm : ∀ y e m, m ∈ c y e ↔ m ∈ c1 y e ∨ (y = v ∧ e = j ∧ m = m0)) (hTw : ¬ gh_has m0.1 (c1 v j)) (hk : m0.1 = 6)  : gi_s1 F := by
  dsimp only [gi_s1, gi_cur, gi_NR, gi_wt, gi_open, gh_Net] at *
  try simp (decide := true) only [gh_U, gh_K, gh_A_has, gh_A_cnt, gh_A_mem, false_and, true_and, and_false, or_false, if_false, if_true, and_true]
  grind (splits := 25)
theorem kd_s2 {v j : Nat} (Hs2 : gi_s2 F) {c1 : Nat → Nat → List gh_M} {m0 : gh_M} (hj : own v j) (hT : ∀ k y e, gh_has k (c y e) ↔ gh_has k (c1 y e) ∨ (y = v ∧ e = j ∧ k = m0.1)) (hTc : ∀ k y e, gh_cnt k (c y e) = gh_cnt k (c1 y e) + if y = v ∧ e = j ∧ k = m0.1 then 1 else 0) (hTm : ∀ y e m, m ∈ c y e ↔ m ∈ c1 y e ∨ (y = v ∧ e = j ∧ m = m0)) (hTw : ¬ gh_has m0.1 (c1 v j)) (hk : m0.1 = 6)  : gi_s2 F := by
  dsimp only [gi_s2, gi_cur, gi_NR, gi_wt, gi_open, gh_Net] at *
  try simp (decide := true) only [gh_U, gh_K, gh_A_has, gh_A_cnt, gh_A_mem, false_and, true_and, and_false, or_false, if_false, if_true, and_true]
  grind (splits := 25)
theorem kd_Sl {v j : Nat} (HSl : gi_Sl F) {c1 : Nat → Nat → List gh_M} {m0 : gh_M} (hj : own v j) (hT : ∀ k y e, gh_has k (c y e) ↔ gh_has k (c1 y e) ∨ (y = v ∧ e = j ∧ k = m0.1)) (hTc : ∀ k y e, gh_cnt k (c y e) = gh_cnt k (c1 y e) + if y = v ∧ e = j ∧ k = m0.1 then 1 else 0) (hTm : ∀ y e m, m ∈ c y e ↔ m ∈ c1 y e ∨ (y = v ∧ e = j ∧ m = m0)) (hTw : ¬ gh_has m0.1 (c1 v j)) (hk : m0.1 = 6)  : gi_Sl F := by
  dsimp only [gi_Sl, gi_cur, gi_NR, gi_wt, gi_open, gh_Net] at *
  try simp (decide := true) only [gh_U, gh_K, gh_A_has, gh_A_cnt, gh_A_mem, false_and, true_and, and_false, or_false, if_false, if_true, and_true]
  grind (splits := 25)
theorem kd_s3 {v j : Nat} (Hs3 : gi_s3 F) {c1 : Nat → Nat → List gh_M} {m0 : gh_M} (hj : own v j) (hT : ∀ k y e, gh_has k (c y e) ↔ gh_has k (c1 y e) ∨ (y = v ∧ e = j ∧ k = m0.1)) (hTc : ∀ k y e, gh_cnt k (c y e) = gh_cnt k (c1 y e) + if y = v ∧ e = j ∧ k = m0.1 then 1 else 0) (hTm : ∀ y e m, m ∈ c y e ↔ m ∈ c1 y e ∨ (y = v ∧ e = j ∧ m = m0)) (hTw : ¬ gh_has m0.1 (c1 v j)) (hk : m0.1 = 6)  : gi_s3 F := by
  dsimp only [gi_s3, gi_cur, gi_NR, gi_wt, gi_open, gh_Net] at *
  try simp (decide := true) only [gh_U, gh_K, gh_A_has, gh_A_cnt, gh_A_mem, false_and, true_and, and_false, or_false, if_false, if_true, and_true]
  grind (splits := 25)
theorem kd_s4 {v j : Nat} (Hs4 : gi_s4 F) {c1 : Nat → Nat → List gh_M} {m0 : gh_M} (hj : own v j) (hT : ∀ k y e, gh_has k (c y e) ↔ gh_has k (c1 y e) ∨ (y = v ∧ e = j ∧ k = m0.1)) (hTc : ∀ k y e, gh_cnt k (c y e) = gh_cnt k (c1 y e) + if y = v ∧ e = j ∧ k = m0.1 then 1 else 0) (hTm : ∀ y e m, m ∈ c y e ↔ m ∈ c1 y e ∨ (y = v ∧ e = j ∧ m = m0)) (hTw : ¬ gh_has m0.1 (c1 v j)) (hk : m0.1 = 6)  : gi_s4 F := by
  dsimp only [gi_s4, gi_cur, gi_NR, gi_wt, gi_open, gh_Net] at *
  try simp (decide := true) only [gh_U, gh_K, gh_A_has, gh_A_cnt, gh_A_mem, false_and, true_and, and_false, or_false, if_false, if_true, and_true]
  grind (splits := 25)
theorem kd_ow {v j : Nat} (How : gi_ow own F) {c1 : Nat → Nat → List gh_M} {m0 : gh_M} (hj : own v j) (hT : ∀ k y e, gh_has k (c y e) ↔ gh_has k (c1 y e) ∨ (y = v ∧ e = j ∧ k = m0.1)) (hTc : ∀ k y e, gh_cnt k (c y e) = gh_cnt k (c1 y e) + if y = v ∧ e = j ∧ k = m0.1 then 1 else 0) (hTm : ∀ y e m, m ∈ c y e ↔ m ∈ c1 y e ∨ (y = v ∧ e = j ∧ m = m0)) (hTw : ¬ gh_has m0.1 (c1 v j)) (hk : m0.1 = 6)  : gi_ow own F := by
  dsimp only [gi_ow, gi_cur, gi_NR, gi_wt, gi_open, gh_Net] at *
  try simp (decide := true) only [gh_U, gh_K, gh_A_has, gh_A_cnt, gh_A_mem, false_and, true_and, and_false, or_false, if_false, if_true, and_true]
  grind (splits := 25)
theorem kd_s5 {v j : Nat} (Hs5 : gi_s5 F) {c1 : Nat → Nat → List gh_M} {m0 : gh_M} (hj : own v j) (hT : ∀ k y e, gh_has k (c y e) ↔ gh_has k (c1 y e) ∨ (y = v ∧ e = j ∧ k = m0.1)) (hTc : ∀ k y e, gh_cnt k (c y e) = gh_cnt k (c1 y e) + if y = v ∧ e = j ∧ k = m0.1 then 1 else 0) (hTm : ∀ y e m, m ∈ c y e ↔ m ∈ c1 y e ∨ (y = v ∧ e = j ∧ m = m0)) (hTw : ¬ gh_has m0.1 (c1 v j)) (hk : m0.1 = 6)  : gi_s5 F := by
  dsimp only [gi_s5, gi_cur, gi_NR, gi_wt, gi_open, gh_Net] at *
  try simp (decide := true) only [gh_U, gh_K, gh_A_has, gh_A_cnt, gh_A_mem, false_and, true_and, and_false, or_false, if_false, if_true, and_true]
  grind (splits := 25)
theorem kd_s6 {v j : Nat} (Hs6 : gi_s6 own F mk) {c1 : Nat → Nat → List gh_M} {m0 : gh_M} (hj : own v j) (hT : ∀ k y e, gh_has k (c y e) ↔ gh_has k (c1 y e) ∨ (y = v ∧ e = j ∧ k = m0.1)) (hTc : ∀ k y e, gh_cnt k (c y e) = gh_cnt k (c1 y e) + if y = v ∧ e = j ∧ k = m0.1 then 1 else 0) (hTm : ∀ y e m, m ∈ c y e ↔ m ∈ c1 y e ∨ (y = v ∧ e = j ∧ m = m0)) (hTw : ¬ gh_has m0.1 (c1 v j)) (hk : m0.1 = 6)  : gi_s6 own F mk := by
  dsimp only [gi_s6, gi_cur, gi_NR, gi_wt, gi_open, gh_Net] at *
  try simp (decide := true) only [gh_U, gh_K, gh_A_has, gh_A_cnt, gh_A_mem, false_and, true_and, and_false, or_false, if_false, if_true, and_true]
  grind (splits := 25)
theorem kd_Sn {v j : Nat} (HSn : gi_Sn o w F) {c1 : Nat → Nat → List gh_M} {m0 : gh_M} (hj : own v j) (hT : ∀ k y e, gh_has k (c y e) ↔ gh_has k (c1 y e) ∨ (y = v ∧ e = j ∧ k = m0.1)) (hTc : ∀ k y e, gh_cnt k (c y e) = gh_cnt k (c1 y e) + if y = v ∧ e = j ∧ k = m0.1 then 1 else 0) (hTm : ∀ y e m, m ∈ c y e ↔ m ∈ c1 y e ∨ (y = v ∧ e = j ∧ m = m0)) (hTw : ¬ gh_has m0.1 (c1 v j)) (hk : m0.1 = 6)  : gi_Sn o w F := by
  dsimp only [gi_Sn, gi_cur, gi_NR, gi_wt, gi_open, gh_Net] at *
  try simp (decide := true) only [gh_U, gh_K, gh_A_has, gh_A_cnt, gh_A_mem, false_and, true_and, and_false, or_false, if_false, if_true, and_true]
  grind (splits := 25)
theorem kd_M {v j : Nat} (HM : gi_M own o F) {c1 : Nat → Nat → List gh_M} {m0 : gh_M} (hj : own v j) (hT : ∀ k y e, gh_has k (c y e) ↔ gh_has k (c1 y e) ∨ (y = v ∧ e = j ∧ k = m0.1)) (hTc : ∀ k y e, gh_cnt k (c y e) = gh_cnt k (c1 y e) + if y = v ∧ e = j ∧ k = m0.1 then 1 else 0) (hTm : ∀ y e m, m ∈ c y e ↔ m ∈ c1 y e ∨ (y = v ∧ e = j ∧ m = m0)) (hTw : ¬ gh_has m0.1 (c1 v j)) (hk : m0.1 = 6)  : gi_M own o F := by
  dsimp only [gi_M, gi_cur, gi_NR, gi_wt, gi_open, gh_Net] at *
  try simp (decide := true) only [gh_U, gh_K, gh_A_has, gh_A_cnt, gh_A_mem, false_and, true_and, and_false, or_false, if_false, if_true, and_true]
  grind (splits := 25)
theorem kd_C {v j : Nat} (HC : gi_C own o F mk) {c1 : Nat → Nat → List gh_M} {m0 : gh_M} (hj : own v j) (hT : ∀ k y e, gh_has k (c y e) ↔ gh_has k (c1 y e) ∨ (y = v ∧ e = j ∧ k = m0.1)) (hTc : ∀ k y e, gh_cnt k (c y e) = gh_cnt k (c1 y e) + if y = v ∧ e = j ∧ k = m0.1 then 1 else 0) (hTm : ∀ y e m, m ∈ c y e ↔ m ∈ c1 y e ∨ (y = v ∧ e = j ∧ m = m0)) (hTw : ¬ gh_has m0.1 (c1 v j)) (hk : m0.1 = 6)  : gi_C own o F mk := by
  dsimp only [gi_C, gi_cur, gi_NR, gi_wt, gi_open, gh_Net] at *
  try simp (decide := true) only [gh_U, gh_K, gh_A_has, gh_A_cnt, gh_A_mem, false_and, true_and, and_false, or_false, if_false, if_true, and_true]
  grind (splits := 25)
theorem kd_ph {v j : Nat} (Hph : gi_ph F) {c1 : Nat → Nat → List gh_M} {m0 : gh_M} (hj : own v j) (hT : ∀ k y e, gh_has k (c y e) ↔ gh_has k (c1 y e) ∨ (y = v ∧ e = j ∧ k = m0.1)) (hTc : ∀ k y e, gh_cnt k (c y e) = gh_cnt k (c1 y e) + if y = v ∧ e = j ∧ k = m0.1 then 1 else 0) (hTm : ∀ y e m, m ∈ c y e ↔ m ∈ c1 y e ∨ (y = v ∧ e = j ∧ m = m0)) (hTw : ¬ gh_has m0.1 (c1 v j)) (hk : m0.1 = 6)  : gi_ph F := by
  dsimp only [gi_ph, gi_cur, gi_NR, gi_wt, gi_open, gh_Net] at *
  try simp (decide := true) only [gh_U, gh_K, gh_A_has, gh_A_cnt, gh_A_mem, false_and, true_and, and_false, or_false, if_false, if_true, and_true]
  grind (splits := 25)
theorem kd_6 {v j : Nat} (H6 : gi_6 o F c) {c1 : Nat → Nat → List gh_M} {m0 : gh_M} (hj : own v j) (hT : ∀ k y e, gh_has k (c y e) ↔ gh_has k (c1 y e) ∨ (y = v ∧ e = j ∧ k = m0.1)) (hTc : ∀ k y e, gh_cnt k (c y e) = gh_cnt k (c1 y e) + if y = v ∧ e = j ∧ k = m0.1 then 1 else 0) (hTm : ∀ y e m, m ∈ c y e ↔ m ∈ c1 y e ∨ (y = v ∧ e = j ∧ m = m0)) (hTw : ¬ gh_has m0.1 (c1 v j)) (hk : m0.1 = 6)  : gi_6 o F c1 := by
  dsimp only [gi_6, gi_cur, gi_NR, gi_wt, gi_open, gh_Net] at *
  try simp (decide := true) only [gh_U, gh_K, gh_A_has, gh_A_cnt, gh_A_mem, false_and, true_and, and_false, or_false, if_false, if_true, and_true]
  grind (splits := 25)
theorem kd_7 {v j : Nat} (H7 : gi_7 o F) {c1 : Nat → Nat → List gh_M} {m0 : gh_M} (hj : own v j) (hT : ∀ k y e, gh_has k (c y e) ↔ gh_has k (c1 y e) ∨ (y = v ∧ e = j ∧ k = m0.1)) (hTc : ∀ k y e, gh_cnt k (c y e) = gh_cnt k (c1 y e) + if y = v ∧ e = j ∧ k = m0.1 then 1 else 0) (hTm : ∀ y e m, m ∈ c y e ↔ m ∈ c1 y e ∨ (y = v ∧ e = j ∧ m = m0)) (hTw : ¬ gh_has m0.1 (c1 v j)) (hk : m0.1 = 6)  : gi_7 o F := by
  dsimp only [gi_7, gi_cur, gi_NR, gi_wt, gi_open, gh_Net] at *
  try simp (decide := true) only [gh_U, gh_K, gh_A_has, gh_A_cnt, gh_A_mem, false_and, true_and, and_false, or_false, if_false, if_true, and_true]
  grind (splits := 25)
theorem kd_bc {v j : Nat} (Hbc : gi_bc o F mk c) {c1 : Nat → Nat → List gh_M} {m0 : gh_M} (hj : own v j) (hT : ∀ k y e, gh_has k (c y e) ↔ gh_has k (c1 y e) ∨ (y = v ∧ e = j ∧ k = m0.1)) (hTc : ∀ k y e, gh_cnt k (c y e) = gh_cnt k (c1 y e) + if y = v ∧ e = j ∧ k = m0.1 then 1 else 0) (hTm : ∀ y e m, m ∈ c y e ↔ m ∈ c1 y e ∨ (y = v ∧ e = j ∧ m = m0)) (hTw : ¬ gh_has m0.1 (c1 v j)) (hk : m0.1 = 6)  : gi_bc o F mk c1 := by
  dsimp only [gi_bc, gi_cur, gi_NR, gi_wt, gi_open, gh_Net] at *
  try simp (decide := true) only [gh_U, gh_K, gh_A_has, gh_A_cnt, gh_A_mem, false_and, true_and, and_false, or_false, if_false, if_true, and_true]
  grind (splits := 25)
theorem kd_K {v j : Nat} (HK : gi_K own o F mk c) {c1 : Nat → Nat → List gh_M} {m0 : gh_M} (hj : own v j) (hT : ∀ k y e, gh_has k (c y e) ↔ gh_has k (c1 y e) ∨ (y = v ∧ e = j ∧ k = m0.1)) (hTc : ∀ k y e, gh_cnt k (c y e) = gh_cnt k (c1 y e) + if y = v ∧ e = j ∧ k = m0.1 then 1 else 0) (hTm : ∀ y e m, m ∈ c y e ↔ m ∈ c1 y e ∨ (y = v ∧ e = j ∧ m = m0)) (hTw : ¬ gh_has m0.1 (c1 v j)) (hk : m0.1 = 6)  : gi_K own o F mk c1 := by
  dsimp only [gi_K, gi_cur, gi_NR, gi_wt, gi_open, gh_Net] at *
  try simp (decide := true) only [gh_U, gh_K, gh_A_has, gh_A_cnt, gh_A_mem, false_and, true_and, and_false, or_false, if_false, if_true, and_true]
  grind (splits := 25)
theorem kd_rj {v j : Nat} (Hrj : gi_rj own o F mk) {c1 : Nat → Nat → List gh_M} {m0 : gh_M} (hj : own v j) (hT : ∀ k y e, gh_has k (c y e) ↔ gh_has k (c1 y e) ∨ (y = v ∧ e = j ∧ k = m0.1)) (hTc : ∀ k y e, gh_cnt k (c y e) = gh_cnt k (c1 y e) + if y = v ∧ e = j ∧ k = m0.1 then 1 else 0) (hTm : ∀ y e m, m ∈ c y e ↔ m ∈ c1 y e ∨ (y = v ∧ e = j ∧ m = m0)) (hTw : ¬ gh_has m0.1 (c1 v j)) (hk : m0.1 = 6)  : gi_rj own o F mk := by
  dsimp only [gi_rj, gi_cur, gi_NR, gi_wt, gi_open, gh_Net] at *
  try simp (decide := true) only [gh_U, gh_K, gh_A_has, gh_A_cnt, gh_A_mem, false_and, true_and, and_false, or_false, if_false, if_true, and_true]
  grind (splits := 25)
theorem kd_tw {v j : Nat} (Htw : gi_tw own c) {c1 : Nat → Nat → List gh_M} {m0 : gh_M} (hj : own v j) (hT : ∀ k y e, gh_has k (c y e) ↔ gh_has k (c1 y e) ∨ (y = v ∧ e = j ∧ k = m0.1)) (hTc : ∀ k y e, gh_cnt k (c y e) = gh_cnt k (c1 y e) + if y = v ∧ e = j ∧ k = m0.1 then 1 else 0) (hTm : ∀ y e m, m ∈ c y e ↔ m ∈ c1 y e ∨ (y = v ∧ e = j ∧ m = m0)) (hTw : ¬ gh_has m0.1 (c1 v j)) (hk : m0.1 = 6)  : gi_tw own c1 := by
  dsimp only [gi_tw, gi_cur, gi_NR, gi_wt, gi_open, gh_Net] at *
  try simp (decide := true) only [gh_U, gh_K, gh_A_has, gh_A_cnt, gh_A_mem, false_and, true_and, and_false, or_false, if_false, if_true, and_true]
  grind (splits := 25)
theorem kd_ts {v j : Nat} (Hts : gi_ts own o F c) {c1 : Nat → Nat → List gh_M} {m0 : gh_M} (hj : own v j) (hT : ∀ k y e, gh_has k (c y e) ↔ gh_has k (c1 y e) ∨ (y = v ∧ e = j ∧ k = m0.1)) (hTc : ∀ k y e, gh_cnt k (c y e) = gh_cnt k (c1 y e) + if y = v ∧ e = j ∧ k = m0.1 then 1 else 0) (hTm : ∀ y e m, m ∈ c y e ↔ m ∈ c1 y e ∨ (y = v ∧ e = j ∧ m = m0)) (hTw : ¬ gh_has m0.1 (c1 v j)) (hk : m0.1 = 6)  : gi_ts own o F c1 := by
  dsimp only [gi_ts, gi_cur, gi_NR, gi_wt, gi_open, gh_Net] at *
  try simp (decide := true) only [gh_U, gh_K, gh_A_has, gh_A_cnt, gh_A_mem, false_and, true_and, and_false, or_false, if_false, if_true, and_true]
  grind (splits := 25)
theorem kd_sz {v j : Nat} (Hsz : gi_sz F) {c1 : Nat → Nat → List gh_M} {m0 : gh_M} (hj : own v j) (hT : ∀ k y e, gh_has k (c y e) ↔ gh_has k (c1 y e) ∨ (y = v ∧ e = j ∧ k = m0.1)) (hTc : ∀ k y e, gh_cnt k (c y e) = gh_cnt k (c1 y e) + if y = v ∧ e = j ∧ k = m0.1 then 1 else 0) (hTm : ∀ y e m, m ∈ c y e ↔ m ∈ c1 y e ∨ (y = v ∧ e = j ∧ m = m0)) (hTw : ¬ gh_has m0.1 (c1 v j)) (hk : m0.1 = 6)  : gi_sz F := by
  dsimp only [gi_sz, gi_cur, gi_NR, gi_wt, gi_open, gh_Net] at *
  try simp (decide := true) only [gh_U, gh_K, gh_A_has, gh_A_cnt, gh_A_mem, false_and, true_and, and_false, or_false, if_false, if_true, and_true]
  grind (splits := 25)
theorem kd_mi {v j : Nat}  {c1 : Nat → Nat → List gh_M} {m0 : gh_M} (hj : own v j) (hT : ∀ k y e, gh_has k (c y e) ↔ gh_has k (c1 y e) ∨ (y = v ∧ e = j ∧ k = m0.1)) (hTc : ∀ k y e, gh_cnt k (c y e) = gh_cnt k (c1 y e) + if y = v ∧ e = j ∧ k = m0.1 then 1 else 0) (hTm : ∀ y e m, m ∈ c y e ↔ m ∈ c1 y e ∨ (y = v ∧ e = j ∧ m = m0)) (hTw : ¬ gh_has m0.1 (c1 v j)) (hk : m0.1 = 6)  {x y e a : Nat} {m : gh_M} (hx : o y e = x) (hy : own y e) (hm : m ∈ c1 y e) (ha : F 1 y ≤ a) (hb : ¬ gh_has 1 (c y e) → a = F 1 y)  (h : gm_i own o w F mk c x y e a m) : gm_i own o w F mk c1 x y e a m := by
  have hh : ∀ k, m.1 = k → gh_has k (c1 y e) := fun k hk => ⟨m, hm, hk⟩
  dsimp only [gm_i, gi_cur, gi_NR, gi_wt, gi_open, gh_Net] at *
  try simp (decide := true) only [gh_U, gh_K, gh_A_has, gh_A_cnt, gh_A_mem, false_and, true_and, and_false, or_false, if_false, if_true, and_true]
  grind (splits := 25)
theorem kd_mc {v j : Nat}  {c1 : Nat → Nat → List gh_M} {m0 : gh_M} (hj : own v j) (hT : ∀ k y e, gh_has k (c y e) ↔ gh_has k (c1 y e) ∨ (y = v ∧ e = j ∧ k = m0.1)) (hTc : ∀ k y e, gh_cnt k (c y e) = gh_cnt k (c1 y e) + if y = v ∧ e = j ∧ k = m0.1 then 1 else 0) (hTm : ∀ y e m, m ∈ c y e ↔ m ∈ c1 y e ∨ (y = v ∧ e = j ∧ m = m0)) (hTw : ¬ gh_has m0.1 (c1 v j)) (hk : m0.1 = 6)  {x y e a : Nat} {m : gh_M} (hx : o y e = x) (hy : own y e) (hm : m ∈ c1 y e) (ha : F 1 y ≤ a) (hb : ¬ gh_has 1 (c y e) → a = F 1 y)  (h : gm_c own o w F mk c x y e a m) : gm_c own o w F mk c1 x y e a m := by
  have hh : ∀ k, m.1 = k → gh_has k (c1 y e) := fun k hk => ⟨m, hm, hk⟩
  dsimp only [gm_c, gi_cur, gi_NR, gi_wt, gi_open, gh_Net] at *
  try simp (decide := true) only [gh_U, gh_K, gh_A_has, gh_A_cnt, gh_A_mem, false_and, true_and, and_false, or_false, if_false, if_true, and_true]
  grind (splits := 25)
theorem kd_mt {v j : Nat}  {c1 : Nat → Nat → List gh_M} {m0 : gh_M} (hj : own v j) (hT : ∀ k y e, gh_has k (c y e) ↔ gh_has k (c1 y e) ∨ (y = v ∧ e = j ∧ k = m0.1)) (hTc : ∀ k y e, gh_cnt k (c y e) = gh_cnt k (c1 y e) + if y = v ∧ e = j ∧ k = m0.1 then 1 else 0) (hTm : ∀ y e m, m ∈ c y e ↔ m ∈ c1 y e ∨ (y = v ∧ e = j ∧ m = m0)) (hTw : ¬ gh_has m0.1 (c1 v j)) (hk : m0.1 = 6)  {x y e a : Nat} {m : gh_M} (hx : o y e = x) (hy : own y e) (hm : m ∈ c1 y e) (ha : F 1 y ≤ a) (hb : ¬ gh_has 1 (c y e) → a = F 1 y)  (h : gm_t own o w F mk c x y e a m) : gm_t own o w F mk c1 x y e a m := by
  have hh : ∀ k, m.1 = k → gh_has k (c1 y e) := fun k hk => ⟨m, hm, hk⟩
  dsimp only [gm_t, gi_cur, gi_NR, gi_wt, gi_open, gh_Net] at *
  try simp (decide := true) only [gh_U, gh_K, gh_A_has, gh_A_cnt, gh_A_mem, false_and, true_and, and_false, or_false, if_false, if_true, and_true]
  grind (splits := 25)
theorem kd_ma {v j : Nat}  {c1 : Nat → Nat → List gh_M} {m0 : gh_M} (hj : own v j) (hT : ∀ k y e, gh_has k (c y e) ↔ gh_has k (c1 y e) ∨ (y = v ∧ e = j ∧ k = m0.1)) (hTc : ∀ k y e, gh_cnt k (c y e) = gh_cnt k (c1 y e) + if y = v ∧ e = j ∧ k = m0.1 then 1 else 0) (hTm : ∀ y e m, m ∈ c y e ↔ m ∈ c1 y e ∨ (y = v ∧ e = j ∧ m = m0)) (hTw : ¬ gh_has m0.1 (c1 v j)) (hk : m0.1 = 6)  {x y e a : Nat} {m : gh_M} (hx : o y e = x) (hy : own y e) (hm : m ∈ c1 y e) (ha : F 1 y ≤ a) (hb : ¬ gh_has 1 (c y e) → a = F 1 y)  (h : gm_a own o w F mk c x y e a m) : gm_a own o w F mk c1 x y e a m := by
  have hh : ∀ k, m.1 = k → gh_has k (c1 y e) := fun k hk => ⟨m, hm, hk⟩
  dsimp only [gm_a, gi_cur, gi_NR, gi_wt, gi_open, gh_Net] at *
  try simp (decide := true) only [gh_U, gh_K, gh_A_has, gh_A_cnt, gh_A_mem, false_and, true_and, and_false, or_false, if_false, if_true, and_true]
  grind (splits := 25)
theorem kd_mr {v j : Nat}  {c1 : Nat → Nat → List gh_M} {m0 : gh_M} (hj : own v j) (hT : ∀ k y e, gh_has k (c y e) ↔ gh_has k (c1 y e) ∨ (y = v ∧ e = j ∧ k = m0.1)) (hTc : ∀ k y e, gh_cnt k (c y e) = gh_cnt k (c1 y e) + if y = v ∧ e = j ∧ k = m0.1 then 1 else 0) (hTm : ∀ y e m, m ∈ c y e ↔ m ∈ c1 y e ∨ (y = v ∧ e = j ∧ m = m0)) (hTw : ¬ gh_has m0.1 (c1 v j)) (hk : m0.1 = 6)  {x y e a : Nat} {m : gh_M} (hx : o y e = x) (hy : own y e) (hm : m ∈ c1 y e) (ha : F 1 y ≤ a) (hb : ¬ gh_has 1 (c y e) → a = F 1 y)  (h : gm_r own o w F mk c x y e a m) : gm_r own o w F mk c1 x y e a m := by
  have hh : ∀ k, m.1 = k → gh_has k (c1 y e) := fun k hk => ⟨m, hm, hk⟩
  dsimp only [gm_r, gi_cur, gi_NR, gi_wt, gi_open, gh_Net] at *
  try simp (decide := true) only [gh_U, gh_K, gh_A_has, gh_A_cnt, gh_A_mem, false_and, true_and, and_false, or_false, if_false, if_true, and_true]
  grind (splits := 25)
theorem kd_mk {v j : Nat}  {c1 : Nat → Nat → List gh_M} {m0 : gh_M} (hj : own v j) (hT : ∀ k y e, gh_has k (c y e) ↔ gh_has k (c1 y e) ∨ (y = v ∧ e = j ∧ k = m0.1)) (hTc : ∀ k y e, gh_cnt k (c y e) = gh_cnt k (c1 y e) + if y = v ∧ e = j ∧ k = m0.1 then 1 else 0) (hTm : ∀ y e m, m ∈ c y e ↔ m ∈ c1 y e ∨ (y = v ∧ e = j ∧ m = m0)) (hTw : ¬ gh_has m0.1 (c1 v j)) (hk : m0.1 = 6)  {x y e a : Nat} {m : gh_M} (hx : o y e = x) (hy : own y e) (hm : m ∈ c1 y e) (ha : F 1 y ≤ a) (hb : ¬ gh_has 1 (c y e) → a = F 1 y)  (h : gm_k own o w F mk c x y e a m) : gm_k own o w F mk c1 x y e a m := by
  have hh : ∀ k, m.1 = k → gh_has k (c1 y e) := fun k hk => ⟨m, hm, hk⟩
  dsimp only [gm_k, gi_cur, gi_NR, gi_wt, gi_open, gh_Net] at *
  try simp (decide := true) only [gh_U, gh_K, gh_A_has, gh_A_cnt, gh_A_mem, false_and, true_and, and_false, or_false, if_false, if_true, and_true]
  grind (splits := 25)
theorem kd_mp {v j : Nat}  {c1 : Nat → Nat → List gh_M} {m0 : gh_M} (hj : own v j) (hT : ∀ k y e, gh_has k (c y e) ↔ gh_has k (c1 y e) ∨ (y = v ∧ e = j ∧ k = m0.1)) (hTc : ∀ k y e, gh_cnt k (c y e) = gh_cnt k (c1 y e) + if y = v ∧ e = j ∧ k = m0.1 then 1 else 0) (hTm : ∀ y e m, m ∈ c y e ↔ m ∈ c1 y e ∨ (y = v ∧ e = j ∧ m = m0)) (hTw : ¬ gh_has m0.1 (c1 v j)) (hk : m0.1 = 6)  {x y e a : Nat} {m : gh_M} (hx : o y e = x) (hy : own y e) (hm : m ∈ c1 y e) (ha : F 1 y ≤ a) (hb : ¬ gh_has 1 (c y e) → a = F 1 y)  (h : gm_p own o w F mk c x y e a m) : gm_p own o w F mk c1 x y e a m := by
  have hh : ∀ k, m.1 = k → gh_has k (c1 y e) := fun k hk => ⟨m, hm, hk⟩
  dsimp only [gm_p, gi_cur, gi_NR, gi_wt, gi_open, gh_Net] at *
  try simp (decide := true) only [gh_U, gh_K, gh_A_has, gh_A_cnt, gh_A_mem, false_and, true_and, and_false, or_false, if_false, if_true, and_true]
  grind (splits := 25)
theorem kd_I {v j : Nat} (Hn : gh_Net own o w) (h : gI own o w F mk c) {m0 : gh_M} {t : List gh_M} (hj : own v j) (hc : c v j = m0 :: t) (hk : m0.1 = 6)  : gI own o w F mk (gh_T c v j) := by
  obtain ⟨Hst, Hb1, Hb2, Hb3, Hb4, Hb5, Hb6, Hs0, HpA, Hs1, Hs2, HSl, Hs3, Hs4, How, Hs5, Hs6, HSr, HSn, HM, HC, Hph, H6, H7, Hbc, HK, Hrj, Htw, Hts, Han, Hsz, Hch⟩ := h
  have Xi := gx_iI Hch
  have Xc := gx_cI Hch
  have Xt := gx_tI Hch
  have Xa := gx_aI Hch
  have Xr := gx_rI Hch
  have Xk := gx_kI Hch
  have Xp := gx_pI Hch
  have Xl := gx_lI Hch
  have Xb := gx_bI Hch
  have Xn := gx_nI Hn Hph HpA HSr HSn HM HC
  have hT := gp_T hc
  have hTc := gp_C hc
  have hTm := gp_M hc
  have hTw := gp_W hc Htw hj (by omega)
  have hd0 := gi_hd Hch hj hc
  refine ⟨kd_st (c1 := gh_T c v j) Hst hj hT hTc hTm hTw hk, kd_b1 (c1 := gh_T c v j) Hb1 hj hT hTc hTm hTw hk, kd_b2 (c1 := gh_T c v j) Hb2 hj hT hTc hTm hTw hk, kd_b3 (c1 := gh_T c v j) Hb3 hj hT hTc hTm hTw hk, kd_b4 (c1 := gh_T c v j) Hb4 hj hT hTc hTm hTw hk, kd_b5 (c1 := gh_T c v j) Hb5 hj hT hTc hTm hTw hk, kd_b6 (c1 := gh_T c v j) Hb6 hj hT hTc hTm hTw hk, kd_s0 (c1 := gh_T c v j) Hs0 hj hT hTc hTm hTw hk, kd_pA (c1 := gh_T c v j) HpA hj hT hTc hTm hTw hk, kd_s1 (c1 := gh_T c v j) Hs1 hj hT hTc hTm hTw hk, kd_s2 (c1 := gh_T c v j) Hs2 hj hT hTc hTm hTw hk, kd_Sl (c1 := gh_T c v j) HSl hj hT hTc hTm hTw hk, kd_s3 (c1 := gh_T c v j) Hs3 hj hT hTc hTm hTw hk, kd_s4 (c1 := gh_T c v j) Hs4 hj hT hTc hTm hTw hk, kd_ow (c1 := gh_T c v j) How hj hT hTc hTm hTw hk, kd_s5 (c1 := gh_T c v j) Hs5 hj hT hTc hTm hTw hk, kd_s6 (c1 := gh_T c v j) Hs6 hj hT hTc hTm hTw hk, kd_Sr (c1 := gh_T c v j) HSr hj hT hTc hTm hTw hk, kd_Sn (c1 := gh_T c v j) HSn hj hT hTc hTm hTw hk, kd_M (c1 := gh_T c v j) HM hj hT hTc hTm hTw hk, kd_C (c1 := gh_T c v j) HC hj hT hTc hTm hTw hk, kd_ph (c1 := gh_T c v j) Hph hj hT hTc hTm hTw hk, kd_6 (c1 := gh_T c v j) H6 hj hT hTc hTm hTw hk, kd_7 (c1 := gh_T c v j) H7 hj hT hTc hTm hTw hk, kd_bc (c1 := gh_T c v j) Hbc hj hT hTc hTm hTw hk, kd_K (c1 := gh_T c v j) HK hj hT hTc hTm hTw hk, kd_rj (c1 := gh_T c v j) Hrj hj hT hTc hTm hTw hk, kd_tw (c1 := gh_T c v j) Htw hj hT hTc hTm hTw hk, kd_ts (c1 := gh_T c v j) Hts hj hT hTc hTm hTw hk, kd_an (c1 := gh_T c v j) Han hj hT hTc hTm hTw hk, kd_sz (c1 := gh_T c v j) Hsz hj hT hTc hTm hTw hk, ?_⟩
  have K1 : gi_all own F (gh_T c v j) (fun y e => gi_m own o w F mk (gh_T c v j) (o y e) y e) := gi_all_go (gi_all_popT Hch hc (by omega)) (fun y e q => (hT 1 y e).mpr (Or.inl q)) (fun y => rfl) (fun y e a m hy hm ha hb q => ⟨q.1, kd_mi  hj hT hTc hTm hTw hk rfl hy hm ha hb q.2.1, kd_mc  hj hT hTc hTm hTw hk rfl hy hm ha hb q.2.2.1, kd_mt  hj hT hTc hTm hTw hk rfl hy hm ha hb q.2.2.2.1, kd_ma  hj hT hTc hTm hTw hk rfl hy hm ha hb q.2.2.2.2.1, kd_mr  hj hT hTc hTm hTw hk rfl hy hm ha hb q.2.2.2.2.2.1, kd_mk  hj hT hTc hTm hTw hk rfl hy hm ha hb q.2.2.2.2.2.2.1, kd_mp  hj hT hTc hTm hTw hk rfl hy hm ha hb q.2.2.2.2.2.2.2⟩)
  exact K1
end
section
variable {own : Nat → Nat → Prop} {o : Nat → Nat → Nat} {w : Nat → Nat} {F : gh_F} {mk : Nat → Nat → Nat} {c : Nat → Nat → List gh_M}
theorem w0_Sr {v : Nat} (HSr : gi_Sr o w F c) (Hs0 : gi_s0 own F mk) (h0 : F 0 v = 0)  : gi_Sr o w (gh_U (gh_U F 0 v 2) 11 v 1) c := by
  dsimp only [gi_Sr, gi_s0, gi_cur, gi_NR, gi_wt, gi_open, gh_Net] at *
  try simp (decide := true) only [gh_U, gh_K, gh_A_has, gh_A_cnt, gh_A_mem, false_and, true_and, and_false, or_false, if_false, if_true, and_true]
  grind (splits := 25)
theorem w0_7 {v : Nat} (H7 : gi_7 o F) (Hs0 : gi_s0 own F mk) (HpA : gi_pA own F mk) (h0 : F 0 v = 0)  : gi_7 o (gh_U (gh_U F 0 v 2) 11 v 1) := by
  dsimp only [gi_7, gi_s0, gi_pA, gi_cur, gi_NR, gi_wt, gi_open, gh_Net] at *
  try simp (decide := true) only [gh_U, gh_K, gh_A_has, gh_A_cnt, gh_A_mem, false_and, true_and, and_false, or_false, if_false, if_true, and_true]
  grind (splits := 25)
theorem w0_s1 {v : Nat} (Hs1 : gi_s1 F) (h0 : F 0 v = 0)  : gi_s1 (gh_U (gh_U F 0 v 2) 11 v 1) := by
  dsimp only [gi_s1, gi_cur, gi_NR, gi_wt, gi_open, gh_Net] at *
  try simp (decide := true) only [gh_U, gh_K, gh_A_has, gh_A_cnt, gh_A_mem, false_and, true_and, and_false, or_false, if_false, if_true, and_true]
  grind (splits := 25)
theorem w0_s3 {v : Nat} (Hs3 : gi_s3 F) (Hs0 : gi_s0 own F mk) (HpA : gi_pA own F mk) (h0 : F 0 v = 0)  : gi_s3 (gh_U (gh_U F 0 v 2) 11 v 1) := by
  dsimp only [gi_s3, gi_s0, gi_pA, gi_cur, gi_NR, gi_wt, gi_open, gh_Net] at *
  try simp (decide := true) only [gh_U, gh_K, gh_A_has, gh_A_cnt, gh_A_mem, false_and, true_and, and_false, or_false, if_false, if_true, and_true]
  grind (splits := 25)
theorem w0_bc {v : Nat} (Hbc : gi_bc o F mk c) (Hs0 : gi_s0 own F mk) (HpA : gi_pA own F mk) (h0 : F 0 v = 0)  : gi_bc o (gh_U (gh_U F 0 v 2) 11 v 1) mk c := by
  dsimp only [gi_bc, gi_s0, gi_pA, gi_cur, gi_NR, gi_wt, gi_open, gh_Net] at *
  try simp (decide := true) only [gh_U, gh_K, gh_A_has, gh_A_cnt, gh_A_mem, false_and, true_and, and_false, or_false, if_false, if_true, and_true]
  grind (splits := 25)
theorem w0_M {v : Nat} (HM : gi_M own o F) (h0 : F 0 v = 0)  : gi_M own o (gh_U (gh_U F 0 v 2) 11 v 1) := by
  dsimp only [gi_M, gi_cur, gi_NR, gi_wt, gi_open, gh_Net] at *
  try simp (decide := true) only [gh_U, gh_K, gh_A_has, gh_A_cnt, gh_A_mem, false_and, true_and, and_false, or_false, if_false, if_true, and_true]
  grind (splits := 25)
theorem w0_C {v : Nat} (HC : gi_C own o F mk) (h0 : F 0 v = 0)  : gi_C own o (gh_U (gh_U F 0 v 2) 11 v 1) mk := by
  dsimp only [gi_C, gi_cur, gi_NR, gi_wt, gi_open, gh_Net] at *
  try simp (decide := true) only [gh_U, gh_K, gh_A_has, gh_A_cnt, gh_A_mem, false_and, true_and, and_false, or_false, if_false, if_true, and_true]
  grind (splits := 25)
theorem w0_an {v : Nat} (Han : gi_an own o F mk c) (Hs0 : gi_s0 own F mk) (HpA : gi_pA own F mk) (Hs2 : gi_s2 F) (Hn : gh_Net own o w) (HK : gi_K own o F mk c) (h0 : F 0 v = 0)  : gi_an own o (gh_U (gh_U F 0 v 2) 11 v 1) mk c := by
  intro x hx
  have hx1 : F 0 x = 1 := by unfold gh_U at hx; grind
  obtain ⟨l, l1, l2, l3⟩ := Han x hx1
  refine ⟨l, l1, by unfold gh_U; grind, fun e => (l3 e).trans ?_⟩
  have a1 := HK x e (o x e)
  have a2 := Hs0 v h0
  have a3 := HpA v a2
  have a4 := Hs2 x hx1
  have a5 := Hn.1 x e
  clear Han l3 HK Hs0 HpA Hs2 Hn
  dsimp only [gi_open, gi_cur] at *
  simp (decide := true) only [gh_U, gh_K, gh_A_has, gh_A_cnt, gh_A_mem, false_and, true_and, and_false, or_false, if_false, if_true, and_true]
  grind
theorem w0_st {v : Nat} (Hst : gi_st F) (h0 : F 0 v = 0)  : gi_st (gh_U (gh_U F 0 v 2) 11 v 1) := by
  dsimp only [gi_st, gi_cur, gi_NR, gi_wt, gi_open, gh_Net] at *
  try simp (decide := true) only [gh_U, gh_K, gh_A_has, gh_A_cnt, gh_A_mem, false_and, true_and, and_false, or_false, if_false, if_true, and_true]
  grind (splits := 25)
theorem w0_b1 {v : Nat} (Hb1 : gi_b1 F) (h0 : F 0 v = 0)  : gi_b1 (gh_U (gh_U F 0 v 2) 11 v 1) := by
  dsimp only [gi_b1, gi_cur, gi_NR, gi_wt, gi_open, gh_Net] at *
  try simp (decide := true) only [gh_U, gh_K, gh_A_has, gh_A_cnt, gh_A_mem, false_and, true_and, and_false, or_false, if_false, if_true, and_true]
  grind (splits := 25)
theorem w0_b2 {v : Nat} (Hb2 : gi_b2 F) (h0 : F 0 v = 0)  : gi_b2 (gh_U (gh_U F 0 v 2) 11 v 1) := by
  dsimp only [gi_b2, gi_cur, gi_NR, gi_wt, gi_open, gh_Net] at *
  try simp (decide := true) only [gh_U, gh_K, gh_A_has, gh_A_cnt, gh_A_mem, false_and, true_and, and_false, or_false, if_false, if_true, and_true]
  grind (splits := 25)
theorem w0_b3 {v : Nat} (Hb3 : gi_b3 F) (h0 : F 0 v = 0)  : gi_b3 (gh_U (gh_U F 0 v 2) 11 v 1) := by
  dsimp only [gi_b3, gi_cur, gi_NR, gi_wt, gi_open, gh_Net] at *
  try simp (decide := true) only [gh_U, gh_K, gh_A_has, gh_A_cnt, gh_A_mem, false_and, true_and, and_false, or_false, if_false, if_true, and_true]
  grind (splits := 25)
theorem w0_b4 {v : Nat} (Hb4 : gi_b4 F) (h0 : F 0 v = 0)  : gi_b4 (gh_U (gh_U F 0 v 2) 11 v 1) := by
  dsimp only [gi_b4, gi_cur, gi_NR, gi_wt, gi_open, gh_Net] at *
  try simp (decide := true) only [gh_U, gh_K, gh_A_has, gh_A_cnt, gh_A_mem, false_and, true_and, and_false, or_false, if_false, if_true, and_true]
  grind (splits := 25)
theorem w0_b5 {v : Nat} (Hb5 : gi_b5 own o w F) (h0 : F 0 v = 0)  : gi_b5 own o w (gh_U (gh_U F 0 v 2) 11 v 1) := by
  dsimp only [gi_b5, gi_cur, gi_NR, gi_wt, gi_open, gh_Net] at *
  try simp (decide := true) only [gh_U, gh_K, gh_A_has, gh_A_cnt, gh_A_mem, false_and, true_and, and_false, or_false, if_false, if_true, and_true]
  grind (splits := 25)
theorem w0_b6 {v : Nat} (Hb6 : gi_b6 own o w F mk) (h0 : F 0 v = 0)  : gi_b6 own o w (gh_U (gh_U F 0 v 2) 11 v 1) mk := by
  dsimp only [gi_b6, gi_cur, gi_NR, gi_wt, gi_open, gh_Net] at *
  try simp (decide := true) only [gh_U, gh_K, gh_A_has, gh_A_cnt, gh_A_mem, false_and, true_and, and_false, or_false, if_false, if_true, and_true]
  grind (splits := 25)
theorem w0_s0 {v : Nat} (Hs0 : gi_s0 own F mk) (h0 : F 0 v = 0)  : gi_s0 own (gh_U (gh_U F 0 v 2) 11 v 1) mk := by
  dsimp only [gi_s0, gi_cur, gi_NR, gi_wt, gi_open, gh_Net] at *
  try simp (decide := true) only [gh_U, gh_K, gh_A_has, gh_A_cnt, gh_A_mem, false_and, true_and, and_false, or_false, if_false, if_true, and_true]
  grind (splits := 25)
theorem w0_pA {v : Nat} (HpA : gi_pA own F mk) (h0 : F 0 v = 0)  : gi_pA own (gh_U (gh_U F 0 v 2) 11 v 1) mk := by
  dsimp only [gi_pA, gi_cur, gi_NR, gi_wt, gi_open, gh_Net] at *
  try simp (decide := true) only [gh_U, gh_K, gh_A_has, gh_A_cnt, gh_A_mem, false_and, true_and, and_false, or_false, if_false, if_true, and_true]
  grind (splits := 25)
theorem w0_s2 {v : Nat} (Hs2 : gi_s2 F) (h0 : F 0 v = 0)  : gi_s2 (gh_U (gh_U F 0 v 2) 11 v 1) := by
  dsimp only [gi_s2, gi_cur, gi_NR, gi_wt, gi_open, gh_Net] at *
  try simp (decide := true) only [gh_U, gh_K, gh_A_has, gh_A_cnt, gh_A_mem, false_and, true_and, and_false, or_false, if_false, if_true, and_true]
  grind (splits := 25)
theorem w0_Sl {v : Nat} (HSl : gi_Sl F) (h0 : F 0 v = 0)  : gi_Sl (gh_U (gh_U F 0 v 2) 11 v 1) := by
  dsimp only [gi_Sl, gi_cur, gi_NR, gi_wt, gi_open, gh_Net] at *
  try simp (decide := true) only [gh_U, gh_K, gh_A_has, gh_A_cnt, gh_A_mem, false_and, true_and, and_false, or_false, if_false, if_true, and_true]
  grind (splits := 25)
theorem w0_s4 {v : Nat} (Hs4 : gi_s4 F) (h0 : F 0 v = 0)  : gi_s4 (gh_U (gh_U F 0 v 2) 11 v 1) := by
  dsimp only [gi_s4, gi_cur, gi_NR, gi_wt, gi_open, gh_Net] at *
  try simp (decide := true) only [gh_U, gh_K, gh_A_has, gh_A_cnt, gh_A_mem, false_and, true_and, and_false, or_false, if_false, if_true, and_true]
  grind (splits := 25)
theorem w0_ow {v : Nat} (How : gi_ow own F) (h0 : F 0 v = 0)  : gi_ow own (gh_U (gh_U F 0 v 2) 11 v 1) := by
  dsimp only [gi_ow, gi_cur, gi_NR, gi_wt, gi_open, gh_Net] at *
  try simp (decide := true) only [gh_U, gh_K, gh_A_has, gh_A_cnt, gh_A_mem, false_and, true_and, and_false, or_false, if_false, if_true, and_true]
  grind (splits := 25)
theorem w0_s5 {v : Nat} (Hs5 : gi_s5 F) (h0 : F 0 v = 0)  : gi_s5 (gh_U (gh_U F 0 v 2) 11 v 1) := by
  dsimp only [gi_s5, gi_cur, gi_NR, gi_wt, gi_open, gh_Net] at *
  try simp (decide := true) only [gh_U, gh_K, gh_A_has, gh_A_cnt, gh_A_mem, false_and, true_and, and_false, or_false, if_false, if_true, and_true]
  grind (splits := 25)
theorem w0_s6 {v : Nat} (Hs6 : gi_s6 own F mk) (h0 : F 0 v = 0)  : gi_s6 own (gh_U (gh_U F 0 v 2) 11 v 1) mk := by
  dsimp only [gi_s6, gi_cur, gi_NR, gi_wt, gi_open, gh_Net] at *
  try simp (decide := true) only [gh_U, gh_K, gh_A_has, gh_A_cnt, gh_A_mem, false_and, true_and, and_false, or_false, if_false, if_true, and_true]
  grind (splits := 25)
theorem w0_Sn {v : Nat} (HSn : gi_Sn o w F) (h0 : F 0 v = 0)  : gi_Sn o w (gh_U (gh_U F 0 v 2) 11 v 1) := by
  dsimp only [gi_Sn, gi_cur, gi_NR, gi_wt, gi_open, gh_Net] at *
  try simp (decide := true) only [gh_U, gh_K, gh_A_has, gh_A_cnt, gh_A_mem, false_and, true_and, and_false, or_false, if_false, if_true, and_true]
  grind (splits := 25)
theorem w0_ph {v : Nat} (Hph : gi_ph F) (h0 : F 0 v = 0)  : gi_ph (gh_U (gh_U F 0 v 2) 11 v 1) := by
  dsimp only [gi_ph, gi_cur, gi_NR, gi_wt, gi_open, gh_Net] at *
  try simp (decide := true) only [gh_U, gh_K, gh_A_has, gh_A_cnt, gh_A_mem, false_and, true_and, and_false, or_false, if_false, if_true, and_true]
  grind (splits := 25)
theorem w0_6 {v : Nat} (H6 : gi_6 o F c) (h0 : F 0 v = 0)  : gi_6 o (gh_U (gh_U F 0 v 2) 11 v 1) c := by
  dsimp only [gi_6, gi_cur, gi_NR, gi_wt, gi_open, gh_Net] at *
  try simp (decide := true) only [gh_U, gh_K, gh_A_has, gh_A_cnt, gh_A_mem, false_and, true_and, and_false, or_false, if_false, if_true, and_true]
  grind (splits := 25)
theorem w0_K {v : Nat} (HK : gi_K own o F mk c) (h0 : F 0 v = 0)  : gi_K own o (gh_U (gh_U F 0 v 2) 11 v 1) mk c := by
  dsimp only [gi_K, gi_cur, gi_NR, gi_wt, gi_open, gh_Net] at *
  try simp (decide := true) only [gh_U, gh_K, gh_A_has, gh_A_cnt, gh_A_mem, false_and, true_and, and_false, or_false, if_false, if_true, and_true]
  grind (splits := 25)
theorem w0_rj {v : Nat} (Hrj : gi_rj own o F mk) (h0 : F 0 v = 0)  : gi_rj own o (gh_U (gh_U F 0 v 2) 11 v 1) mk := by
  dsimp only [gi_rj, gi_cur, gi_NR, gi_wt, gi_open, gh_Net] at *
  try simp (decide := true) only [gh_U, gh_K, gh_A_has, gh_A_cnt, gh_A_mem, false_and, true_and, and_false, or_false, if_false, if_true, and_true]
  grind (splits := 25)
theorem w0_tw {v : Nat} (Htw : gi_tw own c) (h0 : F 0 v = 0)  : gi_tw own c := by
  dsimp only [gi_tw, gi_cur, gi_NR, gi_wt, gi_open, gh_Net] at *
  try simp (decide := true) only [gh_U, gh_K, gh_A_has, gh_A_cnt, gh_A_mem, false_and, true_and, and_false, or_false, if_false, if_true, and_true]
  grind (splits := 25)
theorem w0_ts {v : Nat} (Hts : gi_ts own o F c) (h0 : F 0 v = 0)  : gi_ts own o (gh_U (gh_U F 0 v 2) 11 v 1) c := by
  dsimp only [gi_ts, gi_cur, gi_NR, gi_wt, gi_open, gh_Net] at *
  try simp (decide := true) only [gh_U, gh_K, gh_A_has, gh_A_cnt, gh_A_mem, false_and, true_and, and_false, or_false, if_false, if_true, and_true]
  grind (splits := 25)
theorem w0_sz {v : Nat} (Hsz : gi_sz F) (h0 : F 0 v = 0)  : gi_sz (gh_U (gh_U F 0 v 2) 11 v 1) := by
  dsimp only [gi_sz, gi_cur, gi_NR, gi_wt, gi_open, gh_Net] at *
  try simp (decide := true) only [gh_U, gh_K, gh_A_has, gh_A_cnt, gh_A_mem, false_and, true_and, and_false, or_false, if_false, if_true, and_true]
  grind (splits := 25)
theorem w0_mi {v : Nat} (Hs0 : gi_s0 own F mk) (HpA : gi_pA own F mk) (Hn : gh_Net own o w) (h0 : F 0 v = 0)  {x y e a : Nat} {m : gh_M} (hx : o y e = x) (hy : own y e) (hm : m ∈ c y e) (ha : F 1 y ≤ a) (hb : ¬ gh_has 1 (c y e) → a = F 1 y)  (h : gm_i own o w F mk c x y e a m) : gm_i own o w (gh_U (gh_U F 0 v 2) 11 v 1) mk c x y e a m := by
  have hh : ∀ k, m.1 = k → gh_has k (c y e) := fun k hk => ⟨m, hm, hk⟩
  dsimp only [gi_s0, gi_pA, gm_i, gi_cur, gi_NR, gi_wt, gi_open, gh_Net] at *
  try simp (decide := true) only [gh_U, gh_K, gh_A_has, gh_A_cnt, gh_A_mem, false_and, true_and, and_false, or_false, if_false, if_true, and_true]
  grind (splits := 25)
theorem w0_mc {v : Nat} (Hs0 : gi_s0 own F mk) (HpA : gi_pA own F mk) (Hn : gh_Net own o w) (h0 : F 0 v = 0)  {x y e a : Nat} {m : gh_M} (hx : o y e = x) (hy : own y e) (hm : m ∈ c y e) (ha : F 1 y ≤ a) (hb : ¬ gh_has 1 (c y e) → a = F 1 y)  (h : gm_c own o w F mk c x y e a m) : gm_c own o w (gh_U (gh_U F 0 v 2) 11 v 1) mk c x y e a m := by
  have hh : ∀ k, m.1 = k → gh_has k (c y e) := fun k hk => ⟨m, hm, hk⟩
  dsimp only [gi_s0, gi_pA, gm_c, gi_cur, gi_NR, gi_wt, gi_open, gh_Net] at *
  try simp (decide := true) only [gh_U, gh_K, gh_A_has, gh_A_cnt, gh_A_mem, false_and, true_and, and_false, or_false, if_false, if_true, and_true]
  grind (splits := 25)
theorem w0_mt {v : Nat} (Hs0 : gi_s0 own F mk) (HpA : gi_pA own F mk) (Hn : gh_Net own o w) (h0 : F 0 v = 0)  {x y e a : Nat} {m : gh_M} (hx : o y e = x) (hy : own y e) (hm : m ∈ c y e) (ha : F 1 y ≤ a) (hb : ¬ gh_has 1 (c y e) → a = F 1 y)  (h : gm_t own o w F mk c x y e a m) : gm_t own o w (gh_U (gh_U F 0 v 2) 11 v 1) mk c x y e a m := by
  have hh : ∀ k, m.1 = k → gh_has k (c y e) := fun k hk => ⟨m, hm, hk⟩
  dsimp only [gi_s0, gi_pA, gm_t, gi_cur, gi_NR, gi_wt, gi_open, gh_Net] at *
  try simp (decide := true) only [gh_U, gh_K, gh_A_has, gh_A_cnt, gh_A_mem, false_and, true_and, and_false, or_false, if_false, if_true, and_true]
  grind (splits := 25)
theorem w0_ma {v : Nat} (Hs0 : gi_s0 own F mk) (HpA : gi_pA own F mk) (Hn : gh_Net own o w) (h0 : F 0 v = 0)  {x y e a : Nat} {m : gh_M} (hx : o y e = x) (hy : own y e) (hm : m ∈ c y e) (ha : F 1 y ≤ a) (hb : ¬ gh_has 1 (c y e) → a = F 1 y)  (h : gm_a own o w F mk c x y e a m) : gm_a own o w (gh_U (gh_U F 0 v 2) 11 v 1) mk c x y e a m := by
  have hh : ∀ k, m.1 = k → gh_has k (c y e) := fun k hk => ⟨m, hm, hk⟩
  dsimp only [gi_s0, gi_pA, gm_a, gi_cur, gi_NR, gi_wt, gi_open, gh_Net] at *
  try simp (decide := true) only [gh_U, gh_K, gh_A_has, gh_A_cnt, gh_A_mem, false_and, true_and, and_false, or_false, if_false, if_true, and_true]
  grind (splits := 25)
theorem w0_mr {v : Nat} (Hs0 : gi_s0 own F mk) (HpA : gi_pA own F mk) (Hn : gh_Net own o w) (h0 : F 0 v = 0)  {x y e a : Nat} {m : gh_M} (hx : o y e = x) (hy : own y e) (hm : m ∈ c y e) (ha : F 1 y ≤ a) (hb : ¬ gh_has 1 (c y e) → a = F 1 y)  (h : gm_r own o w F mk c x y e a m) : gm_r own o w (gh_U (gh_U F 0 v 2) 11 v 1) mk c x y e a m := by
  have hh : ∀ k, m.1 = k → gh_has k (c y e) := fun k hk => ⟨m, hm, hk⟩
  dsimp only [gi_s0, gi_pA, gm_r, gi_cur, gi_NR, gi_wt, gi_open, gh_Net] at *
  try simp (decide := true) only [gh_U, gh_K, gh_A_has, gh_A_cnt, gh_A_mem, false_and, true_and, and_false, or_false, if_false, if_true, and_true]
  grind (splits := 25)
theorem w0_mk {v : Nat} (Hs0 : gi_s0 own F mk) (HpA : gi_pA own F mk) (Hn : gh_Net own o w) (h0 : F 0 v = 0)  {x y e a : Nat} {m : gh_M} (hx : o y e = x) (hy : own y e) (hm : m ∈ c y e) (ha : F 1 y ≤ a) (hb : ¬ gh_has 1 (c y e) → a = F 1 y)  (h : gm_k own o w F mk c x y e a m) : gm_k own o w (gh_U (gh_U F 0 v 2) 11 v 1) mk c x y e a m := by
  have hh : ∀ k, m.1 = k → gh_has k (c y e) := fun k hk => ⟨m, hm, hk⟩
  dsimp only [gi_s0, gi_pA, gm_k, gi_cur, gi_NR, gi_wt, gi_open, gh_Net] at *
  try simp (decide := true) only [gh_U, gh_K, gh_A_has, gh_A_cnt, gh_A_mem, false_and, true_and, and_false, or_false, if_false, if_true, and_true]
  grind (splits := 25)
theorem w0_mp {v : Nat} (Hs0 : gi_s0 own F mk) (HpA : gi_pA own F mk) (Hn : gh_Net own o w) (h0 : F 0 v = 0)  {x y e a : Nat} {m : gh_M} (hx : o y e = x) (hy : own y e) (hm : m ∈ c y e) (ha : F 1 y ≤ a) (hb : ¬ gh_has 1 (c y e) → a = F 1 y)  (h : gm_p own o w F mk c x y e a m) : gm_p own o w (gh_U (gh_U F 0 v 2) 11 v 1) mk c x y e a m := by
  have hh : ∀ k, m.1 = k → gh_has k (c y e) := fun k hk => ⟨m, hm, hk⟩
  dsimp only [gi_s0, gi_pA, gm_p, gi_cur, gi_NR, gi_wt, gi_open, gh_Net] at *
  try simp (decide := true) only [gh_U, gh_K, gh_A_has, gh_A_cnt, gh_A_mem, false_and, true_and, and_false, or_false, if_false, if_true, and_true]
  grind (splits := 25)
theorem w0_I {v : Nat} (Hn : gh_Net own o w) (h : gI own o w F mk c) (h0 : F 0 v = 0)  : gI own o w (gh_U (gh_U F 0 v 2) 11 v 1) mk c := by
  obtain ⟨Hst, Hb1, Hb2, Hb3, Hb4, Hb5, Hb6, Hs0, HpA, Hs1, Hs2, HSl, Hs3, Hs4, How, Hs5, Hs6, HSr, HSn, HM, HC, Hph, H6, H7, Hbc, HK, Hrj, Htw, Hts, Han, Hsz, Hch⟩ := h
  have Xi := gx_iI Hch
  have Xc := gx_cI Hch
  have Xt := gx_tI Hch
  have Xa := gx_aI Hch
  have Xr := gx_rI Hch
  have Xk := gx_kI Hch
  have Xp := gx_pI Hch
  have Xl := gx_lI Hch
  have Xb := gx_bI Hch
  have Xn := gx_nI Hn Hph HpA HSr HSn HM HC
  refine ⟨w0_st Hst h0, w0_b1 Hb1 h0, w0_b2 Hb2 h0, w0_b3 Hb3 h0, w0_b4 Hb4 h0, w0_b5 Hb5 h0, w0_b6 Hb6 h0, w0_s0 Hs0 h0, w0_pA HpA h0, w0_s1 Hs1 h0, w0_s2 Hs2 h0, w0_Sl HSl h0, w0_s3 Hs3 Hs0 HpA h0, w0_s4 Hs4 h0, w0_ow How h0, w0_s5 Hs5 h0, w0_s6 Hs6 h0, w0_Sr HSr Hs0 h0, w0_Sn HSn h0, w0_M HM h0, w0_C HC h0, w0_ph Hph h0, w0_6 H6 h0, w0_7 H7 Hs0 HpA h0, w0_bc Hbc Hs0 HpA h0, w0_K HK h0, w0_rj Hrj h0, w0_tw Htw h0, w0_ts Hts h0, w0_an Han Hs0 HpA Hs2 Hn HK h0, w0_sz Hsz h0, ?_⟩
  have K1 : gi_all own (gh_U (gh_U F 0 v 2) 11 v 1) c (fun y e => gi_m own o w (gh_U (gh_U F 0 v 2) 11 v 1) mk c (o y e) y e) := gi_all_go (Hch) (fun _ _ q => q) (fun y => (by simp [gh_U])) (fun y e a m hy hm ha hb q => ⟨q.1, w0_mi Hs0 HpA Hn h0 rfl hy hm ha hb q.2.1, w0_mc Hs0 HpA Hn h0 rfl hy hm ha hb q.2.2.1, w0_mt Hs0 HpA Hn h0 rfl hy hm ha hb q.2.2.2.1, w0_ma Hs0 HpA Hn h0 rfl hy hm ha hb q.2.2.2.2.1, w0_mr Hs0 HpA Hn h0 rfl hy hm ha hb q.2.2.2.2.2.1, w0_mk Hs0 HpA Hn h0 rfl hy hm ha hb q.2.2.2.2.2.2.1, w0_mp Hs0 HpA Hn h0 rfl hy hm ha hb q.2.2.2.2.2.2.2⟩)
  exact K1
end
section
variable {own : Nat → Nat → Prop} {o : Nat → Nat → Nat} {w : Nat → Nat} {F : gh_F} {mk : Nat → Nat → Nat} {c : Nat → Nat → List gh_M}
theorem si_6 {v j : Nat} (H6 : gi_6 o F c) (Hn : gh_Net own o w) (hj : own v j) (hb1 : mk v j = 1) (h9 : j ≠ F 9 v) (hs : F 8 (o v j) = F 8 v) (hu : F 9 (o v j) = j) (hl : gh_last (F 1 (o v j)) (c (o v j) j) < F 1 v) (hw : w j ≠ F 8 v ∨ F 13 (F 8 v) ≠ 1) (hN : gi_NR o F (o v j))  : gi_6 o F (gh_A c (o v j) j (1, F 1 v, F 2 v, F 0 v)) := by
  intro x hx
  obtain ⟨a1, a2⟩ := H6 x hx
  refine ⟨a1, fun m hm hm1 => ?_⟩
  rw [gh_A_mem] at hm
  have a3 := Hn.1 v j hj
  rcases hm with hm | ⟨e1, e2, e3⟩
  · exact a2 m hm hm1
  · subst e3
    rw [e1, hu, a3.2.1]
    exact Nat.le_refl _
theorem si_Sr {v j : Nat} (HSr : gi_Sr o w F c) (hj : own v j) (hb1 : mk v j = 1) (h9 : j ≠ F 9 v) (hs : F 8 (o v j) = F 8 v) (hu : F 9 (o v j) = j) (hl : gh_last (F 1 (o v j)) (c (o v j) j) < F 1 v) (hw : w j ≠ F 8 v ∨ F 13 (F 8 v) ≠ 1) (hN : gi_NR o F (o v j))  : gi_Sr o w F (gh_A c (o v j) j (1, F 1 v, F 2 v, F 0 v)) := by
  intro x h1 h2
  obtain ⟨a1, a2, a3⟩ := HSr x h1 h2
  refine ⟨a1, a2, fun hc => ⟨(a3 hc).1, ?_⟩⟩
  rcases (a3 hc).2 with z | ⟨m, m1, m2, m3⟩
  · exact Or.inl (gh_A_has.mpr (Or.inl z))
  · exact Or.inr ⟨m, gh_A_mem.mpr (Or.inl m1), m2, m3⟩
theorem si_st {v j : Nat} (Hst : gi_st F) (Hn : gh_Net own o w) (hj : own v j) (hb1 : mk v j = 1) (h9 : j ≠ F 9 v) (hs : F 8 (o v j) = F 8 v) (hu : F 9 (o v j) = j) (hl : gh_last (F 1 (o v j)) (c (o v j) j) < F 1 v) (hw : w j ≠ F 8 v ∨ F 13 (F 8 v) ≠ 1) (hN : gi_NR o F (o v j))  : gi_st F := by
  dsimp only [gi_st, gi_cur, gi_NR, gi_wt, gi_open, gh_Net] at *
  try simp (decide := true) only [gh_U, gh_K, gh_A_has, gh_A_cnt, gh_A_mem, false_and, true_and, and_false, or_false, if_false, if_true, and_true]
  grind (splits := 25)
theorem si_b1 {v j : Nat} (Hb1 : gi_b1 F) (Hn : gh_Net own o w) (hj : own v j) (hb1 : mk v j = 1) (h9 : j ≠ F 9 v) (hs : F 8 (o v j) = F 8 v) (hu : F 9 (o v j) = j) (hl : gh_last (F 1 (o v j)) (c (o v j) j) < F 1 v) (hw : w j ≠ F 8 v ∨ F 13 (F 8 v) ≠ 1) (hN : gi_NR o F (o v j))  : gi_b1 F := by
  dsimp only [gi_b1, gi_cur, gi_NR, gi_wt, gi_open, gh_Net] at *
  try simp (decide := true) only [gh_U, gh_K, gh_A_has, gh_A_cnt, gh_A_mem, false_and, true_and, and_false, or_false, if_false, if_true, and_true]
  grind (splits := 25)
theorem si_b2 {v j : Nat} (Hb2 : gi_b2 F) (Hn : gh_Net own o w) (hj : own v j) (hb1 : mk v j = 1) (h9 : j ≠ F 9 v) (hs : F 8 (o v j) = F 8 v) (hu : F 9 (o v j) = j) (hl : gh_last (F 1 (o v j)) (c (o v j) j) < F 1 v) (hw : w j ≠ F 8 v ∨ F 13 (F 8 v) ≠ 1) (hN : gi_NR o F (o v j))  : gi_b2 F := by
  dsimp only [gi_b2, gi_cur, gi_NR, gi_wt, gi_open, gh_Net] at *
  try simp (decide := true) only [gh_U, gh_K, gh_A_has, gh_A_cnt, gh_A_mem, false_and, true_and, and_false, or_false, if_false, if_true, and_true]
  grind (splits := 25)
theorem si_b3 {v j : Nat} (Hb3 : gi_b3 F) (Hn : gh_Net own o w) (hj : own v j) (hb1 : mk v j = 1) (h9 : j ≠ F 9 v) (hs : F 8 (o v j) = F 8 v) (hu : F 9 (o v j) = j) (hl : gh_last (F 1 (o v j)) (c (o v j) j) < F 1 v) (hw : w j ≠ F 8 v ∨ F 13 (F 8 v) ≠ 1) (hN : gi_NR o F (o v j))  : gi_b3 F := by
  dsimp only [gi_b3, gi_cur, gi_NR, gi_wt, gi_open, gh_Net] at *
  try simp (decide := true) only [gh_U, gh_K, gh_A_has, gh_A_cnt, gh_A_mem, false_and, true_and, and_false, or_false, if_false, if_true, and_true]
  grind (splits := 25)
theorem si_b4 {v j : Nat} (Hb4 : gi_b4 F) (Hn : gh_Net own o w) (hj : own v j) (hb1 : mk v j = 1) (h9 : j ≠ F 9 v) (hs : F 8 (o v j) = F 8 v) (hu : F 9 (o v j) = j) (hl : gh_last (F 1 (o v j)) (c (o v j) j) < F 1 v) (hw : w j ≠ F 8 v ∨ F 13 (F 8 v) ≠ 1) (hN : gi_NR o F (o v j))  : gi_b4 F := by
  dsimp only [gi_b4, gi_cur, gi_NR, gi_wt, gi_open, gh_Net] at *
  try simp (decide := true) only [gh_U, gh_K, gh_A_has, gh_A_cnt, gh_A_mem, false_and, true_and, and_false, or_false, if_false, if_true, and_true]
  grind (splits := 25)
theorem si_b5 {v j : Nat} (Hb5 : gi_b5 own o w F) (Hn : gh_Net own o w) (hj : own v j) (hb1 : mk v j = 1) (h9 : j ≠ F 9 v) (hs : F 8 (o v j) = F 8 v) (hu : F 9 (o v j) = j) (hl : gh_last (F 1 (o v j)) (c (o v j) j) < F 1 v) (hw : w j ≠ F 8 v ∨ F 13 (F 8 v) ≠ 1) (hN : gi_NR o F (o v j))  : gi_b5 own o w F := by
  dsimp only [gi_b5, gi_cur, gi_NR, gi_wt, gi_open, gh_Net] at *
  try simp (decide := true) only [gh_U, gh_K, gh_A_has, gh_A_cnt, gh_A_mem, false_and, true_and, and_false, or_false, if_false, if_true, and_true]
  grind (splits := 25)
theorem si_b6 {v j : Nat} (Hb6 : gi_b6 own o w F mk) (Hn : gh_Net own o w) (hj : own v j) (hb1 : mk v j = 1) (h9 : j ≠ F 9 v) (hs : F 8 (o v j) = F 8 v) (hu : F 9 (o v j) = j) (hl : gh_last (F 1 (o v j)) (c (o v j) j) < F 1 v) (hw : w j ≠ F 8 v ∨ F 13 (F 8 v) ≠ 1) (hN : gi_NR o F (o v j))  : gi_b6 own o w F mk := by
  dsimp only [gi_b6, gi_cur, gi_NR, gi_wt, gi_open, gh_Net] at *
  try simp (decide := true) only [gh_U, gh_K, gh_A_has, gh_A_cnt, gh_A_mem, false_and, true_and, and_false, or_false, if_false, if_true, and_true]
  grind (splits := 25)
theorem si_s0 {v j : Nat} (Hs0 : gi_s0 own F mk) (Hn : gh_Net own o w) (hj : own v j) (hb1 : mk v j = 1) (h9 : j ≠ F 9 v) (hs : F 8 (o v j) = F 8 v) (hu : F 9 (o v j) = j) (hl : gh_last (F 1 (o v j)) (c (o v j) j) < F 1 v) (hw : w j ≠ F 8 v ∨ F 13 (F 8 v) ≠ 1) (hN : gi_NR o F (o v j))  : gi_s0 own F mk := by
  dsimp only [gi_s0, gi_cur, gi_NR, gi_wt, gi_open, gh_Net] at *
  try simp (decide := true) only [gh_U, gh_K, gh_A_has, gh_A_cnt, gh_A_mem, false_and, true_and, and_false, or_false, if_false, if_true, and_true]
  grind (splits := 25)
theorem si_pA {v j : Nat} (HpA : gi_pA own F mk) (Hn : gh_Net own o w) (hj : own v j) (hb1 : mk v j = 1) (h9 : j ≠ F 9 v) (hs : F 8 (o v j) = F 8 v) (hu : F 9 (o v j) = j) (hl : gh_last (F 1 (o v j)) (c (o v j) j) < F 1 v) (hw : w j ≠ F 8 v ∨ F 13 (F 8 v) ≠ 1) (hN : gi_NR o F (o v j))  : gi_pA own F mk := by
  dsimp only [gi_pA, gi_cur, gi_NR, gi_wt, gi_open, gh_Net] at *
  try simp (decide := true) only [gh_U, gh_K, gh_A_has, gh_A_cnt, gh_A_mem, false_and, true_and, and_false, or_false, if_false, if_true, and_true]
  grind (splits := 25)
theorem si_s1 {v j : Nat} (Hs1 : gi_s1 F) (Hn : gh_Net own o w) (hj : own v j) (hb1 : mk v j = 1) (h9 : j ≠ F 9 v) (hs : F 8 (o v j) = F 8 v) (hu : F 9 (o v j) = j) (hl : gh_last (F 1 (o v j)) (c (o v j) j) < F 1 v) (hw : w j ≠ F 8 v ∨ F 13 (F 8 v) ≠ 1) (hN : gi_NR o F (o v j))  : gi_s1 F := by
  dsimp only [gi_s1, gi_cur, gi_NR, gi_wt, gi_open, gh_Net] at *
  try simp (decide := true) only [gh_U, gh_K, gh_A_has, gh_A_cnt, gh_A_mem, false_and, true_and, and_false, or_false, if_false, if_true, and_true]
  grind (splits := 25)
theorem si_s2 {v j : Nat} (Hs2 : gi_s2 F) (Hn : gh_Net own o w) (hj : own v j) (hb1 : mk v j = 1) (h9 : j ≠ F 9 v) (hs : F 8 (o v j) = F 8 v) (hu : F 9 (o v j) = j) (hl : gh_last (F 1 (o v j)) (c (o v j) j) < F 1 v) (hw : w j ≠ F 8 v ∨ F 13 (F 8 v) ≠ 1) (hN : gi_NR o F (o v j))  : gi_s2 F := by
  dsimp only [gi_s2, gi_cur, gi_NR, gi_wt, gi_open, gh_Net] at *
  try simp (decide := true) only [gh_U, gh_K, gh_A_has, gh_A_cnt, gh_A_mem, false_and, true_and, and_false, or_false, if_false, if_true, and_true]
  grind (splits := 25)
theorem si_Sl {v j : Nat} (HSl : gi_Sl F) (Hn : gh_Net own o w) (hj : own v j) (hb1 : mk v j = 1) (h9 : j ≠ F 9 v) (hs : F 8 (o v j) = F 8 v) (hu : F 9 (o v j) = j) (hl : gh_last (F 1 (o v j)) (c (o v j) j) < F 1 v) (hw : w j ≠ F 8 v ∨ F 13 (F 8 v) ≠ 1) (hN : gi_NR o F (o v j))  : gi_Sl F := by
  dsimp only [gi_Sl, gi_cur, gi_NR, gi_wt, gi_open, gh_Net] at *
  try simp (decide := true) only [gh_U, gh_K, gh_A_has, gh_A_cnt, gh_A_mem, false_and, true_and, and_false, or_false, if_false, if_true, and_true]
  grind (splits := 25)
theorem si_s3 {v j : Nat} (Hs3 : gi_s3 F) (Hn : gh_Net own o w) (hj : own v j) (hb1 : mk v j = 1) (h9 : j ≠ F 9 v) (hs : F 8 (o v j) = F 8 v) (hu : F 9 (o v j) = j) (hl : gh_last (F 1 (o v j)) (c (o v j) j) < F 1 v) (hw : w j ≠ F 8 v ∨ F 13 (F 8 v) ≠ 1) (hN : gi_NR o F (o v j))  : gi_s3 F := by
  dsimp only [gi_s3, gi_cur, gi_NR, gi_wt, gi_open, gh_Net] at *
  try simp (decide := true) only [gh_U, gh_K, gh_A_has, gh_A_cnt, gh_A_mem, false_and, true_and, and_false, or_false, if_false, if_true, and_true]
  grind (splits := 25)
theorem si_s4 {v j : Nat} (Hs4 : gi_s4 F) (Hn : gh_Net own o w) (hj : own v j) (hb1 : mk v j = 1) (h9 : j ≠ F 9 v) (hs : F 8 (o v j) = F 8 v) (hu : F 9 (o v j) = j) (hl : gh_last (F 1 (o v j)) (c (o v j) j) < F 1 v) (hw : w j ≠ F 8 v ∨ F 13 (F 8 v) ≠ 1) (hN : gi_NR o F (o v j))  : gi_s4 F := by
  dsimp only [gi_s4, gi_cur, gi_NR, gi_wt, gi_open, gh_Net] at *
  try simp (decide := true) only [gh_U, gh_K, gh_A_has, gh_A_cnt, gh_A_mem, false_and, true_and, and_false, or_false, if_false, if_true, and_true]
  grind (splits := 25)
theorem si_ow {v j : Nat} (How : gi_ow own F) (Hn : gh_Net own o w) (hj : own v j) (hb1 : mk v j = 1) (h9 : j ≠ F 9 v) (hs : F 8 (o v j) = F 8 v) (hu : F 9 (o v j) = j) (hl : gh_last (F 1 (o v j)) (c (o v j) j) < F 1 v) (hw : w j ≠ F 8 v ∨ F 13 (F 8 v) ≠ 1) (hN : gi_NR o F (o v j))  : gi_ow own F := by
  dsimp only [gi_ow, gi_cur, gi_NR, gi_wt, gi_open, gh_Net] at *
  try simp (decide := true) only [gh_U, gh_K, gh_A_has, gh_A_cnt, gh_A_mem, false_and, true_and, and_false, or_false, if_false, if_true, and_true]
  grind (splits := 25)
theorem si_s5 {v j : Nat} (Hs5 : gi_s5 F) (Hn : gh_Net own o w) (hj : own v j) (hb1 : mk v j = 1) (h9 : j ≠ F 9 v) (hs : F 8 (o v j) = F 8 v) (hu : F 9 (o v j) = j) (hl : gh_last (F 1 (o v j)) (c (o v j) j) < F 1 v) (hw : w j ≠ F 8 v ∨ F 13 (F 8 v) ≠ 1) (hN : gi_NR o F (o v j))  : gi_s5 F := by
  dsimp only [gi_s5, gi_cur, gi_NR, gi_wt, gi_open, gh_Net] at *
  try simp (decide := true) only [gh_U, gh_K, gh_A_has, gh_A_cnt, gh_A_mem, false_and, true_and, and_false, or_false, if_false, if_true, and_true]
  grind (splits := 25)
theorem si_s6 {v j : Nat} (Hs6 : gi_s6 own F mk) (Hn : gh_Net own o w) (hj : own v j) (hb1 : mk v j = 1) (h9 : j ≠ F 9 v) (hs : F 8 (o v j) = F 8 v) (hu : F 9 (o v j) = j) (hl : gh_last (F 1 (o v j)) (c (o v j) j) < F 1 v) (hw : w j ≠ F 8 v ∨ F 13 (F 8 v) ≠ 1) (hN : gi_NR o F (o v j))  : gi_s6 own F mk := by
  dsimp only [gi_s6, gi_cur, gi_NR, gi_wt, gi_open, gh_Net] at *
  try simp (decide := true) only [gh_U, gh_K, gh_A_has, gh_A_cnt, gh_A_mem, false_and, true_and, and_false, or_false, if_false, if_true, and_true]
  grind (splits := 25)
theorem si_Sn {v j : Nat} (HSn : gi_Sn o w F) (Hn : gh_Net own o w) (hj : own v j) (hb1 : mk v j = 1) (h9 : j ≠ F 9 v) (hs : F 8 (o v j) = F 8 v) (hu : F 9 (o v j) = j) (hl : gh_last (F 1 (o v j)) (c (o v j) j) < F 1 v) (hw : w j ≠ F 8 v ∨ F 13 (F 8 v) ≠ 1) (hN : gi_NR o F (o v j))  : gi_Sn o w F := by
  dsimp only [gi_Sn, gi_cur, gi_NR, gi_wt, gi_open, gh_Net] at *
  try simp (decide := true) only [gh_U, gh_K, gh_A_has, gh_A_cnt, gh_A_mem, false_and, true_and, and_false, or_false, if_false, if_true, and_true]
  grind (splits := 25)
theorem si_M {v j : Nat} (HM : gi_M own o F) (Hn : gh_Net own o w) (hj : own v j) (hb1 : mk v j = 1) (h9 : j ≠ F 9 v) (hs : F 8 (o v j) = F 8 v) (hu : F 9 (o v j) = j) (hl : gh_last (F 1 (o v j)) (c (o v j) j) < F 1 v) (hw : w j ≠ F 8 v ∨ F 13 (F 8 v) ≠ 1) (hN : gi_NR o F (o v j))  : gi_M own o F := by
  dsimp only [gi_M, gi_cur, gi_NR, gi_wt, gi_open, gh_Net] at *
  try simp (decide := true) only [gh_U, gh_K, gh_A_has, gh_A_cnt, gh_A_mem, false_and, true_and, and_false, or_false, if_false, if_true, and_true]
  grind (splits := 25)
theorem si_C {v j : Nat} (HC : gi_C own o F mk) (Hn : gh_Net own o w) (hj : own v j) (hb1 : mk v j = 1) (h9 : j ≠ F 9 v) (hs : F 8 (o v j) = F 8 v) (hu : F 9 (o v j) = j) (hl : gh_last (F 1 (o v j)) (c (o v j) j) < F 1 v) (hw : w j ≠ F 8 v ∨ F 13 (F 8 v) ≠ 1) (hN : gi_NR o F (o v j))  : gi_C own o F mk := by
  dsimp only [gi_C, gi_cur, gi_NR, gi_wt, gi_open, gh_Net] at *
  try simp (decide := true) only [gh_U, gh_K, gh_A_has, gh_A_cnt, gh_A_mem, false_and, true_and, and_false, or_false, if_false, if_true, and_true]
  grind (splits := 25)
theorem si_ph {v j : Nat} (Hph : gi_ph F) (Hn : gh_Net own o w) (hj : own v j) (hb1 : mk v j = 1) (h9 : j ≠ F 9 v) (hs : F 8 (o v j) = F 8 v) (hu : F 9 (o v j) = j) (hl : gh_last (F 1 (o v j)) (c (o v j) j) < F 1 v) (hw : w j ≠ F 8 v ∨ F 13 (F 8 v) ≠ 1) (hN : gi_NR o F (o v j))  : gi_ph F := by
  dsimp only [gi_ph, gi_cur, gi_NR, gi_wt, gi_open, gh_Net] at *
  try simp (decide := true) only [gh_U, gh_K, gh_A_has, gh_A_cnt, gh_A_mem, false_and, true_and, and_false, or_false, if_false, if_true, and_true]
  grind (splits := 25)
theorem si_7 {v j : Nat} (H7 : gi_7 o F) (Hn : gh_Net own o w) (hj : own v j) (hb1 : mk v j = 1) (h9 : j ≠ F 9 v) (hs : F 8 (o v j) = F 8 v) (hu : F 9 (o v j) = j) (hl : gh_last (F 1 (o v j)) (c (o v j) j) < F 1 v) (hw : w j ≠ F 8 v ∨ F 13 (F 8 v) ≠ 1) (hN : gi_NR o F (o v j))  : gi_7 o F := by
  dsimp only [gi_7, gi_cur, gi_NR, gi_wt, gi_open, gh_Net] at *
  try simp (decide := true) only [gh_U, gh_K, gh_A_has, gh_A_cnt, gh_A_mem, false_and, true_and, and_false, or_false, if_false, if_true, and_true]
  grind (splits := 25)
theorem si_bc {v j : Nat} (Hbc : gi_bc o F mk c) (Hn : gh_Net own o w) (hj : own v j) (hb1 : mk v j = 1) (h9 : j ≠ F 9 v) (hs : F 8 (o v j) = F 8 v) (hu : F 9 (o v j) = j) (hl : gh_last (F 1 (o v j)) (c (o v j) j) < F 1 v) (hw : w j ≠ F 8 v ∨ F 13 (F 8 v) ≠ 1) (hN : gi_NR o F (o v j))  : gi_bc o F mk (gh_A c (o v j) j (1, F 1 v, F 2 v, F 0 v)) := by
  dsimp only [gi_bc, gi_cur, gi_NR, gi_wt, gi_open, gh_Net] at *
  try simp (decide := true) only [gh_U, gh_K, gh_A_has, gh_A_cnt, gh_A_mem, false_and, true_and, and_false, or_false, if_false, if_true, and_true]
  grind (splits := 25)
theorem si_K {v j : Nat} (HK : gi_K own o F mk c) (Hn : gh_Net own o w) (hj : own v j) (hb1 : mk v j = 1) (h9 : j ≠ F 9 v) (hs : F 8 (o v j) = F 8 v) (hu : F 9 (o v j) = j) (hl : gh_last (F 1 (o v j)) (c (o v j) j) < F 1 v) (hw : w j ≠ F 8 v ∨ F 13 (F 8 v) ≠ 1) (hN : gi_NR o F (o v j))  : gi_K own o F mk (gh_A c (o v j) j (1, F 1 v, F 2 v, F 0 v)) := by
  dsimp only [gi_K, gi_cur, gi_NR, gi_wt, gi_open, gh_Net] at *
  try simp (decide := true) only [gh_U, gh_K, gh_A_has, gh_A_cnt, gh_A_mem, false_and, true_and, and_false, or_false, if_false, if_true, and_true]
  grind (splits := 25)
theorem si_rj {v j : Nat} (Hrj : gi_rj own o F mk) (Hn : gh_Net own o w) (hj : own v j) (hb1 : mk v j = 1) (h9 : j ≠ F 9 v) (hs : F 8 (o v j) = F 8 v) (hu : F 9 (o v j) = j) (hl : gh_last (F 1 (o v j)) (c (o v j) j) < F 1 v) (hw : w j ≠ F 8 v ∨ F 13 (F 8 v) ≠ 1) (hN : gi_NR o F (o v j))  : gi_rj own o F mk := by
  dsimp only [gi_rj, gi_cur, gi_NR, gi_wt, gi_open, gh_Net] at *
  try simp (decide := true) only [gh_U, gh_K, gh_A_has, gh_A_cnt, gh_A_mem, false_and, true_and, and_false, or_false, if_false, if_true, and_true]
  grind (splits := 25)
theorem si_tw {v j : Nat} (Htw : gi_tw own c) (Hn : gh_Net own o w) (hj : own v j) (hb1 : mk v j = 1) (h9 : j ≠ F 9 v) (hs : F 8 (o v j) = F 8 v) (hu : F 9 (o v j) = j) (hl : gh_last (F 1 (o v j)) (c (o v j) j) < F 1 v) (hw : w j ≠ F 8 v ∨ F 13 (F 8 v) ≠ 1) (hN : gi_NR o F (o v j))  : gi_tw own (gh_A c (o v j) j (1, F 1 v, F 2 v, F 0 v)) := by
  dsimp only [gi_tw, gi_cur, gi_NR, gi_wt, gi_open, gh_Net] at *
  try simp (decide := true) only [gh_U, gh_K, gh_A_has, gh_A_cnt, gh_A_mem, false_and, true_and, and_false, or_false, if_false, if_true, and_true]
  grind (splits := 25)
theorem si_ts {v j : Nat} (Hts : gi_ts own o F c) (Hn : gh_Net own o w) (hj : own v j) (hb1 : mk v j = 1) (h9 : j ≠ F 9 v) (hs : F 8 (o v j) = F 8 v) (hu : F 9 (o v j) = j) (hl : gh_last (F 1 (o v j)) (c (o v j) j) < F 1 v) (hw : w j ≠ F 8 v ∨ F 13 (F 8 v) ≠ 1) (hN : gi_NR o F (o v j))  : gi_ts own o F (gh_A c (o v j) j (1, F 1 v, F 2 v, F 0 v)) := by
  dsimp only [gi_ts, gi_cur, gi_NR, gi_wt, gi_open, gh_Net] at *
  try simp (decide := true) only [gh_U, gh_K, gh_A_has, gh_A_cnt, gh_A_mem, false_and, true_and, and_false, or_false, if_false, if_true, and_true]
  grind (splits := 25)
theorem si_an {v j : Nat} (Han : gi_an own o F mk c) (Hn : gh_Net own o w) (hj : own v j) (hb1 : mk v j = 1) (h9 : j ≠ F 9 v) (hs : F 8 (o v j) = F 8 v) (hu : F 9 (o v j) = j) (hl : gh_last (F 1 (o v j)) (c (o v j) j) < F 1 v) (hw : w j ≠ F 8 v ∨ F 13 (F 8 v) ≠ 1) (hN : gi_NR o F (o v j))  : gi_an own o F mk (gh_A c (o v j) j (1, F 1 v, F 2 v, F 0 v)) := by
  dsimp only [gi_an, gi_cur, gi_NR, gi_wt, gi_open, gh_Net] at *
  try simp (decide := true) only [gh_U, gh_K, gh_A_has, gh_A_cnt, gh_A_mem, false_and, true_and, and_false, or_false, if_false, if_true, and_true]
  grind (splits := 25)
theorem si_sz {v j : Nat} (Hsz : gi_sz F) (Hn : gh_Net own o w) (hj : own v j) (hb1 : mk v j = 1) (h9 : j ≠ F 9 v) (hs : F 8 (o v j) = F 8 v) (hu : F 9 (o v j) = j) (hl : gh_last (F 1 (o v j)) (c (o v j) j) < F 1 v) (hw : w j ≠ F 8 v ∨ F 13 (F 8 v) ≠ 1) (hN : gi_NR o F (o v j))  : gi_sz F := by
  dsimp only [gi_sz, gi_cur, gi_NR, gi_wt, gi_open, gh_Net] at *
  try simp (decide := true) only [gh_U, gh_K, gh_A_has, gh_A_cnt, gh_A_mem, false_and, true_and, and_false, or_false, if_false, if_true, and_true]
  grind (splits := 25)
theorem si_mi {v j : Nat} (Hn : gh_Net own o w) (hj : own v j) (hb1 : mk v j = 1) (h9 : j ≠ F 9 v) (hs : F 8 (o v j) = F 8 v) (hu : F 9 (o v j) = j) (hl : gh_last (F 1 (o v j)) (c (o v j) j) < F 1 v) (hw : w j ≠ F 8 v ∨ F 13 (F 8 v) ≠ 1) (hN : gi_NR o F (o v j))  {x y e a : Nat} {m : gh_M} (hx : o y e = x) (hy : own y e) (hm : m ∈ c y e) (ha : F 1 y ≤ a) (hb : ¬ gh_has 1 (c y e) → a = F 1 y)  (h : gm_i own o w F mk c x y e a m) : gm_i own o w F mk (gh_A c (o v j) j (1, F 1 v, F 2 v, F 0 v)) x y e a m := by
  have hh : ∀ k, m.1 = k → gh_has k (c y e) := fun k hk => ⟨m, hm, hk⟩
  dsimp only [gm_i, gi_cur, gi_NR, gi_wt, gi_open, gh_Net] at *
  try simp (decide := true) only [gh_U, gh_K, gh_A_has, gh_A_cnt, gh_A_mem, false_and, true_and, and_false, or_false, if_false, if_true, and_true]
  grind (splits := 25)
theorem si_mc {v j : Nat} (Hn : gh_Net own o w) (hj : own v j) (hb1 : mk v j = 1) (h9 : j ≠ F 9 v) (hs : F 8 (o v j) = F 8 v) (hu : F 9 (o v j) = j) (hl : gh_last (F 1 (o v j)) (c (o v j) j) < F 1 v) (hw : w j ≠ F 8 v ∨ F 13 (F 8 v) ≠ 1) (hN : gi_NR o F (o v j))  {x y e a : Nat} {m : gh_M} (hx : o y e = x) (hy : own y e) (hm : m ∈ c y e) (ha : F 1 y ≤ a) (hb : ¬ gh_has 1 (c y e) → a = F 1 y)  (h : gm_c own o w F mk c x y e a m) : gm_c own o w F mk (gh_A c (o v j) j (1, F 1 v, F 2 v, F 0 v)) x y e a m := by
  have hh : ∀ k, m.1 = k → gh_has k (c y e) := fun k hk => ⟨m, hm, hk⟩
  dsimp only [gm_c, gi_cur, gi_NR, gi_wt, gi_open, gh_Net] at *
  try simp (decide := true) only [gh_U, gh_K, gh_A_has, gh_A_cnt, gh_A_mem, false_and, true_and, and_false, or_false, if_false, if_true, and_true]
  grind (splits := 25)
theorem si_mt {v j : Nat} (Hn : gh_Net own o w) (hj : own v j) (hb1 : mk v j = 1) (h9 : j ≠ F 9 v) (hs : F 8 (o v j) = F 8 v) (hu : F 9 (o v j) = j) (hl : gh_last (F 1 (o v j)) (c (o v j) j) < F 1 v) (hw : w j ≠ F 8 v ∨ F 13 (F 8 v) ≠ 1) (hN : gi_NR o F (o v j))  {x y e a : Nat} {m : gh_M} (hx : o y e = x) (hy : own y e) (hm : m ∈ c y e) (ha : F 1 y ≤ a) (hb : ¬ gh_has 1 (c y e) → a = F 1 y)  (h : gm_t own o w F mk c x y e a m) : gm_t own o w F mk (gh_A c (o v j) j (1, F 1 v, F 2 v, F 0 v)) x y e a m := by
  have hh : ∀ k, m.1 = k → gh_has k (c y e) := fun k hk => ⟨m, hm, hk⟩
  dsimp only [gm_t, gi_cur, gi_NR, gi_wt, gi_open, gh_Net] at *
  try simp (decide := true) only [gh_U, gh_K, gh_A_has, gh_A_cnt, gh_A_mem, false_and, true_and, and_false, or_false, if_false, if_true, and_true]
  grind (splits := 25)
theorem si_ma {v j : Nat} (Hn : gh_Net own o w) (hj : own v j) (hb1 : mk v j = 1) (h9 : j ≠ F 9 v) (hs : F 8 (o v j) = F 8 v) (hu : F 9 (o v j) = j) (hl : gh_last (F 1 (o v j)) (c (o v j) j) < F 1 v) (hw : w j ≠ F 8 v ∨ F 13 (F 8 v) ≠ 1) (hN : gi_NR o F (o v j))  {x y e a : Nat} {m : gh_M} (hx : o y e = x) (hy : own y e) (hm : m ∈ c y e) (ha : F 1 y ≤ a) (hb : ¬ gh_has 1 (c y e) → a = F 1 y)  (h : gm_a own o w F mk c x y e a m) : gm_a own o w F mk (gh_A c (o v j) j (1, F 1 v, F 2 v, F 0 v)) x y e a m := by
  have hh : ∀ k, m.1 = k → gh_has k (c y e) := fun k hk => ⟨m, hm, hk⟩
  dsimp only [gm_a, gi_cur, gi_NR, gi_wt, gi_open, gh_Net] at *
  try simp (decide := true) only [gh_U, gh_K, gh_A_has, gh_A_cnt, gh_A_mem, false_and, true_and, and_false, or_false, if_false, if_true, and_true]
  grind (splits := 25)
theorem si_mr {v j : Nat} (Hn : gh_Net own o w) (hj : own v j) (hb1 : mk v j = 1) (h9 : j ≠ F 9 v) (hs : F 8 (o v j) = F 8 v) (hu : F 9 (o v j) = j) (hl : gh_last (F 1 (o v j)) (c (o v j) j) < F 1 v) (hw : w j ≠ F 8 v ∨ F 13 (F 8 v) ≠ 1) (hN : gi_NR o F (o v j))  {x y e a : Nat} {m : gh_M} (hx : o y e = x) (hy : own y e) (hm : m ∈ c y e) (ha : F 1 y ≤ a) (hb : ¬ gh_has 1 (c y e) → a = F 1 y)  (h : gm_r own o w F mk c x y e a m) : gm_r own o w F mk (gh_A c (o v j) j (1, F 1 v, F 2 v, F 0 v)) x y e a m := by
  have hh : ∀ k, m.1 = k → gh_has k (c y e) := fun k hk => ⟨m, hm, hk⟩
  dsimp only [gm_r, gi_cur, gi_NR, gi_wt, gi_open, gh_Net] at *
  try simp (decide := true) only [gh_U, gh_K, gh_A_has, gh_A_cnt, gh_A_mem, false_and, true_and, and_false, or_false, if_false, if_true, and_true]
  grind (splits := 25)
theorem si_mk {v j : Nat} (Hn : gh_Net own o w) (hj : own v j) (hb1 : mk v j = 1) (h9 : j ≠ F 9 v) (hs : F 8 (o v j) = F 8 v) (hu : F 9 (o v j) = j) (hl : gh_last (F 1 (o v j)) (c (o v j) j) < F 1 v) (hw : w j ≠ F 8 v ∨ F 13 (F 8 v) ≠ 1) (hN : gi_NR o F (o v j))  {x y e a : Nat} {m : gh_M} (hx : o y e = x) (hy : own y e) (hm : m ∈ c y e) (ha : F 1 y ≤ a) (hb : ¬ gh_has 1 (c y e) → a = F 1 y)  (h : gm_k own o w F mk c x y e a m) : gm_k own o w F mk (gh_A c (o v j) j (1, F 1 v, F 2 v, F 0 v)) x y e a m := by
  have hh : ∀ k, m.1 = k → gh_has k (c y e) := fun k hk => ⟨m, hm, hk⟩
  dsimp only [gm_k, gi_cur, gi_NR, gi_wt, gi_open, gh_Net] at *
  try simp (decide := true) only [gh_U, gh_K, gh_A_has, gh_A_cnt, gh_A_mem, false_and, true_and, and_false, or_false, if_false, if_true, and_true]
  grind (splits := 25)
theorem si_mp {v j : Nat} (Hn : gh_Net own o w) (hj : own v j) (hb1 : mk v j = 1) (h9 : j ≠ F 9 v) (hs : F 8 (o v j) = F 8 v) (hu : F 9 (o v j) = j) (hl : gh_last (F 1 (o v j)) (c (o v j) j) < F 1 v) (hw : w j ≠ F 8 v ∨ F 13 (F 8 v) ≠ 1) (hN : gi_NR o F (o v j))  {x y e a : Nat} {m : gh_M} (hx : o y e = x) (hy : own y e) (hm : m ∈ c y e) (ha : F 1 y ≤ a) (hb : ¬ gh_has 1 (c y e) → a = F 1 y)  (h : gm_p own o w F mk c x y e a m) : gm_p own o w F mk (gh_A c (o v j) j (1, F 1 v, F 2 v, F 0 v)) x y e a m := by
  have hh : ∀ k, m.1 = k → gh_has k (c y e) := fun k hk => ⟨m, hm, hk⟩
  dsimp only [gm_p, gi_cur, gi_NR, gi_wt, gi_open, gh_Net] at *
  try simp (decide := true) only [gh_U, gh_K, gh_A_has, gh_A_cnt, gh_A_mem, false_and, true_and, and_false, or_false, if_false, if_true, and_true]
  grind (splits := 25)
theorem si_new {v j : Nat} (Hn : gh_Net own o w) (Hb1 : gi_b1 F) (Hb2 : gi_b2 F) (Hb3 : gi_b3 F) (Hb4 : gi_b4 F) (Hb5 : gi_b5 own o w F) (Hs2 : gi_s2 F) (Hs3 : gi_s3 F) (H7 : gi_7 o F) (Hst : gi_st F) (Hs0 : gi_s0 own F mk) (Xb : gx_b own F c) (HpA : gi_pA own F mk) (hj : own v j) (hb1 : mk v j = 1) (h9 : j ≠ F 9 v) (hs : F 8 (o v j) = F 8 v) (hu : F 9 (o v j) = j) (hl : gh_last (F 1 (o v j)) (c (o v j) j) < F 1 v) (hw : w j ≠ F 8 v ∨ F 13 (F 8 v) ≠ 1) (hN : gi_NR o F (o v j))   : gm_i own o w F mk (gh_A c (o v j) j (1, F 1 v, F 2 v, F 0 v)) (o (o v j) (j)) (o v j) (j) (gh_last (F 1 (o v j)) (c (o v j) j)) (1, F 1 v, F 2 v, F 0 v) := by
  intro _
  have a1 := Hb1 v
  have a2 := Hb2 v
  have a3 := Hb3 v
  have a4 := Hb4 v
  have a5 := Hs2 v
  have a6 := Hs3 v
  have a7 := H7 (o v j) hN
  have a8 := Hst v
  have a9 := Hs0 v
  have a10 := Xb (o v j) j
  have a11 := Hn.1 v j hj
  have a12 := Hst (o v j)
  have a13 := Hb5 v
  have a14 := HpA v
  obtain ⟨y', f, r⟩ := a13 (by grind)
  rw [a11.2.1, hs]
  rw [hu, a11.2.1] at a7
  refine ⟨hl, rfl, hb1, hu, a1, ?_, ?_, ?_, ?_, ?_, ⟨y', f, r⟩⟩
  all_goals
    clear Hb1 Hb2 Hb3 Hb4 Hs2 Hs3 H7 Hst Hs0 Xb Hb5 hN Hn HpA
    unfold gi_cur at *
    grind
theorem si_I {v j : Nat} (Hn : gh_Net own o w) (h : gI own o w F mk c) (hj : own v j) (hb1 : mk v j = 1) (h9 : j ≠ F 9 v) (hl : gh_last (F 1 (o v j)) (c (o v j) j) < F 1 v)  : gI own o w F mk (gh_A c (o v j) j (1, F 1 v, F 2 v, F 0 v)) := by
  obtain ⟨Hst, Hb1, Hb2, Hb3, Hb4, Hb5, Hb6, Hs0, HpA, Hs1, Hs2, HSl, Hs3, Hs4, How, Hs5, Hs6, HSr, HSn, HM, HC, Hph, H6, H7, Hbc, HK, Hrj, Htw, Hts, Han, Hsz, Hch⟩ := h
  have Xi := gx_iI Hch
  have Xc := gx_cI Hch
  have Xt := gx_tI Hch
  have Xa := gx_aI Hch
  have Xr := gx_rI Hch
  have Xk := gx_kI Hch
  have Xp := gx_pI Hch
  have Xl := gx_lI Hch
  have Xb := gx_bI Hch
  have Xn := gx_nI Hn Hph HpA HSr HSn HM HC
  have q0 := Hn.1 v j hj
  have q1 : F 8 (o v j) = F 8 v ∧ F 9 (o v j) = j := by
    have a1 := HK v j (o v j) hj rfl hb1
    have a2 := HC v
    by_cases z : F 8 v = F 8 (o v j)
    · have := (a1.1 z).2
      grind
    · have b1 := a1.2 z
      have := (a2 b1.1 _ _ rfl rfl).2.2.2.2.1
      grind
  have hs := q1.1
  have hu := q1.2
  have hN : gi_NR o F (o v j) := Xn (o v j) (by omega) (by rw [hu, q0.2.1]; exact hs.symm) (by rw [hu, q0.2.1]; exact fun z => h9 z.symm)
  have hw : w j ≠ F 8 v ∨ F 13 (F 8 v) ≠ 1 := by
    by_cases z1 : w j = F 8 v
    · by_cases z2 : F 13 (F 8 v) = 1
      · have := (HSr (o v j) (by rw [hs]; exact z2) (by rw [hs, hu]; exact z1)).1
        rw [hu, q0.2.1] at this
        exact absurd this.symm h9
      · exact Or.inr z2
    · exact Or.inl z1
  refine ⟨si_st Hst Hn hj hb1 h9 hs hu hl hw hN, si_b1 Hb1 Hn hj hb1 h9 hs hu hl hw hN, si_b2 Hb2 Hn hj hb1 h9 hs hu hl hw hN, si_b3 Hb3 Hn hj hb1 h9 hs hu hl hw hN, si_b4 Hb4 Hn hj hb1 h9 hs hu hl hw hN, si_b5 Hb5 Hn hj hb1 h9 hs hu hl hw hN, si_b6 Hb6 Hn hj hb1 h9 hs hu hl hw hN, si_s0 Hs0 Hn hj hb1 h9 hs hu hl hw hN, si_pA HpA Hn hj hb1 h9 hs hu hl hw hN, si_s1 Hs1 Hn hj hb1 h9 hs hu hl hw hN, si_s2 Hs2 Hn hj hb1 h9 hs hu hl hw hN, si_Sl HSl Hn hj hb1 h9 hs hu hl hw hN, si_s3 Hs3 Hn hj hb1 h9 hs hu hl hw hN, si_s4 Hs4 Hn hj hb1 h9 hs hu hl hw hN, si_ow How Hn hj hb1 h9 hs hu hl hw hN, si_s5 Hs5 Hn hj hb1 h9 hs hu hl hw hN, si_s6 Hs6 Hn hj hb1 h9 hs hu hl hw hN, si_Sr HSr hj hb1 h9 hs hu hl hw hN, si_Sn HSn Hn hj hb1 h9 hs hu hl hw hN, si_M HM Hn hj hb1 h9 hs hu hl hw hN, si_C HC Hn hj hb1 h9 hs hu hl hw hN, si_ph Hph Hn hj hb1 h9 hs hu hl hw hN, si_6 H6 Hn hj hb1 h9 hs hu hl hw hN, si_7 H7 Hn hj hb1 h9 hs hu hl hw hN, si_bc Hbc Hn hj hb1 h9 hs hu hl hw hN, si_K HK Hn hj hb1 h9 hs hu hl hw hN, si_rj Hrj Hn hj hb1 h9 hs hu hl hw hN, si_tw Htw Hn hj hb1 h9 hs hu hl hw hN, si_ts Hts Hn hj hb1 h9 hs hu hl hw hN, si_an Han Hn hj hb1 h9 hs hu hl hw hN, si_sz Hsz Hn hj hb1 h9 hs hu hl hw hN, ?_⟩
  have K1 : gi_all own F c (fun y e => gi_m own o w F mk (gh_A c (o v j) j (1, F 1 v, F 2 v, F 0 v)) (o y e) y e) := gi_all_go (Hch) (fun _ _ q => q) (fun y => rfl) (fun y e a m hy hm ha hb q => ⟨q.1, si_mi Hn hj hb1 h9 hs hu hl hw hN rfl hy hm ha hb q.2.1, si_mc Hn hj hb1 h9 hs hu hl hw hN rfl hy hm ha hb q.2.2.1, si_mt Hn hj hb1 h9 hs hu hl hw hN rfl hy hm ha hb q.2.2.2.1, si_ma Hn hj hb1 h9 hs hu hl hw hN rfl hy hm ha hb q.2.2.2.2.1, si_mr Hn hj hb1 h9 hs hu hl hw hN rfl hy hm ha hb q.2.2.2.2.2.1, si_mk Hn hj hb1 h9 hs hu hl hw hN rfl hy hm ha hb q.2.2.2.2.2.2.1, si_mp Hn hj hb1 h9 hs hu hl hw hN rfl hy hm ha hb q.2.2.2.2.2.2.2⟩)
  exact gi_all_appA K1 (fun hy => ⟨by simp, si_new Hn Hb1 Hb2 Hb3 Hb4 Hb5 Hs2 Hs3 H7 Hst Hs0 Xb HpA hj hb1 h9 hs hu hl hw hN , fun z => absurd z (by simp), fun z => absurd z (by simp), fun z => absurd z (by simp), fun z => absurd z (by simp), fun z => absurd z (by simp), fun z => absurd z (by simp)⟩)
end
section
variable {own : Nat → Nat → Prop} {o : Nat → Nat → Nat} {w : Nat → Nat} {F : gh_F} {mk : Nat → Nat → Nat} {c : Nat → Nat → List gh_M}
theorem ci_Sr {v j : Nat} (HSr : gi_Sr o w F c) (Hn : gh_Net own o w) (HSl : gi_Sl F) (Hs6 : gi_s6 own F mk) {c1 : Nat → Nat → List gh_M} {m0 : gh_M} (hj : own v j) (hT : ∀ k y e, gh_has k (c y e) ↔ gh_has k (c1 y e) ∨ (y = v ∧ e = j ∧ k = m0.1)) (hTc : ∀ k y e, gh_cnt k (c y e) = gh_cnt k (c1 y e) + if y = v ∧ e = j ∧ k = m0.1 then 1 else 0) (hTm : ∀ y e m, m ∈ c y e ↔ m ∈ c1 y e ∨ (y = v ∧ e = j ∧ m = m0)) (hTw : ¬ gh_has m0.1 (c1 v j)) (hk : m0.1 = 0) (hs : F 8 (o v j) = F 8 v) (hp1 : F 13 (F 8 v) = 1) (hw : w j = F 8 v) (hl1 : F 1 (o v j) = F 1 v) (hl2 : F 12 (F 8 v) = F 1 v + 1) (hno : ¬ gh_has 1 (c (o v j) j)) (hr : F 9 (o v j) = j ∧ F 9 v = j)  : gi_Sr o w F (gh_A c1 (o v j) j (1, F 1 v + 1, w j, 1)) := by
  intro x h1 h2
  obtain ⟨a1, a2, a3⟩ := HSr x h1 h2
  refine ⟨a1, a2, fun hc => ⟨(a3 hc).1, ?_⟩⟩
  have c1 := HSl x h1
  have c2 := Hs6 x
  have b6 := Hn.1 v j hj
  have b7 := Hn.2.1 v x j hj
  rcases (a3 hc).2 with z | ⟨m, m1, m2, m3⟩
  · have b1 := hT 0 (o x (F 9 x)) (F 9 x)
    by_cases hz : o x (F 9 x) = v ∧ F 9 x = j
    · refine Or.inr ⟨(1, F 1 v + 1, w j, 1), ?_, rfl, ?_⟩
      · rw [gh_A_mem]
        have b5 := Hn.1 x (F 9 x)
        have b8 := Hn.2.1 (o x (F 9 x)) x (F 9 x)
        grind
      · show F 1 v + 1 = F 12 (F 8 x)
        grind
    · refine Or.inl ?_
      clear HSr a3
      simp (decide := true) only [gh_U, gh_K, gh_A_has, gh_A_cnt, gh_A_mem, false_and, true_and, and_false, or_false, if_false, if_true, and_true]
      grind
  · refine Or.inr ⟨m, ?_, m2, m3⟩
    have b1 := hTm x (F 9 x) m
    clear HSr a3
    simp (decide := true) only [gh_U, gh_K, gh_A_has, gh_A_cnt, gh_A_mem, false_and, true_and, and_false, or_false, if_false, if_true, and_true]
    grind
theorem ci_6 {v j : Nat} (H6 : gi_6 o F c) (Hn : gh_Net own o w) {c1 : Nat → Nat → List gh_M} {m0 : gh_M} (hj : own v j) (hT : ∀ k y e, gh_has k (c y e) ↔ gh_has k (c1 y e) ∨ (y = v ∧ e = j ∧ k = m0.1)) (hTc : ∀ k y e, gh_cnt k (c y e) = gh_cnt k (c1 y e) + if y = v ∧ e = j ∧ k = m0.1 then 1 else 0) (hTm : ∀ y e m, m ∈ c y e ↔ m ∈ c1 y e ∨ (y = v ∧ e = j ∧ m = m0)) (hTw : ¬ gh_has m0.1 (c1 v j)) (hk : m0.1 = 0) (hs : F 8 (o v j) = F 8 v) (hp1 : F 13 (F 8 v) = 1) (hw : w j = F 8 v) (hl1 : F 1 (o v j) = F 1 v) (hl2 : F 12 (F 8 v) = F 1 v + 1) (hno : ¬ gh_has 1 (c (o v j) j)) (hr : F 9 (o v j) = j ∧ F 9 v = j)  : gi_6 o F (gh_A c1 (o v j) j (1, F 1 v + 1, w j, 1)) := by
  intro x hx
  obtain ⟨a1, a2⟩ := H6 x hx
  refine ⟨a1, fun m hm hm1 => ?_⟩
  rw [gh_A_mem] at hm
  have a3 := Hn.1 v j hj
  rcases hm with hm | ⟨e1, e2, e3⟩
  · exact a2 m ((hTm _ _ _).mpr (Or.inl hm)) hm1
  · unfold gi_NR at hx
    grind
theorem ci_K {v j : Nat} (HK : gi_K own o F mk c) (Hn : gh_Net own o w) {c1 : Nat → Nat → List gh_M} {m0 : gh_M} (hj : own v j) (hT : ∀ k y e, gh_has k (c y e) ↔ gh_has k (c1 y e) ∨ (y = v ∧ e = j ∧ k = m0.1)) (hTc : ∀ k y e, gh_cnt k (c y e) = gh_cnt k (c1 y e) + if y = v ∧ e = j ∧ k = m0.1 then 1 else 0) (hTm : ∀ y e m, m ∈ c y e ↔ m ∈ c1 y e ∨ (y = v ∧ e = j ∧ m = m0)) (hTw : ¬ gh_has m0.1 (c1 v j)) (hk : m0.1 = 0) (hs : F 8 (o v j) = F 8 v) (hp1 : F 13 (F 8 v) = 1) (hw : w j = F 8 v) (hl1 : F 1 (o v j) = F 1 v) (hl2 : F 12 (F 8 v) = F 1 v + 1) (hno : ¬ gh_has 1 (c (o v j) j)) (hr : F 9 (o v j) = j ∧ F 9 v = j)  : gi_K own o F mk (gh_A c1 (o v j) j (1, F 1 v + 1, w j, 1)) := by
  intro x e y h1 h2 h3
  have b1 := HK x e y h1 h2 h3
  have b4 := hT 0 y e
  have b5 := Hn.1 x e h1
  have b6 := Hn.2.1 v y e
  have b7 := Hn.1 v j hj
  clear HK Hn
  dsimp only [gi_cur] at *
  simp (decide := true) only [gh_U, gh_K, gh_A_has, gh_A_cnt, gh_A_mem, false_and, true_and, and_false, or_false, if_false, if_true, and_true]
  grind
theorem ci_an {v j : Nat} (Han : gi_an own o F mk c) {c1 : Nat → Nat → List gh_M} {m0 : gh_M} (hj : own v j) (hT : ∀ k y e, gh_has k (c y e) ↔ gh_has k (c1 y e) ∨ (y = v ∧ e = j ∧ k = m0.1)) (hTc : ∀ k y e, gh_cnt k (c y e) = gh_cnt k (c1 y e) + if y = v ∧ e = j ∧ k = m0.1 then 1 else 0) (hTm : ∀ y e m, m ∈ c y e ↔ m ∈ c1 y e ∨ (y = v ∧ e = j ∧ m = m0)) (hTw : ¬ gh_has m0.1 (c1 v j)) (hk : m0.1 = 0) (hs : F 8 (o v j) = F 8 v) (hp1 : F 13 (F 8 v) = 1) (hw : w j = F 8 v) (hl1 : F 1 (o v j) = F 1 v) (hl2 : F 12 (F 8 v) = F 1 v + 1) (hno : ¬ gh_has 1 (c (o v j) j)) (hr : F 9 (o v j) = j ∧ F 9 v = j)  : gi_an own o F mk (gh_A c1 (o v j) j (1, F 1 v + 1, w j, 1)) := by
  intro x hx
  obtain ⟨l, l1, l2, l3⟩ := Han x hx
  refine ⟨l, l1, l2, fun e => (l3 e).trans ?_⟩
  have a1 := hT 5 x e
  
  clear Han l3
  dsimp only [gi_open, gi_cur] at *
  try simp (decide := true) only [gh_U, gh_K, gh_A_has, gh_A_cnt, gh_A_mem, false_and, true_and, and_false, or_false, if_false, if_true, and_true]
  grind
theorem ci_st {v j : Nat} (Hst : gi_st F) (Hn : gh_Net own o w) {c1 : Nat → Nat → List gh_M} {m0 : gh_M} (hj : own v j) (hT : ∀ k y e, gh_has k (c y e) ↔ gh_has k (c1 y e) ∨ (y = v ∧ e = j ∧ k = m0.1)) (hTc : ∀ k y e, gh_cnt k (c y e) = gh_cnt k (c1 y e) + if y = v ∧ e = j ∧ k = m0.1 then 1 else 0) (hTm : ∀ y e m, m ∈ c y e ↔ m ∈ c1 y e ∨ (y = v ∧ e = j ∧ m = m0)) (hTw : ¬ gh_has m0.1 (c1 v j)) (hk : m0.1 = 0) (hs : F 8 (o v j) = F 8 v) (hp1 : F 13 (F 8 v) = 1) (hw : w j = F 8 v) (hl1 : F 1 (o v j) = F 1 v) (hl2 : F 12 (F 8 v) = F 1 v + 1) (hno : ¬ gh_has 1 (c (o v j) j)) (hr : F 9 (o v j) = j ∧ F 9 v = j)  : gi_st F := by
  dsimp only [gi_st, gi_cur, gi_NR, gi_wt, gi_open, gh_Net] at *
  try simp (decide := true) only [gh_U, gh_K, gh_A_has, gh_A_cnt, gh_A_mem, false_and, true_and, and_false, or_false, if_false, if_true, and_true]
  grind (splits := 25)
theorem ci_b1 {v j : Nat} (Hb1 : gi_b1 F) (Hn : gh_Net own o w) {c1 : Nat → Nat → List gh_M} {m0 : gh_M} (hj : own v j) (hT : ∀ k y e, gh_has k (c y e) ↔ gh_has k (c1 y e) ∨ (y = v ∧ e = j ∧ k = m0.1)) (hTc : ∀ k y e, gh_cnt k (c y e) = gh_cnt k (c1 y e) + if y = v ∧ e = j ∧ k = m0.1 then 1 else 0) (hTm : ∀ y e m, m ∈ c y e ↔ m ∈ c1 y e ∨ (y = v ∧ e = j ∧ m = m0)) (hTw : ¬ gh_has m0.1 (c1 v j)) (hk : m0.1 = 0) (hs : F 8 (o v j) = F 8 v) (hp1 : F 13 (F 8 v) = 1) (hw : w j = F 8 v) (hl1 : F 1 (o v j) = F 1 v) (hl2 : F 12 (F 8 v) = F 1 v + 1) (hno : ¬ gh_has 1 (c (o v j) j)) (hr : F 9 (o v j) = j ∧ F 9 v = j)  : gi_b1 F := by
  dsimp only [gi_b1, gi_cur, gi_NR, gi_wt, gi_open, gh_Net] at *
  try simp (decide := true) only [gh_U, gh_K, gh_A_has, gh_A_cnt, gh_A_mem, false_and, true_and, and_false, or_false, if_false, if_true, and_true]
  grind (splits := 25)
theorem ci_b2 {v j : Nat} (Hb2 : gi_b2 F) (Hn : gh_Net own o w) {c1 : Nat → Nat → List gh_M} {m0 : gh_M} (hj : own v j) (hT : ∀ k y e, gh_has k (c y e) ↔ gh_has k (c1 y e) ∨ (y = v ∧ e = j ∧ k = m0.1)) (hTc : ∀ k y e, gh_cnt k (c y e) = gh_cnt k (c1 y e) + if y = v ∧ e = j ∧ k = m0.1 then 1 else 0) (hTm : ∀ y e m, m ∈ c y e ↔ m ∈ c1 y e ∨ (y = v ∧ e = j ∧ m = m0)) (hTw : ¬ gh_has m0.1 (c1 v j)) (hk : m0.1 = 0) (hs : F 8 (o v j) = F 8 v) (hp1 : F 13 (F 8 v) = 1) (hw : w j = F 8 v) (hl1 : F 1 (o v j) = F 1 v) (hl2 : F 12 (F 8 v) = F 1 v + 1) (hno : ¬ gh_has 1 (c (o v j) j)) (hr : F 9 (o v j) = j ∧ F 9 v = j)  : gi_b2 F := by
  dsimp only [gi_b2, gi_cur, gi_NR, gi_wt, gi_open, gh_Net] at *
  try simp (decide := true) only [gh_U, gh_K, gh_A_has, gh_A_cnt, gh_A_mem, false_and, true_and, and_false, or_false, if_false, if_true, and_true]
  grind (splits := 25)
theorem ci_b3 {v j : Nat} (Hb3 : gi_b3 F) (Hn : gh_Net own o w) {c1 : Nat → Nat → List gh_M} {m0 : gh_M} (hj : own v j) (hT : ∀ k y e, gh_has k (c y e) ↔ gh_has k (c1 y e) ∨ (y = v ∧ e = j ∧ k = m0.1)) (hTc : ∀ k y e, gh_cnt k (c y e) = gh_cnt k (c1 y e) + if y = v ∧ e = j ∧ k = m0.1 then 1 else 0) (hTm : ∀ y e m, m ∈ c y e ↔ m ∈ c1 y e ∨ (y = v ∧ e = j ∧ m = m0)) (hTw : ¬ gh_has m0.1 (c1 v j)) (hk : m0.1 = 0) (hs : F 8 (o v j) = F 8 v) (hp1 : F 13 (F 8 v) = 1) (hw : w j = F 8 v) (hl1 : F 1 (o v j) = F 1 v) (hl2 : F 12 (F 8 v) = F 1 v + 1) (hno : ¬ gh_has 1 (c (o v j) j)) (hr : F 9 (o v j) = j ∧ F 9 v = j)  : gi_b3 F := by
  dsimp only [gi_b3, gi_cur, gi_NR, gi_wt, gi_open, gh_Net] at *
  try simp (decide := true) only [gh_U, gh_K, gh_A_has, gh_A_cnt, gh_A_mem, false_and, true_and, and_false, or_false, if_false, if_true, and_true]
  grind (splits := 25)
theorem ci_b4 {v j : Nat} (Hb4 : gi_b4 F) (Hn : gh_Net own o w) {c1 : Nat → Nat → List gh_M} {m0 : gh_M} (hj : own v j) (hT : ∀ k y e, gh_has k (c y e) ↔ gh_has k (c1 y e) ∨ (y = v ∧ e = j ∧ k = m0.1)) (hTc : ∀ k y e, gh_cnt k (c y e) = gh_cnt k (c1 y e) + if y = v ∧ e = j ∧ k = m0.1 then 1 else 0) (hTm : ∀ y e m, m ∈ c y e ↔ m ∈ c1 y e ∨ (y = v ∧ e = j ∧ m = m0)) (hTw : ¬ gh_has m0.1 (c1 v j)) (hk : m0.1 = 0) (hs : F 8 (o v j) = F 8 v) (hp1 : F 13 (F 8 v) = 1) (hw : w j = F 8 v) (hl1 : F 1 (o v j) = F 1 v) (hl2 : F 12 (F 8 v) = F 1 v + 1) (hno : ¬ gh_has 1 (c (o v j) j)) (hr : F 9 (o v j) = j ∧ F 9 v = j)  : gi_b4 F := by
  dsimp only [gi_b4, gi_cur, gi_NR, gi_wt, gi_open, gh_Net] at *
  try simp (decide := true) only [gh_U, gh_K, gh_A_has, gh_A_cnt, gh_A_mem, false_and, true_and, and_false, or_false, if_false, if_true, and_true]
  grind (splits := 25)
theorem ci_b5 {v j : Nat} (Hb5 : gi_b5 own o w F) (Hn : gh_Net own o w) {c1 : Nat → Nat → List gh_M} {m0 : gh_M} (hj : own v j) (hT : ∀ k y e, gh_has k (c y e) ↔ gh_has k (c1 y e) ∨ (y = v ∧ e = j ∧ k = m0.1)) (hTc : ∀ k y e, gh_cnt k (c y e) = gh_cnt k (c1 y e) + if y = v ∧ e = j ∧ k = m0.1 then 1 else 0) (hTm : ∀ y e m, m ∈ c y e ↔ m ∈ c1 y e ∨ (y = v ∧ e = j ∧ m = m0)) (hTw : ¬ gh_has m0.1 (c1 v j)) (hk : m0.1 = 0) (hs : F 8 (o v j) = F 8 v) (hp1 : F 13 (F 8 v) = 1) (hw : w j = F 8 v) (hl1 : F 1 (o v j) = F 1 v) (hl2 : F 12 (F 8 v) = F 1 v + 1) (hno : ¬ gh_has 1 (c (o v j) j)) (hr : F 9 (o v j) = j ∧ F 9 v = j)  : gi_b5 own o w F := by
  dsimp only [gi_b5, gi_cur, gi_NR, gi_wt, gi_open, gh_Net] at *
  try simp (decide := true) only [gh_U, gh_K, gh_A_has, gh_A_cnt, gh_A_mem, false_and, true_and, and_false, or_false, if_false, if_true, and_true]
  grind (splits := 25)
theorem ci_b6 {v j : Nat} (Hb6 : gi_b6 own o w F mk) (Hn : gh_Net own o w) {c1 : Nat → Nat → List gh_M} {m0 : gh_M} (hj : own v j) (hT : ∀ k y e, gh_has k (c y e) ↔ gh_has k (c1 y e) ∨ (y = v ∧ e = j ∧ k = m0.1)) (hTc : ∀ k y e, gh_cnt k (c y e) = gh_cnt k (c1 y e) + if y = v ∧ e = j ∧ k = m0.1 then 1 else 0) (hTm : ∀ y e m, m ∈ c y e ↔ m ∈ c1 y e ∨ (y = v ∧ e = j ∧ m = m0)) (hTw : ¬ gh_has m0.1 (c1 v j)) (hk : m0.1 = 0) (hs : F 8 (o v j) = F 8 v) (hp1 : F 13 (F 8 v) = 1) (hw : w j = F 8 v) (hl1 : F 1 (o v j) = F 1 v) (hl2 : F 12 (F 8 v) = F 1 v + 1) (hno : ¬ gh_has 1 (c (o v j) j)) (hr : F 9 (o v j) = j ∧ F 9 v = j)  : gi_b6 own o w F mk := by
  dsimp only [gi_b6, gi_cur, gi_NR, gi_wt, gi_open, gh_Net] at *
  try simp (decide := true) only [gh_U, gh_K, gh_A_has, gh_A_cnt, gh_A_mem, false_and, true_and, and_false, or_false, if_false, if_true, and_true]
  grind (splits := 25)
theorem ci_s0 {v j : Nat} (Hs0 : gi_s0 own F mk) (Hn : gh_Net own o w) {c1 : Nat → Nat → List gh_M} {m0 : gh_M} (hj : own v j) (hT : ∀ k y e, gh_has k (c y e) ↔ gh_has k (c1 y e) ∨ (y = v ∧ e = j ∧ k = m0.1)) (hTc : ∀ k y e, gh_cnt k (c y e) = gh_cnt k (c1 y e) + if y = v ∧ e = j ∧ k = m0.1 then 1 else 0) (hTm : ∀ y e m, m ∈ c y e ↔ m ∈ c1 y e ∨ (y = v ∧ e = j ∧ m = m0)) (hTw : ¬ gh_has m0.1 (c1 v j)) (hk : m0.1 = 0) (hs : F 8 (o v j) = F 8 v) (hp1 : F 13 (F 8 v) = 1) (hw : w j = F 8 v) (hl1 : F 1 (o v j) = F 1 v) (hl2 : F 12 (F 8 v) = F 1 v + 1) (hno : ¬ gh_has 1 (c (o v j) j)) (hr : F 9 (o v j) = j ∧ F 9 v = j)  : gi_s0 own F mk := by
  dsimp only [gi_s0, gi_cur, gi_NR, gi_wt, gi_open, gh_Net] at *
  try simp (decide := true) only [gh_U, gh_K, gh_A_has, gh_A_cnt, gh_A_mem, false_and, true_and, and_false, or_false, if_false, if_true, and_true]
  grind (splits := 25)
theorem ci_pA {v j : Nat} (HpA : gi_pA own F mk) (Hn : gh_Net own o w) {c1 : Nat → Nat → List gh_M} {m0 : gh_M} (hj : own v j) (hT : ∀ k y e, gh_has k (c y e) ↔ gh_has k (c1 y e) ∨ (y = v ∧ e = j ∧ k = m0.1)) (hTc : ∀ k y e, gh_cnt k (c y e) = gh_cnt k (c1 y e) + if y = v ∧ e = j ∧ k = m0.1 then 1 else 0) (hTm : ∀ y e m, m ∈ c y e ↔ m ∈ c1 y e ∨ (y = v ∧ e = j ∧ m = m0)) (hTw : ¬ gh_has m0.1 (c1 v j)) (hk : m0.1 = 0) (hs : F 8 (o v j) = F 8 v) (hp1 : F 13 (F 8 v) = 1) (hw : w j = F 8 v) (hl1 : F 1 (o v j) = F 1 v) (hl2 : F 12 (F 8 v) = F 1 v + 1) (hno : ¬ gh_has 1 (c (o v j) j)) (hr : F 9 (o v j) = j ∧ F 9 v = j)  : gi_pA own F mk := by
  dsimp only [gi_pA, gi_cur, gi_NR, gi_wt, gi_open, gh_Net] at *
  try simp (decide := true) only [gh_U, gh_K, gh_A_has, gh_A_cnt, gh_A_mem, false_and, true_and, and_false, or_false, if_false, if_true, and_true]
  grind (splits := 25)
theorem ci_s1 {v j : Nat} (Hs1 : gi_s1 F) (Hn : gh_Net own o w) {c1 : Nat → Nat → List gh_M} {m0 : gh_M} (hj : own v j) (hT : ∀ k y e, gh_has k (c y e) ↔ gh_has k (c1 y e) ∨ (y = v ∧ e = j ∧ k = m0.1)) (hTc : ∀ k y e, gh_cnt k (c y e) = gh_cnt k (c1 y e) + if y = v ∧ e = j ∧ k = m0.1 then 1 else 0) (hTm : ∀ y e m, m ∈ c y e ↔ m ∈ c1 y e ∨ (y = v ∧ e = j ∧ m = m0)) (hTw : ¬ gh_has m0.1 (c1 v j)) (hk : m0.1 = 0) (hs : F 8 (o v j) = F 8 v) (hp1 : F 13 (F 8 v) = 1) (hw : w j = F 8 v) (hl1 : F 1 (o v j) = F 1 v) (hl2 : F 12 (F 8 v) = F 1 v + 1) (hno : ¬ gh_has 1 (c (o v j) j)) (hr : F 9 (o v j) = j ∧ F 9 v = j)  : gi_s1 F := by
  dsimp only [gi_s1, gi_cur, gi_NR, gi_wt, gi_open, gh_Net] at *
  try simp (decide := true) only [gh_U, gh_K, gh_A_has, gh_A_cnt, gh_A_mem, false_and, true_and, and_false, or_false, if_false, if_true, and_true]
  grind (splits := 25)
theorem ci_s2 {v j : Nat} (Hs2 : gi_s2 F) (Hn : gh_Net own o w) {c1 : Nat → Nat → List gh_M} {m0 : gh_M} (hj : own v j) (hT : ∀ k y e, gh_has k (c y e) ↔ gh_has k (c1 y e) ∨ (y = v ∧ e = j ∧ k = m0.1)) (hTc : ∀ k y e, gh_cnt k (c y e) = gh_cnt k (c1 y e) + if y = v ∧ e = j ∧ k = m0.1 then 1 else 0) (hTm : ∀ y e m, m ∈ c y e ↔ m ∈ c1 y e ∨ (y = v ∧ e = j ∧ m = m0)) (hTw : ¬ gh_has m0.1 (c1 v j)) (hk : m0.1 = 0) (hs : F 8 (o v j) = F 8 v) (hp1 : F 13 (F 8 v) = 1) (hw : w j = F 8 v) (hl1 : F 1 (o v j) = F 1 v) (hl2 : F 12 (F 8 v) = F 1 v + 1) (hno : ¬ gh_has 1 (c (o v j) j)) (hr : F 9 (o v j) = j ∧ F 9 v = j)  : gi_s2 F := by
  dsimp only [gi_s2, gi_cur, gi_NR, gi_wt, gi_open, gh_Net] at *
  try simp (decide := true) only [gh_U, gh_K, gh_A_has, gh_A_cnt, gh_A_mem, false_and, true_and, and_false, or_false, if_false, if_true, and_true]
  grind (splits := 25)
theorem ci_Sl {v j : Nat} (HSl : gi_Sl F) (Hn : gh_Net own o w) {c1 : Nat → Nat → List gh_M} {m0 : gh_M} (hj : own v j) (hT : ∀ k y e, gh_has k (c y e) ↔ gh_has k (c1 y e) ∨ (y = v ∧ e = j ∧ k = m0.1)) (hTc : ∀ k y e, gh_cnt k (c y e) = gh_cnt k (c1 y e) + if y = v ∧ e = j ∧ k = m0.1 then 1 else 0) (hTm : ∀ y e m, m ∈ c y e ↔ m ∈ c1 y e ∨ (y = v ∧ e = j ∧ m = m0)) (hTw : ¬ gh_has m0.1 (c1 v j)) (hk : m0.1 = 0) (hs : F 8 (o v j) = F 8 v) (hp1 : F 13 (F 8 v) = 1) (hw : w j = F 8 v) (hl1 : F 1 (o v j) = F 1 v) (hl2 : F 12 (F 8 v) = F 1 v + 1) (hno : ¬ gh_has 1 (c (o v j) j)) (hr : F 9 (o v j) = j ∧ F 9 v = j)  : gi_Sl F := by
  dsimp only [gi_Sl, gi_cur, gi_NR, gi_wt, gi_open, gh_Net] at *
  try simp (decide := true) only [gh_U, gh_K, gh_A_has, gh_A_cnt, gh_A_mem, false_and, true_and, and_false, or_false, if_false, if_true, and_true]
  grind (splits := 25)
theorem ci_s3 {v j : Nat} (Hs3 : gi_s3 F) (Hn : gh_Net own o w) {c1 : Nat → Nat → List gh_M} {m0 : gh_M} (hj : own v j) (hT : ∀ k y e, gh_has k (c y e) ↔ gh_has k (c1 y e) ∨ (y = v ∧ e = j ∧ k = m0.1)) (hTc : ∀ k y e, gh_cnt k (c y e) = gh_cnt k (c1 y e) + if y = v ∧ e = j ∧ k = m0.1 then 1 else 0) (hTm : ∀ y e m, m ∈ c y e ↔ m ∈ c1 y e ∨ (y = v ∧ e = j ∧ m = m0)) (hTw : ¬ gh_has m0.1 (c1 v j)) (hk : m0.1 = 0) (hs : F 8 (o v j) = F 8 v) (hp1 : F 13 (F 8 v) = 1) (hw : w j = F 8 v) (hl1 : F 1 (o v j) = F 1 v) (hl2 : F 12 (F 8 v) = F 1 v + 1) (hno : ¬ gh_has 1 (c (o v j) j)) (hr : F 9 (o v j) = j ∧ F 9 v = j)  : gi_s3 F := by
  dsimp only [gi_s3, gi_cur, gi_NR, gi_wt, gi_open, gh_Net] at *
  try simp (decide := true) only [gh_U, gh_K, gh_A_has, gh_A_cnt, gh_A_mem, false_and, true_and, and_false, or_false, if_false, if_true, and_true]
  grind (splits := 25)
theorem ci_s4 {v j : Nat} (Hs4 : gi_s4 F) (Hn : gh_Net own o w) {c1 : Nat → Nat → List gh_M} {m0 : gh_M} (hj : own v j) (hT : ∀ k y e, gh_has k (c y e) ↔ gh_has k (c1 y e) ∨ (y = v ∧ e = j ∧ k = m0.1)) (hTc : ∀ k y e, gh_cnt k (c y e) = gh_cnt k (c1 y e) + if y = v ∧ e = j ∧ k = m0.1 then 1 else 0) (hTm : ∀ y e m, m ∈ c y e ↔ m ∈ c1 y e ∨ (y = v ∧ e = j ∧ m = m0)) (hTw : ¬ gh_has m0.1 (c1 v j)) (hk : m0.1 = 0) (hs : F 8 (o v j) = F 8 v) (hp1 : F 13 (F 8 v) = 1) (hw : w j = F 8 v) (hl1 : F 1 (o v j) = F 1 v) (hl2 : F 12 (F 8 v) = F 1 v + 1) (hno : ¬ gh_has 1 (c (o v j) j)) (hr : F 9 (o v j) = j ∧ F 9 v = j)  : gi_s4 F := by
  dsimp only [gi_s4, gi_cur, gi_NR, gi_wt, gi_open, gh_Net] at *
  try simp (decide := true) only [gh_U, gh_K, gh_A_has, gh_A_cnt, gh_A_mem, false_and, true_and, and_false, or_false, if_false, if_true, and_true]
  grind (splits := 25)
theorem ci_ow {v j : Nat} (How : gi_ow own F) (Hn : gh_Net own o w) {c1 : Nat → Nat → List gh_M} {m0 : gh_M} (hj : own v j) (hT : ∀ k y e, gh_has k (c y e) ↔ gh_has k (c1 y e) ∨ (y = v ∧ e = j ∧ k = m0.1)) (hTc : ∀ k y e, gh_cnt k (c y e) = gh_cnt k (c1 y e) + if y = v ∧ e = j ∧ k = m0.1 then 1 else 0) (hTm : ∀ y e m, m ∈ c y e ↔ m ∈ c1 y e ∨ (y = v ∧ e = j ∧ m = m0)) (hTw : ¬ gh_has m0.1 (c1 v j)) (hk : m0.1 = 0) (hs : F 8 (o v j) = F 8 v) (hp1 : F 13 (F 8 v) = 1) (hw : w j = F 8 v) (hl1 : F 1 (o v j) = F 1 v) (hl2 : F 12 (F 8 v) = F 1 v + 1) (hno : ¬ gh_has 1 (c (o v j) j)) (hr : F 9 (o v j) = j ∧ F 9 v = j)  : gi_ow own F := by
  dsimp only [gi_ow, gi_cur, gi_NR, gi_wt, gi_open, gh_Net] at *
  try simp (decide := true) only [gh_U, gh_K, gh_A_has, gh_A_cnt, gh_A_mem, false_and, true_and, and_false, or_false, if_false, if_true, and_true]
  grind (splits := 25)
theorem ci_s5 {v j : Nat} (Hs5 : gi_s5 F) (Hn : gh_Net own o w) {c1 : Nat → Nat → List gh_M} {m0 : gh_M} (hj : own v j) (hT : ∀ k y e, gh_has k (c y e) ↔ gh_has k (c1 y e) ∨ (y = v ∧ e = j ∧ k = m0.1)) (hTc : ∀ k y e, gh_cnt k (c y e) = gh_cnt k (c1 y e) + if y = v ∧ e = j ∧ k = m0.1 then 1 else 0) (hTm : ∀ y e m, m ∈ c y e ↔ m ∈ c1 y e ∨ (y = v ∧ e = j ∧ m = m0)) (hTw : ¬ gh_has m0.1 (c1 v j)) (hk : m0.1 = 0) (hs : F 8 (o v j) = F 8 v) (hp1 : F 13 (F 8 v) = 1) (hw : w j = F 8 v) (hl1 : F 1 (o v j) = F 1 v) (hl2 : F 12 (F 8 v) = F 1 v + 1) (hno : ¬ gh_has 1 (c (o v j) j)) (hr : F 9 (o v j) = j ∧ F 9 v = j)  : gi_s5 F := by
  dsimp only [gi_s5, gi_cur, gi_NR, gi_wt, gi_open, gh_Net] at *
  try simp (decide := true) only [gh_U, gh_K, gh_A_has, gh_A_cnt, gh_A_mem, false_and, true_and, and_false, or_false, if_false, if_true, and_true]
  grind (splits := 25)
theorem ci_s6 {v j : Nat} (Hs6 : gi_s6 own F mk) (Hn : gh_Net own o w) {c1 : Nat → Nat → List gh_M} {m0 : gh_M} (hj : own v j) (hT : ∀ k y e, gh_has k (c y e) ↔ gh_has k (c1 y e) ∨ (y = v ∧ e = j ∧ k = m0.1)) (hTc : ∀ k y e, gh_cnt k (c y e) = gh_cnt k (c1 y e) + if y = v ∧ e = j ∧ k = m0.1 then 1 else 0) (hTm : ∀ y e m, m ∈ c y e ↔ m ∈ c1 y e ∨ (y = v ∧ e = j ∧ m = m0)) (hTw : ¬ gh_has m0.1 (c1 v j)) (hk : m0.1 = 0) (hs : F 8 (o v j) = F 8 v) (hp1 : F 13 (F 8 v) = 1) (hw : w j = F 8 v) (hl1 : F 1 (o v j) = F 1 v) (hl2 : F 12 (F 8 v) = F 1 v + 1) (hno : ¬ gh_has 1 (c (o v j) j)) (hr : F 9 (o v j) = j ∧ F 9 v = j)  : gi_s6 own F mk := by
  dsimp only [gi_s6, gi_cur, gi_NR, gi_wt, gi_open, gh_Net] at *
  try simp (decide := true) only [gh_U, gh_K, gh_A_has, gh_A_cnt, gh_A_mem, false_and, true_and, and_false, or_false, if_false, if_true, and_true]
  grind (splits := 25)
theorem ci_Sn {v j : Nat} (HSn : gi_Sn o w F) (Hn : gh_Net own o w) {c1 : Nat → Nat → List gh_M} {m0 : gh_M} (hj : own v j) (hT : ∀ k y e, gh_has k (c y e) ↔ gh_has k (c1 y e) ∨ (y = v ∧ e = j ∧ k = m0.1)) (hTc : ∀ k y e, gh_cnt k (c y e) = gh_cnt k (c1 y e) + if y = v ∧ e = j ∧ k = m0.1 then 1 else 0) (hTm : ∀ y e m, m ∈ c y e ↔ m ∈ c1 y e ∨ (y = v ∧ e = j ∧ m = m0)) (hTw : ¬ gh_has m0.1 (c1 v j)) (hk : m0.1 = 0) (hs : F 8 (o v j) = F 8 v) (hp1 : F 13 (F 8 v) = 1) (hw : w j = F 8 v) (hl1 : F 1 (o v j) = F 1 v) (hl2 : F 12 (F 8 v) = F 1 v + 1) (hno : ¬ gh_has 1 (c (o v j) j)) (hr : F 9 (o v j) = j ∧ F 9 v = j)  : gi_Sn o w F := by
  dsimp only [gi_Sn, gi_cur, gi_NR, gi_wt, gi_open, gh_Net] at *
  try simp (decide := true) only [gh_U, gh_K, gh_A_has, gh_A_cnt, gh_A_mem, false_and, true_and, and_false, or_false, if_false, if_true, and_true]
  grind (splits := 25)
theorem ci_M {v j : Nat} (HM : gi_M own o F) (Hn : gh_Net own o w) {c1 : Nat → Nat → List gh_M} {m0 : gh_M} (hj : own v j) (hT : ∀ k y e, gh_has k (c y e) ↔ gh_has k (c1 y e) ∨ (y = v ∧ e = j ∧ k = m0.1)) (hTc : ∀ k y e, gh_cnt k (c y e) = gh_cnt k (c1 y e) + if y = v ∧ e = j ∧ k = m0.1 then 1 else 0) (hTm : ∀ y e m, m ∈ c y e ↔ m ∈ c1 y e ∨ (y = v ∧ e = j ∧ m = m0)) (hTw : ¬ gh_has m0.1 (c1 v j)) (hk : m0.1 = 0) (hs : F 8 (o v j) = F 8 v) (hp1 : F 13 (F 8 v) = 1) (hw : w j = F 8 v) (hl1 : F 1 (o v j) = F 1 v) (hl2 : F 12 (F 8 v) = F 1 v + 1) (hno : ¬ gh_has 1 (c (o v j) j)) (hr : F 9 (o v j) = j ∧ F 9 v = j)  : gi_M own o F := by
  dsimp only [gi_M, gi_cur, gi_NR, gi_wt, gi_open, gh_Net] at *
  try simp (decide := true) only [gh_U, gh_K, gh_A_has, gh_A_cnt, gh_A_mem, false_and, true_and, and_false, or_false, if_false, if_true, and_true]
  grind (splits := 25)
theorem ci_C {v j : Nat} (HC : gi_C own o F mk) (Hn : gh_Net own o w) {c1 : Nat → Nat → List gh_M} {m0 : gh_M} (hj : own v j) (hT : ∀ k y e, gh_has k (c y e) ↔ gh_has k (c1 y e) ∨ (y = v ∧ e = j ∧ k = m0.1)) (hTc : ∀ k y e, gh_cnt k (c y e) = gh_cnt k (c1 y e) + if y = v ∧ e = j ∧ k = m0.1 then 1 else 0) (hTm : ∀ y e m, m ∈ c y e ↔ m ∈ c1 y e ∨ (y = v ∧ e = j ∧ m = m0)) (hTw : ¬ gh_has m0.1 (c1 v j)) (hk : m0.1 = 0) (hs : F 8 (o v j) = F 8 v) (hp1 : F 13 (F 8 v) = 1) (hw : w j = F 8 v) (hl1 : F 1 (o v j) = F 1 v) (hl2 : F 12 (F 8 v) = F 1 v + 1) (hno : ¬ gh_has 1 (c (o v j) j)) (hr : F 9 (o v j) = j ∧ F 9 v = j)  : gi_C own o F mk := by
  dsimp only [gi_C, gi_cur, gi_NR, gi_wt, gi_open, gh_Net] at *
  try simp (decide := true) only [gh_U, gh_K, gh_A_has, gh_A_cnt, gh_A_mem, false_and, true_and, and_false, or_false, if_false, if_true, and_true]
  grind (splits := 25)
theorem ci_ph {v j : Nat} (Hph : gi_ph F) (Hn : gh_Net own o w) {c1 : Nat → Nat → List gh_M} {m0 : gh_M} (hj : own v j) (hT : ∀ k y e, gh_has k (c y e) ↔ gh_has k (c1 y e) ∨ (y = v ∧ e = j ∧ k = m0.1)) (hTc : ∀ k y e, gh_cnt k (c y e) = gh_cnt k (c1 y e) + if y = v ∧ e = j ∧ k = m0.1 then 1 else 0) (hTm : ∀ y e m, m ∈ c y e ↔ m ∈ c1 y e ∨ (y = v ∧ e = j ∧ m = m0)) (hTw : ¬ gh_has m0.1 (c1 v j)) (hk : m0.1 = 0) (hs : F 8 (o v j) = F 8 v) (hp1 : F 13 (F 8 v) = 1) (hw : w j = F 8 v) (hl1 : F 1 (o v j) = F 1 v) (hl2 : F 12 (F 8 v) = F 1 v + 1) (hno : ¬ gh_has 1 (c (o v j) j)) (hr : F 9 (o v j) = j ∧ F 9 v = j)  : gi_ph F := by
  dsimp only [gi_ph, gi_cur, gi_NR, gi_wt, gi_open, gh_Net] at *
  try simp (decide := true) only [gh_U, gh_K, gh_A_has, gh_A_cnt, gh_A_mem, false_and, true_and, and_false, or_false, if_false, if_true, and_true]
  grind (splits := 25)
theorem ci_7 {v j : Nat} (H7 : gi_7 o F) (Hn : gh_Net own o w) {c1 : Nat → Nat → List gh_M} {m0 : gh_M} (hj : own v j) (hT : ∀ k y e, gh_has k (c y e) ↔ gh_has k (c1 y e) ∨ (y = v ∧ e = j ∧ k = m0.1)) (hTc : ∀ k y e, gh_cnt k (c y e) = gh_cnt k (c1 y e) + if y = v ∧ e = j ∧ k = m0.1 then 1 else 0) (hTm : ∀ y e m, m ∈ c y e ↔ m ∈ c1 y e ∨ (y = v ∧ e = j ∧ m = m0)) (hTw : ¬ gh_has m0.1 (c1 v j)) (hk : m0.1 = 0) (hs : F 8 (o v j) = F 8 v) (hp1 : F 13 (F 8 v) = 1) (hw : w j = F 8 v) (hl1 : F 1 (o v j) = F 1 v) (hl2 : F 12 (F 8 v) = F 1 v + 1) (hno : ¬ gh_has 1 (c (o v j) j)) (hr : F 9 (o v j) = j ∧ F 9 v = j)  : gi_7 o F := by
  dsimp only [gi_7, gi_cur, gi_NR, gi_wt, gi_open, gh_Net] at *
  try simp (decide := true) only [gh_U, gh_K, gh_A_has, gh_A_cnt, gh_A_mem, false_and, true_and, and_false, or_false, if_false, if_true, and_true]
  grind (splits := 25)
theorem ci_bc {v j : Nat} (Hbc : gi_bc o F mk c) (Hn : gh_Net own o w) {c1 : Nat → Nat → List gh_M} {m0 : gh_M} (hj : own v j) (hT : ∀ k y e, gh_has k (c y e) ↔ gh_has k (c1 y e) ∨ (y = v ∧ e = j ∧ k = m0.1)) (hTc : ∀ k y e, gh_cnt k (c y e) = gh_cnt k (c1 y e) + if y = v ∧ e = j ∧ k = m0.1 then 1 else 0) (hTm : ∀ y e m, m ∈ c y e ↔ m ∈ c1 y e ∨ (y = v ∧ e = j ∧ m = m0)) (hTw : ¬ gh_has m0.1 (c1 v j)) (hk : m0.1 = 0) (hs : F 8 (o v j) = F 8 v) (hp1 : F 13 (F 8 v) = 1) (hw : w j = F 8 v) (hl1 : F 1 (o v j) = F 1 v) (hl2 : F 12 (F 8 v) = F 1 v + 1) (hno : ¬ gh_has 1 (c (o v j) j)) (hr : F 9 (o v j) = j ∧ F 9 v = j)  : gi_bc o F mk (gh_A c1 (o v j) j (1, F 1 v + 1, w j, 1)) := by
  dsimp only [gi_bc, gi_cur, gi_NR, gi_wt, gi_open, gh_Net] at *
  try simp (decide := true) only [gh_U, gh_K, gh_A_has, gh_A_cnt, gh_A_mem, false_and, true_and, and_false, or_false, if_false, if_true, and_true]
  grind (splits := 25)
theorem ci_rj {v j : Nat} (Hrj : gi_rj own o F mk) (Hn : gh_Net own o w) {c1 : Nat → Nat → List gh_M} {m0 : gh_M} (hj : own v j) (hT : ∀ k y e, gh_has k (c y e) ↔ gh_has k (c1 y e) ∨ (y = v ∧ e = j ∧ k = m0.1)) (hTc : ∀ k y e, gh_cnt k (c y e) = gh_cnt k (c1 y e) + if y = v ∧ e = j ∧ k = m0.1 then 1 else 0) (hTm : ∀ y e m, m ∈ c y e ↔ m ∈ c1 y e ∨ (y = v ∧ e = j ∧ m = m0)) (hTw : ¬ gh_has m0.1 (c1 v j)) (hk : m0.1 = 0) (hs : F 8 (o v j) = F 8 v) (hp1 : F 13 (F 8 v) = 1) (hw : w j = F 8 v) (hl1 : F 1 (o v j) = F 1 v) (hl2 : F 12 (F 8 v) = F 1 v + 1) (hno : ¬ gh_has 1 (c (o v j) j)) (hr : F 9 (o v j) = j ∧ F 9 v = j)  : gi_rj own o F mk := by
  dsimp only [gi_rj, gi_cur, gi_NR, gi_wt, gi_open, gh_Net] at *
  try simp (decide := true) only [gh_U, gh_K, gh_A_has, gh_A_cnt, gh_A_mem, false_and, true_and, and_false, or_false, if_false, if_true, and_true]
  grind (splits := 25)
theorem ci_tw {v j : Nat} (Htw : gi_tw own c) (Hn : gh_Net own o w) {c1 : Nat → Nat → List gh_M} {m0 : gh_M} (hj : own v j) (hT : ∀ k y e, gh_has k (c y e) ↔ gh_has k (c1 y e) ∨ (y = v ∧ e = j ∧ k = m0.1)) (hTc : ∀ k y e, gh_cnt k (c y e) = gh_cnt k (c1 y e) + if y = v ∧ e = j ∧ k = m0.1 then 1 else 0) (hTm : ∀ y e m, m ∈ c y e ↔ m ∈ c1 y e ∨ (y = v ∧ e = j ∧ m = m0)) (hTw : ¬ gh_has m0.1 (c1 v j)) (hk : m0.1 = 0) (hs : F 8 (o v j) = F 8 v) (hp1 : F 13 (F 8 v) = 1) (hw : w j = F 8 v) (hl1 : F 1 (o v j) = F 1 v) (hl2 : F 12 (F 8 v) = F 1 v + 1) (hno : ¬ gh_has 1 (c (o v j) j)) (hr : F 9 (o v j) = j ∧ F 9 v = j)  : gi_tw own (gh_A c1 (o v j) j (1, F 1 v + 1, w j, 1)) := by
  dsimp only [gi_tw, gi_cur, gi_NR, gi_wt, gi_open, gh_Net] at *
  try simp (decide := true) only [gh_U, gh_K, gh_A_has, gh_A_cnt, gh_A_mem, false_and, true_and, and_false, or_false, if_false, if_true, and_true]
  grind (splits := 25)
theorem ci_ts {v j : Nat} (Hts : gi_ts own o F c) (Hn : gh_Net own o w) {c1 : Nat → Nat → List gh_M} {m0 : gh_M} (hj : own v j) (hT : ∀ k y e, gh_has k (c y e) ↔ gh_has k (c1 y e) ∨ (y = v ∧ e = j ∧ k = m0.1)) (hTc : ∀ k y e, gh_cnt k (c y e) = gh_cnt k (c1 y e) + if y = v ∧ e = j ∧ k = m0.1 then 1 else 0) (hTm : ∀ y e m, m ∈ c y e ↔ m ∈ c1 y e ∨ (y = v ∧ e = j ∧ m = m0)) (hTw : ¬ gh_has m0.1 (c1 v j)) (hk : m0.1 = 0) (hs : F 8 (o v j) = F 8 v) (hp1 : F 13 (F 8 v) = 1) (hw : w j = F 8 v) (hl1 : F 1 (o v j) = F 1 v) (hl2 : F 12 (F 8 v) = F 1 v + 1) (hno : ¬ gh_has 1 (c (o v j) j)) (hr : F 9 (o v j) = j ∧ F 9 v = j)  : gi_ts own o F (gh_A c1 (o v j) j (1, F 1 v + 1, w j, 1)) := by
  dsimp only [gi_ts, gi_cur, gi_NR, gi_wt, gi_open, gh_Net] at *
  try simp (decide := true) only [gh_U, gh_K, gh_A_has, gh_A_cnt, gh_A_mem, false_and, true_and, and_false, or_false, if_false, if_true, and_true]
  grind (splits := 25)
theorem ci_sz {v j : Nat} (Hsz : gi_sz F) (Hn : gh_Net own o w) {c1 : Nat → Nat → List gh_M} {m0 : gh_M} (hj : own v j) (hT : ∀ k y e, gh_has k (c y e) ↔ gh_has k (c1 y e) ∨ (y = v ∧ e = j ∧ k = m0.1)) (hTc : ∀ k y e, gh_cnt k (c y e) = gh_cnt k (c1 y e) + if y = v ∧ e = j ∧ k = m0.1 then 1 else 0) (hTm : ∀ y e m, m ∈ c y e ↔ m ∈ c1 y e ∨ (y = v ∧ e = j ∧ m = m0)) (hTw : ¬ gh_has m0.1 (c1 v j)) (hk : m0.1 = 0) (hs : F 8 (o v j) = F 8 v) (hp1 : F 13 (F 8 v) = 1) (hw : w j = F 8 v) (hl1 : F 1 (o v j) = F 1 v) (hl2 : F 12 (F 8 v) = F 1 v + 1) (hno : ¬ gh_has 1 (c (o v j) j)) (hr : F 9 (o v j) = j ∧ F 9 v = j)  : gi_sz F := by
  dsimp only [gi_sz, gi_cur, gi_NR, gi_wt, gi_open, gh_Net] at *
  try simp (decide := true) only [gh_U, gh_K, gh_A_has, gh_A_cnt, gh_A_mem, false_and, true_and, and_false, or_false, if_false, if_true, and_true]
  grind (splits := 25)
theorem ci_mi {v j : Nat} (Hn : gh_Net own o w) {c1 : Nat → Nat → List gh_M} {m0 : gh_M} (hj : own v j) (hT : ∀ k y e, gh_has k (c y e) ↔ gh_has k (c1 y e) ∨ (y = v ∧ e = j ∧ k = m0.1)) (hTc : ∀ k y e, gh_cnt k (c y e) = gh_cnt k (c1 y e) + if y = v ∧ e = j ∧ k = m0.1 then 1 else 0) (hTm : ∀ y e m, m ∈ c y e ↔ m ∈ c1 y e ∨ (y = v ∧ e = j ∧ m = m0)) (hTw : ¬ gh_has m0.1 (c1 v j)) (hk : m0.1 = 0) (hs : F 8 (o v j) = F 8 v) (hp1 : F 13 (F 8 v) = 1) (hw : w j = F 8 v) (hl1 : F 1 (o v j) = F 1 v) (hl2 : F 12 (F 8 v) = F 1 v + 1) (hno : ¬ gh_has 1 (c (o v j) j)) (hr : F 9 (o v j) = j ∧ F 9 v = j)  {x y e a : Nat} {m : gh_M} (hx : o y e = x) (hy : own y e) (hm : m ∈ c1 y e) (ha : F 1 y ≤ a) (hb : ¬ gh_has 1 (c y e) → a = F 1 y)  (h : gm_i own o w F mk c x y e a m) : gm_i own o w F mk (gh_A c1 (o v j) j (1, F 1 v + 1, w j, 1)) x y e a m := by
  have hh : ∀ k, m.1 = k → gh_has k (c1 y e) := fun k hk => ⟨m, hm, hk⟩
  dsimp only [gm_i, gi_cur, gi_NR, gi_wt, gi_open, gh_Net] at *
  try simp (decide := true) only [gh_U, gh_K, gh_A_has, gh_A_cnt, gh_A_mem, false_and, true_and, and_false, or_false, if_false, if_true, and_true]
  grind (splits := 25)
theorem ci_mc {v j : Nat} (Hn : gh_Net own o w) {c1 : Nat → Nat → List gh_M} {m0 : gh_M} (hj : own v j) (hT : ∀ k y e, gh_has k (c y e) ↔ gh_has k (c1 y e) ∨ (y = v ∧ e = j ∧ k = m0.1)) (hTc : ∀ k y e, gh_cnt k (c y e) = gh_cnt k (c1 y e) + if y = v ∧ e = j ∧ k = m0.1 then 1 else 0) (hTm : ∀ y e m, m ∈ c y e ↔ m ∈ c1 y e ∨ (y = v ∧ e = j ∧ m = m0)) (hTw : ¬ gh_has m0.1 (c1 v j)) (hk : m0.1 = 0) (hs : F 8 (o v j) = F 8 v) (hp1 : F 13 (F 8 v) = 1) (hw : w j = F 8 v) (hl1 : F 1 (o v j) = F 1 v) (hl2 : F 12 (F 8 v) = F 1 v + 1) (hno : ¬ gh_has 1 (c (o v j) j)) (hr : F 9 (o v j) = j ∧ F 9 v = j)  {x y e a : Nat} {m : gh_M} (hx : o y e = x) (hy : own y e) (hm : m ∈ c1 y e) (ha : F 1 y ≤ a) (hb : ¬ gh_has 1 (c y e) → a = F 1 y)  (h : gm_c own o w F mk c x y e a m) : gm_c own o w F mk (gh_A c1 (o v j) j (1, F 1 v + 1, w j, 1)) x y e a m := by
  have hh : ∀ k, m.1 = k → gh_has k (c1 y e) := fun k hk => ⟨m, hm, hk⟩
  dsimp only [gm_c, gi_cur, gi_NR, gi_wt, gi_open, gh_Net] at *
  try simp (decide := true) only [gh_U, gh_K, gh_A_has, gh_A_cnt, gh_A_mem, false_and, true_and, and_false, or_false, if_false, if_true, and_true]
  grind (splits := 25)
theorem ci_mt {v j : Nat} (Hn : gh_Net own o w) {c1 : Nat → Nat → List gh_M} {m0 : gh_M} (hj : own v j) (hT : ∀ k y e, gh_has k (c y e) ↔ gh_has k (c1 y e) ∨ (y = v ∧ e = j ∧ k = m0.1)) (hTc : ∀ k y e, gh_cnt k (c y e) = gh_cnt k (c1 y e) + if y = v ∧ e = j ∧ k = m0.1 then 1 else 0) (hTm : ∀ y e m, m ∈ c y e ↔ m ∈ c1 y e ∨ (y = v ∧ e = j ∧ m = m0)) (hTw : ¬ gh_has m0.1 (c1 v j)) (hk : m0.1 = 0) (hs : F 8 (o v j) = F 8 v) (hp1 : F 13 (F 8 v) = 1) (hw : w j = F 8 v) (hl1 : F 1 (o v j) = F 1 v) (hl2 : F 12 (F 8 v) = F 1 v + 1) (hno : ¬ gh_has 1 (c (o v j) j)) (hr : F 9 (o v j) = j ∧ F 9 v = j)  {x y e a : Nat} {m : gh_M} (hx : o y e = x) (hy : own y e) (hm : m ∈ c1 y e) (ha : F 1 y ≤ a) (hb : ¬ gh_has 1 (c y e) → a = F 1 y)  (h : gm_t own o w F mk c x y e a m) : gm_t own o w F mk (gh_A c1 (o v j) j (1, F 1 v + 1, w j, 1)) x y e a m := by
  have hh : ∀ k, m.1 = k → gh_has k (c1 y e) := fun k hk => ⟨m, hm, hk⟩
  dsimp only [gm_t, gi_cur, gi_NR, gi_wt, gi_open, gh_Net] at *
  try simp (decide := true) only [gh_U, gh_K, gh_A_has, gh_A_cnt, gh_A_mem, false_and, true_and, and_false, or_false, if_false, if_true, and_true]
  grind (splits := 25)
theorem ci_ma {v j : Nat} (Hn : gh_Net own o w) {c1 : Nat → Nat → List gh_M} {m0 : gh_M} (hj : own v j) (hT : ∀ k y e, gh_has k (c y e) ↔ gh_has k (c1 y e) ∨ (y = v ∧ e = j ∧ k = m0.1)) (hTc : ∀ k y e, gh_cnt k (c y e) = gh_cnt k (c1 y e) + if y = v ∧ e = j ∧ k = m0.1 then 1 else 0) (hTm : ∀ y e m, m ∈ c y e ↔ m ∈ c1 y e ∨ (y = v ∧ e = j ∧ m = m0)) (hTw : ¬ gh_has m0.1 (c1 v j)) (hk : m0.1 = 0) (hs : F 8 (o v j) = F 8 v) (hp1 : F 13 (F 8 v) = 1) (hw : w j = F 8 v) (hl1 : F 1 (o v j) = F 1 v) (hl2 : F 12 (F 8 v) = F 1 v + 1) (hno : ¬ gh_has 1 (c (o v j) j)) (hr : F 9 (o v j) = j ∧ F 9 v = j)  {x y e a : Nat} {m : gh_M} (hx : o y e = x) (hy : own y e) (hm : m ∈ c1 y e) (ha : F 1 y ≤ a) (hb : ¬ gh_has 1 (c y e) → a = F 1 y)  (h : gm_a own o w F mk c x y e a m) : gm_a own o w F mk (gh_A c1 (o v j) j (1, F 1 v + 1, w j, 1)) x y e a m := by
  have hh : ∀ k, m.1 = k → gh_has k (c1 y e) := fun k hk => ⟨m, hm, hk⟩
  dsimp only [gm_a, gi_cur, gi_NR, gi_wt, gi_open, gh_Net] at *
  try simp (decide := true) only [gh_U, gh_K, gh_A_has, gh_A_cnt, gh_A_mem, false_and, true_and, and_false, or_false, if_false, if_true, and_true]
  grind (splits := 25)
theorem ci_mr {v j : Nat} (Hn : gh_Net own o w) {c1 : Nat → Nat → List gh_M} {m0 : gh_M} (hj : own v j) (hT : ∀ k y e, gh_has k (c y e) ↔ gh_has k (c1 y e) ∨ (y = v ∧ e = j ∧ k = m0.1)) (hTc : ∀ k y e, gh_cnt k (c y e) = gh_cnt k (c1 y e) + if y = v ∧ e = j ∧ k = m0.1 then 1 else 0) (hTm : ∀ y e m, m ∈ c y e ↔ m ∈ c1 y e ∨ (y = v ∧ e = j ∧ m = m0)) (hTw : ¬ gh_has m0.1 (c1 v j)) (hk : m0.1 = 0) (hs : F 8 (o v j) = F 8 v) (hp1 : F 13 (F 8 v) = 1) (hw : w j = F 8 v) (hl1 : F 1 (o v j) = F 1 v) (hl2 : F 12 (F 8 v) = F 1 v + 1) (hno : ¬ gh_has 1 (c (o v j) j)) (hr : F 9 (o v j) = j ∧ F 9 v = j)  {x y e a : Nat} {m : gh_M} (hx : o y e = x) (hy : own y e) (hm : m ∈ c1 y e) (ha : F 1 y ≤ a) (hb : ¬ gh_has 1 (c y e) → a = F 1 y)  (h : gm_r own o w F mk c x y e a m) : gm_r own o w F mk (gh_A c1 (o v j) j (1, F 1 v + 1, w j, 1)) x y e a m := by
  have hh : ∀ k, m.1 = k → gh_has k (c1 y e) := fun k hk => ⟨m, hm, hk⟩
  dsimp only [gm_r, gi_cur, gi_NR, gi_wt, gi_open, gh_Net] at *
  try simp (decide := true) only [gh_U, gh_K, gh_A_has, gh_A_cnt, gh_A_mem, false_and, true_and, and_false, or_false, if_false, if_true, and_true]
  grind (splits := 25)
theorem ci_mk {v j : Nat} (Hn : gh_Net own o w) {c1 : Nat → Nat → List gh_M} {m0 : gh_M} (hj : own v j) (hT : ∀ k y e, gh_has k (c y e) ↔ gh_has k (c1 y e) ∨ (y = v ∧ e = j ∧ k = m0.1)) (hTc : ∀ k y e, gh_cnt k (c y e) = gh_cnt k (c1 y e) + if y = v ∧ e = j ∧ k = m0.1 then 1 else 0) (hTm : ∀ y e m, m ∈ c y e ↔ m ∈ c1 y e ∨ (y = v ∧ e = j ∧ m = m0)) (hTw : ¬ gh_has m0.1 (c1 v j)) (hk : m0.1 = 0) (hs : F 8 (o v j) = F 8 v) (hp1 : F 13 (F 8 v) = 1) (hw : w j = F 8 v) (hl1 : F 1 (o v j) = F 1 v) (hl2 : F 12 (F 8 v) = F 1 v + 1) (hno : ¬ gh_has 1 (c (o v j) j)) (hr : F 9 (o v j) = j ∧ F 9 v = j)  {x y e a : Nat} {m : gh_M} (hx : o y e = x) (hy : own y e) (hm : m ∈ c1 y e) (ha : F 1 y ≤ a) (hb : ¬ gh_has 1 (c y e) → a = F 1 y)  (h : gm_k own o w F mk c x y e a m) : gm_k own o w F mk (gh_A c1 (o v j) j (1, F 1 v + 1, w j, 1)) x y e a m := by
  have hh : ∀ k, m.1 = k → gh_has k (c1 y e) := fun k hk => ⟨m, hm, hk⟩
  dsimp only [gm_k, gi_cur, gi_NR, gi_wt, gi_open, gh_Net] at *
  try simp (decide := true) only [gh_U, gh_K, gh_A_has, gh_A_cnt, gh_A_mem, false_and, true_and, and_false, or_false, if_false, if_true, and_true]
  grind (splits := 25)
theorem ci_mp {v j : Nat} (Hn : gh_Net own o w) {c1 : Nat → Nat → List gh_M} {m0 : gh_M} (hj : own v j) (hT : ∀ k y e, gh_has k (c y e) ↔ gh_has k (c1 y e) ∨ (y = v ∧ e = j ∧ k = m0.1)) (hTc : ∀ k y e, gh_cnt k (c y e) = gh_cnt k (c1 y e) + if y = v ∧ e = j ∧ k = m0.1 then 1 else 0) (hTm : ∀ y e m, m ∈ c y e ↔ m ∈ c1 y e ∨ (y = v ∧ e = j ∧ m = m0)) (hTw : ¬ gh_has m0.1 (c1 v j)) (hk : m0.1 = 0) (hs : F 8 (o v j) = F 8 v) (hp1 : F 13 (F 8 v) = 1) (hw : w j = F 8 v) (hl1 : F 1 (o v j) = F 1 v) (hl2 : F 12 (F 8 v) = F 1 v + 1) (hno : ¬ gh_has 1 (c (o v j) j)) (hr : F 9 (o v j) = j ∧ F 9 v = j)  {x y e a : Nat} {m : gh_M} (hx : o y e = x) (hy : own y e) (hm : m ∈ c1 y e) (ha : F 1 y ≤ a) (hb : ¬ gh_has 1 (c y e) → a = F 1 y)  (h : gm_p own o w F mk c x y e a m) : gm_p own o w F mk (gh_A c1 (o v j) j (1, F 1 v + 1, w j, 1)) x y e a m := by
  have hh : ∀ k, m.1 = k → gh_has k (c1 y e) := fun k hk => ⟨m, hm, hk⟩
  dsimp only [gm_p, gi_cur, gi_NR, gi_wt, gi_open, gh_Net] at *
  try simp (decide := true) only [gh_U, gh_K, gh_A_has, gh_A_cnt, gh_A_mem, false_and, true_and, and_false, or_false, if_false, if_true, and_true]
  grind (splits := 25)
theorem ci_new {v j : Nat} (Hn : gh_Net own o w) (HSr : gi_Sr o w F c) (HSl : gi_Sl F) (Hb6 : gi_b6 own o w F mk) (Xb : gx_b own F c) {c1 : Nat → Nat → List gh_M} {m0 : gh_M} (hj : own v j) (hT : ∀ k y e, gh_has k (c y e) ↔ gh_has k (c1 y e) ∨ (y = v ∧ e = j ∧ k = m0.1)) (hTc : ∀ k y e, gh_cnt k (c y e) = gh_cnt k (c1 y e) + if y = v ∧ e = j ∧ k = m0.1 then 1 else 0) (hTm : ∀ y e m, m ∈ c y e ↔ m ∈ c1 y e ∨ (y = v ∧ e = j ∧ m = m0)) (hTw : ¬ gh_has m0.1 (c1 v j)) (hk : m0.1 = 0) (hs : F 8 (o v j) = F 8 v) (hp1 : F 13 (F 8 v) = 1) (hw : w j = F 8 v) (hl1 : F 1 (o v j) = F 1 v) (hl2 : F 12 (F 8 v) = F 1 v + 1) (hno : ¬ gh_has 1 (c (o v j) j)) (hr : F 9 (o v j) = j ∧ F 9 v = j)  (hb1 : mk v j = 1) : gm_i own o w F mk (gh_A c1 (o v j) j (1, F 1 v + 1, w j, 1)) (o (o v j) (j)) (o v j) (j) (gh_last (F 1 (o v j)) (c1 (o v j) j)) (1, F 1 v + 1, w j, 1) := by
  intro _
  have a11 := Hn.1 v j hj
  have a1 := HSr (o v j) (by rw [hs]; exact hp1) (by rw [hs, hr.1]; exact hw)
  have a2 := HSl v hp1
  obtain ⟨y', f, r1, r2, r3, r4, -⟩ := Hb6 v a2
  have a3 : ¬ gh_has 1 (c1 (o v j) j) := fun z => hno ((hT 1 _ _).mpr (Or.inl z))
  rw [gh_last_no _ _ a3, a11.2.1, hs]
  have a4 := a1.2.2 (by unfold gi_cur; rw [hs]; omega)
  have a5 : mk v j = 1 := hb1
  refine ⟨by show _ < F 1 v + 1; omega, rfl, a5, hr.1, by show F 1 v + 1 ≤ _; omega, ?_, ?_, Or.inl rfl, ?_, fun _ _ => hl2.symm, ⟨y', f, r1, r2.trans hw.symm, r3, r4⟩⟩
  · exact ⟨fun _ => hw, fun _ => hl2.symm⟩
  · show w j ≠ 0; omega
  · exact ⟨fun _ => ⟨hl2.symm, a4.1⟩, fun _ => rfl⟩
theorem ci_I {v j : Nat} (Hn : gh_Net own o w) (h : gI own o w F mk c) {m0 : gh_M} {t : List gh_M} (hj : own v j) (hc : c v j = m0 :: t) (hk : m0.1 = 0) (hl : ¬ m0.2.1 < F 1 v) (hv : mk v j ≠ 0)  : gI own o w F mk (gh_A (gh_T c v j) (o v j) j (1, F 1 v + 1, w j, 1)) := by
  obtain ⟨Hst, Hb1, Hb2, Hb3, Hb4, Hb5, Hb6, Hs0, HpA, Hs1, Hs2, HSl, Hs3, Hs4, How, Hs5, Hs6, HSr, HSn, HM, HC, Hph, H6, H7, Hbc, HK, Hrj, Htw, Hts, Han, Hsz, Hch⟩ := h
  have Xi := gx_iI Hch
  have Xc := gx_cI Hch
  have Xt := gx_tI Hch
  have Xa := gx_aI Hch
  have Xr := gx_rI Hch
  have Xk := gx_kI Hch
  have Xp := gx_pI Hch
  have Xl := gx_lI Hch
  have Xb := gx_bI Hch
  have Xn := gx_nI Hn Hph HpA HSr HSn HM HC
  have hT := gp_T hc
  have hTc := gp_C hc
  have hTm := gp_M hc
  have hTw := gp_W hc Htw hj (by omega)
  have hd0 := gi_hd Hch hj hc
  have hr9 : ∀ v j, own v j → F 8 (o v j) = F 8 v → F 13 (F 8 v) = 1 → w j = F 8 v → F 9 (o v j) = j ∧ F 9 v = j ∧ mk v j = 1 := by
    intro v j hj hs hp1 hw
    have q0 := Hn.1 v j hj
    obtain ⟨y, e, r1, r2, r3, r4, r5, r6⟩ := Hb6 v (HSl v hp1)
    have b2 : e = j := Hn.2.2 y v e j r1 hj (by rw [r2, hw])
    subst b2
    have b3 := Hn.2.1 v y e hj r1
    have b5 : mk v e = 1 := by
      rcases b3 with z | z
      · rw [← z]; exact r5
      · rw [z, q0.2.1] at r6; exact r6
    have b4 := ((HK v e (o v e) hj rfl b5).1 hs.symm).2
    have b6 := HSr v hp1
    have b7 := HSr (o v e) (by rw [hs]; exact hp1)
    rcases b4 with z | z
    · have := (b6 (by rw [z]; exact hw)).1
      rw [z] at this
      exact ⟨this, z, b5⟩
    · have := (b7 (by rw [z, hs]; exact hw)).1
      rw [z, q0.2.1] at this
      exact ⟨z, this, b5⟩
  
  have q0 := Hn.1 v j hj
  have q1 := hd0.2.2.1 hk
  have hs : F 8 (o v j) = F 8 v := by
    by_cases z : F 8 (o v j) = F 8 v
    · exact z
    · have := (HK (o v j) j v q0.1 q0.2.1 q1.1).2 z
      exact absurd this.2.2.2.1 hv
  have q2 := q1.2.1 hs
  rw [hs] at q2
  have hp1 := q2.1
  have hw := q2.2.1
  have hl1 : F 1 (o v j) = F 1 v := by omega
  have hl2 : F 12 (F 8 v) = F 1 v + 1 := by omega
  have hno := q2.2.2.2.2.2.1
  have q3 := hr9 v j hj hs hp1 hw
  have hr := And.intro q3.1 q3.2.1
  have hb1 := q3.2.2
  refine ⟨ci_st (c1 := gh_T c v j) Hst Hn hj hT hTc hTm hTw hk hs hp1 hw hl1 hl2 hno hr, ci_b1 (c1 := gh_T c v j) Hb1 Hn hj hT hTc hTm hTw hk hs hp1 hw hl1 hl2 hno hr, ci_b2 (c1 := gh_T c v j) Hb2 Hn hj hT hTc hTm hTw hk hs hp1 hw hl1 hl2 hno hr, ci_b3 (c1 := gh_T c v j) Hb3 Hn hj hT hTc hTm hTw hk hs hp1 hw hl1 hl2 hno hr, ci_b4 (c1 := gh_T c v j) Hb4 Hn hj hT hTc hTm hTw hk hs hp1 hw hl1 hl2 hno hr, ci_b5 (c1 := gh_T c v j) Hb5 Hn hj hT hTc hTm hTw hk hs hp1 hw hl1 hl2 hno hr, ci_b6 (c1 := gh_T c v j) Hb6 Hn hj hT hTc hTm hTw hk hs hp1 hw hl1 hl2 hno hr, ci_s0 (c1 := gh_T c v j) Hs0 Hn hj hT hTc hTm hTw hk hs hp1 hw hl1 hl2 hno hr, ci_pA (c1 := gh_T c v j) HpA Hn hj hT hTc hTm hTw hk hs hp1 hw hl1 hl2 hno hr, ci_s1 (c1 := gh_T c v j) Hs1 Hn hj hT hTc hTm hTw hk hs hp1 hw hl1 hl2 hno hr, ci_s2 (c1 := gh_T c v j) Hs2 Hn hj hT hTc hTm hTw hk hs hp1 hw hl1 hl2 hno hr, ci_Sl (c1 := gh_T c v j) HSl Hn hj hT hTc hTm hTw hk hs hp1 hw hl1 hl2 hno hr, ci_s3 (c1 := gh_T c v j) Hs3 Hn hj hT hTc hTm hTw hk hs hp1 hw hl1 hl2 hno hr, ci_s4 (c1 := gh_T c v j) Hs4 Hn hj hT hTc hTm hTw hk hs hp1 hw hl1 hl2 hno hr, ci_ow (c1 := gh_T c v j) How Hn hj hT hTc hTm hTw hk hs hp1 hw hl1 hl2 hno hr, ci_s5 (c1 := gh_T c v j) Hs5 Hn hj hT hTc hTm hTw hk hs hp1 hw hl1 hl2 hno hr, ci_s6 (c1 := gh_T c v j) Hs6 Hn hj hT hTc hTm hTw hk hs hp1 hw hl1 hl2 hno hr, ci_Sr (c1 := gh_T c v j) HSr Hn HSl Hs6 hj hT hTc hTm hTw hk hs hp1 hw hl1 hl2 hno hr, ci_Sn (c1 := gh_T c v j) HSn Hn hj hT hTc hTm hTw hk hs hp1 hw hl1 hl2 hno hr, ci_M (c1 := gh_T c v j) HM Hn hj hT hTc hTm hTw hk hs hp1 hw hl1 hl2 hno hr, ci_C (c1 := gh_T c v j) HC Hn hj hT hTc hTm hTw hk hs hp1 hw hl1 hl2 hno hr, ci_ph (c1 := gh_T c v j) Hph Hn hj hT hTc hTm hTw hk hs hp1 hw hl1 hl2 hno hr, ci_6 (c1 := gh_T c v j) H6 Hn hj hT hTc hTm hTw hk hs hp1 hw hl1 hl2 hno hr, ci_7 (c1 := gh_T c v j) H7 Hn hj hT hTc hTm hTw hk hs hp1 hw hl1 hl2 hno hr, ci_bc (c1 := gh_T c v j) Hbc Hn hj hT hTc hTm hTw hk hs hp1 hw hl1 hl2 hno hr, ci_K (c1 := gh_T c v j) HK Hn hj hT hTc hTm hTw hk hs hp1 hw hl1 hl2 hno hr, ci_rj (c1 := gh_T c v j) Hrj Hn hj hT hTc hTm hTw hk hs hp1 hw hl1 hl2 hno hr, ci_tw (c1 := gh_T c v j) Htw Hn hj hT hTc hTm hTw hk hs hp1 hw hl1 hl2 hno hr, ci_ts (c1 := gh_T c v j) Hts Hn hj hT hTc hTm hTw hk hs hp1 hw hl1 hl2 hno hr, ci_an (c1 := gh_T c v j) Han hj hT hTc hTm hTw hk hs hp1 hw hl1 hl2 hno hr, ci_sz (c1 := gh_T c v j) Hsz Hn hj hT hTc hTm hTw hk hs hp1 hw hl1 hl2 hno hr, ?_⟩
  have K1 : gi_all own F (gh_T c v j) (fun y e => gi_m own o w F mk (gh_A (gh_T c v j) (o v j) j (1, F 1 v + 1, w j, 1)) (o y e) y e) := gi_all_go (gi_all_popT Hch hc (by omega)) (fun y e q => (hT 1 y e).mpr (Or.inl q)) (fun y => rfl) (fun y e a m hy hm ha hb q => ⟨q.1, ci_mi Hn hj hT hTc hTm hTw hk hs hp1 hw hl1 hl2 hno hr rfl hy hm ha hb q.2.1, ci_mc Hn hj hT hTc hTm hTw hk hs hp1 hw hl1 hl2 hno hr rfl hy hm ha hb q.2.2.1, ci_mt Hn hj hT hTc hTm hTw hk hs hp1 hw hl1 hl2 hno hr rfl hy hm ha hb q.2.2.2.1, ci_ma Hn hj hT hTc hTm hTw hk hs hp1 hw hl1 hl2 hno hr rfl hy hm ha hb q.2.2.2.2.1, ci_mr Hn hj hT hTc hTm hTw hk hs hp1 hw hl1 hl2 hno hr rfl hy hm ha hb q.2.2.2.2.2.1, ci_mk Hn hj hT hTc hTm hTw hk hs hp1 hw hl1 hl2 hno hr rfl hy hm ha hb q.2.2.2.2.2.2.1, ci_mp Hn hj hT hTc hTm hTw hk hs hp1 hw hl1 hl2 hno hr rfl hy hm ha hb q.2.2.2.2.2.2.2⟩)
  exact gi_all_appA K1 (fun hy => ⟨by simp, ci_new Hn HSr HSl Hb6 Xb hj hT hTc hTm hTw hk hs hp1 hw hl1 hl2 hno hr hb1, fun z => absurd z (by simp), fun z => absurd z (by simp), fun z => absurd z (by simp), fun z => absurd z (by simp), fun z => absurd z (by simp), fun z => absurd z (by simp)⟩)
end
section
variable {own : Nat → Nat → Prop} {o : Nat → Nat → Nat} {w : Nat → Nat} {F : gh_F} {mk : Nat → Nat → Nat} {c : Nat → Nat → List gh_M}
theorem iv_b1 {v j n9 : Nat} (Hb1 : gi_b1 F) {c1 : Nat → Nat → List gh_M} {m0 : gh_M} (hj : own v j) (hT : ∀ k y e, gh_has k (c y e) ↔ gh_has k (c1 y e) ∨ (y = v ∧ e = j ∧ k = m0.1)) (hTc : ∀ k y e, gh_cnt k (c y e) = gh_cnt k (c1 y e) + if y = v ∧ e = j ∧ k = m0.1 then 1 else 0) (hTm : ∀ y e m, m ∈ c y e ↔ m ∈ c1 y e ∨ (y = v ∧ e = j ∧ m = m0)) (hk : m0.1 = 1) (hcu : F 1 v < F 12 (F 8 v)) (h01 : F 0 v ≠ 1) (hd : F 1 v < m0.2.1 ∧ F 8 (o v j) = F 8 v ∧ mk (o v j) j = 1 ∧ F 9 v = j ∧ m0.2.1 ≤ F 12 (F 8 v) ∧ (m0.2.1 = F 12 (F 8 v) ↔ m0.2.2.1 = F 8 v) ∧ m0.2.2.1 ≠ 0 ∧ (m0.2.2.2 = 1 ∨ m0.2.2.2 = 2) ∧ (m0.2.2.2 = 1 ↔ (m0.2.1 = F 12 (F 8 v) ∧ F 11 v = 0)) ∧ (F 13 (F 8 v) = 1 → w j = F 8 v → m0.2.1 = F 12 (F 8 v)) ∧ ∃ y' f, own y' f ∧ w f = m0.2.2.1 ∧ F 8 y' = F 8 v ∧ F 8 (o y' f) = F 8 v) (hn9 : m0.2.2.2 = 1 → ∃ l : List Nat, l.Nodup ∧ l.length = n9 ∧ ∀ e, e ∈ l ↔ (own v e ∧ mk v e = 1 ∧ e ≠ j)) (hn0 : m0.2.2.2 ≠ 1 → n9 = 0) (hg : F 8 v < 100)  : gi_b1 (gh_U (gh_U (gh_U (gh_U (gh_U (gh_U (gh_U F 1 v m0.2.1) 2 v m0.2.2.1) 0 v m0.2.2.2) 4 v j) 5 v 12) 6 v 100) 3 v n9) := by
  clear hT hTc hTm hn9
  dsimp only [gi_b1, gi_cur, gi_NR, gi_wt, gi_open, gh_Net] at *
  try simp (decide := true) only [gh_U, gh_K, gh_A_has, gh_A_cnt, gh_A_mem, false_and, true_and, and_false, or_false, if_false, if_true, and_true]
  grind (splits := 25)
theorem iv_b2 {v j n9 : Nat} (Hb2 : gi_b2 F) {c1 : Nat → Nat → List gh_M} {m0 : gh_M} (hj : own v j) (hT : ∀ k y e, gh_has k (c y e) ↔ gh_has k (c1 y e) ∨ (y = v ∧ e = j ∧ k = m0.1)) (hTc : ∀ k y e, gh_cnt k (c y e) = gh_cnt k (c1 y e) + if y = v ∧ e = j ∧ k = m0.1 then 1 else 0) (hTm : ∀ y e m, m ∈ c y e ↔ m ∈ c1 y e ∨ (y = v ∧ e = j ∧ m = m0)) (hk : m0.1 = 1) (hcu : F 1 v < F 12 (F 8 v)) (h01 : F 0 v ≠ 1) (hd : F 1 v < m0.2.1 ∧ F 8 (o v j) = F 8 v ∧ mk (o v j) j = 1 ∧ F 9 v = j ∧ m0.2.1 ≤ F 12 (F 8 v) ∧ (m0.2.1 = F 12 (F 8 v) ↔ m0.2.2.1 = F 8 v) ∧ m0.2.2.1 ≠ 0 ∧ (m0.2.2.2 = 1 ∨ m0.2.2.2 = 2) ∧ (m0.2.2.2 = 1 ↔ (m0.2.1 = F 12 (F 8 v) ∧ F 11 v = 0)) ∧ (F 13 (F 8 v) = 1 → w j = F 8 v → m0.2.1 = F 12 (F 8 v)) ∧ ∃ y' f, own y' f ∧ w f = m0.2.2.1 ∧ F 8 y' = F 8 v ∧ F 8 (o y' f) = F 8 v) (hn9 : m0.2.2.2 = 1 → ∃ l : List Nat, l.Nodup ∧ l.length = n9 ∧ ∀ e, e ∈ l ↔ (own v e ∧ mk v e = 1 ∧ e ≠ j)) (hn0 : m0.2.2.2 ≠ 1 → n9 = 0) (hg : F 8 v < 100)  : gi_b2 (gh_U (gh_U (gh_U (gh_U (gh_U (gh_U (gh_U F 1 v m0.2.1) 2 v m0.2.2.1) 0 v m0.2.2.2) 4 v j) 5 v 12) 6 v 100) 3 v n9) := by
  clear hT hTc hTm hn9
  dsimp only [gi_b2, gi_cur, gi_NR, gi_wt, gi_open, gh_Net] at *
  try simp (decide := true) only [gh_U, gh_K, gh_A_has, gh_A_cnt, gh_A_mem, false_and, true_and, and_false, or_false, if_false, if_true, and_true]
  grind (splits := 25)
theorem iv_b3 {v j n9 : Nat} (Hb3 : gi_b3 F) {c1 : Nat → Nat → List gh_M} {m0 : gh_M} (hj : own v j) (hT : ∀ k y e, gh_has k (c y e) ↔ gh_has k (c1 y e) ∨ (y = v ∧ e = j ∧ k = m0.1)) (hTc : ∀ k y e, gh_cnt k (c y e) = gh_cnt k (c1 y e) + if y = v ∧ e = j ∧ k = m0.1 then 1 else 0) (hTm : ∀ y e m, m ∈ c y e ↔ m ∈ c1 y e ∨ (y = v ∧ e = j ∧ m = m0)) (hk : m0.1 = 1) (hcu : F 1 v < F 12 (F 8 v)) (h01 : F 0 v ≠ 1) (hd : F 1 v < m0.2.1 ∧ F 8 (o v j) = F 8 v ∧ mk (o v j) j = 1 ∧ F 9 v = j ∧ m0.2.1 ≤ F 12 (F 8 v) ∧ (m0.2.1 = F 12 (F 8 v) ↔ m0.2.2.1 = F 8 v) ∧ m0.2.2.1 ≠ 0 ∧ (m0.2.2.2 = 1 ∨ m0.2.2.2 = 2) ∧ (m0.2.2.2 = 1 ↔ (m0.2.1 = F 12 (F 8 v) ∧ F 11 v = 0)) ∧ (F 13 (F 8 v) = 1 → w j = F 8 v → m0.2.1 = F 12 (F 8 v)) ∧ ∃ y' f, own y' f ∧ w f = m0.2.2.1 ∧ F 8 y' = F 8 v ∧ F 8 (o y' f) = F 8 v) (hn9 : m0.2.2.2 = 1 → ∃ l : List Nat, l.Nodup ∧ l.length = n9 ∧ ∀ e, e ∈ l ↔ (own v e ∧ mk v e = 1 ∧ e ≠ j)) (hn0 : m0.2.2.2 ≠ 1 → n9 = 0) (hg : F 8 v < 100)  : gi_b3 (gh_U (gh_U (gh_U (gh_U (gh_U (gh_U (gh_U F 1 v m0.2.1) 2 v m0.2.2.1) 0 v m0.2.2.2) 4 v j) 5 v 12) 6 v 100) 3 v n9) := by
  clear hT hTc hTm hn9
  dsimp only [gi_b3, gi_cur, gi_NR, gi_wt, gi_open, gh_Net] at *
  try simp (decide := true) only [gh_U, gh_K, gh_A_has, gh_A_cnt, gh_A_mem, false_and, true_and, and_false, or_false, if_false, if_true, and_true]
  grind (splits := 25)
theorem iv_b4 {v j n9 : Nat} (Hb4 : gi_b4 F) {c1 : Nat → Nat → List gh_M} {m0 : gh_M} (hj : own v j) (hT : ∀ k y e, gh_has k (c y e) ↔ gh_has k (c1 y e) ∨ (y = v ∧ e = j ∧ k = m0.1)) (hTc : ∀ k y e, gh_cnt k (c y e) = gh_cnt k (c1 y e) + if y = v ∧ e = j ∧ k = m0.1 then 1 else 0) (hTm : ∀ y e m, m ∈ c y e ↔ m ∈ c1 y e ∨ (y = v ∧ e = j ∧ m = m0)) (hk : m0.1 = 1) (hcu : F 1 v < F 12 (F 8 v)) (h01 : F 0 v ≠ 1) (hd : F 1 v < m0.2.1 ∧ F 8 (o v j) = F 8 v ∧ mk (o v j) j = 1 ∧ F 9 v = j ∧ m0.2.1 ≤ F 12 (F 8 v) ∧ (m0.2.1 = F 12 (F 8 v) ↔ m0.2.2.1 = F 8 v) ∧ m0.2.2.1 ≠ 0 ∧ (m0.2.2.2 = 1 ∨ m0.2.2.2 = 2) ∧ (m0.2.2.2 = 1 ↔ (m0.2.1 = F 12 (F 8 v) ∧ F 11 v = 0)) ∧ (F 13 (F 8 v) = 1 → w j = F 8 v → m0.2.1 = F 12 (F 8 v)) ∧ ∃ y' f, own y' f ∧ w f = m0.2.2.1 ∧ F 8 y' = F 8 v ∧ F 8 (o y' f) = F 8 v) (hn9 : m0.2.2.2 = 1 → ∃ l : List Nat, l.Nodup ∧ l.length = n9 ∧ ∀ e, e ∈ l ↔ (own v e ∧ mk v e = 1 ∧ e ≠ j)) (hn0 : m0.2.2.2 ≠ 1 → n9 = 0) (hg : F 8 v < 100)  : gi_b4 (gh_U (gh_U (gh_U (gh_U (gh_U (gh_U (gh_U F 1 v m0.2.1) 2 v m0.2.2.1) 0 v m0.2.2.2) 4 v j) 5 v 12) 6 v 100) 3 v n9) := by
  clear hT hTc hTm hn9
  dsimp only [gi_b4, gi_cur, gi_NR, gi_wt, gi_open, gh_Net] at *
  try simp (decide := true) only [gh_U, gh_K, gh_A_has, gh_A_cnt, gh_A_mem, false_and, true_and, and_false, or_false, if_false, if_true, and_true]
  grind (splits := 25)
theorem iv_b5 {v j n9 : Nat} (Hb5 : gi_b5 own o w F) {c1 : Nat → Nat → List gh_M} {m0 : gh_M} (hj : own v j) (hT : ∀ k y e, gh_has k (c y e) ↔ gh_has k (c1 y e) ∨ (y = v ∧ e = j ∧ k = m0.1)) (hTc : ∀ k y e, gh_cnt k (c y e) = gh_cnt k (c1 y e) + if y = v ∧ e = j ∧ k = m0.1 then 1 else 0) (hTm : ∀ y e m, m ∈ c y e ↔ m ∈ c1 y e ∨ (y = v ∧ e = j ∧ m = m0)) (hk : m0.1 = 1) (hcu : F 1 v < F 12 (F 8 v)) (h01 : F 0 v ≠ 1) (hd : F 1 v < m0.2.1 ∧ F 8 (o v j) = F 8 v ∧ mk (o v j) j = 1 ∧ F 9 v = j ∧ m0.2.1 ≤ F 12 (F 8 v) ∧ (m0.2.1 = F 12 (F 8 v) ↔ m0.2.2.1 = F 8 v) ∧ m0.2.2.1 ≠ 0 ∧ (m0.2.2.2 = 1 ∨ m0.2.2.2 = 2) ∧ (m0.2.2.2 = 1 ↔ (m0.2.1 = F 12 (F 8 v) ∧ F 11 v = 0)) ∧ (F 13 (F 8 v) = 1 → w j = F 8 v → m0.2.1 = F 12 (F 8 v)) ∧ ∃ y' f, own y' f ∧ w f = m0.2.2.1 ∧ F 8 y' = F 8 v ∧ F 8 (o y' f) = F 8 v) (hn9 : m0.2.2.2 = 1 → ∃ l : List Nat, l.Nodup ∧ l.length = n9 ∧ ∀ e, e ∈ l ↔ (own v e ∧ mk v e = 1 ∧ e ≠ j)) (hn0 : m0.2.2.2 ≠ 1 → n9 = 0) (hg : F 8 v < 100)  : gi_b5 own o w (gh_U (gh_U (gh_U (gh_U (gh_U (gh_U (gh_U F 1 v m0.2.1) 2 v m0.2.2.1) 0 v m0.2.2.2) 4 v j) 5 v 12) 6 v 100) 3 v n9) := by
  intro x hx
  by_cases hxv : x = v
  · subst hxv
    obtain ⟨y, f, q1, q2, q3, q4⟩ := hd.2.2.2.2.2.2.2.2.2.2
    refine ⟨y, f, q1, ?_, q3, q4⟩
    rw [q2]; simp [gh_U]
  · have hx2 : F 2 x ≠ 0 := by simpa [gh_U, hxv] using hx
    obtain ⟨y, f, q1, q2, q3, q4⟩ := Hb5 x hx2
    refine ⟨y, f, q1, ?_, q3, q4⟩
    rw [q2]; simp [gh_U, hxv]
theorem iv_b6 {v j n9 : Nat} (Hb6 : gi_b6 own o w F mk) {c1 : Nat → Nat → List gh_M} {m0 : gh_M} (hj : own v j) (hT : ∀ k y e, gh_has k (c y e) ↔ gh_has k (c1 y e) ∨ (y = v ∧ e = j ∧ k = m0.1)) (hTc : ∀ k y e, gh_cnt k (c y e) = gh_cnt k (c1 y e) + if y = v ∧ e = j ∧ k = m0.1 then 1 else 0) (hTm : ∀ y e m, m ∈ c y e ↔ m ∈ c1 y e ∨ (y = v ∧ e = j ∧ m = m0)) (hk : m0.1 = 1) (hcu : F 1 v < F 12 (F 8 v)) (h01 : F 0 v ≠ 1) (hd : F 1 v < m0.2.1 ∧ F 8 (o v j) = F 8 v ∧ mk (o v j) j = 1 ∧ F 9 v = j ∧ m0.2.1 ≤ F 12 (F 8 v) ∧ (m0.2.1 = F 12 (F 8 v) ↔ m0.2.2.1 = F 8 v) ∧ m0.2.2.1 ≠ 0 ∧ (m0.2.2.2 = 1 ∨ m0.2.2.2 = 2) ∧ (m0.2.2.2 = 1 ↔ (m0.2.1 = F 12 (F 8 v) ∧ F 11 v = 0)) ∧ (F 13 (F 8 v) = 1 → w j = F 8 v → m0.2.1 = F 12 (F 8 v)) ∧ ∃ y' f, own y' f ∧ w f = m0.2.2.1 ∧ F 8 y' = F 8 v ∧ F 8 (o y' f) = F 8 v) (hn9 : m0.2.2.2 = 1 → ∃ l : List Nat, l.Nodup ∧ l.length = n9 ∧ ∀ e, e ∈ l ↔ (own v e ∧ mk v e = 1 ∧ e ≠ j)) (hn0 : m0.2.2.2 ≠ 1 → n9 = 0) (hg : F 8 v < 100)  : gi_b6 own o w (gh_U (gh_U (gh_U (gh_U (gh_U (gh_U (gh_U F 1 v m0.2.1) 2 v m0.2.2.1) 0 v m0.2.2.2) 4 v j) 5 v 12) 6 v 100) 3 v n9) mk := by
  clear hT hTc hTm hn9
  exact Hb6
theorem iv_s0 {v j n9 : Nat} (Hs0 : gi_s0 own F mk) {c1 : Nat → Nat → List gh_M} {m0 : gh_M} (hj : own v j) (hT : ∀ k y e, gh_has k (c y e) ↔ gh_has k (c1 y e) ∨ (y = v ∧ e = j ∧ k = m0.1)) (hTc : ∀ k y e, gh_cnt k (c y e) = gh_cnt k (c1 y e) + if y = v ∧ e = j ∧ k = m0.1 then 1 else 0) (hTm : ∀ y e m, m ∈ c y e ↔ m ∈ c1 y e ∨ (y = v ∧ e = j ∧ m = m0)) (hk : m0.1 = 1) (hcu : F 1 v < F 12 (F 8 v)) (h01 : F 0 v ≠ 1) (hd : F 1 v < m0.2.1 ∧ F 8 (o v j) = F 8 v ∧ mk (o v j) j = 1 ∧ F 9 v = j ∧ m0.2.1 ≤ F 12 (F 8 v) ∧ (m0.2.1 = F 12 (F 8 v) ↔ m0.2.2.1 = F 8 v) ∧ m0.2.2.1 ≠ 0 ∧ (m0.2.2.2 = 1 ∨ m0.2.2.2 = 2) ∧ (m0.2.2.2 = 1 ↔ (m0.2.1 = F 12 (F 8 v) ∧ F 11 v = 0)) ∧ (F 13 (F 8 v) = 1 → w j = F 8 v → m0.2.1 = F 12 (F 8 v)) ∧ ∃ y' f, own y' f ∧ w f = m0.2.2.1 ∧ F 8 y' = F 8 v ∧ F 8 (o y' f) = F 8 v) (hn9 : m0.2.2.2 = 1 → ∃ l : List Nat, l.Nodup ∧ l.length = n9 ∧ ∀ e, e ∈ l ↔ (own v e ∧ mk v e = 1 ∧ e ≠ j)) (hn0 : m0.2.2.2 ≠ 1 → n9 = 0) (hg : F 8 v < 100)  : gi_s0 own (gh_U (gh_U (gh_U (gh_U (gh_U (gh_U (gh_U F 1 v m0.2.1) 2 v m0.2.2.1) 0 v m0.2.2.2) 4 v j) 5 v 12) 6 v 100) 3 v n9) mk := by
  clear hT hTc hTm hn9
  dsimp only [gi_s0, gi_cur, gi_NR, gi_wt, gi_open, gh_Net] at *
  try simp (decide := true) only [gh_U, gh_K, gh_A_has, gh_A_cnt, gh_A_mem, false_and, true_and, and_false, or_false, if_false, if_true, and_true]
  grind (splits := 25)
theorem iv_s1 {v j n9 : Nat} (Hs1 : gi_s1 F) {c1 : Nat → Nat → List gh_M} {m0 : gh_M} (hj : own v j) (hT : ∀ k y e, gh_has k (c y e) ↔ gh_has k (c1 y e) ∨ (y = v ∧ e = j ∧ k = m0.1)) (hTc : ∀ k y e, gh_cnt k (c y e) = gh_cnt k (c1 y e) + if y = v ∧ e = j ∧ k = m0.1 then 1 else 0) (hTm : ∀ y e m, m ∈ c y e ↔ m ∈ c1 y e ∨ (y = v ∧ e = j ∧ m = m0)) (hk : m0.1 = 1) (hcu : F 1 v < F 12 (F 8 v)) (h01 : F 0 v ≠ 1) (hd : F 1 v < m0.2.1 ∧ F 8 (o v j) = F 8 v ∧ mk (o v j) j = 1 ∧ F 9 v = j ∧ m0.2.1 ≤ F 12 (F 8 v) ∧ (m0.2.1 = F 12 (F 8 v) ↔ m0.2.2.1 = F 8 v) ∧ m0.2.2.1 ≠ 0 ∧ (m0.2.2.2 = 1 ∨ m0.2.2.2 = 2) ∧ (m0.2.2.2 = 1 ↔ (m0.2.1 = F 12 (F 8 v) ∧ F 11 v = 0)) ∧ (F 13 (F 8 v) = 1 → w j = F 8 v → m0.2.1 = F 12 (F 8 v)) ∧ ∃ y' f, own y' f ∧ w f = m0.2.2.1 ∧ F 8 y' = F 8 v ∧ F 8 (o y' f) = F 8 v) (hn9 : m0.2.2.2 = 1 → ∃ l : List Nat, l.Nodup ∧ l.length = n9 ∧ ∀ e, e ∈ l ↔ (own v e ∧ mk v e = 1 ∧ e ≠ j)) (hn0 : m0.2.2.2 ≠ 1 → n9 = 0) (hg : F 8 v < 100)  : gi_s1 (gh_U (gh_U (gh_U (gh_U (gh_U (gh_U (gh_U F 1 v m0.2.1) 2 v m0.2.2.1) 0 v m0.2.2.2) 4 v j) 5 v 12) 6 v 100) 3 v n9) := by
  clear hT hTc hTm hn9
  dsimp only [gi_s1, gi_cur, gi_NR, gi_wt, gi_open, gh_Net] at *
  try simp (decide := true) only [gh_U, gh_K, gh_A_has, gh_A_cnt, gh_A_mem, false_and, true_and, and_false, or_false, if_false, if_true, and_true]
  grind (splits := 25)
theorem iv_s2 {v j n9 : Nat} (Hs2 : gi_s2 F) (Hph : gi_ph F) (HM : gi_M own o F) (HC : gi_C own o F mk) (HpA : gi_pA own F mk) (Hb2 : gi_b2 F) {c1 : Nat → Nat → List gh_M} {m0 : gh_M} (hj : own v j) (hT : ∀ k y e, gh_has k (c y e) ↔ gh_has k (c1 y e) ∨ (y = v ∧ e = j ∧ k = m0.1)) (hTc : ∀ k y e, gh_cnt k (c y e) = gh_cnt k (c1 y e) + if y = v ∧ e = j ∧ k = m0.1 then 1 else 0) (hTm : ∀ y e m, m ∈ c y e ↔ m ∈ c1 y e ∨ (y = v ∧ e = j ∧ m = m0)) (hk : m0.1 = 1) (hcu : F 1 v < F 12 (F 8 v)) (h01 : F 0 v ≠ 1) (hd : F 1 v < m0.2.1 ∧ F 8 (o v j) = F 8 v ∧ mk (o v j) j = 1 ∧ F 9 v = j ∧ m0.2.1 ≤ F 12 (F 8 v) ∧ (m0.2.1 = F 12 (F 8 v) ↔ m0.2.2.1 = F 8 v) ∧ m0.2.2.1 ≠ 0 ∧ (m0.2.2.2 = 1 ∨ m0.2.2.2 = 2) ∧ (m0.2.2.2 = 1 ↔ (m0.2.1 = F 12 (F 8 v) ∧ F 11 v = 0)) ∧ (F 13 (F 8 v) = 1 → w j = F 8 v → m0.2.1 = F 12 (F 8 v)) ∧ ∃ y' f, own y' f ∧ w f = m0.2.2.1 ∧ F 8 y' = F 8 v ∧ F 8 (o y' f) = F 8 v) (hn9 : m0.2.2.2 = 1 → ∃ l : List Nat, l.Nodup ∧ l.length = n9 ∧ ∀ e, e ∈ l ↔ (own v e ∧ mk v e = 1 ∧ e ≠ j)) (hn0 : m0.2.2.2 ≠ 1 → n9 = 0) (hg : F 8 v < 100)  : gi_s2 (gh_U (gh_U (gh_U (gh_U (gh_U (gh_U (gh_U F 1 v m0.2.1) 2 v m0.2.2.1) 0 v m0.2.2.2) 4 v j) 5 v 12) 6 v 100) 3 v n9) := by
  intro x hx
  by_cases hxv : x = v
  · subst hxv
    have hx1 : m0.2.2.2 = 1 := by simpa [gh_U] using hx
    have h11 := (hd.2.2.2.2.2.2.2.2.1.mp hx1)
    have a1 := Hph x
    have a5 : F 13 (F 8 x) ≠ 2 := fun z => by have := (HM x z _ _ _ rfl rfl rfl).2.2.2.2.2.2.2.2.2.2.1; omega
    have a6 : F 13 (F 8 x) ≠ 3 := fun z => by have := (HC x z _ _ rfl rfl).2.2.2.2.2.1; omega
    have a7 : F 13 (F 8 x) ≠ 0 := fun z => by have := (HpA x z).1; omega
    have a8 : F 13 (F 8 x) = 1 := by omega
    unfold gi_cur
    simp (decide := true) [gh_U]
    exact ⟨h11.1, a8, h11.2⟩
  · have a1 := Hs2 x
    clear Hph HM HC HpA Hs2 hT hTc hTm hn9
    dsimp only [gi_cur] at *
    simp (decide := true) [gh_U, hxv] at *
    grind
theorem iv_s3 {v j n9 : Nat} (Hs3 : gi_s3 F) (Hst : gi_st F) {c1 : Nat → Nat → List gh_M} {m0 : gh_M} (hj : own v j) (hT : ∀ k y e, gh_has k (c y e) ↔ gh_has k (c1 y e) ∨ (y = v ∧ e = j ∧ k = m0.1)) (hTc : ∀ k y e, gh_cnt k (c y e) = gh_cnt k (c1 y e) + if y = v ∧ e = j ∧ k = m0.1 then 1 else 0) (hTm : ∀ y e m, m ∈ c y e ↔ m ∈ c1 y e ∨ (y = v ∧ e = j ∧ m = m0)) (hk : m0.1 = 1) (hcu : F 1 v < F 12 (F 8 v)) (h01 : F 0 v ≠ 1) (hd : F 1 v < m0.2.1 ∧ F 8 (o v j) = F 8 v ∧ mk (o v j) j = 1 ∧ F 9 v = j ∧ m0.2.1 ≤ F 12 (F 8 v) ∧ (m0.2.1 = F 12 (F 8 v) ↔ m0.2.2.1 = F 8 v) ∧ m0.2.2.1 ≠ 0 ∧ (m0.2.2.2 = 1 ∨ m0.2.2.2 = 2) ∧ (m0.2.2.2 = 1 ↔ (m0.2.1 = F 12 (F 8 v) ∧ F 11 v = 0)) ∧ (F 13 (F 8 v) = 1 → w j = F 8 v → m0.2.1 = F 12 (F 8 v)) ∧ ∃ y' f, own y' f ∧ w f = m0.2.2.1 ∧ F 8 y' = F 8 v ∧ F 8 (o y' f) = F 8 v) (hn9 : m0.2.2.2 = 1 → ∃ l : List Nat, l.Nodup ∧ l.length = n9 ∧ ∀ e, e ∈ l ↔ (own v e ∧ mk v e = 1 ∧ e ≠ j)) (hn0 : m0.2.2.2 ≠ 1 → n9 = 0) (hg : F 8 v < 100)  : gi_s3 (gh_U (gh_U (gh_U (gh_U (gh_U (gh_U (gh_U F 1 v m0.2.1) 2 v m0.2.2.1) 0 v m0.2.2.2) 4 v j) 5 v 12) 6 v 100) 3 v n9) := by
  clear hT hTc hTm hn9
  dsimp only [gi_s3, gi_st, gi_cur, gi_NR, gi_wt, gi_open, gh_Net] at *
  try simp (decide := true) only [gh_U, gh_K, gh_A_has, gh_A_cnt, gh_A_mem, false_and, true_and, and_false, or_false, if_false, if_true, and_true]
  grind (splits := 25)
theorem iv_s4 {v j n9 : Nat} (Hs4 : gi_s4 F) {c1 : Nat → Nat → List gh_M} {m0 : gh_M} (hj : own v j) (hT : ∀ k y e, gh_has k (c y e) ↔ gh_has k (c1 y e) ∨ (y = v ∧ e = j ∧ k = m0.1)) (hTc : ∀ k y e, gh_cnt k (c y e) = gh_cnt k (c1 y e) + if y = v ∧ e = j ∧ k = m0.1 then 1 else 0) (hTm : ∀ y e m, m ∈ c y e ↔ m ∈ c1 y e ∨ (y = v ∧ e = j ∧ m = m0)) (hk : m0.1 = 1) (hcu : F 1 v < F 12 (F 8 v)) (h01 : F 0 v ≠ 1) (hd : F 1 v < m0.2.1 ∧ F 8 (o v j) = F 8 v ∧ mk (o v j) j = 1 ∧ F 9 v = j ∧ m0.2.1 ≤ F 12 (F 8 v) ∧ (m0.2.1 = F 12 (F 8 v) ↔ m0.2.2.1 = F 8 v) ∧ m0.2.2.1 ≠ 0 ∧ (m0.2.2.2 = 1 ∨ m0.2.2.2 = 2) ∧ (m0.2.2.2 = 1 ↔ (m0.2.1 = F 12 (F 8 v) ∧ F 11 v = 0)) ∧ (F 13 (F 8 v) = 1 → w j = F 8 v → m0.2.1 = F 12 (F 8 v)) ∧ ∃ y' f, own y' f ∧ w f = m0.2.2.1 ∧ F 8 y' = F 8 v ∧ F 8 (o y' f) = F 8 v) (hn9 : m0.2.2.2 = 1 → ∃ l : List Nat, l.Nodup ∧ l.length = n9 ∧ ∀ e, e ∈ l ↔ (own v e ∧ mk v e = 1 ∧ e ≠ j)) (hn0 : m0.2.2.2 ≠ 1 → n9 = 0) (hg : F 8 v < 100)  : gi_s4 (gh_U (gh_U (gh_U (gh_U (gh_U (gh_U (gh_U F 1 v m0.2.1) 2 v m0.2.2.1) 0 v m0.2.2.2) 4 v j) 5 v 12) 6 v 100) 3 v n9) := by
  clear hT hTc hTm hn9
  dsimp only [gi_s4, gi_cur, gi_NR, gi_wt, gi_open, gh_Net] at *
  try simp (decide := true) only [gh_U, gh_K, gh_A_has, gh_A_cnt, gh_A_mem, false_and, true_and, and_false, or_false, if_false, if_true, and_true]
  grind (splits := 25)
theorem iv_ow {v j n9 : Nat} (How : gi_ow own F) {c1 : Nat → Nat → List gh_M} {m0 : gh_M} (hj : own v j) (hT : ∀ k y e, gh_has k (c y e) ↔ gh_has k (c1 y e) ∨ (y = v ∧ e = j ∧ k = m0.1)) (hTc : ∀ k y e, gh_cnt k (c y e) = gh_cnt k (c1 y e) + if y = v ∧ e = j ∧ k = m0.1 then 1 else 0) (hTm : ∀ y e m, m ∈ c y e ↔ m ∈ c1 y e ∨ (y = v ∧ e = j ∧ m = m0)) (hk : m0.1 = 1) (hcu : F 1 v < F 12 (F 8 v)) (h01 : F 0 v ≠ 1) (hd : F 1 v < m0.2.1 ∧ F 8 (o v j) = F 8 v ∧ mk (o v j) j = 1 ∧ F 9 v = j ∧ m0.2.1 ≤ F 12 (F 8 v) ∧ (m0.2.1 = F 12 (F 8 v) ↔ m0.2.2.1 = F 8 v) ∧ m0.2.2.1 ≠ 0 ∧ (m0.2.2.2 = 1 ∨ m0.2.2.2 = 2) ∧ (m0.2.2.2 = 1 ↔ (m0.2.1 = F 12 (F 8 v) ∧ F 11 v = 0)) ∧ (F 13 (F 8 v) = 1 → w j = F 8 v → m0.2.1 = F 12 (F 8 v)) ∧ ∃ y' f, own y' f ∧ w f = m0.2.2.1 ∧ F 8 y' = F 8 v ∧ F 8 (o y' f) = F 8 v) (hn9 : m0.2.2.2 = 1 → ∃ l : List Nat, l.Nodup ∧ l.length = n9 ∧ ∀ e, e ∈ l ↔ (own v e ∧ mk v e = 1 ∧ e ≠ j)) (hn0 : m0.2.2.2 ≠ 1 → n9 = 0) (hg : F 8 v < 100)  : gi_ow own (gh_U (gh_U (gh_U (gh_U (gh_U (gh_U (gh_U F 1 v m0.2.1) 2 v m0.2.2.1) 0 v m0.2.2.2) 4 v j) 5 v 12) 6 v 100) 3 v n9) := by
  clear hT hTc hTm hn9
  dsimp only [gi_ow, gi_cur, gi_NR, gi_wt, gi_open, gh_Net] at *
  try simp (decide := true) only [gh_U, gh_K, gh_A_has, gh_A_cnt, gh_A_mem, false_and, true_and, and_false, or_false, if_false, if_true, and_true]
  grind (splits := 25)
theorem iv_s5 {v j n9 : Nat} (Hs5 : gi_s5 F) {c1 : Nat → Nat → List gh_M} {m0 : gh_M} (hj : own v j) (hT : ∀ k y e, gh_has k (c y e) ↔ gh_has k (c1 y e) ∨ (y = v ∧ e = j ∧ k = m0.1)) (hTc : ∀ k y e, gh_cnt k (c y e) = gh_cnt k (c1 y e) + if y = v ∧ e = j ∧ k = m0.1 then 1 else 0) (hTm : ∀ y e m, m ∈ c y e ↔ m ∈ c1 y e ∨ (y = v ∧ e = j ∧ m = m0)) (hk : m0.1 = 1) (hcu : F 1 v < F 12 (F 8 v)) (h01 : F 0 v ≠ 1) (hd : F 1 v < m0.2.1 ∧ F 8 (o v j) = F 8 v ∧ mk (o v j) j = 1 ∧ F 9 v = j ∧ m0.2.1 ≤ F 12 (F 8 v) ∧ (m0.2.1 = F 12 (F 8 v) ↔ m0.2.2.1 = F 8 v) ∧ m0.2.2.1 ≠ 0 ∧ (m0.2.2.2 = 1 ∨ m0.2.2.2 = 2) ∧ (m0.2.2.2 = 1 ↔ (m0.2.1 = F 12 (F 8 v) ∧ F 11 v = 0)) ∧ (F 13 (F 8 v) = 1 → w j = F 8 v → m0.2.1 = F 12 (F 8 v)) ∧ ∃ y' f, own y' f ∧ w f = m0.2.2.1 ∧ F 8 y' = F 8 v ∧ F 8 (o y' f) = F 8 v) (hn9 : m0.2.2.2 = 1 → ∃ l : List Nat, l.Nodup ∧ l.length = n9 ∧ ∀ e, e ∈ l ↔ (own v e ∧ mk v e = 1 ∧ e ≠ j)) (hn0 : m0.2.2.2 ≠ 1 → n9 = 0) (hg : F 8 v < 100)  : gi_s5 (gh_U (gh_U (gh_U (gh_U (gh_U (gh_U (gh_U F 1 v m0.2.1) 2 v m0.2.2.1) 0 v m0.2.2.2) 4 v j) 5 v 12) 6 v 100) 3 v n9) := by
  clear hT hTc hTm hn9
  dsimp only [gi_s5, gi_cur, gi_NR, gi_wt, gi_open, gh_Net] at *
  try simp (decide := true) only [gh_U, gh_K, gh_A_has, gh_A_cnt, gh_A_mem, false_and, true_and, and_false, or_false, if_false, if_true, and_true]
  grind (splits := 25)
theorem iv_Sr {v j n9 : Nat} (HSr : gi_Sr o w F c) (Hn : gh_Net own o w) {c1 : Nat → Nat → List gh_M} {m0 : gh_M} (hj : own v j) (hT : ∀ k y e, gh_has k (c y e) ↔ gh_has k (c1 y e) ∨ (y = v ∧ e = j ∧ k = m0.1)) (hTc : ∀ k y e, gh_cnt k (c y e) = gh_cnt k (c1 y e) + if y = v ∧ e = j ∧ k = m0.1 then 1 else 0) (hTm : ∀ y e m, m ∈ c y e ↔ m ∈ c1 y e ∨ (y = v ∧ e = j ∧ m = m0)) (hk : m0.1 = 1) (hcu : F 1 v < F 12 (F 8 v)) (h01 : F 0 v ≠ 1) (hd : F 1 v < m0.2.1 ∧ F 8 (o v j) = F 8 v ∧ mk (o v j) j = 1 ∧ F 9 v = j ∧ m0.2.1 ≤ F 12 (F 8 v) ∧ (m0.2.1 = F 12 (F 8 v) ↔ m0.2.2.1 = F 8 v) ∧ m0.2.2.1 ≠ 0 ∧ (m0.2.2.2 = 1 ∨ m0.2.2.2 = 2) ∧ (m0.2.2.2 = 1 ↔ (m0.2.1 = F 12 (F 8 v) ∧ F 11 v = 0)) ∧ (F 13 (F 8 v) = 1 → w j = F 8 v → m0.2.1 = F 12 (F 8 v)) ∧ ∃ y' f, own y' f ∧ w f = m0.2.2.1 ∧ F 8 y' = F 8 v ∧ F 8 (o y' f) = F 8 v) (hn9 : m0.2.2.2 = 1 → ∃ l : List Nat, l.Nodup ∧ l.length = n9 ∧ ∀ e, e ∈ l ↔ (own v e ∧ mk v e = 1 ∧ e ≠ j)) (hn0 : m0.2.2.2 ≠ 1 → n9 = 0) (hg : F 8 v < 100)  : gi_Sr o w (gh_U (gh_U (gh_U (gh_U (gh_U (gh_U (gh_U F 1 v m0.2.1) 2 v m0.2.2.1) 0 v m0.2.2.2) 4 v j) 5 v 12) 6 v 100) 3 v n9) c1 := by
  intro x h1 h2
  obtain ⟨a1, a2, a3⟩ := HSr x h1 h2
  refine ⟨a1, a2, fun hc => ?_⟩
  have hxv : x ≠ v := by
    intro z
    subst z
    have e1 : w j = F 8 x := by have := hd.2.2.2.1; rw [← this]; exact h2
    have e2 := hd.2.2.2.2.2.2.2.2.2.1 h1 e1
    apply hc
    unfold gi_cur
    simp [gh_U]
    exact e2
  have hc2 : ¬ gi_cur F x := by
    unfold gi_cur at hc ⊢
    simpa [gh_U, hxv] using hc
  refine ⟨by have := (a3 hc2).1; simpa [gh_U] using this, ?_⟩
  rcases (a3 hc2).2 with z | ⟨m, m1, m2, m3⟩
  · refine Or.inl ?_
    have b1 := hT 0 (o x (F 9 x)) (F 9 x)
    simp (decide := true) only [gh_U, false_and, if_false] at *
    grind
  · refine Or.inr ⟨m, ?_, m2, ?_⟩
    · have b1 := hTm x (F 9 x) m
      simp (decide := true) only [gh_U, false_and, if_false] at *
      grind
    · simpa [gh_U] using m3
theorem iv_Sn {v j n9 : Nat} (HSn : gi_Sn o w F) {c1 : Nat → Nat → List gh_M} {m0 : gh_M} (hj : own v j) (hT : ∀ k y e, gh_has k (c y e) ↔ gh_has k (c1 y e) ∨ (y = v ∧ e = j ∧ k = m0.1)) (hTc : ∀ k y e, gh_cnt k (c y e) = gh_cnt k (c1 y e) + if y = v ∧ e = j ∧ k = m0.1 then 1 else 0) (hTm : ∀ y e m, m ∈ c y e ↔ m ∈ c1 y e ∨ (y = v ∧ e = j ∧ m = m0)) (hk : m0.1 = 1) (hcu : F 1 v < F 12 (F 8 v)) (h01 : F 0 v ≠ 1) (hd : F 1 v < m0.2.1 ∧ F 8 (o v j) = F 8 v ∧ mk (o v j) j = 1 ∧ F 9 v = j ∧ m0.2.1 ≤ F 12 (F 8 v) ∧ (m0.2.1 = F 12 (F 8 v) ↔ m0.2.2.1 = F 8 v) ∧ m0.2.2.1 ≠ 0 ∧ (m0.2.2.2 = 1 ∨ m0.2.2.2 = 2) ∧ (m0.2.2.2 = 1 ↔ (m0.2.1 = F 12 (F 8 v) ∧ F 11 v = 0)) ∧ (F 13 (F 8 v) = 1 → w j = F 8 v → m0.2.1 = F 12 (F 8 v)) ∧ ∃ y' f, own y' f ∧ w f = m0.2.2.1 ∧ F 8 y' = F 8 v ∧ F 8 (o y' f) = F 8 v) (hn9 : m0.2.2.2 = 1 → ∃ l : List Nat, l.Nodup ∧ l.length = n9 ∧ ∀ e, e ∈ l ↔ (own v e ∧ mk v e = 1 ∧ e ≠ j)) (hn0 : m0.2.2.2 ≠ 1 → n9 = 0) (hg : F 8 v < 100)  : gi_Sn o w (gh_U (gh_U (gh_U (gh_U (gh_U (gh_U (gh_U F 1 v m0.2.1) 2 v m0.2.2.1) 0 v m0.2.2.2) 4 v j) 5 v 12) 6 v 100) 3 v n9) := by
  clear hT hTc hTm hn9
  dsimp only [gi_Sn, gi_cur, gi_NR, gi_wt, gi_open, gh_Net] at *
  try simp (decide := true) only [gh_U, gh_K, gh_A_has, gh_A_cnt, gh_A_mem, false_and, true_and, and_false, or_false, if_false, if_true, and_true]
  grind (splits := 25)
theorem iv_M {v j n9 : Nat} (HM : gi_M own o F) {c1 : Nat → Nat → List gh_M} {m0 : gh_M} (hj : own v j) (hT : ∀ k y e, gh_has k (c y e) ↔ gh_has k (c1 y e) ∨ (y = v ∧ e = j ∧ k = m0.1)) (hTc : ∀ k y e, gh_cnt k (c y e) = gh_cnt k (c1 y e) + if y = v ∧ e = j ∧ k = m0.1 then 1 else 0) (hTm : ∀ y e m, m ∈ c y e ↔ m ∈ c1 y e ∨ (y = v ∧ e = j ∧ m = m0)) (hk : m0.1 = 1) (hcu : F 1 v < F 12 (F 8 v)) (h01 : F 0 v ≠ 1) (hd : F 1 v < m0.2.1 ∧ F 8 (o v j) = F 8 v ∧ mk (o v j) j = 1 ∧ F 9 v = j ∧ m0.2.1 ≤ F 12 (F 8 v) ∧ (m0.2.1 = F 12 (F 8 v) ↔ m0.2.2.1 = F 8 v) ∧ m0.2.2.1 ≠ 0 ∧ (m0.2.2.2 = 1 ∨ m0.2.2.2 = 2) ∧ (m0.2.2.2 = 1 ↔ (m0.2.1 = F 12 (F 8 v) ∧ F 11 v = 0)) ∧ (F 13 (F 8 v) = 1 → w j = F 8 v → m0.2.1 = F 12 (F 8 v)) ∧ ∃ y' f, own y' f ∧ w f = m0.2.2.1 ∧ F 8 y' = F 8 v ∧ F 8 (o y' f) = F 8 v) (hn9 : m0.2.2.2 = 1 → ∃ l : List Nat, l.Nodup ∧ l.length = n9 ∧ ∀ e, e ∈ l ↔ (own v e ∧ mk v e = 1 ∧ e ≠ j)) (hn0 : m0.2.2.2 ≠ 1 → n9 = 0) (hg : F 8 v < 100)  : gi_M own o (gh_U (gh_U (gh_U (gh_U (gh_U (gh_U (gh_U F 1 v m0.2.1) 2 v m0.2.2.1) 0 v m0.2.2.2) 4 v j) 5 v 12) 6 v 100) 3 v n9) := by
  clear hT hTc hTm hn9
  intro x hx y e z h1 h2 h3
  have a1 := HM x hx y e z h1 h2 h3
  clear HM
  dsimp only [gi_cur, gi_NR, gh_U] at *
  grind
theorem iv_C {v j n9 : Nat} (HC : gi_C own o F mk) {c1 : Nat → Nat → List gh_M} {m0 : gh_M} (hj : own v j) (hT : ∀ k y e, gh_has k (c y e) ↔ gh_has k (c1 y e) ∨ (y = v ∧ e = j ∧ k = m0.1)) (hTc : ∀ k y e, gh_cnt k (c y e) = gh_cnt k (c1 y e) + if y = v ∧ e = j ∧ k = m0.1 then 1 else 0) (hTm : ∀ y e m, m ∈ c y e ↔ m ∈ c1 y e ∨ (y = v ∧ e = j ∧ m = m0)) (hk : m0.1 = 1) (hcu : F 1 v < F 12 (F 8 v)) (h01 : F 0 v ≠ 1) (hd : F 1 v < m0.2.1 ∧ F 8 (o v j) = F 8 v ∧ mk (o v j) j = 1 ∧ F 9 v = j ∧ m0.2.1 ≤ F 12 (F 8 v) ∧ (m0.2.1 = F 12 (F 8 v) ↔ m0.2.2.1 = F 8 v) ∧ m0.2.2.1 ≠ 0 ∧ (m0.2.2.2 = 1 ∨ m0.2.2.2 = 2) ∧ (m0.2.2.2 = 1 ↔ (m0.2.1 = F 12 (F 8 v) ∧ F 11 v = 0)) ∧ (F 13 (F 8 v) = 1 → w j = F 8 v → m0.2.1 = F 12 (F 8 v)) ∧ ∃ y' f, own y' f ∧ w f = m0.2.2.1 ∧ F 8 y' = F 8 v ∧ F 8 (o y' f) = F 8 v) (hn9 : m0.2.2.2 = 1 → ∃ l : List Nat, l.Nodup ∧ l.length = n9 ∧ ∀ e, e ∈ l ↔ (own v e ∧ mk v e = 1 ∧ e ≠ j)) (hn0 : m0.2.2.2 ≠ 1 → n9 = 0) (hg : F 8 v < 100)  : gi_C own o (gh_U (gh_U (gh_U (gh_U (gh_U (gh_U (gh_U F 1 v m0.2.1) 2 v m0.2.2.1) 0 v m0.2.2.2) 4 v j) 5 v 12) 6 v 100) 3 v n9) mk := by
  clear hT hTc hTm hn9
  dsimp only [gi_C, gi_cur, gi_NR, gi_wt, gi_open, gh_Net] at *
  try simp (decide := true) only [gh_U, gh_K, gh_A_has, gh_A_cnt, gh_A_mem, false_and, true_and, and_false, or_false, if_false, if_true, and_true]
  grind (splits := 25)
theorem iv_6 {v j n9 : Nat} (H6 : gi_6 o F c) (Hn : gh_Net own o w) {c1 : Nat → Nat → List gh_M} {m0 : gh_M} (hj : own v j) (hT : ∀ k y e, gh_has k (c y e) ↔ gh_has k (c1 y e) ∨ (y = v ∧ e = j ∧ k = m0.1)) (hTc : ∀ k y e, gh_cnt k (c y e) = gh_cnt k (c1 y e) + if y = v ∧ e = j ∧ k = m0.1 then 1 else 0) (hTm : ∀ y e m, m ∈ c y e ↔ m ∈ c1 y e ∨ (y = v ∧ e = j ∧ m = m0)) (hk : m0.1 = 1) (hcu : F 1 v < F 12 (F 8 v)) (h01 : F 0 v ≠ 1) (hd : F 1 v < m0.2.1 ∧ F 8 (o v j) = F 8 v ∧ mk (o v j) j = 1 ∧ F 9 v = j ∧ m0.2.1 ≤ F 12 (F 8 v) ∧ (m0.2.1 = F 12 (F 8 v) ↔ m0.2.2.1 = F 8 v) ∧ m0.2.2.1 ≠ 0 ∧ (m0.2.2.2 = 1 ∨ m0.2.2.2 = 2) ∧ (m0.2.2.2 = 1 ↔ (m0.2.1 = F 12 (F 8 v) ∧ F 11 v = 0)) ∧ (F 13 (F 8 v) = 1 → w j = F 8 v → m0.2.1 = F 12 (F 8 v)) ∧ ∃ y' f, own y' f ∧ w f = m0.2.2.1 ∧ F 8 y' = F 8 v ∧ F 8 (o y' f) = F 8 v) (hn9 : m0.2.2.2 = 1 → ∃ l : List Nat, l.Nodup ∧ l.length = n9 ∧ ∀ e, e ∈ l ↔ (own v e ∧ mk v e = 1 ∧ e ≠ j)) (hn0 : m0.2.2.2 ≠ 1 → n9 = 0) (hg : F 8 v < 100)  : gi_6 o (gh_U (gh_U (gh_U (gh_U (gh_U (gh_U (gh_U F 1 v m0.2.1) 2 v m0.2.2.1) 0 v m0.2.2.2) 4 v j) 5 v 12) 6 v 100) 3 v n9) c1 := by
  intro x hx
  obtain ⟨a1, a2⟩ := H6 x hx
  have a3 : x = v → m0.2.1 ≤ F 1 (o x (F 9 x)) := fun z => by
    subst z
    exact a2 m0 ((hTm x (F 9 x) m0).mpr (Or.inr ⟨rfl, hd.2.2.2.1, rfl⟩)) hk
  refine ⟨?_, fun m hm hm1 => ?_⟩
  · clear H6 hT hTc hTm hn9
    unfold gi_NR at hx
    simp (decide := true) only [gh_U, false_and, if_false, true_and] at *
    grind
  · have a4 := a2 m ((hTm _ _ _).mpr (Or.inl hm)) hm1
    clear H6 hT hTc hTm hn9
    unfold gi_NR at hx
    simp (decide := true) only [gh_U, false_and, if_false, true_and] at *
    grind
theorem iv_7 {v j n9 : Nat} (H7 : gi_7 o F) (Hst : gi_st F) (Hb1 : gi_b1 F) {c1 : Nat → Nat → List gh_M} {m0 : gh_M} (hj : own v j) (hT : ∀ k y e, gh_has k (c y e) ↔ gh_has k (c1 y e) ∨ (y = v ∧ e = j ∧ k = m0.1)) (hTc : ∀ k y e, gh_cnt k (c y e) = gh_cnt k (c1 y e) + if y = v ∧ e = j ∧ k = m0.1 then 1 else 0) (hTm : ∀ y e m, m ∈ c y e ↔ m ∈ c1 y e ∨ (y = v ∧ e = j ∧ m = m0)) (hk : m0.1 = 1) (hcu : F 1 v < F 12 (F 8 v)) (h01 : F 0 v ≠ 1) (hd : F 1 v < m0.2.1 ∧ F 8 (o v j) = F 8 v ∧ mk (o v j) j = 1 ∧ F 9 v = j ∧ m0.2.1 ≤ F 12 (F 8 v) ∧ (m0.2.1 = F 12 (F 8 v) ↔ m0.2.2.1 = F 8 v) ∧ m0.2.2.1 ≠ 0 ∧ (m0.2.2.2 = 1 ∨ m0.2.2.2 = 2) ∧ (m0.2.2.2 = 1 ↔ (m0.2.1 = F 12 (F 8 v) ∧ F 11 v = 0)) ∧ (F 13 (F 8 v) = 1 → w j = F 8 v → m0.2.1 = F 12 (F 8 v)) ∧ ∃ y' f, own y' f ∧ w f = m0.2.2.1 ∧ F 8 y' = F 8 v ∧ F 8 (o y' f) = F 8 v) (hn9 : m0.2.2.2 = 1 → ∃ l : List Nat, l.Nodup ∧ l.length = n9 ∧ ∀ e, e ∈ l ↔ (own v e ∧ mk v e = 1 ∧ e ≠ j)) (hn0 : m0.2.2.2 ≠ 1 → n9 = 0) (hg : F 8 v < 100)  : gi_7 o (gh_U (gh_U (gh_U (gh_U (gh_U (gh_U (gh_U F 1 v m0.2.1) 2 v m0.2.2.1) 0 v m0.2.2.2) 4 v j) 5 v 12) 6 v 100) 3 v n9) := by
  intro x hx
  obtain ⟨a1, a2, a3⟩ := H7 x hx
  clear hT hTc hTm hn9 H7
  dsimp only [gi_cur, gi_NR, gi_b1, gi_st] at *
  simp (decide := true) only [gh_U, false_and, if_false, true_and] at *
  grind
theorem iv_bc {v j n9 : Nat} (Hbc : gi_bc o F mk c) (Hn : gh_Net own o w) {c1 : Nat → Nat → List gh_M} {m0 : gh_M} (hj : own v j) (hT : ∀ k y e, gh_has k (c y e) ↔ gh_has k (c1 y e) ∨ (y = v ∧ e = j ∧ k = m0.1)) (hTc : ∀ k y e, gh_cnt k (c y e) = gh_cnt k (c1 y e) + if y = v ∧ e = j ∧ k = m0.1 then 1 else 0) (hTm : ∀ y e m, m ∈ c y e ↔ m ∈ c1 y e ∨ (y = v ∧ e = j ∧ m = m0)) (hk : m0.1 = 1) (hcu : F 1 v < F 12 (F 8 v)) (h01 : F 0 v ≠ 1) (hd : F 1 v < m0.2.1 ∧ F 8 (o v j) = F 8 v ∧ mk (o v j) j = 1 ∧ F 9 v = j ∧ m0.2.1 ≤ F 12 (F 8 v) ∧ (m0.2.1 = F 12 (F 8 v) ↔ m0.2.2.1 = F 8 v) ∧ m0.2.2.1 ≠ 0 ∧ (m0.2.2.2 = 1 ∨ m0.2.2.2 = 2) ∧ (m0.2.2.2 = 1 ↔ (m0.2.1 = F 12 (F 8 v) ∧ F 11 v = 0)) ∧ (F 13 (F 8 v) = 1 → w j = F 8 v → m0.2.1 = F 12 (F 8 v)) ∧ ∃ y' f, own y' f ∧ w f = m0.2.2.1 ∧ F 8 y' = F 8 v ∧ F 8 (o y' f) = F 8 v) (hn9 : m0.2.2.2 = 1 → ∃ l : List Nat, l.Nodup ∧ l.length = n9 ∧ ∀ e, e ∈ l ↔ (own v e ∧ mk v e = 1 ∧ e ≠ j)) (hn0 : m0.2.2.2 ≠ 1 → n9 = 0) (hg : F 8 v < 100)  : gi_bc o (gh_U (gh_U (gh_U (gh_U (gh_U (gh_U (gh_U F 1 v m0.2.1) 2 v m0.2.2.1) 0 v m0.2.2.2) 4 v j) 5 v 12) 6 v 100) 3 v n9) mk c1 := by
  intro x b y hb hb1 hy hcu9 hph hw
  have hxv : x ≠ v := by
    intro z
    subst z
    simp [gh_U] at hb
    exact hb1 hb.symm
  obtain ⟨b1, b2⟩ := Hbc x b y (by simpa [gh_U, hxv] using hb) hb1 hy (by unfold gi_cur at *; simpa [gh_U, hxv] using hcu9) (by simpa [gh_U] using hph) (by simpa [gh_U, hxv] using hw)
  have b3 := hT 5 x b
  clear Hbc hT hTc hTm hn9
  dsimp only [gi_cur] at *
  simp (decide := true) only [gh_U, false_and, if_false, true_and] at *
  grind
theorem iv_K {v j n9 : Nat} (HK : gi_K own o F mk c) (Hn : gh_Net own o w) {c1 : Nat → Nat → List gh_M} {m0 : gh_M} (hj : own v j) (hT : ∀ k y e, gh_has k (c y e) ↔ gh_has k (c1 y e) ∨ (y = v ∧ e = j ∧ k = m0.1)) (hTc : ∀ k y e, gh_cnt k (c y e) = gh_cnt k (c1 y e) + if y = v ∧ e = j ∧ k = m0.1 then 1 else 0) (hTm : ∀ y e m, m ∈ c y e ↔ m ∈ c1 y e ∨ (y = v ∧ e = j ∧ m = m0)) (hk : m0.1 = 1) (hcu : F 1 v < F 12 (F 8 v)) (h01 : F 0 v ≠ 1) (hd : F 1 v < m0.2.1 ∧ F 8 (o v j) = F 8 v ∧ mk (o v j) j = 1 ∧ F 9 v = j ∧ m0.2.1 ≤ F 12 (F 8 v) ∧ (m0.2.1 = F 12 (F 8 v) ↔ m0.2.2.1 = F 8 v) ∧ m0.2.2.1 ≠ 0 ∧ (m0.2.2.2 = 1 ∨ m0.2.2.2 = 2) ∧ (m0.2.2.2 = 1 ↔ (m0.2.1 = F 12 (F 8 v) ∧ F 11 v = 0)) ∧ (F 13 (F 8 v) = 1 → w j = F 8 v → m0.2.1 = F 12 (F 8 v)) ∧ ∃ y' f, own y' f ∧ w f = m0.2.2.1 ∧ F 8 y' = F 8 v ∧ F 8 (o y' f) = F 8 v) (hn9 : m0.2.2.2 = 1 → ∃ l : List Nat, l.Nodup ∧ l.length = n9 ∧ ∀ e, e ∈ l ↔ (own v e ∧ mk v e = 1 ∧ e ≠ j)) (hn0 : m0.2.2.2 ≠ 1 → n9 = 0) (hg : F 8 v < 100)  : gi_K own o (gh_U (gh_U (gh_U (gh_U (gh_U (gh_U (gh_U F 1 v m0.2.1) 2 v m0.2.2.1) 0 v m0.2.2.2) 4 v j) 5 v 12) 6 v 100) 3 v n9) mk c1 := by
  intro x e y h1 h2 h3
  have b1 := HK x e y h1 h2 h3
  have b4 := hT 0 y e
  clear HK hT hTc hTm hn9 Hn
  dsimp only [gi_cur] at *
  simp (decide := true) only [gh_U, false_and, if_false, true_and] at *
  grind
theorem iv_ts {v j n9 : Nat} (Hts : gi_ts own o F c) (Hn : gh_Net own o w) (Hs1 : gi_s1 F) (Xt : gx_t own o w F mk c) {c1 : Nat → Nat → List gh_M} {m0 : gh_M} (hj : own v j) (hT : ∀ k y e, gh_has k (c y e) ↔ gh_has k (c1 y e) ∨ (y = v ∧ e = j ∧ k = m0.1)) (hTc : ∀ k y e, gh_cnt k (c y e) = gh_cnt k (c1 y e) + if y = v ∧ e = j ∧ k = m0.1 then 1 else 0) (hTm : ∀ y e m, m ∈ c y e ↔ m ∈ c1 y e ∨ (y = v ∧ e = j ∧ m = m0)) (hk : m0.1 = 1) (hcu : F 1 v < F 12 (F 8 v)) (h01 : F 0 v ≠ 1) (hd : F 1 v < m0.2.1 ∧ F 8 (o v j) = F 8 v ∧ mk (o v j) j = 1 ∧ F 9 v = j ∧ m0.2.1 ≤ F 12 (F 8 v) ∧ (m0.2.1 = F 12 (F 8 v) ↔ m0.2.2.1 = F 8 v) ∧ m0.2.2.1 ≠ 0 ∧ (m0.2.2.2 = 1 ∨ m0.2.2.2 = 2) ∧ (m0.2.2.2 = 1 ↔ (m0.2.1 = F 12 (F 8 v) ∧ F 11 v = 0)) ∧ (F 13 (F 8 v) = 1 → w j = F 8 v → m0.2.1 = F 12 (F 8 v)) ∧ ∃ y' f, own y' f ∧ w f = m0.2.2.1 ∧ F 8 y' = F 8 v ∧ F 8 (o y' f) = F 8 v) (hn9 : m0.2.2.2 = 1 → ∃ l : List Nat, l.Nodup ∧ l.length = n9 ∧ ∀ e, e ∈ l ↔ (own v e ∧ mk v e = 1 ∧ e ≠ j)) (hn0 : m0.2.2.2 ≠ 1 → n9 = 0) (hg : F 8 v < 100)  : gi_ts own o (gh_U (gh_U (gh_U (gh_U (gh_U (gh_U (gh_U F 1 v m0.2.1) 2 v m0.2.2.1) 0 v m0.2.2.2) 4 v j) 5 v 12) 6 v 100) 3 v n9) c1 := by
  clear hTc hTm hn9
  have a7 := Hs1 v h01
  dsimp only [gi_ts, gi_s1, gx_t, gi_cur, gi_NR, gi_wt, gi_open, gh_Net] at *
  try simp (decide := true) only [gh_U, gh_K, gh_A_has, gh_A_cnt, gh_A_mem, false_and, true_and, and_false, or_false, if_false, if_true, and_true]
  grind (splits := 25)
theorem iv_an {v j n9 : Nat} (Han : gi_an own o F mk c) (Hn : gh_Net own o w) (H7 : gi_7 o F) (HK : gi_K own o F mk c) (Hs2 : gi_s2 F) (Hst : gi_st F) (Hb1 : gi_b1 F) (Hs6 : gi_s6 own F mk) (Xn : gx_n o F) (H6 : gi_6 o F c) {c1 : Nat → Nat → List gh_M} {m0 : gh_M} (hj : own v j) (hT : ∀ k y e, gh_has k (c y e) ↔ gh_has k (c1 y e) ∨ (y = v ∧ e = j ∧ k = m0.1)) (hTc : ∀ k y e, gh_cnt k (c y e) = gh_cnt k (c1 y e) + if y = v ∧ e = j ∧ k = m0.1 then 1 else 0) (hTm : ∀ y e m, m ∈ c y e ↔ m ∈ c1 y e ∨ (y = v ∧ e = j ∧ m = m0)) (hk : m0.1 = 1) (hcu : F 1 v < F 12 (F 8 v)) (h01 : F 0 v ≠ 1) (hd : F 1 v < m0.2.1 ∧ F 8 (o v j) = F 8 v ∧ mk (o v j) j = 1 ∧ F 9 v = j ∧ m0.2.1 ≤ F 12 (F 8 v) ∧ (m0.2.1 = F 12 (F 8 v) ↔ m0.2.2.1 = F 8 v) ∧ m0.2.2.1 ≠ 0 ∧ (m0.2.2.2 = 1 ∨ m0.2.2.2 = 2) ∧ (m0.2.2.2 = 1 ↔ (m0.2.1 = F 12 (F 8 v) ∧ F 11 v = 0)) ∧ (F 13 (F 8 v) = 1 → w j = F 8 v → m0.2.1 = F 12 (F 8 v)) ∧ ∃ y' f, own y' f ∧ w f = m0.2.2.1 ∧ F 8 y' = F 8 v ∧ F 8 (o y' f) = F 8 v) (hn9 : m0.2.2.2 = 1 → ∃ l : List Nat, l.Nodup ∧ l.length = n9 ∧ ∀ e, e ∈ l ↔ (own v e ∧ mk v e = 1 ∧ e ≠ j)) (hn0 : m0.2.2.2 ≠ 1 → n9 = 0) (hg : F 8 v < 100)  : gi_an own o (gh_U (gh_U (gh_U (gh_U (gh_U (gh_U (gh_U F 1 v m0.2.1) 2 v m0.2.2.1) 0 v m0.2.2.2) 4 v j) 5 v 12) 6 v 100) 3 v n9) mk c1 := by
  intro x hx
  by_cases hxv : x = v
  · subst hxv
    have h3 : m0.2.2.2 = 1 := by simpa [gh_U] using hx
    obtain ⟨l, l1, l2, l3⟩ := hn9 h3
    refine ⟨l, l1, by rw [l2]; simp [gh_U], fun e => (l3 e).trans ?_⟩
    have c3 : own x e → mk x e = 1 → e ≠ j → F 1 (o x e) < F 12 (F 8 (o x e)) ∧ o x e ≠ x := by
      intro e1 e2 e3
      have b1 := HK x e (o x e) e1 rfl e2
      have b2 := Hn.1 x e e1
      have b3 := Xn (o x e)
      have b4 := H6 (o x e)
      clear HK Hn Xn H6 Han l3 hTm hTc hT hn9 H7 Hs2 Hs6 Hb1 Hst
      unfold gi_cur at b1
      grind
    clear HK Hn Xn H6 Han l3 hTm hTc hT hn9 H7 Hs2 Hs6 Hb1 Hst
    dsimp only [gi_open, gi_cur]
    simp (decide := true) only [gh_U, false_and, if_false, true_and]
    grind
  · have hx1 : F 0 x = 1 := by simpa [gh_U, hxv] using hx
    obtain ⟨l, l1, l2, l3⟩ := Han x hx1
    refine ⟨l, l1, by rw [l2]; simp [gh_U, hxv], fun e => (l3 e).trans ?_⟩
    have c3 : own x e → mk x e = 1 → e ≠ F 9 x → o x e = v → F 11 v = 0 := by
      intro e1 e2 e3 e4
      have b1 := HK x e v e1 e4 e2
      have b2 := Hn.1 x e e1
      have b3 := Xn v
      have b4 := H7 v
      have b5 := Hs2 x hx1
      have b6 := Hst v
      clear HK Hn Xn H6 Han l3 hTm hTc hT hn9 H7 Hs2 Hs6 Hb1 Hst
      unfold gi_cur at *
      grind
    have b1 := hT 5 x e
    clear HK Hn Xn H6 Han l3 hTm hTc hT hn9 H7 Hs2 Hs6 Hb1 Hst
    dsimp only [gi_open, gi_cur]
    simp (decide := true) only [gh_U, false_and, if_false, true_and]
    grind
theorem iv_st {v j n9 : Nat} (Hst : gi_st F) {c1 : Nat → Nat → List gh_M} {m0 : gh_M} (hj : own v j) (hT : ∀ k y e, gh_has k (c y e) ↔ gh_has k (c1 y e) ∨ (y = v ∧ e = j ∧ k = m0.1)) (hTc : ∀ k y e, gh_cnt k (c y e) = gh_cnt k (c1 y e) + if y = v ∧ e = j ∧ k = m0.1 then 1 else 0) (hTm : ∀ y e m, m ∈ c y e ↔ m ∈ c1 y e ∨ (y = v ∧ e = j ∧ m = m0)) (hk : m0.1 = 1) (hcu : F 1 v < F 12 (F 8 v)) (h01 : F 0 v ≠ 1) (hd : F 1 v < m0.2.1 ∧ F 8 (o v j) = F 8 v ∧ mk (o v j) j = 1 ∧ F 9 v = j ∧ m0.2.1 ≤ F 12 (F 8 v) ∧ (m0.2.1 = F 12 (F 8 v) ↔ m0.2.2.1 = F 8 v) ∧ m0.2.2.1 ≠ 0 ∧ (m0.2.2.2 = 1 ∨ m0.2.2.2 = 2) ∧ (m0.2.2.2 = 1 ↔ (m0.2.1 = F 12 (F 8 v) ∧ F 11 v = 0)) ∧ (F 13 (F 8 v) = 1 → w j = F 8 v → m0.2.1 = F 12 (F 8 v)) ∧ ∃ y' f, own y' f ∧ w f = m0.2.2.1 ∧ F 8 y' = F 8 v ∧ F 8 (o y' f) = F 8 v) (hn9 : m0.2.2.2 = 1 → ∃ l : List Nat, l.Nodup ∧ l.length = n9 ∧ ∀ e, e ∈ l ↔ (own v e ∧ mk v e = 1 ∧ e ≠ j)) (hn0 : m0.2.2.2 ≠ 1 → n9 = 0) (hg : F 8 v < 100)  : gi_st (gh_U (gh_U (gh_U (gh_U (gh_U (gh_U (gh_U F 1 v m0.2.1) 2 v m0.2.2.1) 0 v m0.2.2.2) 4 v j) 5 v 12) 6 v 100) 3 v n9) := by
  dsimp only [gi_st, gi_cur, gi_NR, gi_wt, gi_open, gh_Net] at *
  try simp (decide := true) only [gh_U, gh_K, gh_A_has, gh_A_cnt, gh_A_mem, false_and, true_and, and_false, or_false, if_false, if_true, and_true]
  grind (splits := 25)
theorem iv_pA {v j n9 : Nat} (HpA : gi_pA own F mk) {c1 : Nat → Nat → List gh_M} {m0 : gh_M} (hj : own v j) (hT : ∀ k y e, gh_has k (c y e) ↔ gh_has k (c1 y e) ∨ (y = v ∧ e = j ∧ k = m0.1)) (hTc : ∀ k y e, gh_cnt k (c y e) = gh_cnt k (c1 y e) + if y = v ∧ e = j ∧ k = m0.1 then 1 else 0) (hTm : ∀ y e m, m ∈ c y e ↔ m ∈ c1 y e ∨ (y = v ∧ e = j ∧ m = m0)) (hk : m0.1 = 1) (hcu : F 1 v < F 12 (F 8 v)) (h01 : F 0 v ≠ 1) (hd : F 1 v < m0.2.1 ∧ F 8 (o v j) = F 8 v ∧ mk (o v j) j = 1 ∧ F 9 v = j ∧ m0.2.1 ≤ F 12 (F 8 v) ∧ (m0.2.1 = F 12 (F 8 v) ↔ m0.2.2.1 = F 8 v) ∧ m0.2.2.1 ≠ 0 ∧ (m0.2.2.2 = 1 ∨ m0.2.2.2 = 2) ∧ (m0.2.2.2 = 1 ↔ (m0.2.1 = F 12 (F 8 v) ∧ F 11 v = 0)) ∧ (F 13 (F 8 v) = 1 → w j = F 8 v → m0.2.1 = F 12 (F 8 v)) ∧ ∃ y' f, own y' f ∧ w f = m0.2.2.1 ∧ F 8 y' = F 8 v ∧ F 8 (o y' f) = F 8 v) (hn9 : m0.2.2.2 = 1 → ∃ l : List Nat, l.Nodup ∧ l.length = n9 ∧ ∀ e, e ∈ l ↔ (own v e ∧ mk v e = 1 ∧ e ≠ j)) (hn0 : m0.2.2.2 ≠ 1 → n9 = 0) (hg : F 8 v < 100)  : gi_pA own (gh_U (gh_U (gh_U (gh_U (gh_U (gh_U (gh_U F 1 v m0.2.1) 2 v m0.2.2.1) 0 v m0.2.2.2) 4 v j) 5 v 12) 6 v 100) 3 v n9) mk := by
  dsimp only [gi_pA, gi_cur, gi_NR, gi_wt, gi_open, gh_Net] at *
  try simp (decide := true) only [gh_U, gh_K, gh_A_has, gh_A_cnt, gh_A_mem, false_and, true_and, and_false, or_false, if_false, if_true, and_true]
  grind (splits := 25)
theorem iv_Sl {v j n9 : Nat} (HSl : gi_Sl F) {c1 : Nat → Nat → List gh_M} {m0 : gh_M} (hj : own v j) (hT : ∀ k y e, gh_has k (c y e) ↔ gh_has k (c1 y e) ∨ (y = v ∧ e = j ∧ k = m0.1)) (hTc : ∀ k y e, gh_cnt k (c y e) = gh_cnt k (c1 y e) + if y = v ∧ e = j ∧ k = m0.1 then 1 else 0) (hTm : ∀ y e m, m ∈ c y e ↔ m ∈ c1 y e ∨ (y = v ∧ e = j ∧ m = m0)) (hk : m0.1 = 1) (hcu : F 1 v < F 12 (F 8 v)) (h01 : F 0 v ≠ 1) (hd : F 1 v < m0.2.1 ∧ F 8 (o v j) = F 8 v ∧ mk (o v j) j = 1 ∧ F 9 v = j ∧ m0.2.1 ≤ F 12 (F 8 v) ∧ (m0.2.1 = F 12 (F 8 v) ↔ m0.2.2.1 = F 8 v) ∧ m0.2.2.1 ≠ 0 ∧ (m0.2.2.2 = 1 ∨ m0.2.2.2 = 2) ∧ (m0.2.2.2 = 1 ↔ (m0.2.1 = F 12 (F 8 v) ∧ F 11 v = 0)) ∧ (F 13 (F 8 v) = 1 → w j = F 8 v → m0.2.1 = F 12 (F 8 v)) ∧ ∃ y' f, own y' f ∧ w f = m0.2.2.1 ∧ F 8 y' = F 8 v ∧ F 8 (o y' f) = F 8 v) (hn9 : m0.2.2.2 = 1 → ∃ l : List Nat, l.Nodup ∧ l.length = n9 ∧ ∀ e, e ∈ l ↔ (own v e ∧ mk v e = 1 ∧ e ≠ j)) (hn0 : m0.2.2.2 ≠ 1 → n9 = 0) (hg : F 8 v < 100)  : gi_Sl (gh_U (gh_U (gh_U (gh_U (gh_U (gh_U (gh_U F 1 v m0.2.1) 2 v m0.2.2.1) 0 v m0.2.2.2) 4 v j) 5 v 12) 6 v 100) 3 v n9) := by
  dsimp only [gi_Sl, gi_cur, gi_NR, gi_wt, gi_open, gh_Net] at *
  try simp (decide := true) only [gh_U, gh_K, gh_A_has, gh_A_cnt, gh_A_mem, false_and, true_and, and_false, or_false, if_false, if_true, and_true]
  grind (splits := 25)
theorem iv_s6 {v j n9 : Nat} (Hs6 : gi_s6 own F mk) {c1 : Nat → Nat → List gh_M} {m0 : gh_M} (hj : own v j) (hT : ∀ k y e, gh_has k (c y e) ↔ gh_has k (c1 y e) ∨ (y = v ∧ e = j ∧ k = m0.1)) (hTc : ∀ k y e, gh_cnt k (c y e) = gh_cnt k (c1 y e) + if y = v ∧ e = j ∧ k = m0.1 then 1 else 0) (hTm : ∀ y e m, m ∈ c y e ↔ m ∈ c1 y e ∨ (y = v ∧ e = j ∧ m = m0)) (hk : m0.1 = 1) (hcu : F 1 v < F 12 (F 8 v)) (h01 : F 0 v ≠ 1) (hd : F 1 v < m0.2.1 ∧ F 8 (o v j) = F 8 v ∧ mk (o v j) j = 1 ∧ F 9 v = j ∧ m0.2.1 ≤ F 12 (F 8 v) ∧ (m0.2.1 = F 12 (F 8 v) ↔ m0.2.2.1 = F 8 v) ∧ m0.2.2.1 ≠ 0 ∧ (m0.2.2.2 = 1 ∨ m0.2.2.2 = 2) ∧ (m0.2.2.2 = 1 ↔ (m0.2.1 = F 12 (F 8 v) ∧ F 11 v = 0)) ∧ (F 13 (F 8 v) = 1 → w j = F 8 v → m0.2.1 = F 12 (F 8 v)) ∧ ∃ y' f, own y' f ∧ w f = m0.2.2.1 ∧ F 8 y' = F 8 v ∧ F 8 (o y' f) = F 8 v) (hn9 : m0.2.2.2 = 1 → ∃ l : List Nat, l.Nodup ∧ l.length = n9 ∧ ∀ e, e ∈ l ↔ (own v e ∧ mk v e = 1 ∧ e ≠ j)) (hn0 : m0.2.2.2 ≠ 1 → n9 = 0) (hg : F 8 v < 100)  : gi_s6 own (gh_U (gh_U (gh_U (gh_U (gh_U (gh_U (gh_U F 1 v m0.2.1) 2 v m0.2.2.1) 0 v m0.2.2.2) 4 v j) 5 v 12) 6 v 100) 3 v n9) mk := by
  dsimp only [gi_s6, gi_cur, gi_NR, gi_wt, gi_open, gh_Net] at *
  try simp (decide := true) only [gh_U, gh_K, gh_A_has, gh_A_cnt, gh_A_mem, false_and, true_and, and_false, or_false, if_false, if_true, and_true]
  grind (splits := 25)
theorem iv_ph {v j n9 : Nat} (Hph : gi_ph F) {c1 : Nat → Nat → List gh_M} {m0 : gh_M} (hj : own v j) (hT : ∀ k y e, gh_has k (c y e) ↔ gh_has k (c1 y e) ∨ (y = v ∧ e = j ∧ k = m0.1)) (hTc : ∀ k y e, gh_cnt k (c y e) = gh_cnt k (c1 y e) + if y = v ∧ e = j ∧ k = m0.1 then 1 else 0) (hTm : ∀ y e m, m ∈ c y e ↔ m ∈ c1 y e ∨ (y = v ∧ e = j ∧ m = m0)) (hk : m0.1 = 1) (hcu : F 1 v < F 12 (F 8 v)) (h01 : F 0 v ≠ 1) (hd : F 1 v < m0.2.1 ∧ F 8 (o v j) = F 8 v ∧ mk (o v j) j = 1 ∧ F 9 v = j ∧ m0.2.1 ≤ F 12 (F 8 v) ∧ (m0.2.1 = F 12 (F 8 v) ↔ m0.2.2.1 = F 8 v) ∧ m0.2.2.1 ≠ 0 ∧ (m0.2.2.2 = 1 ∨ m0.2.2.2 = 2) ∧ (m0.2.2.2 = 1 ↔ (m0.2.1 = F 12 (F 8 v) ∧ F 11 v = 0)) ∧ (F 13 (F 8 v) = 1 → w j = F 8 v → m0.2.1 = F 12 (F 8 v)) ∧ ∃ y' f, own y' f ∧ w f = m0.2.2.1 ∧ F 8 y' = F 8 v ∧ F 8 (o y' f) = F 8 v) (hn9 : m0.2.2.2 = 1 → ∃ l : List Nat, l.Nodup ∧ l.length = n9 ∧ ∀ e, e ∈ l ↔ (own v e ∧ mk v e = 1 ∧ e ≠ j)) (hn0 : m0.2.2.2 ≠ 1 → n9 = 0) (hg : F 8 v < 100)  : gi_ph (gh_U (gh_U (gh_U (gh_U (gh_U (gh_U (gh_U F 1 v m0.2.1) 2 v m0.2.2.1) 0 v m0.2.2.2) 4 v j) 5 v 12) 6 v 100) 3 v n9) := by
  dsimp only [gi_ph, gi_cur, gi_NR, gi_wt, gi_open, gh_Net] at *
  try simp (decide := true) only [gh_U, gh_K, gh_A_has, gh_A_cnt, gh_A_mem, false_and, true_and, and_false, or_false, if_false, if_true, and_true]
  grind (splits := 25)
theorem iv_rj {v j n9 : Nat} (Hrj : gi_rj own o F mk) {c1 : Nat → Nat → List gh_M} {m0 : gh_M} (hj : own v j) (hT : ∀ k y e, gh_has k (c y e) ↔ gh_has k (c1 y e) ∨ (y = v ∧ e = j ∧ k = m0.1)) (hTc : ∀ k y e, gh_cnt k (c y e) = gh_cnt k (c1 y e) + if y = v ∧ e = j ∧ k = m0.1 then 1 else 0) (hTm : ∀ y e m, m ∈ c y e ↔ m ∈ c1 y e ∨ (y = v ∧ e = j ∧ m = m0)) (hk : m0.1 = 1) (hcu : F 1 v < F 12 (F 8 v)) (h01 : F 0 v ≠ 1) (hd : F 1 v < m0.2.1 ∧ F 8 (o v j) = F 8 v ∧ mk (o v j) j = 1 ∧ F 9 v = j ∧ m0.2.1 ≤ F 12 (F 8 v) ∧ (m0.2.1 = F 12 (F 8 v) ↔ m0.2.2.1 = F 8 v) ∧ m0.2.2.1 ≠ 0 ∧ (m0.2.2.2 = 1 ∨ m0.2.2.2 = 2) ∧ (m0.2.2.2 = 1 ↔ (m0.2.1 = F 12 (F 8 v) ∧ F 11 v = 0)) ∧ (F 13 (F 8 v) = 1 → w j = F 8 v → m0.2.1 = F 12 (F 8 v)) ∧ ∃ y' f, own y' f ∧ w f = m0.2.2.1 ∧ F 8 y' = F 8 v ∧ F 8 (o y' f) = F 8 v) (hn9 : m0.2.2.2 = 1 → ∃ l : List Nat, l.Nodup ∧ l.length = n9 ∧ ∀ e, e ∈ l ↔ (own v e ∧ mk v e = 1 ∧ e ≠ j)) (hn0 : m0.2.2.2 ≠ 1 → n9 = 0) (hg : F 8 v < 100)  : gi_rj own o (gh_U (gh_U (gh_U (gh_U (gh_U (gh_U (gh_U F 1 v m0.2.1) 2 v m0.2.2.1) 0 v m0.2.2.2) 4 v j) 5 v 12) 6 v 100) 3 v n9) mk := by
  dsimp only [gi_rj, gi_cur, gi_NR, gi_wt, gi_open, gh_Net] at *
  try simp (decide := true) only [gh_U, gh_K, gh_A_has, gh_A_cnt, gh_A_mem, false_and, true_and, and_false, or_false, if_false, if_true, and_true]
  grind (splits := 25)
theorem iv_tw {v j n9 : Nat} (Htw : gi_tw own c) {c1 : Nat → Nat → List gh_M} {m0 : gh_M} (hj : own v j) (hT : ∀ k y e, gh_has k (c y e) ↔ gh_has k (c1 y e) ∨ (y = v ∧ e = j ∧ k = m0.1)) (hTc : ∀ k y e, gh_cnt k (c y e) = gh_cnt k (c1 y e) + if y = v ∧ e = j ∧ k = m0.1 then 1 else 0) (hTm : ∀ y e m, m ∈ c y e ↔ m ∈ c1 y e ∨ (y = v ∧ e = j ∧ m = m0)) (hk : m0.1 = 1) (hcu : F 1 v < F 12 (F 8 v)) (h01 : F 0 v ≠ 1) (hd : F 1 v < m0.2.1 ∧ F 8 (o v j) = F 8 v ∧ mk (o v j) j = 1 ∧ F 9 v = j ∧ m0.2.1 ≤ F 12 (F 8 v) ∧ (m0.2.1 = F 12 (F 8 v) ↔ m0.2.2.1 = F 8 v) ∧ m0.2.2.1 ≠ 0 ∧ (m0.2.2.2 = 1 ∨ m0.2.2.2 = 2) ∧ (m0.2.2.2 = 1 ↔ (m0.2.1 = F 12 (F 8 v) ∧ F 11 v = 0)) ∧ (F 13 (F 8 v) = 1 → w j = F 8 v → m0.2.1 = F 12 (F 8 v)) ∧ ∃ y' f, own y' f ∧ w f = m0.2.2.1 ∧ F 8 y' = F 8 v ∧ F 8 (o y' f) = F 8 v) (hn9 : m0.2.2.2 = 1 → ∃ l : List Nat, l.Nodup ∧ l.length = n9 ∧ ∀ e, e ∈ l ↔ (own v e ∧ mk v e = 1 ∧ e ≠ j)) (hn0 : m0.2.2.2 ≠ 1 → n9 = 0) (hg : F 8 v < 100)  : gi_tw own c1 := by
  dsimp only [gi_tw, gi_cur, gi_NR, gi_wt, gi_open, gh_Net] at *
  try simp (decide := true) only [gh_U, gh_K, gh_A_has, gh_A_cnt, gh_A_mem, false_and, true_and, and_false, or_false, if_false, if_true, and_true]
  grind (splits := 25)
theorem iv_sz {v j n9 : Nat} (Hsz : gi_sz F) {c1 : Nat → Nat → List gh_M} {m0 : gh_M} (hj : own v j) (hT : ∀ k y e, gh_has k (c y e) ↔ gh_has k (c1 y e) ∨ (y = v ∧ e = j ∧ k = m0.1)) (hTc : ∀ k y e, gh_cnt k (c y e) = gh_cnt k (c1 y e) + if y = v ∧ e = j ∧ k = m0.1 then 1 else 0) (hTm : ∀ y e m, m ∈ c y e ↔ m ∈ c1 y e ∨ (y = v ∧ e = j ∧ m = m0)) (hk : m0.1 = 1) (hcu : F 1 v < F 12 (F 8 v)) (h01 : F 0 v ≠ 1) (hd : F 1 v < m0.2.1 ∧ F 8 (o v j) = F 8 v ∧ mk (o v j) j = 1 ∧ F 9 v = j ∧ m0.2.1 ≤ F 12 (F 8 v) ∧ (m0.2.1 = F 12 (F 8 v) ↔ m0.2.2.1 = F 8 v) ∧ m0.2.2.1 ≠ 0 ∧ (m0.2.2.2 = 1 ∨ m0.2.2.2 = 2) ∧ (m0.2.2.2 = 1 ↔ (m0.2.1 = F 12 (F 8 v) ∧ F 11 v = 0)) ∧ (F 13 (F 8 v) = 1 → w j = F 8 v → m0.2.1 = F 12 (F 8 v)) ∧ ∃ y' f, own y' f ∧ w f = m0.2.2.1 ∧ F 8 y' = F 8 v ∧ F 8 (o y' f) = F 8 v) (hn9 : m0.2.2.2 = 1 → ∃ l : List Nat, l.Nodup ∧ l.length = n9 ∧ ∀ e, e ∈ l ↔ (own v e ∧ mk v e = 1 ∧ e ≠ j)) (hn0 : m0.2.2.2 ≠ 1 → n9 = 0) (hg : F 8 v < 100)  : gi_sz (gh_U (gh_U (gh_U (gh_U (gh_U (gh_U (gh_U F 1 v m0.2.1) 2 v m0.2.2.1) 0 v m0.2.2.2) 4 v j) 5 v 12) 6 v 100) 3 v n9) := by
  dsimp only [gi_sz, gi_cur, gi_NR, gi_wt, gi_open, gh_Net] at *
  try simp (decide := true) only [gh_U, gh_K, gh_A_has, gh_A_cnt, gh_A_mem, false_and, true_and, and_false, or_false, if_false, if_true, and_true]
  grind (splits := 25)
theorem iv_mi {v j n9 : Nat} (Hn : gh_Net own o w) (Hs1 : gi_s1 F) {c1 : Nat → Nat → List gh_M} {m0 : gh_M} (hj : own v j) (hT : ∀ k y e, gh_has k (c y e) ↔ gh_has k (c1 y e) ∨ (y = v ∧ e = j ∧ k = m0.1)) (hTc : ∀ k y e, gh_cnt k (c y e) = gh_cnt k (c1 y e) + if y = v ∧ e = j ∧ k = m0.1 then 1 else 0) (hTm : ∀ y e m, m ∈ c y e ↔ m ∈ c1 y e ∨ (y = v ∧ e = j ∧ m = m0)) (hk : m0.1 = 1) (hcu : F 1 v < F 12 (F 8 v)) (h01 : F 0 v ≠ 1) (hd : F 1 v < m0.2.1 ∧ F 8 (o v j) = F 8 v ∧ mk (o v j) j = 1 ∧ F 9 v = j ∧ m0.2.1 ≤ F 12 (F 8 v) ∧ (m0.2.1 = F 12 (F 8 v) ↔ m0.2.2.1 = F 8 v) ∧ m0.2.2.1 ≠ 0 ∧ (m0.2.2.2 = 1 ∨ m0.2.2.2 = 2) ∧ (m0.2.2.2 = 1 ↔ (m0.2.1 = F 12 (F 8 v) ∧ F 11 v = 0)) ∧ (F 13 (F 8 v) = 1 → w j = F 8 v → m0.2.1 = F 12 (F 8 v)) ∧ ∃ y' f, own y' f ∧ w f = m0.2.2.1 ∧ F 8 y' = F 8 v ∧ F 8 (o y' f) = F 8 v) (hn9 : m0.2.2.2 = 1 → ∃ l : List Nat, l.Nodup ∧ l.length = n9 ∧ ∀ e, e ∈ l ↔ (own v e ∧ mk v e = 1 ∧ e ≠ j)) (hn0 : m0.2.2.2 ≠ 1 → n9 = 0) (hg : F 8 v < 100)  {x y e a : Nat} {m : gh_M} (hx : o y e = x) (hy : own y e) (hm : m ∈ c1 y e) (ha : F 1 y ≤ a) (hb : ¬ gh_has 1 (c y e) → a = F 1 y) {a9 : Nat} (haa : (y ≠ v ∧ a9 = a) ∨ (y = v ∧ e = j ∧ a9 = a ∧ m0.2.1 ≤ a) ∨ (y = v ∧ e ≠ j ∧ a = F 1 v ∧ a9 = m0.2.1 ∧ m.1 ≠ 1)) (h : gm_i own o w F mk c x y e a m) : gm_i own o w (gh_U (gh_U (gh_U (gh_U (gh_U (gh_U (gh_U F 1 v m0.2.1) 2 v m0.2.2.1) 0 v m0.2.2.2) 4 v j) 5 v 12) 6 v 100) 3 v n9) mk c1 x y e a9 m := by
  have hh : ∀ k, m.1 = k → gh_has k (c1 y e) := fun k hk => ⟨m, hm, hk⟩
  clear hTc hTm hn9
  dsimp only [gi_s1, gm_i, gi_cur, gi_NR, gi_wt, gi_open, gh_Net] at *
  try simp (decide := true) only [gh_U, gh_K, gh_A_has, gh_A_cnt, gh_A_mem, false_and, true_and, and_false, or_false, if_false, if_true, and_true]
  grind (splits := 25)
theorem iv_mt {v j n9 : Nat} (Hn : gh_Net own o w) (Hs1 : gi_s1 F) {c1 : Nat → Nat → List gh_M} {m0 : gh_M} (hj : own v j) (hT : ∀ k y e, gh_has k (c y e) ↔ gh_has k (c1 y e) ∨ (y = v ∧ e = j ∧ k = m0.1)) (hTc : ∀ k y e, gh_cnt k (c y e) = gh_cnt k (c1 y e) + if y = v ∧ e = j ∧ k = m0.1 then 1 else 0) (hTm : ∀ y e m, m ∈ c y e ↔ m ∈ c1 y e ∨ (y = v ∧ e = j ∧ m = m0)) (hk : m0.1 = 1) (hcu : F 1 v < F 12 (F 8 v)) (h01 : F 0 v ≠ 1) (hd : F 1 v < m0.2.1 ∧ F 8 (o v j) = F 8 v ∧ mk (o v j) j = 1 ∧ F 9 v = j ∧ m0.2.1 ≤ F 12 (F 8 v) ∧ (m0.2.1 = F 12 (F 8 v) ↔ m0.2.2.1 = F 8 v) ∧ m0.2.2.1 ≠ 0 ∧ (m0.2.2.2 = 1 ∨ m0.2.2.2 = 2) ∧ (m0.2.2.2 = 1 ↔ (m0.2.1 = F 12 (F 8 v) ∧ F 11 v = 0)) ∧ (F 13 (F 8 v) = 1 → w j = F 8 v → m0.2.1 = F 12 (F 8 v)) ∧ ∃ y' f, own y' f ∧ w f = m0.2.2.1 ∧ F 8 y' = F 8 v ∧ F 8 (o y' f) = F 8 v) (hn9 : m0.2.2.2 = 1 → ∃ l : List Nat, l.Nodup ∧ l.length = n9 ∧ ∀ e, e ∈ l ↔ (own v e ∧ mk v e = 1 ∧ e ≠ j)) (hn0 : m0.2.2.2 ≠ 1 → n9 = 0) (hg : F 8 v < 100)  {x y e a : Nat} {m : gh_M} (hx : o y e = x) (hy : own y e) (hm : m ∈ c1 y e) (ha : F 1 y ≤ a) (hb : ¬ gh_has 1 (c y e) → a = F 1 y) {a9 : Nat} (haa : (y ≠ v ∧ a9 = a) ∨ (y = v ∧ e = j ∧ a9 = a ∧ m0.2.1 ≤ a) ∨ (y = v ∧ e ≠ j ∧ a = F 1 v ∧ a9 = m0.2.1 ∧ m.1 ≠ 1)) (h : gm_t own o w F mk c x y e a m) : gm_t own o w (gh_U (gh_U (gh_U (gh_U (gh_U (gh_U (gh_U F 1 v m0.2.1) 2 v m0.2.2.1) 0 v m0.2.2.2) 4 v j) 5 v 12) 6 v 100) 3 v n9) mk c1 x y e a9 m := by
  have hh : ∀ k, m.1 = k → gh_has k (c1 y e) := fun k hk => ⟨m, hm, hk⟩
  clear hTc hTm hn9
  dsimp only [gi_s1, gm_t, gi_cur, gi_NR, gi_wt, gi_open, gh_Net] at *
  try simp (decide := true) only [gh_U, gh_K, gh_A_has, gh_A_cnt, gh_A_mem, false_and, true_and, and_false, or_false, if_false, if_true, and_true]
  grind (splits := 25)
theorem iv_ma {v j n9 : Nat} (Hn : gh_Net own o w) (Hs1 : gi_s1 F) {c1 : Nat → Nat → List gh_M} {m0 : gh_M} (hj : own v j) (hT : ∀ k y e, gh_has k (c y e) ↔ gh_has k (c1 y e) ∨ (y = v ∧ e = j ∧ k = m0.1)) (hTc : ∀ k y e, gh_cnt k (c y e) = gh_cnt k (c1 y e) + if y = v ∧ e = j ∧ k = m0.1 then 1 else 0) (hTm : ∀ y e m, m ∈ c y e ↔ m ∈ c1 y e ∨ (y = v ∧ e = j ∧ m = m0)) (hk : m0.1 = 1) (hcu : F 1 v < F 12 (F 8 v)) (h01 : F 0 v ≠ 1) (hd : F 1 v < m0.2.1 ∧ F 8 (o v j) = F 8 v ∧ mk (o v j) j = 1 ∧ F 9 v = j ∧ m0.2.1 ≤ F 12 (F 8 v) ∧ (m0.2.1 = F 12 (F 8 v) ↔ m0.2.2.1 = F 8 v) ∧ m0.2.2.1 ≠ 0 ∧ (m0.2.2.2 = 1 ∨ m0.2.2.2 = 2) ∧ (m0.2.2.2 = 1 ↔ (m0.2.1 = F 12 (F 8 v) ∧ F 11 v = 0)) ∧ (F 13 (F 8 v) = 1 → w j = F 8 v → m0.2.1 = F 12 (F 8 v)) ∧ ∃ y' f, own y' f ∧ w f = m0.2.2.1 ∧ F 8 y' = F 8 v ∧ F 8 (o y' f) = F 8 v) (hn9 : m0.2.2.2 = 1 → ∃ l : List Nat, l.Nodup ∧ l.length = n9 ∧ ∀ e, e ∈ l ↔ (own v e ∧ mk v e = 1 ∧ e ≠ j)) (hn0 : m0.2.2.2 ≠ 1 → n9 = 0) (hg : F 8 v < 100)  {x y e a : Nat} {m : gh_M} (hx : o y e = x) (hy : own y e) (hm : m ∈ c1 y e) (ha : F 1 y ≤ a) (hb : ¬ gh_has 1 (c y e) → a = F 1 y) {a9 : Nat} (haa : (y ≠ v ∧ a9 = a) ∨ (y = v ∧ e = j ∧ a9 = a ∧ m0.2.1 ≤ a) ∨ (y = v ∧ e ≠ j ∧ a = F 1 v ∧ a9 = m0.2.1 ∧ m.1 ≠ 1)) (h : gm_a own o w F mk c x y e a m) : gm_a own o w (gh_U (gh_U (gh_U (gh_U (gh_U (gh_U (gh_U F 1 v m0.2.1) 2 v m0.2.2.1) 0 v m0.2.2.2) 4 v j) 5 v 12) 6 v 100) 3 v n9) mk c1 x y e a9 m := by
  have hh : ∀ k, m.1 = k → gh_has k (c1 y e) := fun k hk => ⟨m, hm, hk⟩
  clear hTc hTm hn9
  dsimp only [gi_s1, gm_a, gi_cur, gi_NR, gi_wt, gi_open, gh_Net] at *
  try simp (decide := true) only [gh_U, gh_K, gh_A_has, gh_A_cnt, gh_A_mem, false_and, true_and, and_false, or_false, if_false, if_true, and_true]
  grind (splits := 25)
theorem iv_mr {v j n9 : Nat} (Hn : gh_Net own o w) (Hs1 : gi_s1 F) {c1 : Nat → Nat → List gh_M} {m0 : gh_M} (hj : own v j) (hT : ∀ k y e, gh_has k (c y e) ↔ gh_has k (c1 y e) ∨ (y = v ∧ e = j ∧ k = m0.1)) (hTc : ∀ k y e, gh_cnt k (c y e) = gh_cnt k (c1 y e) + if y = v ∧ e = j ∧ k = m0.1 then 1 else 0) (hTm : ∀ y e m, m ∈ c y e ↔ m ∈ c1 y e ∨ (y = v ∧ e = j ∧ m = m0)) (hk : m0.1 = 1) (hcu : F 1 v < F 12 (F 8 v)) (h01 : F 0 v ≠ 1) (hd : F 1 v < m0.2.1 ∧ F 8 (o v j) = F 8 v ∧ mk (o v j) j = 1 ∧ F 9 v = j ∧ m0.2.1 ≤ F 12 (F 8 v) ∧ (m0.2.1 = F 12 (F 8 v) ↔ m0.2.2.1 = F 8 v) ∧ m0.2.2.1 ≠ 0 ∧ (m0.2.2.2 = 1 ∨ m0.2.2.2 = 2) ∧ (m0.2.2.2 = 1 ↔ (m0.2.1 = F 12 (F 8 v) ∧ F 11 v = 0)) ∧ (F 13 (F 8 v) = 1 → w j = F 8 v → m0.2.1 = F 12 (F 8 v)) ∧ ∃ y' f, own y' f ∧ w f = m0.2.2.1 ∧ F 8 y' = F 8 v ∧ F 8 (o y' f) = F 8 v) (hn9 : m0.2.2.2 = 1 → ∃ l : List Nat, l.Nodup ∧ l.length = n9 ∧ ∀ e, e ∈ l ↔ (own v e ∧ mk v e = 1 ∧ e ≠ j)) (hn0 : m0.2.2.2 ≠ 1 → n9 = 0) (hg : F 8 v < 100)  {x y e a : Nat} {m : gh_M} (hx : o y e = x) (hy : own y e) (hm : m ∈ c1 y e) (ha : F 1 y ≤ a) (hb : ¬ gh_has 1 (c y e) → a = F 1 y) {a9 : Nat} (haa : (y ≠ v ∧ a9 = a) ∨ (y = v ∧ e = j ∧ a9 = a ∧ m0.2.1 ≤ a) ∨ (y = v ∧ e ≠ j ∧ a = F 1 v ∧ a9 = m0.2.1 ∧ m.1 ≠ 1)) (h : gm_r own o w F mk c x y e a m) : gm_r own o w (gh_U (gh_U (gh_U (gh_U (gh_U (gh_U (gh_U F 1 v m0.2.1) 2 v m0.2.2.1) 0 v m0.2.2.2) 4 v j) 5 v 12) 6 v 100) 3 v n9) mk c1 x y e a9 m := by
  have hh : ∀ k, m.1 = k → gh_has k (c1 y e) := fun k hk => ⟨m, hm, hk⟩
  clear hTc hTm hn9
  dsimp only [gi_s1, gm_r, gi_cur, gi_NR, gi_wt, gi_open, gh_Net] at *
  try simp (decide := true) only [gh_U, gh_K, gh_A_has, gh_A_cnt, gh_A_mem, false_and, true_and, and_false, or_false, if_false, if_true, and_true]
  grind (splits := 25)
theorem iv_mk {v j n9 : Nat} (Hn : gh_Net own o w) (Hs1 : gi_s1 F) {c1 : Nat → Nat → List gh_M} {m0 : gh_M} (hj : own v j) (hT : ∀ k y e, gh_has k (c y e) ↔ gh_has k (c1 y e) ∨ (y = v ∧ e = j ∧ k = m0.1)) (hTc : ∀ k y e, gh_cnt k (c y e) = gh_cnt k (c1 y e) + if y = v ∧ e = j ∧ k = m0.1 then 1 else 0) (hTm : ∀ y e m, m ∈ c y e ↔ m ∈ c1 y e ∨ (y = v ∧ e = j ∧ m = m0)) (hk : m0.1 = 1) (hcu : F 1 v < F 12 (F 8 v)) (h01 : F 0 v ≠ 1) (hd : F 1 v < m0.2.1 ∧ F 8 (o v j) = F 8 v ∧ mk (o v j) j = 1 ∧ F 9 v = j ∧ m0.2.1 ≤ F 12 (F 8 v) ∧ (m0.2.1 = F 12 (F 8 v) ↔ m0.2.2.1 = F 8 v) ∧ m0.2.2.1 ≠ 0 ∧ (m0.2.2.2 = 1 ∨ m0.2.2.2 = 2) ∧ (m0.2.2.2 = 1 ↔ (m0.2.1 = F 12 (F 8 v) ∧ F 11 v = 0)) ∧ (F 13 (F 8 v) = 1 → w j = F 8 v → m0.2.1 = F 12 (F 8 v)) ∧ ∃ y' f, own y' f ∧ w f = m0.2.2.1 ∧ F 8 y' = F 8 v ∧ F 8 (o y' f) = F 8 v) (hn9 : m0.2.2.2 = 1 → ∃ l : List Nat, l.Nodup ∧ l.length = n9 ∧ ∀ e, e ∈ l ↔ (own v e ∧ mk v e = 1 ∧ e ≠ j)) (hn0 : m0.2.2.2 ≠ 1 → n9 = 0) (hg : F 8 v < 100)  {x y e a : Nat} {m : gh_M} (hx : o y e = x) (hy : own y e) (hm : m ∈ c1 y e) (ha : F 1 y ≤ a) (hb : ¬ gh_has 1 (c y e) → a = F 1 y) {a9 : Nat} (haa : (y ≠ v ∧ a9 = a) ∨ (y = v ∧ e = j ∧ a9 = a ∧ m0.2.1 ≤ a) ∨ (y = v ∧ e ≠ j ∧ a = F 1 v ∧ a9 = m0.2.1 ∧ m.1 ≠ 1)) (h : gm_k own o w F mk c x y e a m) : gm_k own o w (gh_U (gh_U (gh_U (gh_U (gh_U (gh_U (gh_U F 1 v m0.2.1) 2 v m0.2.2.1) 0 v m0.2.2.2) 4 v j) 5 v 12) 6 v 100) 3 v n9) mk c1 x y e a9 m := by
  have hh : ∀ k, m.1 = k → gh_has k (c1 y e) := fun k hk => ⟨m, hm, hk⟩
  clear hTc hTm hn9
  dsimp only [gi_s1, gm_k, gi_cur, gi_NR, gi_wt, gi_open, gh_Net] at *
  try simp (decide := true) only [gh_U, gh_K, gh_A_has, gh_A_cnt, gh_A_mem, false_and, true_and, and_false, or_false, if_false, if_true, and_true]
  grind (splits := 25)
theorem iv_mc {v j n9 : Nat} (Hn : gh_Net own o w) (HK : gi_K own o F mk c) (HSr : gi_Sr o w F c) {c1 : Nat → Nat → List gh_M} {m0 : gh_M} (hj : own v j) (hT : ∀ k y e, gh_has k (c y e) ↔ gh_has k (c1 y e) ∨ (y = v ∧ e = j ∧ k = m0.1)) (hTc : ∀ k y e, gh_cnt k (c y e) = gh_cnt k (c1 y e) + if y = v ∧ e = j ∧ k = m0.1 then 1 else 0) (hTm : ∀ y e m, m ∈ c y e ↔ m ∈ c1 y e ∨ (y = v ∧ e = j ∧ m = m0)) (hk : m0.1 = 1) (hcu : F 1 v < F 12 (F 8 v)) (h01 : F 0 v ≠ 1) (hd : F 1 v < m0.2.1 ∧ F 8 (o v j) = F 8 v ∧ mk (o v j) j = 1 ∧ F 9 v = j ∧ m0.2.1 ≤ F 12 (F 8 v) ∧ (m0.2.1 = F 12 (F 8 v) ↔ m0.2.2.1 = F 8 v) ∧ m0.2.2.1 ≠ 0 ∧ (m0.2.2.2 = 1 ∨ m0.2.2.2 = 2) ∧ (m0.2.2.2 = 1 ↔ (m0.2.1 = F 12 (F 8 v) ∧ F 11 v = 0)) ∧ (F 13 (F 8 v) = 1 → w j = F 8 v → m0.2.1 = F 12 (F 8 v)) ∧ ∃ y' f, own y' f ∧ w f = m0.2.2.1 ∧ F 8 y' = F 8 v ∧ F 8 (o y' f) = F 8 v) (hn9 : m0.2.2.2 = 1 → ∃ l : List Nat, l.Nodup ∧ l.length = n9 ∧ ∀ e, e ∈ l ↔ (own v e ∧ mk v e = 1 ∧ e ≠ j)) (hn0 : m0.2.2.2 ≠ 1 → n9 = 0) (hg : F 8 v < 100)  {x y e a : Nat} {m : gh_M} (hx : o y e = x) (hy : own y e) (hm : m ∈ c1 y e) (ha : F 1 y ≤ a) (hb : ¬ gh_has 1 (c y e) → a = F 1 y) {a9 : Nat} (haa : (y ≠ v ∧ a9 = a) ∨ (y = v ∧ e = j ∧ a9 = a ∧ m0.2.1 ≤ a) ∨ (y = v ∧ e ≠ j ∧ a = F 1 v ∧ a9 = m0.2.1 ∧ m.1 ≠ 1)) (h : gm_c own o w F mk c x y e a m) : gm_c own o w (gh_U (gh_U (gh_U (gh_U (gh_U (gh_U (gh_U F 1 v m0.2.1) 2 v m0.2.2.1) 0 v m0.2.2.2) 4 v j) 5 v 12) 6 v 100) 3 v n9) mk c1 x y e a9 m := by
  have hh : ∀ k, m.1 = k → gh_has k (c1 y e) := fun k hk => ⟨m, hm, hk⟩
  have hce : ∀ e, own v e → e ≠ j → F 13 (F 8 v) = 1 → w e = F 8 v → F 8 (o v e) = F 8 v → (mk v e = 1 ∨ mk (o v e) e = 1) → False := by
    intro e e1 e2 e3 e4 e5 e6
    have b1 := HK v e (o v e) e1 rfl
    have b2 := Hn.1 v e e1
    have b3 := HK (o v e) e v b2.1 b2.2.1
    have b4 := HSr (o v e)
    clear hTc hTm hn9 hT HK HSr Hn
    unfold gi_cur at *
    grind
  
  intro hm0
  have h := h hm0
  have b1 := HK x e y
  have b2 := Hn.1 y e hy
  have b3 := hce e
  have b4 := hT 1 x e
  clear HK HSr Hn hce hTc hTm hn9 hT
  dsimp only [gi_K, gi_Sr, gm_c, gi_cur, gi_NR, gi_wt, gi_open, gh_Net] at *
  try simp (decide := true) only [gh_U, gh_K, gh_A_has, gh_A_cnt, gh_A_mem, false_and, true_and, and_false, or_false, if_false, if_true, and_true]
  grind (splits := 25)
theorem iv_mp {v j n9 : Nat} (Hn : gh_Net own o w) (HK : gi_K own o F mk c) (Xn : gx_n o F) (H6 : gi_6 o F c) (Hb2 : gi_b2 F) (Hs1 : gi_s1 F) {c1 : Nat → Nat → List gh_M} {m0 : gh_M} (hj : own v j) (hT : ∀ k y e, gh_has k (c y e) ↔ gh_has k (c1 y e) ∨ (y = v ∧ e = j ∧ k = m0.1)) (hTc : ∀ k y e, gh_cnt k (c y e) = gh_cnt k (c1 y e) + if y = v ∧ e = j ∧ k = m0.1 then 1 else 0) (hTm : ∀ y e m, m ∈ c y e ↔ m ∈ c1 y e ∨ (y = v ∧ e = j ∧ m = m0)) (hk : m0.1 = 1) (hcu : F 1 v < F 12 (F 8 v)) (h01 : F 0 v ≠ 1) (hd : F 1 v < m0.2.1 ∧ F 8 (o v j) = F 8 v ∧ mk (o v j) j = 1 ∧ F 9 v = j ∧ m0.2.1 ≤ F 12 (F 8 v) ∧ (m0.2.1 = F 12 (F 8 v) ↔ m0.2.2.1 = F 8 v) ∧ m0.2.2.1 ≠ 0 ∧ (m0.2.2.2 = 1 ∨ m0.2.2.2 = 2) ∧ (m0.2.2.2 = 1 ↔ (m0.2.1 = F 12 (F 8 v) ∧ F 11 v = 0)) ∧ (F 13 (F 8 v) = 1 → w j = F 8 v → m0.2.1 = F 12 (F 8 v)) ∧ ∃ y' f, own y' f ∧ w f = m0.2.2.1 ∧ F 8 y' = F 8 v ∧ F 8 (o y' f) = F 8 v) (hn9 : m0.2.2.2 = 1 → ∃ l : List Nat, l.Nodup ∧ l.length = n9 ∧ ∀ e, e ∈ l ↔ (own v e ∧ mk v e = 1 ∧ e ≠ j)) (hn0 : m0.2.2.2 ≠ 1 → n9 = 0) (hg : F 8 v < 100)  {x y e a : Nat} {m : gh_M} (hx : o y e = x) (hy : own y e) (hm : m ∈ c1 y e) (ha : F 1 y ≤ a) (hb : ¬ gh_has 1 (c y e) → a = F 1 y) {a9 : Nat} (haa : (y ≠ v ∧ a9 = a) ∨ (y = v ∧ e = j ∧ a9 = a ∧ m0.2.1 ≤ a) ∨ (y = v ∧ e ≠ j ∧ a = F 1 v ∧ a9 = m0.2.1 ∧ m.1 ≠ 1)) (h : gm_p own o w F mk c x y e a m) : gm_p own o w (gh_U (gh_U (gh_U (gh_U (gh_U (gh_U (gh_U F 1 v m0.2.1) 2 v m0.2.2.1) 0 v m0.2.2.2) 4 v j) 5 v 12) 6 v 100) 3 v n9) mk c1 x y e a9 m := by
  have hh : ∀ k, m.1 = k → gh_has k (c1 y e) := fun k hk => ⟨m, hm, hk⟩
  intro hm0
  have h := h hm0
  have b2 := Hn.1 y e hy
  have b3 := Xn y
  have b4 := H6 y
  have b5 := Hb2 v
  have b6 := hh 5 hm0
  clear HK Hn Xn H6 Hb2 Hs1 hTc hTm hn9 hT hh
  dsimp only [gi_K, gx_n, gi_6, gi_b2, gi_s1, gm_p, gi_cur, gi_NR, gi_wt, gi_open, gh_Net] at *
  try simp (decide := true) only [gh_U, gh_K, gh_A_has, gh_A_cnt, gh_A_mem, false_and, true_and, and_false, or_false, if_false, if_true, and_true]
  grind (splits := 25)
theorem gh_Ch_no {P Q : Nat → gh_M → Prop} {a b : Nat} : ∀ l : List gh_M, ¬ gh_has 1 l → (∀ m ∈ l, m.1 ≠ 1 → P a m → Q b m) → gh_Ch P a l → gh_Ch Q b l
  | [], _, _, _ => trivial
  | x :: t, hn, h, hc => by
    have h1 : ¬ x.1 = 1 := fun z => hn (gh_has_cons.mpr (Or.inr z))
    have e1 : gh_v a x = a := if_neg h1
    have e2 : gh_v b x = b := if_neg h1
    have hc2 := hc.2
    rw [e1] at hc2
    refine ⟨h x List.mem_cons_self h1 hc.1, ?_⟩
    rw [e2]
    exact gh_Ch_no t (fun z => hn (gh_has_cons.mpr (Or.inl z))) (fun m hm => h m (List.mem_cons_of_mem _ hm)) hc2
theorem iv_I {v j n9 : Nat} (Hn : gh_Net own o w) (h : gI own o w F mk c) {m0 : gh_M} {t : List gh_M} (hj : own v j) (hc : c v j = m0 :: t) (hk : m0.1 = 1) (hn9 : m0.2.2.2 = 1 → ∃ l : List Nat, l.Nodup ∧ l.length = n9 ∧ ∀ e, e ∈ l ↔ (own v e ∧ mk v e = 1 ∧ e ≠ j)) (hn0 : m0.2.2.2 ≠ 1 → n9 = 0) : gI own o w (gh_U (gh_U (gh_U (gh_U (gh_U (gh_U (gh_U F 1 v m0.2.1) 2 v m0.2.2.1) 0 v m0.2.2.2) 4 v j) 5 v 12) 6 v 100) 3 v n9) mk (gh_T c v j) := by
  obtain ⟨Hst, Hb1, Hb2, Hb3, Hb4, Hb5, Hb6, Hs0, HpA, Hs1, Hs2, HSl, Hs3, Hs4, How, Hs5, Hs6, HSr, HSn, HM, HC, Hph, H6, H7, Hbc, HK, Hrj, Htw, Hts, Han, Hsz, Hch⟩ := h
  have Xn := gx_nI Hn Hph HpA HSr HSn HM HC
  have Xi := gx_iI Hch
  have Xc := gx_cI Hch
  have Xt := gx_tI Hch
  have Xa := gx_aI Hch
  have Xr := gx_rI Hch
  have Xk := gx_kI Hch
  have Xp := gx_pI Hch
  have Xl := gx_lI Hch
  have Xb := gx_bI Hch
  have hT := gp_T hc
  have hTc := gp_C hc
  have hTm := gp_M hc
  have hd0 := (gi_hd Hch hj hc).2.1 hk
  rw [hd0.2.1] at hd0
  have hd : F 1 v < m0.2.1 ∧ F 8 (o v j) = F 8 v ∧ mk (o v j) j = 1 ∧ F 9 v = j ∧ m0.2.1 ≤ F 12 (F 8 v) ∧ (m0.2.1 = F 12 (F 8 v) ↔ m0.2.2.1 = F 8 v) ∧ m0.2.2.1 ≠ 0 ∧ (m0.2.2.2 = 1 ∨ m0.2.2.2 = 2) ∧ (m0.2.2.2 = 1 ↔ (m0.2.1 = F 12 (F 8 v) ∧ F 11 v = 0)) ∧ (F 13 (F 8 v) = 1 → w j = F 8 v → m0.2.1 = F 12 (F 8 v)) ∧ ∃ y' f, own y' f ∧ w f = m0.2.2.1 ∧ F 8 y' = F 8 v ∧ F 8 (o y' f) = F 8 v := ⟨hd0.1, ((gi_hd Hch hj hc).2.1 hk).2.1, hd0.2.2⟩
  have hcu : F 1 v < F 12 (F 8 v) := by omega
  have h01 : F 0 v ≠ 1 := fun z => by have := (Hs2 v z).1; unfold gi_cur at this; omega
  have hg : F 8 v < 100 := by have := Hb2 v; omega
  refine ⟨iv_st (c1 := gh_T c v j) Hst hj hT hTc hTm hk hcu h01 hd hn9 hn0 hg, iv_b1 (c1 := gh_T c v j) Hb1 hj hT hTc hTm hk hcu h01 hd hn9 hn0 hg, iv_b2 (c1 := gh_T c v j) Hb2 hj hT hTc hTm hk hcu h01 hd hn9 hn0 hg, iv_b3 (c1 := gh_T c v j) Hb3 hj hT hTc hTm hk hcu h01 hd hn9 hn0 hg, iv_b4 (c1 := gh_T c v j) Hb4 hj hT hTc hTm hk hcu h01 hd hn9 hn0 hg, iv_b5 (c1 := gh_T c v j) Hb5 hj hT hTc hTm hk hcu h01 hd hn9 hn0 hg, iv_b6 (c1 := gh_T c v j) Hb6 hj hT hTc hTm hk hcu h01 hd hn9 hn0 hg, iv_s0 (c1 := gh_T c v j) Hs0 hj hT hTc hTm hk hcu h01 hd hn9 hn0 hg, iv_pA (c1 := gh_T c v j) HpA hj hT hTc hTm hk hcu h01 hd hn9 hn0 hg, iv_s1 (c1 := gh_T c v j) Hs1 hj hT hTc hTm hk hcu h01 hd hn9 hn0 hg, iv_s2 (c1 := gh_T c v j) Hs2 Hph HM HC HpA Hb2 hj hT hTc hTm hk hcu h01 hd hn9 hn0 hg, iv_Sl (c1 := gh_T c v j) HSl hj hT hTc hTm hk hcu h01 hd hn9 hn0 hg, iv_s3 (c1 := gh_T c v j) Hs3 Hst hj hT hTc hTm hk hcu h01 hd hn9 hn0 hg, iv_s4 (c1 := gh_T c v j) Hs4 hj hT hTc hTm hk hcu h01 hd hn9 hn0 hg, iv_ow (c1 := gh_T c v j) How hj hT hTc hTm hk hcu h01 hd hn9 hn0 hg, iv_s5 (c1 := gh_T c v j) Hs5 hj hT hTc hTm hk hcu h01 hd hn9 hn0 hg, iv_s6 (c1 := gh_T c v j) Hs6 hj hT hTc hTm hk hcu h01 hd hn9 hn0 hg, iv_Sr (c1 := gh_T c v j) HSr Hn hj hT hTc hTm hk hcu h01 hd hn9 hn0 hg, iv_Sn (c1 := gh_T c v j) HSn hj hT hTc hTm hk hcu h01 hd hn9 hn0 hg, iv_M (c1 := gh_T c v j) HM hj hT hTc hTm hk hcu h01 hd hn9 hn0 hg, iv_C (c1 := gh_T c v j) HC hj hT hTc hTm hk hcu h01 hd hn9 hn0 hg, iv_ph (c1 := gh_T c v j) Hph hj hT hTc hTm hk hcu h01 hd hn9 hn0 hg, iv_6 (c1 := gh_T c v j) H6 Hn hj hT hTc hTm hk hcu h01 hd hn9 hn0 hg, iv_7 (c1 := gh_T c v j) H7 Hst Hb1 hj hT hTc hTm hk hcu h01 hd hn9 hn0 hg, iv_bc (c1 := gh_T c v j) Hbc Hn hj hT hTc hTm hk hcu h01 hd hn9 hn0 hg, iv_K (c1 := gh_T c v j) HK Hn hj hT hTc hTm hk hcu h01 hd hn9 hn0 hg, iv_rj (c1 := gh_T c v j) Hrj hj hT hTc hTm hk hcu h01 hd hn9 hn0 hg, iv_tw (c1 := gh_T c v j) Htw hj hT hTc hTm hk hcu h01 hd hn9 hn0 hg, iv_ts (c1 := gh_T c v j) Hts Hn Hs1 Xt hj hT hTc hTm hk hcu h01 hd hn9 hn0 hg, iv_an (c1 := gh_T c v j) Han Hn H7 HK Hs2 Hst Hb1 Hs6 Xn H6 hj hT hTc hTm hk hcu h01 hd hn9 hn0 hg, iv_sz (c1 := gh_T c v j) Hsz hj hT hTc hTm hk hcu h01 hd hn9 hn0 hg, ?_⟩
  intro y e hy
  have hs : ∀ y e, gh_has 1 (gh_T c v j y e) → gh_has 1 (c y e) := fun y e q => (hT 1 y e).mpr (Or.inl q)
  have h1 := Hch y e hy
  by_cases hyv : y = v
  · by_cases hej : e = j
    · subst hyv
      subst hej
      rw [hc] at h1
      have h2 := h1.2
      rw [show gh_v (F 1 y) m0 = m0.2.1 from if_pos hk] at h2
      have e1 : gh_T c y e y e = t := by unfold gh_T gh_C; rw [if_pos ⟨rfl, rfl⟩, hc]; rfl
      rw [show (gh_U (gh_U (gh_U (gh_U (gh_U (gh_U (gh_U F 1 y m0.2.1) 2 y m0.2.2.1) 0 y m0.2.2.2) 4 y e) 5 y 12) 6 y 100) 3 y n9) 1 y = m0.2.1 by simp [gh_U], e1]
      refine gh_Ch_mono' (fun _ _ => gm_inc) _ _ (fun b m hm9 hb1 hb2 q => ?_) h2
      have hm : m ∈ gh_T c y e y e := by rw [e1]; exact hm9
      have ha : F 1 y ≤ b := by omega
      have hb : ¬ gh_has 1 (c y e) → b = F 1 y := fun z => absurd (by rw [hc]; exact gh_has_cons.mpr (Or.inr hk)) z
      exact ⟨q.1, iv_mi Hn Hs1 hj hT hTc hTm hk hcu h01 hd hn9 hn0 hg rfl hy hm ha hb (Or.inr (Or.inl ⟨rfl, rfl, rfl, hb1⟩)) q.2.1, iv_mc Hn HK HSr hj hT hTc hTm hk hcu h01 hd hn9 hn0 hg rfl hy hm ha hb (Or.inr (Or.inl ⟨rfl, rfl, rfl, hb1⟩)) q.2.2.1, iv_mt Hn Hs1 hj hT hTc hTm hk hcu h01 hd hn9 hn0 hg rfl hy hm ha hb (Or.inr (Or.inl ⟨rfl, rfl, rfl, hb1⟩)) q.2.2.2.1, iv_ma Hn Hs1 hj hT hTc hTm hk hcu h01 hd hn9 hn0 hg rfl hy hm ha hb (Or.inr (Or.inl ⟨rfl, rfl, rfl, hb1⟩)) q.2.2.2.2.1, iv_mr Hn Hs1 hj hT hTc hTm hk hcu h01 hd hn9 hn0 hg rfl hy hm ha hb (Or.inr (Or.inl ⟨rfl, rfl, rfl, hb1⟩)) q.2.2.2.2.2.1, iv_mk Hn Hs1 hj hT hTc hTm hk hcu h01 hd hn9 hn0 hg rfl hy hm ha hb (Or.inr (Or.inl ⟨rfl, rfl, rfl, hb1⟩)) q.2.2.2.2.2.2.1, iv_mp Hn HK Xn H6 Hb2 Hs1 hj hT hTc hTm hk hcu h01 hd hn9 hn0 hg rfl hy hm ha hb (Or.inr (Or.inl ⟨rfl, rfl, rfl, hb1⟩)) q.2.2.2.2.2.2.2⟩
    · subst hyv
      have e1 : gh_T c y j y e = c y e := by unfold gh_T gh_C; rw [if_neg (fun z => hej z.2)]
      have hno : ¬ gh_has 1 (c y e) := fun z => hej ((Xi y e hy z).2.2.1.symm.trans hd.2.2.2.1)
      rw [show (gh_U (gh_U (gh_U (gh_U (gh_U (gh_U (gh_U F 1 y m0.2.1) 2 y m0.2.2.1) 0 y m0.2.2.2) 4 y j) 5 y 12) 6 y 100) 3 y n9) 1 y = m0.2.1 by simp [gh_U], e1]
      refine gh_Ch_no _ hno (fun m hm9 hm1 q => ?_) h1
      have hm : m ∈ gh_T c y j y e := by rw [e1]; exact hm9
      have ha : F 1 y ≤ F 1 y := Nat.le_refl _
      have hb : ¬ gh_has 1 (c y e) → F 1 y = F 1 y := fun _ => rfl
      exact ⟨q.1, iv_mi Hn Hs1 hj hT hTc hTm hk hcu h01 hd hn9 hn0 hg rfl hy hm ha hb (Or.inr (Or.inr ⟨rfl, hej, rfl, rfl, hm1⟩)) q.2.1, iv_mc Hn HK HSr hj hT hTc hTm hk hcu h01 hd hn9 hn0 hg rfl hy hm ha hb (Or.inr (Or.inr ⟨rfl, hej, rfl, rfl, hm1⟩)) q.2.2.1, iv_mt Hn Hs1 hj hT hTc hTm hk hcu h01 hd hn9 hn0 hg rfl hy hm ha hb (Or.inr (Or.inr ⟨rfl, hej, rfl, rfl, hm1⟩)) q.2.2.2.1, iv_ma Hn Hs1 hj hT hTc hTm hk hcu h01 hd hn9 hn0 hg rfl hy hm ha hb (Or.inr (Or.inr ⟨rfl, hej, rfl, rfl, hm1⟩)) q.2.2.2.2.1, iv_mr Hn Hs1 hj hT hTc hTm hk hcu h01 hd hn9 hn0 hg rfl hy hm ha hb (Or.inr (Or.inr ⟨rfl, hej, rfl, rfl, hm1⟩)) q.2.2.2.2.2.1, iv_mk Hn Hs1 hj hT hTc hTm hk hcu h01 hd hn9 hn0 hg rfl hy hm ha hb (Or.inr (Or.inr ⟨rfl, hej, rfl, rfl, hm1⟩)) q.2.2.2.2.2.2.1, iv_mp Hn HK Xn H6 Hb2 Hs1 hj hT hTc hTm hk hcu h01 hd hn9 hn0 hg rfl hy hm ha hb (Or.inr (Or.inr ⟨rfl, hej, rfl, rfl, hm1⟩)) q.2.2.2.2.2.2.2⟩
  · have e1 : gh_T c v j y e = c y e := by unfold gh_T gh_C; rw [if_neg (fun z => hyv z.1)]
    rw [show (gh_U (gh_U (gh_U (gh_U (gh_U (gh_U (gh_U F 1 v m0.2.1) 2 v m0.2.2.1) 0 v m0.2.2.2) 4 v j) 5 v 12) 6 v 100) 3 v n9) 1 y = F 1 y by simp [gh_U, hyv], e1]
    refine gh_Ch_mono' (fun _ _ => gm_inc) _ _ (fun b m hm9 ha hb q => ?_) h1
    have hm : m ∈ gh_T c v j y e := by rw [e1]; exact hm9
    exact ⟨q.1, iv_mi Hn Hs1 hj hT hTc hTm hk hcu h01 hd hn9 hn0 hg rfl hy hm ha hb (Or.inl ⟨hyv, rfl⟩) q.2.1, iv_mc Hn HK HSr hj hT hTc hTm hk hcu h01 hd hn9 hn0 hg rfl hy hm ha hb (Or.inl ⟨hyv, rfl⟩) q.2.2.1, iv_mt Hn Hs1 hj hT hTc hTm hk hcu h01 hd hn9 hn0 hg rfl hy hm ha hb (Or.inl ⟨hyv, rfl⟩) q.2.2.2.1, iv_ma Hn Hs1 hj hT hTc hTm hk hcu h01 hd hn9 hn0 hg rfl hy hm ha hb (Or.inl ⟨hyv, rfl⟩) q.2.2.2.2.1, iv_mr Hn Hs1 hj hT hTc hTm hk hcu h01 hd hn9 hn0 hg rfl hy hm ha hb (Or.inl ⟨hyv, rfl⟩) q.2.2.2.2.2.1, iv_mk Hn Hs1 hj hT hTc hTm hk hcu h01 hd hn9 hn0 hg rfl hy hm ha hb (Or.inl ⟨hyv, rfl⟩) q.2.2.2.2.2.2.1, iv_mp Hn HK Xn H6 Hb2 Hs1 hj hT hTc hTm hk hcu h01 hd hn9 hn0 hg rfl hy hm ha hb (Or.inl ⟨hyv, rfl⟩) q.2.2.2.2.2.2.2⟩
end
