/-! The network: reject, the answers to a test, put back, by program (wip/th). -/
section
variable {own : Nat → Nat → Prop} {o : Nat → Nat → Nat} {w : Nat → Nat} {F : gh_F} {mk : Nat → Nat → Nat} {c : Nat → Nat → List gh_M}
theorem rj_pA {v j : Nat} (HpA : gi_pA own F mk) (Hs2 : gi_s2 F) {c1 : Nat → Nat → List gh_M} {m0 : gh_M} (hj : own v j) (hT : ∀ k y e, gh_has k (c y e) ↔ gh_has k (c1 y e) ∨ (y = v ∧ e = j ∧ k = m0.1)) (hTc : ∀ k y e, gh_cnt k (c y e) = gh_cnt k (c1 y e) + if y = v ∧ e = j ∧ k = m0.1 then 1 else 0) (hTm : ∀ y e m, m ∈ c y e ↔ m ∈ c1 y e ∨ (y = v ∧ e = j ∧ m = m0)) (hTw : ¬ gh_has m0.1 (c1 v j)) (hk : m0.1 = 4) (hd : gm_r own o w F mk c (o v j) v j (F 1 v) m0) {mk9 : Nat → Nat → Nat} (hM1 : ∀ x e, mk9 x e = 1 ↔ mk x e = 1) (hM2 : ∀ x e, ¬ (x = v ∧ e = j) → mk9 x e = mk x e) (hM3 : mk9 v j ≠ 0) (hM4 : (mk v j = 0 ∧ mk9 v j = 2) ∨ mk9 v j = mk v j)  : gi_pA own (gh_U F 7 v 12) mk9 := by
  dsimp only [gi_pA, gi_s2, gm_r, gi_cur, gi_NR, gi_wt, gi_open, gh_Net] at *
  try simp (decide := true) only [gh_U, gh_K, gh_A_has, gh_A_cnt, gh_A_mem, false_and, true_and, and_false, or_false, if_false, if_true, and_true]
  grind (splits := 25)
theorem rj_s6 {v j : Nat} (Hs6 : gi_s6 own F mk) (Hn : gh_Net own o w) (Hs2 : gi_s2 F) (Hrj : gi_rj own o F mk) {c1 : Nat → Nat → List gh_M} {m0 : gh_M} (hj : own v j) (hT : ∀ k y e, gh_has k (c y e) ↔ gh_has k (c1 y e) ∨ (y = v ∧ e = j ∧ k = m0.1)) (hTc : ∀ k y e, gh_cnt k (c y e) = gh_cnt k (c1 y e) + if y = v ∧ e = j ∧ k = m0.1 then 1 else 0) (hTm : ∀ y e m, m ∈ c y e ↔ m ∈ c1 y e ∨ (y = v ∧ e = j ∧ m = m0)) (hTw : ¬ gh_has m0.1 (c1 v j)) (hk : m0.1 = 4) (hd : gm_r own o w F mk c (o v j) v j (F 1 v) m0) {mk9 : Nat → Nat → Nat} (hM1 : ∀ x e, mk9 x e = 1 ↔ mk x e = 1) (hM2 : ∀ x e, ¬ (x = v ∧ e = j) → mk9 x e = mk x e) (hM3 : mk9 v j ≠ 0) (hM4 : (mk v j = 0 ∧ mk9 v j = 2) ∨ mk9 v j = mk v j)  : gi_s6 own (gh_U F 7 v 12) mk9 := by
  dsimp only [gi_s6, gi_s2, gi_rj, gm_r, gi_cur, gi_NR, gi_wt, gi_open, gh_Net] at *
  try simp (decide := true) only [gh_U, gh_K, gh_A_has, gh_A_cnt, gh_A_mem, false_and, true_and, and_false, or_false, if_false, if_true, and_true]
  grind (splits := 25)
theorem rj_C {v j : Nat} (HC : gi_C own o F mk) (Hs2 : gi_s2 F) (Hn : gh_Net own o w) {c1 : Nat → Nat → List gh_M} {m0 : gh_M} (hj : own v j) (hT : ∀ k y e, gh_has k (c y e) ↔ gh_has k (c1 y e) ∨ (y = v ∧ e = j ∧ k = m0.1)) (hTc : ∀ k y e, gh_cnt k (c y e) = gh_cnt k (c1 y e) + if y = v ∧ e = j ∧ k = m0.1 then 1 else 0) (hTm : ∀ y e m, m ∈ c y e ↔ m ∈ c1 y e ∨ (y = v ∧ e = j ∧ m = m0)) (hTw : ¬ gh_has m0.1 (c1 v j)) (hk : m0.1 = 4) (hd : gm_r own o w F mk c (o v j) v j (F 1 v) m0) {mk9 : Nat → Nat → Nat} (hM1 : ∀ x e, mk9 x e = 1 ↔ mk x e = 1) (hM2 : ∀ x e, ¬ (x = v ∧ e = j) → mk9 x e = mk x e) (hM3 : mk9 v j ≠ 0) (hM4 : (mk v j = 0 ∧ mk9 v j = 2) ∨ mk9 v j = mk v j)  : gi_C own o (gh_U F 7 v 12) mk9 := by
  dsimp only [gi_C, gi_s2, gm_r, gi_cur, gi_NR, gi_wt, gi_open, gh_Net] at *
  try simp (decide := true) only [gh_U, gh_K, gh_A_has, gh_A_cnt, gh_A_mem, false_and, true_and, and_false, or_false, if_false, if_true, and_true]
  grind (splits := 25)
theorem rj_rj {v j : Nat} (Hrj : gi_rj own o F mk) (Hn : gh_Net own o w) {c1 : Nat → Nat → List gh_M} {m0 : gh_M} (hj : own v j) (hT : ∀ k y e, gh_has k (c y e) ↔ gh_has k (c1 y e) ∨ (y = v ∧ e = j ∧ k = m0.1)) (hTc : ∀ k y e, gh_cnt k (c y e) = gh_cnt k (c1 y e) + if y = v ∧ e = j ∧ k = m0.1 then 1 else 0) (hTm : ∀ y e m, m ∈ c y e ↔ m ∈ c1 y e ∨ (y = v ∧ e = j ∧ m = m0)) (hTw : ¬ gh_has m0.1 (c1 v j)) (hk : m0.1 = 4) (hd : gm_r own o w F mk c (o v j) v j (F 1 v) m0) {mk9 : Nat → Nat → Nat} (hM1 : ∀ x e, mk9 x e = 1 ↔ mk x e = 1) (hM2 : ∀ x e, ¬ (x = v ∧ e = j) → mk9 x e = mk x e) (hM3 : mk9 v j ≠ 0) (hM4 : (mk v j = 0 ∧ mk9 v j = 2) ∨ mk9 v j = mk v j)  : gi_rj own o (gh_U F 7 v 12) mk9 := by
  dsimp only [gi_rj, gm_r, gi_cur, gi_NR, gi_wt, gi_open, gh_Net] at *
  try simp (decide := true) only [gh_U, gh_K, gh_A_has, gh_A_cnt, gh_A_mem, false_and, true_and, and_false, or_false, if_false, if_true, and_true]
  grind (splits := 25)
theorem rj_ts {v j : Nat} (Hts : gi_ts own o F c) (Hn : gh_Net own o w) {c1 : Nat → Nat → List gh_M} {m0 : gh_M} (hj : own v j) (hT : ∀ k y e, gh_has k (c y e) ↔ gh_has k (c1 y e) ∨ (y = v ∧ e = j ∧ k = m0.1)) (hTc : ∀ k y e, gh_cnt k (c y e) = gh_cnt k (c1 y e) + if y = v ∧ e = j ∧ k = m0.1 then 1 else 0) (hTm : ∀ y e m, m ∈ c y e ↔ m ∈ c1 y e ∨ (y = v ∧ e = j ∧ m = m0)) (hTw : ¬ gh_has m0.1 (c1 v j)) (hk : m0.1 = 4) (hd : gm_r own o w F mk c (o v j) v j (F 1 v) m0) {mk9 : Nat → Nat → Nat} (hM1 : ∀ x e, mk9 x e = 1 ↔ mk x e = 1) (hM2 : ∀ x e, ¬ (x = v ∧ e = j) → mk9 x e = mk x e) (hM3 : mk9 v j ≠ 0) (hM4 : (mk v j = 0 ∧ mk9 v j = 2) ∨ mk9 v j = mk v j)  : gi_ts own o (gh_U F 7 v 12) c1 := by
  dsimp only [gi_ts, gm_r, gi_cur, gi_NR, gi_wt, gi_open, gh_Net] at *
  try simp (decide := true) only [gh_U, gh_K, gh_A_has, gh_A_cnt, gh_A_mem, false_and, true_and, and_false, or_false, if_false, if_true, and_true]
  grind (splits := 25)
theorem rj_ow {v j : Nat} (How : gi_ow own F) (Hn : gh_Net own o w) {c1 : Nat → Nat → List gh_M} {m0 : gh_M} (hj : own v j) (hT : ∀ k y e, gh_has k (c y e) ↔ gh_has k (c1 y e) ∨ (y = v ∧ e = j ∧ k = m0.1)) (hTc : ∀ k y e, gh_cnt k (c y e) = gh_cnt k (c1 y e) + if y = v ∧ e = j ∧ k = m0.1 then 1 else 0) (hTm : ∀ y e m, m ∈ c y e ↔ m ∈ c1 y e ∨ (y = v ∧ e = j ∧ m = m0)) (hTw : ¬ gh_has m0.1 (c1 v j)) (hk : m0.1 = 4) (hd : gm_r own o w F mk c (o v j) v j (F 1 v) m0) {mk9 : Nat → Nat → Nat} (hM1 : ∀ x e, mk9 x e = 1 ↔ mk x e = 1) (hM2 : ∀ x e, ¬ (x = v ∧ e = j) → mk9 x e = mk x e) (hM3 : mk9 v j ≠ 0) (hM4 : (mk v j = 0 ∧ mk9 v j = 2) ∨ mk9 v j = mk v j)  : gi_ow own (gh_U F 7 v 12) := by
  dsimp only [gi_ow, gm_r, gi_cur, gi_NR, gi_wt, gi_open, gh_Net] at *
  try simp (decide := true) only [gh_U, gh_K, gh_A_has, gh_A_cnt, gh_A_mem, false_and, true_and, and_false, or_false, if_false, if_true, and_true]
  grind (splits := 25)
theorem rj_b6 {v j : Nat} (Hb6 : gi_b6 own o w F mk) {c1 : Nat → Nat → List gh_M} {m0 : gh_M} (hj : own v j) (hT : ∀ k y e, gh_has k (c y e) ↔ gh_has k (c1 y e) ∨ (y = v ∧ e = j ∧ k = m0.1)) (hTc : ∀ k y e, gh_cnt k (c y e) = gh_cnt k (c1 y e) + if y = v ∧ e = j ∧ k = m0.1 then 1 else 0) (hTm : ∀ y e m, m ∈ c y e ↔ m ∈ c1 y e ∨ (y = v ∧ e = j ∧ m = m0)) (hTw : ¬ gh_has m0.1 (c1 v j)) (hk : m0.1 = 4) (hd : gm_r own o w F mk c (o v j) v j (F 1 v) m0) {mk9 : Nat → Nat → Nat} (hM1 : ∀ x e, mk9 x e = 1 ↔ mk x e = 1) (hM2 : ∀ x e, ¬ (x = v ∧ e = j) → mk9 x e = mk x e) (hM3 : mk9 v j ≠ 0) (hM4 : (mk v j = 0 ∧ mk9 v j = 2) ∨ mk9 v j = mk v j)  : gi_b6 own o w (gh_U F 7 v 12) mk9 := by
  intro x hx
  obtain ⟨y, e, h1, h2, h3, h4, h5, h6⟩ := Hb6 x hx
  exact ⟨y, e, h1, h2, h3, h4, (hM1 _ _).mpr h5, (hM1 _ _).mpr h6⟩
theorem rj_Sr {v j : Nat} (HSr : gi_Sr o w F c) {c1 : Nat → Nat → List gh_M} {m0 : gh_M} (hj : own v j) (hT : ∀ k y e, gh_has k (c y e) ↔ gh_has k (c1 y e) ∨ (y = v ∧ e = j ∧ k = m0.1)) (hTc : ∀ k y e, gh_cnt k (c y e) = gh_cnt k (c1 y e) + if y = v ∧ e = j ∧ k = m0.1 then 1 else 0) (hTm : ∀ y e m, m ∈ c y e ↔ m ∈ c1 y e ∨ (y = v ∧ e = j ∧ m = m0)) (hTw : ¬ gh_has m0.1 (c1 v j)) (hk : m0.1 = 4) (hd : gm_r own o w F mk c (o v j) v j (F 1 v) m0) {mk9 : Nat → Nat → Nat} (hM1 : ∀ x e, mk9 x e = 1 ↔ mk x e = 1) (hM2 : ∀ x e, ¬ (x = v ∧ e = j) → mk9 x e = mk x e) (hM3 : mk9 v j ≠ 0) (hM4 : (mk v j = 0 ∧ mk9 v j = 2) ∨ mk9 v j = mk v j)  : gi_Sr o w (gh_U F 7 v 12) c1 := by
  intro x h1 h2
  obtain ⟨a1, a2, a3⟩ := HSr x h1 h2
  refine ⟨a1, a2, fun hc => ⟨(a3 hc).1, ?_⟩⟩
  rcases (a3 hc).2 with z | ⟨m, m1, m2, m3⟩
  · refine Or.inl ?_
    have b1 := hT 0 (o x (F 9 x)) (F 9 x)
    clear HSr a3
    try simp (decide := true) only [gh_U, gh_K, gh_A_has, gh_A_cnt, gh_A_mem, false_and, true_and, and_false, or_false, if_false, if_true, and_true]
    grind
  · refine Or.inr ⟨m, ?_, m2, m3⟩
    have b1 := hTm x (F 9 x) m
    clear HSr a3
    try simp (decide := true) only [gh_U, gh_K, gh_A_has, gh_A_cnt, gh_A_mem, false_and, true_and, and_false, or_false, if_false, if_true, and_true]
    grind
theorem rj_bc {v j : Nat} (Hbc : gi_bc o F mk c) (Hn : gh_Net own o w) (Hs2 : gi_s2 F) {c1 : Nat → Nat → List gh_M} {m0 : gh_M} (hj : own v j) (hT : ∀ k y e, gh_has k (c y e) ↔ gh_has k (c1 y e) ∨ (y = v ∧ e = j ∧ k = m0.1)) (hTc : ∀ k y e, gh_cnt k (c y e) = gh_cnt k (c1 y e) + if y = v ∧ e = j ∧ k = m0.1 then 1 else 0) (hTm : ∀ y e m, m ∈ c y e ↔ m ∈ c1 y e ∨ (y = v ∧ e = j ∧ m = m0)) (hTw : ¬ gh_has m0.1 (c1 v j)) (hk : m0.1 = 4) (hd : gm_r own o w F mk c (o v j) v j (F 1 v) m0) {mk9 : Nat → Nat → Nat} (hM1 : ∀ x e, mk9 x e = 1 ↔ mk x e = 1) (hM2 : ∀ x e, ¬ (x = v ∧ e = j) → mk9 x e = mk x e) (hM3 : mk9 v j ≠ 0) (hM4 : (mk v j = 0 ∧ mk9 v j = 2) ∨ mk9 v j = mk v j)  : gi_bc o (gh_U F 7 v 12) mk9 c1 := by
  intro x b y hb hb1 hy hcu hph hw
  obtain ⟨b1, b2⟩ := Hbc x b y hb hb1 hy hcu hph hw
  have b3 := hT 5 x b
  have b4 := hM1 x b
  have b5 := hM2 x b
  
  clear Hbc
  dsimp only [gi_cur, gm_r] at *
  try simp (decide := true) only [gh_U, gh_K, gh_A_has, gh_A_cnt, gh_A_mem, false_and, true_and, and_false, or_false, if_false, if_true, and_true]
  grind
theorem rj_K {v j : Nat} (HK : gi_K own o F mk c) (Hn : gh_Net own o w) {c1 : Nat → Nat → List gh_M} {m0 : gh_M} (hj : own v j) (hT : ∀ k y e, gh_has k (c y e) ↔ gh_has k (c1 y e) ∨ (y = v ∧ e = j ∧ k = m0.1)) (hTc : ∀ k y e, gh_cnt k (c y e) = gh_cnt k (c1 y e) + if y = v ∧ e = j ∧ k = m0.1 then 1 else 0) (hTm : ∀ y e m, m ∈ c y e ↔ m ∈ c1 y e ∨ (y = v ∧ e = j ∧ m = m0)) (hTw : ¬ gh_has m0.1 (c1 v j)) (hk : m0.1 = 4) (hd : gm_r own o w F mk c (o v j) v j (F 1 v) m0) {mk9 : Nat → Nat → Nat} (hM1 : ∀ x e, mk9 x e = 1 ↔ mk x e = 1) (hM2 : ∀ x e, ¬ (x = v ∧ e = j) → mk9 x e = mk x e) (hM3 : mk9 v j ≠ 0) (hM4 : (mk v j = 0 ∧ mk9 v j = 2) ∨ mk9 v j = mk v j)  : gi_K own o (gh_U F 7 v 12) mk9 c1 := by
  intro x e y h1 h2 h3
  have b1 := HK x e y h1 h2 ((hM1 x e).mp h3)
  have b2 := hM1 y e
  have b3 := hM2 y e
  have b4 := hT 0 y e
  have b5 := Hn.1 x e h1
  clear HK Hn
  dsimp only [gi_cur, gm_r] at *
  try simp (decide := true) only [gh_U, gh_K, gh_A_has, gh_A_cnt, gh_A_mem, false_and, true_and, and_false, or_false, if_false, if_true, and_true]
  grind
theorem rj_an {v j : Nat} (Han : gi_an own o F mk c) {c1 : Nat → Nat → List gh_M} {m0 : gh_M} (hj : own v j) (hT : ∀ k y e, gh_has k (c y e) ↔ gh_has k (c1 y e) ∨ (y = v ∧ e = j ∧ k = m0.1)) (hTc : ∀ k y e, gh_cnt k (c y e) = gh_cnt k (c1 y e) + if y = v ∧ e = j ∧ k = m0.1 then 1 else 0) (hTm : ∀ y e m, m ∈ c y e ↔ m ∈ c1 y e ∨ (y = v ∧ e = j ∧ m = m0)) (hTw : ¬ gh_has m0.1 (c1 v j)) (hk : m0.1 = 4) (hd : gm_r own o w F mk c (o v j) v j (F 1 v) m0) {mk9 : Nat → Nat → Nat} (hM1 : ∀ x e, mk9 x e = 1 ↔ mk x e = 1) (hM2 : ∀ x e, ¬ (x = v ∧ e = j) → mk9 x e = mk x e) (hM3 : mk9 v j ≠ 0) (hM4 : (mk v j = 0 ∧ mk9 v j = 2) ∨ mk9 v j = mk v j)  : gi_an own o (gh_U F 7 v 12) mk9 c1 := by
  intro x hx
  obtain ⟨l, l1, l2, l3⟩ := Han x hx
  refine ⟨l, l1, l2, fun e => (l3 e).trans ?_⟩
  have a1 := hT 5 x e
  
  clear Han l3
  dsimp only [gi_open, gi_cur] at *
  try simp (decide := true) only [gh_U, gh_K, gh_A_has, gh_A_cnt, gh_A_mem, false_and, true_and, and_false, or_false, if_false, if_true, and_true]
  grind
theorem rj_st {v j : Nat} (Hst : gi_st F) {c1 : Nat → Nat → List gh_M} {m0 : gh_M} (hj : own v j) (hT : ∀ k y e, gh_has k (c y e) ↔ gh_has k (c1 y e) ∨ (y = v ∧ e = j ∧ k = m0.1)) (hTc : ∀ k y e, gh_cnt k (c y e) = gh_cnt k (c1 y e) + if y = v ∧ e = j ∧ k = m0.1 then 1 else 0) (hTm : ∀ y e m, m ∈ c y e ↔ m ∈ c1 y e ∨ (y = v ∧ e = j ∧ m = m0)) (hTw : ¬ gh_has m0.1 (c1 v j)) (hk : m0.1 = 4) (hd : gm_r own o w F mk c (o v j) v j (F 1 v) m0) {mk9 : Nat → Nat → Nat} (hM1 : ∀ x e, mk9 x e = 1 ↔ mk x e = 1) (hM2 : ∀ x e, ¬ (x = v ∧ e = j) → mk9 x e = mk x e) (hM3 : mk9 v j ≠ 0) (hM4 : (mk v j = 0 ∧ mk9 v j = 2) ∨ mk9 v j = mk v j)  : gi_st (gh_U F 7 v 12) := by
  dsimp only [gi_st, gm_r, gi_cur, gi_NR, gi_wt, gi_open, gh_Net] at *
  try simp (decide := true) only [gh_U, gh_K, gh_A_has, gh_A_cnt, gh_A_mem, false_and, true_and, and_false, or_false, if_false, if_true, and_true]
  grind (splits := 25)
theorem rj_b1 {v j : Nat} (Hb1 : gi_b1 F) {c1 : Nat → Nat → List gh_M} {m0 : gh_M} (hj : own v j) (hT : ∀ k y e, gh_has k (c y e) ↔ gh_has k (c1 y e) ∨ (y = v ∧ e = j ∧ k = m0.1)) (hTc : ∀ k y e, gh_cnt k (c y e) = gh_cnt k (c1 y e) + if y = v ∧ e = j ∧ k = m0.1 then 1 else 0) (hTm : ∀ y e m, m ∈ c y e ↔ m ∈ c1 y e ∨ (y = v ∧ e = j ∧ m = m0)) (hTw : ¬ gh_has m0.1 (c1 v j)) (hk : m0.1 = 4) (hd : gm_r own o w F mk c (o v j) v j (F 1 v) m0) {mk9 : Nat → Nat → Nat} (hM1 : ∀ x e, mk9 x e = 1 ↔ mk x e = 1) (hM2 : ∀ x e, ¬ (x = v ∧ e = j) → mk9 x e = mk x e) (hM3 : mk9 v j ≠ 0) (hM4 : (mk v j = 0 ∧ mk9 v j = 2) ∨ mk9 v j = mk v j)  : gi_b1 (gh_U F 7 v 12) := by
  dsimp only [gi_b1, gm_r, gi_cur, gi_NR, gi_wt, gi_open, gh_Net] at *
  try simp (decide := true) only [gh_U, gh_K, gh_A_has, gh_A_cnt, gh_A_mem, false_and, true_and, and_false, or_false, if_false, if_true, and_true]
  grind (splits := 25)
theorem rj_b2 {v j : Nat} (Hb2 : gi_b2 F) {c1 : Nat → Nat → List gh_M} {m0 : gh_M} (hj : own v j) (hT : ∀ k y e, gh_has k (c y e) ↔ gh_has k (c1 y e) ∨ (y = v ∧ e = j ∧ k = m0.1)) (hTc : ∀ k y e, gh_cnt k (c y e) = gh_cnt k (c1 y e) + if y = v ∧ e = j ∧ k = m0.1 then 1 else 0) (hTm : ∀ y e m, m ∈ c y e ↔ m ∈ c1 y e ∨ (y = v ∧ e = j ∧ m = m0)) (hTw : ¬ gh_has m0.1 (c1 v j)) (hk : m0.1 = 4) (hd : gm_r own o w F mk c (o v j) v j (F 1 v) m0) {mk9 : Nat → Nat → Nat} (hM1 : ∀ x e, mk9 x e = 1 ↔ mk x e = 1) (hM2 : ∀ x e, ¬ (x = v ∧ e = j) → mk9 x e = mk x e) (hM3 : mk9 v j ≠ 0) (hM4 : (mk v j = 0 ∧ mk9 v j = 2) ∨ mk9 v j = mk v j)  : gi_b2 (gh_U F 7 v 12) := by
  dsimp only [gi_b2, gm_r, gi_cur, gi_NR, gi_wt, gi_open, gh_Net] at *
  try simp (decide := true) only [gh_U, gh_K, gh_A_has, gh_A_cnt, gh_A_mem, false_and, true_and, and_false, or_false, if_false, if_true, and_true]
  grind (splits := 25)
theorem rj_b3 {v j : Nat} (Hb3 : gi_b3 F) {c1 : Nat → Nat → List gh_M} {m0 : gh_M} (hj : own v j) (hT : ∀ k y e, gh_has k (c y e) ↔ gh_has k (c1 y e) ∨ (y = v ∧ e = j ∧ k = m0.1)) (hTc : ∀ k y e, gh_cnt k (c y e) = gh_cnt k (c1 y e) + if y = v ∧ e = j ∧ k = m0.1 then 1 else 0) (hTm : ∀ y e m, m ∈ c y e ↔ m ∈ c1 y e ∨ (y = v ∧ e = j ∧ m = m0)) (hTw : ¬ gh_has m0.1 (c1 v j)) (hk : m0.1 = 4) (hd : gm_r own o w F mk c (o v j) v j (F 1 v) m0) {mk9 : Nat → Nat → Nat} (hM1 : ∀ x e, mk9 x e = 1 ↔ mk x e = 1) (hM2 : ∀ x e, ¬ (x = v ∧ e = j) → mk9 x e = mk x e) (hM3 : mk9 v j ≠ 0) (hM4 : (mk v j = 0 ∧ mk9 v j = 2) ∨ mk9 v j = mk v j)  : gi_b3 (gh_U F 7 v 12) := by
  dsimp only [gi_b3, gm_r, gi_cur, gi_NR, gi_wt, gi_open, gh_Net] at *
  try simp (decide := true) only [gh_U, gh_K, gh_A_has, gh_A_cnt, gh_A_mem, false_and, true_and, and_false, or_false, if_false, if_true, and_true]
  grind (splits := 25)
theorem rj_b4 {v j : Nat} (Hb4 : gi_b4 F) {c1 : Nat → Nat → List gh_M} {m0 : gh_M} (hj : own v j) (hT : ∀ k y e, gh_has k (c y e) ↔ gh_has k (c1 y e) ∨ (y = v ∧ e = j ∧ k = m0.1)) (hTc : ∀ k y e, gh_cnt k (c y e) = gh_cnt k (c1 y e) + if y = v ∧ e = j ∧ k = m0.1 then 1 else 0) (hTm : ∀ y e m, m ∈ c y e ↔ m ∈ c1 y e ∨ (y = v ∧ e = j ∧ m = m0)) (hTw : ¬ gh_has m0.1 (c1 v j)) (hk : m0.1 = 4) (hd : gm_r own o w F mk c (o v j) v j (F 1 v) m0) {mk9 : Nat → Nat → Nat} (hM1 : ∀ x e, mk9 x e = 1 ↔ mk x e = 1) (hM2 : ∀ x e, ¬ (x = v ∧ e = j) → mk9 x e = mk x e) (hM3 : mk9 v j ≠ 0) (hM4 : (mk v j = 0 ∧ mk9 v j = 2) ∨ mk9 v j = mk v j)  : gi_b4 (gh_U F 7 v 12) := by
  dsimp only [gi_b4, gm_r, gi_cur, gi_NR, gi_wt, gi_open, gh_Net] at *
  try simp (decide := true) only [gh_U, gh_K, gh_A_has, gh_A_cnt, gh_A_mem, false_and, true_and, and_false, or_false, if_false, if_true, and_true]
  grind (splits := 25)
theorem rj_b5 {v j : Nat} (Hb5 : gi_b5 own o w F) {c1 : Nat → Nat → List gh_M} {m0 : gh_M} (hj : own v j) (hT : ∀ k y e, gh_has k (c y e) ↔ gh_has k (c1 y e) ∨ (y = v ∧ e = j ∧ k = m0.1)) (hTc : ∀ k y e, gh_cnt k (c y e) = gh_cnt k (c1 y e) + if y = v ∧ e = j ∧ k = m0.1 then 1 else 0) (hTm : ∀ y e m, m ∈ c y e ↔ m ∈ c1 y e ∨ (y = v ∧ e = j ∧ m = m0)) (hTw : ¬ gh_has m0.1 (c1 v j)) (hk : m0.1 = 4) (hd : gm_r own o w F mk c (o v j) v j (F 1 v) m0) {mk9 : Nat → Nat → Nat} (hM1 : ∀ x e, mk9 x e = 1 ↔ mk x e = 1) (hM2 : ∀ x e, ¬ (x = v ∧ e = j) → mk9 x e = mk x e) (hM3 : mk9 v j ≠ 0) (hM4 : (mk v j = 0 ∧ mk9 v j = 2) ∨ mk9 v j = mk v j)  : gi_b5 own o w (gh_U F 7 v 12) := by
  dsimp only [gi_b5, gm_r, gi_cur, gi_NR, gi_wt, gi_open, gh_Net] at *
  try simp (decide := true) only [gh_U, gh_K, gh_A_has, gh_A_cnt, gh_A_mem, false_and, true_and, and_false, or_false, if_false, if_true, and_true]
  grind (splits := 25)
theorem rj_s0 {v j : Nat} (Hs0 : gi_s0 own F mk) {c1 : Nat → Nat → List gh_M} {m0 : gh_M} (hj : own v j) (hT : ∀ k y e, gh_has k (c y e) ↔ gh_has k (c1 y e) ∨ (y = v ∧ e = j ∧ k = m0.1)) (hTc : ∀ k y e, gh_cnt k (c y e) = gh_cnt k (c1 y e) + if y = v ∧ e = j ∧ k = m0.1 then 1 else 0) (hTm : ∀ y e m, m ∈ c y e ↔ m ∈ c1 y e ∨ (y = v ∧ e = j ∧ m = m0)) (hTw : ¬ gh_has m0.1 (c1 v j)) (hk : m0.1 = 4) (hd : gm_r own o w F mk c (o v j) v j (F 1 v) m0) {mk9 : Nat → Nat → Nat} (hM1 : ∀ x e, mk9 x e = 1 ↔ mk x e = 1) (hM2 : ∀ x e, ¬ (x = v ∧ e = j) → mk9 x e = mk x e) (hM3 : mk9 v j ≠ 0) (hM4 : (mk v j = 0 ∧ mk9 v j = 2) ∨ mk9 v j = mk v j)  : gi_s0 own (gh_U F 7 v 12) mk9 := by
  dsimp only [gi_s0, gm_r, gi_cur, gi_NR, gi_wt, gi_open, gh_Net] at *
  try simp (decide := true) only [gh_U, gh_K, gh_A_has, gh_A_cnt, gh_A_mem, false_and, true_and, and_false, or_false, if_false, if_true, and_true]
  grind (splits := 25)
theorem rj_s1 {v j : Nat} (Hs1 : gi_s1 F) {c1 : Nat → Nat → List gh_M} {m0 : gh_M} (hj : own v j) (hT : ∀ k y e, gh_has k (c y e) ↔ gh_has k (c1 y e) ∨ (y = v ∧ e = j ∧ k = m0.1)) (hTc : ∀ k y e, gh_cnt k (c y e) = gh_cnt k (c1 y e) + if y = v ∧ e = j ∧ k = m0.1 then 1 else 0) (hTm : ∀ y e m, m ∈ c y e ↔ m ∈ c1 y e ∨ (y = v ∧ e = j ∧ m = m0)) (hTw : ¬ gh_has m0.1 (c1 v j)) (hk : m0.1 = 4) (hd : gm_r own o w F mk c (o v j) v j (F 1 v) m0) {mk9 : Nat → Nat → Nat} (hM1 : ∀ x e, mk9 x e = 1 ↔ mk x e = 1) (hM2 : ∀ x e, ¬ (x = v ∧ e = j) → mk9 x e = mk x e) (hM3 : mk9 v j ≠ 0) (hM4 : (mk v j = 0 ∧ mk9 v j = 2) ∨ mk9 v j = mk v j)  : gi_s1 (gh_U F 7 v 12) := by
  dsimp only [gi_s1, gm_r, gi_cur, gi_NR, gi_wt, gi_open, gh_Net] at *
  try simp (decide := true) only [gh_U, gh_K, gh_A_has, gh_A_cnt, gh_A_mem, false_and, true_and, and_false, or_false, if_false, if_true, and_true]
  grind (splits := 25)
theorem rj_s2 {v j : Nat} (Hs2 : gi_s2 F) {c1 : Nat → Nat → List gh_M} {m0 : gh_M} (hj : own v j) (hT : ∀ k y e, gh_has k (c y e) ↔ gh_has k (c1 y e) ∨ (y = v ∧ e = j ∧ k = m0.1)) (hTc : ∀ k y e, gh_cnt k (c y e) = gh_cnt k (c1 y e) + if y = v ∧ e = j ∧ k = m0.1 then 1 else 0) (hTm : ∀ y e m, m ∈ c y e ↔ m ∈ c1 y e ∨ (y = v ∧ e = j ∧ m = m0)) (hTw : ¬ gh_has m0.1 (c1 v j)) (hk : m0.1 = 4) (hd : gm_r own o w F mk c (o v j) v j (F 1 v) m0) {mk9 : Nat → Nat → Nat} (hM1 : ∀ x e, mk9 x e = 1 ↔ mk x e = 1) (hM2 : ∀ x e, ¬ (x = v ∧ e = j) → mk9 x e = mk x e) (hM3 : mk9 v j ≠ 0) (hM4 : (mk v j = 0 ∧ mk9 v j = 2) ∨ mk9 v j = mk v j)  : gi_s2 (gh_U F 7 v 12) := by
  dsimp only [gi_s2, gm_r, gi_cur, gi_NR, gi_wt, gi_open, gh_Net] at *
  try simp (decide := true) only [gh_U, gh_K, gh_A_has, gh_A_cnt, gh_A_mem, false_and, true_and, and_false, or_false, if_false, if_true, and_true]
  grind (splits := 25)
theorem rj_Sl {v j : Nat} (HSl : gi_Sl F) {c1 : Nat → Nat → List gh_M} {m0 : gh_M} (hj : own v j) (hT : ∀ k y e, gh_has k (c y e) ↔ gh_has k (c1 y e) ∨ (y = v ∧ e = j ∧ k = m0.1)) (hTc : ∀ k y e, gh_cnt k (c y e) = gh_cnt k (c1 y e) + if y = v ∧ e = j ∧ k = m0.1 then 1 else 0) (hTm : ∀ y e m, m ∈ c y e ↔ m ∈ c1 y e ∨ (y = v ∧ e = j ∧ m = m0)) (hTw : ¬ gh_has m0.1 (c1 v j)) (hk : m0.1 = 4) (hd : gm_r own o w F mk c (o v j) v j (F 1 v) m0) {mk9 : Nat → Nat → Nat} (hM1 : ∀ x e, mk9 x e = 1 ↔ mk x e = 1) (hM2 : ∀ x e, ¬ (x = v ∧ e = j) → mk9 x e = mk x e) (hM3 : mk9 v j ≠ 0) (hM4 : (mk v j = 0 ∧ mk9 v j = 2) ∨ mk9 v j = mk v j)  : gi_Sl (gh_U F 7 v 12) := by
  dsimp only [gi_Sl, gm_r, gi_cur, gi_NR, gi_wt, gi_open, gh_Net] at *
  try simp (decide := true) only [gh_U, gh_K, gh_A_has, gh_A_cnt, gh_A_mem, false_and, true_and, and_false, or_false, if_false, if_true, and_true]
  grind (splits := 25)
theorem rj_s3 {v j : Nat} (Hs3 : gi_s3 F) {c1 : Nat → Nat → List gh_M} {m0 : gh_M} (hj : own v j) (hT : ∀ k y e, gh_has k (c y e) ↔ gh_has k (c1 y e) ∨ (y = v ∧ e = j ∧ k = m0.1)) (hTc : ∀ k y e, gh_cnt k (c y e) = gh_cnt k (c1 y e) + if y = v ∧ e = j ∧ k = m0.1 then 1 else 0) (hTm : ∀ y e m, m ∈ c y e ↔ m ∈ c1 y e ∨ (y = v ∧ e = j ∧ m = m0)) (hTw : ¬ gh_has m0.1 (c1 v j)) (hk : m0.1 = 4) (hd : gm_r own o w F mk c (o v j) v j (F 1 v) m0) {mk9 : Nat → Nat → Nat} (hM1 : ∀ x e, mk9 x e = 1 ↔ mk x e = 1) (hM2 : ∀ x e, ¬ (x = v ∧ e = j) → mk9 x e = mk x e) (hM3 : mk9 v j ≠ 0) (hM4 : (mk v j = 0 ∧ mk9 v j = 2) ∨ mk9 v j = mk v j)  : gi_s3 (gh_U F 7 v 12) := by
  dsimp only [gi_s3, gm_r, gi_cur, gi_NR, gi_wt, gi_open, gh_Net] at *
  try simp (decide := true) only [gh_U, gh_K, gh_A_has, gh_A_cnt, gh_A_mem, false_and, true_and, and_false, or_false, if_false, if_true, and_true]
  grind (splits := 25)
theorem rj_s4 {v j : Nat} (Hs4 : gi_s4 F) {c1 : Nat → Nat → List gh_M} {m0 : gh_M} (hj : own v j) (hT : ∀ k y e, gh_has k (c y e) ↔ gh_has k (c1 y e) ∨ (y = v ∧ e = j ∧ k = m0.1)) (hTc : ∀ k y e, gh_cnt k (c y e) = gh_cnt k (c1 y e) + if y = v ∧ e = j ∧ k = m0.1 then 1 else 0) (hTm : ∀ y e m, m ∈ c y e ↔ m ∈ c1 y e ∨ (y = v ∧ e = j ∧ m = m0)) (hTw : ¬ gh_has m0.1 (c1 v j)) (hk : m0.1 = 4) (hd : gm_r own o w F mk c (o v j) v j (F 1 v) m0) {mk9 : Nat → Nat → Nat} (hM1 : ∀ x e, mk9 x e = 1 ↔ mk x e = 1) (hM2 : ∀ x e, ¬ (x = v ∧ e = j) → mk9 x e = mk x e) (hM3 : mk9 v j ≠ 0) (hM4 : (mk v j = 0 ∧ mk9 v j = 2) ∨ mk9 v j = mk v j)  : gi_s4 (gh_U F 7 v 12) := by
  dsimp only [gi_s4, gm_r, gi_cur, gi_NR, gi_wt, gi_open, gh_Net] at *
  try simp (decide := true) only [gh_U, gh_K, gh_A_has, gh_A_cnt, gh_A_mem, false_and, true_and, and_false, or_false, if_false, if_true, and_true]
  grind (splits := 25)
theorem rj_s5 {v j : Nat} (Hs5 : gi_s5 F) {c1 : Nat → Nat → List gh_M} {m0 : gh_M} (hj : own v j) (hT : ∀ k y e, gh_has k (c y e) ↔ gh_has k (c1 y e) ∨ (y = v ∧ e = j ∧ k = m0.1)) (hTc : ∀ k y e, gh_cnt k (c y e) = gh_cnt k (c1 y e) + if y = v ∧ e = j ∧ k = m0.1 then 1 else 0) (hTm : ∀ y e m, m ∈ c y e ↔ m ∈ c1 y e ∨ (y = v ∧ e = j ∧ m = m0)) (hTw : ¬ gh_has m0.1 (c1 v j)) (hk : m0.1 = 4) (hd : gm_r own o w F mk c (o v j) v j (F 1 v) m0) {mk9 : Nat → Nat → Nat} (hM1 : ∀ x e, mk9 x e = 1 ↔ mk x e = 1) (hM2 : ∀ x e, ¬ (x = v ∧ e = j) → mk9 x e = mk x e) (hM3 : mk9 v j ≠ 0) (hM4 : (mk v j = 0 ∧ mk9 v j = 2) ∨ mk9 v j = mk v j)  : gi_s5 (gh_U F 7 v 12) := by
  dsimp only [gi_s5, gm_r, gi_cur, gi_NR, gi_wt, gi_open, gh_Net] at *
  try simp (decide := true) only [gh_U, gh_K, gh_A_has, gh_A_cnt, gh_A_mem, false_and, true_and, and_false, or_false, if_false, if_true, and_true]
  grind (splits := 25)
theorem rj_Sn {v j : Nat} (HSn : gi_Sn o w F) {c1 : Nat → Nat → List gh_M} {m0 : gh_M} (hj : own v j) (hT : ∀ k y e, gh_has k (c y e) ↔ gh_has k (c1 y e) ∨ (y = v ∧ e = j ∧ k = m0.1)) (hTc : ∀ k y e, gh_cnt k (c y e) = gh_cnt k (c1 y e) + if y = v ∧ e = j ∧ k = m0.1 then 1 else 0) (hTm : ∀ y e m, m ∈ c y e ↔ m ∈ c1 y e ∨ (y = v ∧ e = j ∧ m = m0)) (hTw : ¬ gh_has m0.1 (c1 v j)) (hk : m0.1 = 4) (hd : gm_r own o w F mk c (o v j) v j (F 1 v) m0) {mk9 : Nat → Nat → Nat} (hM1 : ∀ x e, mk9 x e = 1 ↔ mk x e = 1) (hM2 : ∀ x e, ¬ (x = v ∧ e = j) → mk9 x e = mk x e) (hM3 : mk9 v j ≠ 0) (hM4 : (mk v j = 0 ∧ mk9 v j = 2) ∨ mk9 v j = mk v j)  : gi_Sn o w (gh_U F 7 v 12) := by
  dsimp only [gi_Sn, gm_r, gi_cur, gi_NR, gi_wt, gi_open, gh_Net] at *
  try simp (decide := true) only [gh_U, gh_K, gh_A_has, gh_A_cnt, gh_A_mem, false_and, true_and, and_false, or_false, if_false, if_true, and_true]
  grind (splits := 25)
theorem rj_M {v j : Nat} (HM : gi_M own o F) {c1 : Nat → Nat → List gh_M} {m0 : gh_M} (hj : own v j) (hT : ∀ k y e, gh_has k (c y e) ↔ gh_has k (c1 y e) ∨ (y = v ∧ e = j ∧ k = m0.1)) (hTc : ∀ k y e, gh_cnt k (c y e) = gh_cnt k (c1 y e) + if y = v ∧ e = j ∧ k = m0.1 then 1 else 0) (hTm : ∀ y e m, m ∈ c y e ↔ m ∈ c1 y e ∨ (y = v ∧ e = j ∧ m = m0)) (hTw : ¬ gh_has m0.1 (c1 v j)) (hk : m0.1 = 4) (hd : gm_r own o w F mk c (o v j) v j (F 1 v) m0) {mk9 : Nat → Nat → Nat} (hM1 : ∀ x e, mk9 x e = 1 ↔ mk x e = 1) (hM2 : ∀ x e, ¬ (x = v ∧ e = j) → mk9 x e = mk x e) (hM3 : mk9 v j ≠ 0) (hM4 : (mk v j = 0 ∧ mk9 v j = 2) ∨ mk9 v j = mk v j)  : gi_M own o (gh_U F 7 v 12) := by
  dsimp only [gi_M, gm_r, gi_cur, gi_NR, gi_wt, gi_open, gh_Net] at *
  try simp (decide := true) only [gh_U, gh_K, gh_A_has, gh_A_cnt, gh_A_mem, false_and, true_and, and_false, or_false, if_false, if_true, and_true]
  grind (splits := 25)
theorem rj_ph {v j : Nat} (Hph : gi_ph F) {c1 : Nat → Nat → List gh_M} {m0 : gh_M} (hj : own v j) (hT : ∀ k y e, gh_has k (c y e) ↔ gh_has k (c1 y e) ∨ (y = v ∧ e = j ∧ k = m0.1)) (hTc : ∀ k y e, gh_cnt k (c y e) = gh_cnt k (c1 y e) + if y = v ∧ e = j ∧ k = m0.1 then 1 else 0) (hTm : ∀ y e m, m ∈ c y e ↔ m ∈ c1 y e ∨ (y = v ∧ e = j ∧ m = m0)) (hTw : ¬ gh_has m0.1 (c1 v j)) (hk : m0.1 = 4) (hd : gm_r own o w F mk c (o v j) v j (F 1 v) m0) {mk9 : Nat → Nat → Nat} (hM1 : ∀ x e, mk9 x e = 1 ↔ mk x e = 1) (hM2 : ∀ x e, ¬ (x = v ∧ e = j) → mk9 x e = mk x e) (hM3 : mk9 v j ≠ 0) (hM4 : (mk v j = 0 ∧ mk9 v j = 2) ∨ mk9 v j = mk v j)  : gi_ph (gh_U F 7 v 12) := by
  dsimp only [gi_ph, gm_r, gi_cur, gi_NR, gi_wt, gi_open, gh_Net] at *
  try simp (decide := true) only [gh_U, gh_K, gh_A_has, gh_A_cnt, gh_A_mem, false_and, true_and, and_false, or_false, if_false, if_true, and_true]
  grind (splits := 25)
theorem rj_6 {v j : Nat} (H6 : gi_6 o F c) {c1 : Nat → Nat → List gh_M} {m0 : gh_M} (hj : own v j) (hT : ∀ k y e, gh_has k (c y e) ↔ gh_has k (c1 y e) ∨ (y = v ∧ e = j ∧ k = m0.1)) (hTc : ∀ k y e, gh_cnt k (c y e) = gh_cnt k (c1 y e) + if y = v ∧ e = j ∧ k = m0.1 then 1 else 0) (hTm : ∀ y e m, m ∈ c y e ↔ m ∈ c1 y e ∨ (y = v ∧ e = j ∧ m = m0)) (hTw : ¬ gh_has m0.1 (c1 v j)) (hk : m0.1 = 4) (hd : gm_r own o w F mk c (o v j) v j (F 1 v) m0) {mk9 : Nat → Nat → Nat} (hM1 : ∀ x e, mk9 x e = 1 ↔ mk x e = 1) (hM2 : ∀ x e, ¬ (x = v ∧ e = j) → mk9 x e = mk x e) (hM3 : mk9 v j ≠ 0) (hM4 : (mk v j = 0 ∧ mk9 v j = 2) ∨ mk9 v j = mk v j)  : gi_6 o (gh_U F 7 v 12) c1 := by
  dsimp only [gi_6, gm_r, gi_cur, gi_NR, gi_wt, gi_open, gh_Net] at *
  try simp (decide := true) only [gh_U, gh_K, gh_A_has, gh_A_cnt, gh_A_mem, false_and, true_and, and_false, or_false, if_false, if_true, and_true]
  grind (splits := 25)
theorem rj_7 {v j : Nat} (H7 : gi_7 o F) {c1 : Nat → Nat → List gh_M} {m0 : gh_M} (hj : own v j) (hT : ∀ k y e, gh_has k (c y e) ↔ gh_has k (c1 y e) ∨ (y = v ∧ e = j ∧ k = m0.1)) (hTc : ∀ k y e, gh_cnt k (c y e) = gh_cnt k (c1 y e) + if y = v ∧ e = j ∧ k = m0.1 then 1 else 0) (hTm : ∀ y e m, m ∈ c y e ↔ m ∈ c1 y e ∨ (y = v ∧ e = j ∧ m = m0)) (hTw : ¬ gh_has m0.1 (c1 v j)) (hk : m0.1 = 4) (hd : gm_r own o w F mk c (o v j) v j (F 1 v) m0) {mk9 : Nat → Nat → Nat} (hM1 : ∀ x e, mk9 x e = 1 ↔ mk x e = 1) (hM2 : ∀ x e, ¬ (x = v ∧ e = j) → mk9 x e = mk x e) (hM3 : mk9 v j ≠ 0) (hM4 : (mk v j = 0 ∧ mk9 v j = 2) ∨ mk9 v j = mk v j)  : gi_7 o (gh_U F 7 v 12) := by
  dsimp only [gi_7, gm_r, gi_cur, gi_NR, gi_wt, gi_open, gh_Net] at *
  try simp (decide := true) only [gh_U, gh_K, gh_A_has, gh_A_cnt, gh_A_mem, false_and, true_and, and_false, or_false, if_false, if_true, and_true]
  grind (splits := 25)
theorem rj_tw {v j : Nat} (Htw : gi_tw own c) {c1 : Nat → Nat → List gh_M} {m0 : gh_M} (hj : own v j) (hT : ∀ k y e, gh_has k (c y e) ↔ gh_has k (c1 y e) ∨ (y = v ∧ e = j ∧ k = m0.1)) (hTc : ∀ k y e, gh_cnt k (c y e) = gh_cnt k (c1 y e) + if y = v ∧ e = j ∧ k = m0.1 then 1 else 0) (hTm : ∀ y e m, m ∈ c y e ↔ m ∈ c1 y e ∨ (y = v ∧ e = j ∧ m = m0)) (hTw : ¬ gh_has m0.1 (c1 v j)) (hk : m0.1 = 4) (hd : gm_r own o w F mk c (o v j) v j (F 1 v) m0) {mk9 : Nat → Nat → Nat} (hM1 : ∀ x e, mk9 x e = 1 ↔ mk x e = 1) (hM2 : ∀ x e, ¬ (x = v ∧ e = j) → mk9 x e = mk x e) (hM3 : mk9 v j ≠ 0) (hM4 : (mk v j = 0 ∧ mk9 v j = 2) ∨ mk9 v j = mk v j)  : gi_tw own c1 := by
  dsimp only [gi_tw, gm_r, gi_cur, gi_NR, gi_wt, gi_open, gh_Net] at *
  try simp (decide := true) only [gh_U, gh_K, gh_A_has, gh_A_cnt, gh_A_mem, false_and, true_and, and_false, or_false, if_false, if_true, and_true]
  grind (splits := 25)
theorem rj_sz {v j : Nat} (Hsz : gi_sz F) {c1 : Nat → Nat → List gh_M} {m0 : gh_M} (hj : own v j) (hT : ∀ k y e, gh_has k (c y e) ↔ gh_has k (c1 y e) ∨ (y = v ∧ e = j ∧ k = m0.1)) (hTc : ∀ k y e, gh_cnt k (c y e) = gh_cnt k (c1 y e) + if y = v ∧ e = j ∧ k = m0.1 then 1 else 0) (hTm : ∀ y e m, m ∈ c y e ↔ m ∈ c1 y e ∨ (y = v ∧ e = j ∧ m = m0)) (hTw : ¬ gh_has m0.1 (c1 v j)) (hk : m0.1 = 4) (hd : gm_r own o w F mk c (o v j) v j (F 1 v) m0) {mk9 : Nat → Nat → Nat} (hM1 : ∀ x e, mk9 x e = 1 ↔ mk x e = 1) (hM2 : ∀ x e, ¬ (x = v ∧ e = j) → mk9 x e = mk x e) (hM3 : mk9 v j ≠ 0) (hM4 : (mk v j = 0 ∧ mk9 v j = 2) ∨ mk9 v j = mk v j)  : gi_sz (gh_U F 7 v 12) := by
  dsimp only [gi_sz, gm_r, gi_cur, gi_NR, gi_wt, gi_open, gh_Net] at *
  try simp (decide := true) only [gh_U, gh_K, gh_A_has, gh_A_cnt, gh_A_mem, false_and, true_and, and_false, or_false, if_false, if_true, and_true]
  grind (splits := 25)
theorem rj_mi {v j : Nat} (Hn : gh_Net own o w) (Htw : gi_tw own c) (Hts : gi_ts own o F c) {c1 : Nat → Nat → List gh_M} {m0 : gh_M} (hj : own v j) (hT : ∀ k y e, gh_has k (c y e) ↔ gh_has k (c1 y e) ∨ (y = v ∧ e = j ∧ k = m0.1)) (hTc : ∀ k y e, gh_cnt k (c y e) = gh_cnt k (c1 y e) + if y = v ∧ e = j ∧ k = m0.1 then 1 else 0) (hTm : ∀ y e m, m ∈ c y e ↔ m ∈ c1 y e ∨ (y = v ∧ e = j ∧ m = m0)) (hTw : ¬ gh_has m0.1 (c1 v j)) (hk : m0.1 = 4) (hd : gm_r own o w F mk c (o v j) v j (F 1 v) m0) {mk9 : Nat → Nat → Nat} (hM1 : ∀ x e, mk9 x e = 1 ↔ mk x e = 1) (hM2 : ∀ x e, ¬ (x = v ∧ e = j) → mk9 x e = mk x e) (hM3 : mk9 v j ≠ 0) (hM4 : (mk v j = 0 ∧ mk9 v j = 2) ∨ mk9 v j = mk v j)  {x y e a : Nat} {m : gh_M} (hx : o y e = x) (hy : own y e) (hm : m ∈ c1 y e) (ha : F 1 y ≤ a) (hb : ¬ gh_has 1 (c y e) → a = F 1 y)  (h : gm_i own o w F mk c x y e a m) : gm_i own o w (gh_U F 7 v 12) mk9 c1 x y e a m := by
  have hh : ∀ k, m.1 = k → gh_has k (c1 y e) := fun k hk => ⟨m, hm, hk⟩
  dsimp only [gi_tw, gi_ts, gm_r, gm_i, gi_cur, gi_NR, gi_wt, gi_open, gh_Net] at *
  try simp (decide := true) only [gh_U, gh_K, gh_A_has, gh_A_cnt, gh_A_mem, false_and, true_and, and_false, or_false, if_false, if_true, and_true]
  grind (splits := 25)
theorem rj_mc {v j : Nat} (Hn : gh_Net own o w) (Htw : gi_tw own c) (Hts : gi_ts own o F c) {c1 : Nat → Nat → List gh_M} {m0 : gh_M} (hj : own v j) (hT : ∀ k y e, gh_has k (c y e) ↔ gh_has k (c1 y e) ∨ (y = v ∧ e = j ∧ k = m0.1)) (hTc : ∀ k y e, gh_cnt k (c y e) = gh_cnt k (c1 y e) + if y = v ∧ e = j ∧ k = m0.1 then 1 else 0) (hTm : ∀ y e m, m ∈ c y e ↔ m ∈ c1 y e ∨ (y = v ∧ e = j ∧ m = m0)) (hTw : ¬ gh_has m0.1 (c1 v j)) (hk : m0.1 = 4) (hd : gm_r own o w F mk c (o v j) v j (F 1 v) m0) {mk9 : Nat → Nat → Nat} (hM1 : ∀ x e, mk9 x e = 1 ↔ mk x e = 1) (hM2 : ∀ x e, ¬ (x = v ∧ e = j) → mk9 x e = mk x e) (hM3 : mk9 v j ≠ 0) (hM4 : (mk v j = 0 ∧ mk9 v j = 2) ∨ mk9 v j = mk v j)  {x y e a : Nat} {m : gh_M} (hx : o y e = x) (hy : own y e) (hm : m ∈ c1 y e) (ha : F 1 y ≤ a) (hb : ¬ gh_has 1 (c y e) → a = F 1 y)  (h : gm_c own o w F mk c x y e a m) : gm_c own o w (gh_U F 7 v 12) mk9 c1 x y e a m := by
  have hh : ∀ k, m.1 = k → gh_has k (c1 y e) := fun k hk => ⟨m, hm, hk⟩
  dsimp only [gi_tw, gi_ts, gm_r, gm_c, gi_cur, gi_NR, gi_wt, gi_open, gh_Net] at *
  try simp (decide := true) only [gh_U, gh_K, gh_A_has, gh_A_cnt, gh_A_mem, false_and, true_and, and_false, or_false, if_false, if_true, and_true]
  grind (splits := 25)
theorem rj_mt {v j : Nat} (Hn : gh_Net own o w) (Htw : gi_tw own c) (Hts : gi_ts own o F c) {c1 : Nat → Nat → List gh_M} {m0 : gh_M} (hj : own v j) (hT : ∀ k y e, gh_has k (c y e) ↔ gh_has k (c1 y e) ∨ (y = v ∧ e = j ∧ k = m0.1)) (hTc : ∀ k y e, gh_cnt k (c y e) = gh_cnt k (c1 y e) + if y = v ∧ e = j ∧ k = m0.1 then 1 else 0) (hTm : ∀ y e m, m ∈ c y e ↔ m ∈ c1 y e ∨ (y = v ∧ e = j ∧ m = m0)) (hTw : ¬ gh_has m0.1 (c1 v j)) (hk : m0.1 = 4) (hd : gm_r own o w F mk c (o v j) v j (F 1 v) m0) {mk9 : Nat → Nat → Nat} (hM1 : ∀ x e, mk9 x e = 1 ↔ mk x e = 1) (hM2 : ∀ x e, ¬ (x = v ∧ e = j) → mk9 x e = mk x e) (hM3 : mk9 v j ≠ 0) (hM4 : (mk v j = 0 ∧ mk9 v j = 2) ∨ mk9 v j = mk v j)  {x y e a : Nat} {m : gh_M} (hx : o y e = x) (hy : own y e) (hm : m ∈ c1 y e) (ha : F 1 y ≤ a) (hb : ¬ gh_has 1 (c y e) → a = F 1 y)  (h : gm_t own o w F mk c x y e a m) : gm_t own o w (gh_U F 7 v 12) mk9 c1 x y e a m := by
  have hh : ∀ k, m.1 = k → gh_has k (c1 y e) := fun k hk => ⟨m, hm, hk⟩
  dsimp only [gi_tw, gi_ts, gm_r, gm_t, gi_cur, gi_NR, gi_wt, gi_open, gh_Net] at *
  try simp (decide := true) only [gh_U, gh_K, gh_A_has, gh_A_cnt, gh_A_mem, false_and, true_and, and_false, or_false, if_false, if_true, and_true]
  grind (splits := 25)
theorem rj_ma {v j : Nat} (Hn : gh_Net own o w) (Htw : gi_tw own c) (Hts : gi_ts own o F c) {c1 : Nat → Nat → List gh_M} {m0 : gh_M} (hj : own v j) (hT : ∀ k y e, gh_has k (c y e) ↔ gh_has k (c1 y e) ∨ (y = v ∧ e = j ∧ k = m0.1)) (hTc : ∀ k y e, gh_cnt k (c y e) = gh_cnt k (c1 y e) + if y = v ∧ e = j ∧ k = m0.1 then 1 else 0) (hTm : ∀ y e m, m ∈ c y e ↔ m ∈ c1 y e ∨ (y = v ∧ e = j ∧ m = m0)) (hTw : ¬ gh_has m0.1 (c1 v j)) (hk : m0.1 = 4) (hd : gm_r own o w F mk c (o v j) v j (F 1 v) m0) {mk9 : Nat → Nat → Nat} (hM1 : ∀ x e, mk9 x e = 1 ↔ mk x e = 1) (hM2 : ∀ x e, ¬ (x = v ∧ e = j) → mk9 x e = mk x e) (hM3 : mk9 v j ≠ 0) (hM4 : (mk v j = 0 ∧ mk9 v j = 2) ∨ mk9 v j = mk v j)  {x y e a : Nat} {m : gh_M} (hx : o y e = x) (hy : own y e) (hm : m ∈ c1 y e) (ha : F 1 y ≤ a) (hb : ¬ gh_has 1 (c y e) → a = F 1 y)  (h : gm_a own o w F mk c x y e a m) : gm_a own o w (gh_U F 7 v 12) mk9 c1 x y e a m := by
  have hh : ∀ k, m.1 = k → gh_has k (c1 y e) := fun k hk => ⟨m, hm, hk⟩
  dsimp only [gi_tw, gi_ts, gm_r, gm_a, gi_cur, gi_NR, gi_wt, gi_open, gh_Net] at *
  try simp (decide := true) only [gh_U, gh_K, gh_A_has, gh_A_cnt, gh_A_mem, false_and, true_and, and_false, or_false, if_false, if_true, and_true]
  grind (splits := 25)
theorem rj_mr {v j : Nat} (Hn : gh_Net own o w) (Htw : gi_tw own c) (Hts : gi_ts own o F c) {c1 : Nat → Nat → List gh_M} {m0 : gh_M} (hj : own v j) (hT : ∀ k y e, gh_has k (c y e) ↔ gh_has k (c1 y e) ∨ (y = v ∧ e = j ∧ k = m0.1)) (hTc : ∀ k y e, gh_cnt k (c y e) = gh_cnt k (c1 y e) + if y = v ∧ e = j ∧ k = m0.1 then 1 else 0) (hTm : ∀ y e m, m ∈ c y e ↔ m ∈ c1 y e ∨ (y = v ∧ e = j ∧ m = m0)) (hTw : ¬ gh_has m0.1 (c1 v j)) (hk : m0.1 = 4) (hd : gm_r own o w F mk c (o v j) v j (F 1 v) m0) {mk9 : Nat → Nat → Nat} (hM1 : ∀ x e, mk9 x e = 1 ↔ mk x e = 1) (hM2 : ∀ x e, ¬ (x = v ∧ e = j) → mk9 x e = mk x e) (hM3 : mk9 v j ≠ 0) (hM4 : (mk v j = 0 ∧ mk9 v j = 2) ∨ mk9 v j = mk v j)  {x y e a : Nat} {m : gh_M} (hx : o y e = x) (hy : own y e) (hm : m ∈ c1 y e) (ha : F 1 y ≤ a) (hb : ¬ gh_has 1 (c y e) → a = F 1 y)  (h : gm_r own o w F mk c x y e a m) : gm_r own o w (gh_U F 7 v 12) mk9 c1 x y e a m := by
  have hh : ∀ k, m.1 = k → gh_has k (c1 y e) := fun k hk => ⟨m, hm, hk⟩
  dsimp only [gi_tw, gi_ts, gm_r, gi_cur, gi_NR, gi_wt, gi_open, gh_Net] at *
  try simp (decide := true) only [gh_U, gh_K, gh_A_has, gh_A_cnt, gh_A_mem, false_and, true_and, and_false, or_false, if_false, if_true, and_true]
  grind (splits := 25)
theorem rj_mk {v j : Nat} (Hn : gh_Net own o w) (Htw : gi_tw own c) (Hts : gi_ts own o F c) {c1 : Nat → Nat → List gh_M} {m0 : gh_M} (hj : own v j) (hT : ∀ k y e, gh_has k (c y e) ↔ gh_has k (c1 y e) ∨ (y = v ∧ e = j ∧ k = m0.1)) (hTc : ∀ k y e, gh_cnt k (c y e) = gh_cnt k (c1 y e) + if y = v ∧ e = j ∧ k = m0.1 then 1 else 0) (hTm : ∀ y e m, m ∈ c y e ↔ m ∈ c1 y e ∨ (y = v ∧ e = j ∧ m = m0)) (hTw : ¬ gh_has m0.1 (c1 v j)) (hk : m0.1 = 4) (hd : gm_r own o w F mk c (o v j) v j (F 1 v) m0) {mk9 : Nat → Nat → Nat} (hM1 : ∀ x e, mk9 x e = 1 ↔ mk x e = 1) (hM2 : ∀ x e, ¬ (x = v ∧ e = j) → mk9 x e = mk x e) (hM3 : mk9 v j ≠ 0) (hM4 : (mk v j = 0 ∧ mk9 v j = 2) ∨ mk9 v j = mk v j)  {x y e a : Nat} {m : gh_M} (hx : o y e = x) (hy : own y e) (hm : m ∈ c1 y e) (ha : F 1 y ≤ a) (hb : ¬ gh_has 1 (c y e) → a = F 1 y)  (h : gm_k own o w F mk c x y e a m) : gm_k own o w (gh_U F 7 v 12) mk9 c1 x y e a m := by
  have hh : ∀ k, m.1 = k → gh_has k (c1 y e) := fun k hk => ⟨m, hm, hk⟩
  dsimp only [gi_tw, gi_ts, gm_r, gm_k, gi_cur, gi_NR, gi_wt, gi_open, gh_Net] at *
  try simp (decide := true) only [gh_U, gh_K, gh_A_has, gh_A_cnt, gh_A_mem, false_and, true_and, and_false, or_false, if_false, if_true, and_true]
  grind (splits := 25)
theorem rj_mp {v j : Nat} (Hn : gh_Net own o w) (Htw : gi_tw own c) (Hts : gi_ts own o F c) {c1 : Nat → Nat → List gh_M} {m0 : gh_M} (hj : own v j) (hT : ∀ k y e, gh_has k (c y e) ↔ gh_has k (c1 y e) ∨ (y = v ∧ e = j ∧ k = m0.1)) (hTc : ∀ k y e, gh_cnt k (c y e) = gh_cnt k (c1 y e) + if y = v ∧ e = j ∧ k = m0.1 then 1 else 0) (hTm : ∀ y e m, m ∈ c y e ↔ m ∈ c1 y e ∨ (y = v ∧ e = j ∧ m = m0)) (hTw : ¬ gh_has m0.1 (c1 v j)) (hk : m0.1 = 4) (hd : gm_r own o w F mk c (o v j) v j (F 1 v) m0) {mk9 : Nat → Nat → Nat} (hM1 : ∀ x e, mk9 x e = 1 ↔ mk x e = 1) (hM2 : ∀ x e, ¬ (x = v ∧ e = j) → mk9 x e = mk x e) (hM3 : mk9 v j ≠ 0) (hM4 : (mk v j = 0 ∧ mk9 v j = 2) ∨ mk9 v j = mk v j)  {x y e a : Nat} {m : gh_M} (hx : o y e = x) (hy : own y e) (hm : m ∈ c1 y e) (ha : F 1 y ≤ a) (hb : ¬ gh_has 1 (c y e) → a = F 1 y)  (h : gm_p own o w F mk c x y e a m) : gm_p own o w (gh_U F 7 v 12) mk9 c1 x y e a m := by
  have hh : ∀ k, m.1 = k → gh_has k (c1 y e) := fun k hk => ⟨m, hm, hk⟩
  dsimp only [gi_tw, gi_ts, gm_r, gm_p, gi_cur, gi_NR, gi_wt, gi_open, gh_Net] at *
  try simp (decide := true) only [gh_U, gh_K, gh_A_has, gh_A_cnt, gh_A_mem, false_and, true_and, and_false, or_false, if_false, if_true, and_true]
  grind (splits := 25)
theorem rj_I {v j : Nat} (Hn : gh_Net own o w) (h : gI own o w F mk c) {m0 : gh_M} {t : List gh_M} (hj : own v j) (hc : c v j = m0 :: t) (hk : m0.1 = 4) {mk9 : Nat → Nat → Nat} (hM1 : ∀ x e, mk9 x e = 1 ↔ mk x e = 1) (hM2 : ∀ x e, ¬ (x = v ∧ e = j) → mk9 x e = mk x e) (hM3 : mk9 v j ≠ 0) (hM4 : (mk v j = 0 ∧ mk9 v j = 2) ∨ mk9 v j = mk v j)  : gI own o w (gh_U F 7 v 12) mk9 (gh_T c v j) := by
  obtain ⟨Hst, Hb1, Hb2, Hb3, Hb4, Hb5, Hb6, Hs0, HpA, Hs1, Hs2, HSl, Hs3, Hs4, How, Hs5, Hs6, HSr, HSn, HM, HC, Hph, H6, H7, Hbc, HK, Hrj, Htw, Hts, Han, Hsz, Hch⟩ := h
  have Xi := gx_iI Hch
  have Xc := gx_cI Hch
  have Xt := gx_tI Hch
  have Xa := gx_aI Hch
  have Xr := gx_rI Hch
  have Xk := gx_kI Hch
  have Xp := gx_pI Hch
  have Xl := gx_lI Hch
  have Xb := gx_bI Hch
  have Xn := gx_nI Hn Hph HpA HSr HSn HM HC
  have hT := gp_T hc
  have hTc := gp_C hc
  have hTm := gp_M hc
  have hTw := gp_W hc Htw hj (by omega)
  have hd0 := gi_hd Hch hj hc
  have hd := hd0.2.2.2.2.2.1
  refine ⟨rj_st (c1 := gh_T c v j) Hst hj hT hTc hTm hTw hk hd hM1 hM2 hM3 hM4, rj_b1 (c1 := gh_T c v j) Hb1 hj hT hTc hTm hTw hk hd hM1 hM2 hM3 hM4, rj_b2 (c1 := gh_T c v j) Hb2 hj hT hTc hTm hTw hk hd hM1 hM2 hM3 hM4, rj_b3 (c1 := gh_T c v j) Hb3 hj hT hTc hTm hTw hk hd hM1 hM2 hM3 hM4, rj_b4 (c1 := gh_T c v j) Hb4 hj hT hTc hTm hTw hk hd hM1 hM2 hM3 hM4, rj_b5 (c1 := gh_T c v j) Hb5 hj hT hTc hTm hTw hk hd hM1 hM2 hM3 hM4, rj_b6 (c1 := gh_T c v j) Hb6 hj hT hTc hTm hTw hk hd hM1 hM2 hM3 hM4, rj_s0 (c1 := gh_T c v j) Hs0 hj hT hTc hTm hTw hk hd hM1 hM2 hM3 hM4, rj_pA (c1 := gh_T c v j) HpA Hs2 hj hT hTc hTm hTw hk hd hM1 hM2 hM3 hM4, rj_s1 (c1 := gh_T c v j) Hs1 hj hT hTc hTm hTw hk hd hM1 hM2 hM3 hM4, rj_s2 (c1 := gh_T c v j) Hs2 hj hT hTc hTm hTw hk hd hM1 hM2 hM3 hM4, rj_Sl (c1 := gh_T c v j) HSl hj hT hTc hTm hTw hk hd hM1 hM2 hM3 hM4, rj_s3 (c1 := gh_T c v j) Hs3 hj hT hTc hTm hTw hk hd hM1 hM2 hM3 hM4, rj_s4 (c1 := gh_T c v j) Hs4 hj hT hTc hTm hTw hk hd hM1 hM2 hM3 hM4, rj_ow (c1 := gh_T c v j) How Hn hj hT hTc hTm hTw hk hd hM1 hM2 hM3 hM4, rj_s5 (c1 := gh_T c v j) Hs5 hj hT hTc hTm hTw hk hd hM1 hM2 hM3 hM4, rj_s6 (c1 := gh_T c v j) Hs6 Hn Hs2 Hrj hj hT hTc hTm hTw hk hd hM1 hM2 hM3 hM4, rj_Sr (c1 := gh_T c v j) HSr hj hT hTc hTm hTw hk hd hM1 hM2 hM3 hM4, rj_Sn (c1 := gh_T c v j) HSn hj hT hTc hTm hTw hk hd hM1 hM2 hM3 hM4, rj_M (c1 := gh_T c v j) HM hj hT hTc hTm hTw hk hd hM1 hM2 hM3 hM4, rj_C (c1 := gh_T c v j) HC Hs2 Hn hj hT hTc hTm hTw hk hd hM1 hM2 hM3 hM4, rj_ph (c1 := gh_T c v j) Hph hj hT hTc hTm hTw hk hd hM1 hM2 hM3 hM4, rj_6 (c1 := gh_T c v j) H6 hj hT hTc hTm hTw hk hd hM1 hM2 hM3 hM4, rj_7 (c1 := gh_T c v j) H7 hj hT hTc hTm hTw hk hd hM1 hM2 hM3 hM4, rj_bc (c1 := gh_T c v j) Hbc Hn Hs2 hj hT hTc hTm hTw hk hd hM1 hM2 hM3 hM4, rj_K (c1 := gh_T c v j) HK Hn hj hT hTc hTm hTw hk hd hM1 hM2 hM3 hM4, rj_rj (c1 := gh_T c v j) Hrj Hn hj hT hTc hTm hTw hk hd hM1 hM2 hM3 hM4, rj_tw (c1 := gh_T c v j) Htw hj hT hTc hTm hTw hk hd hM1 hM2 hM3 hM4, rj_ts (c1 := gh_T c v j) Hts Hn hj hT hTc hTm hTw hk hd hM1 hM2 hM3 hM4, rj_an (c1 := gh_T c v j) Han hj hT hTc hTm hTw hk hd hM1 hM2 hM3 hM4, rj_sz (c1 := gh_T c v j) Hsz hj hT hTc hTm hTw hk hd hM1 hM2 hM3 hM4, ?_⟩
  have K1 : gi_all own (gh_U F 7 v 12) (gh_T c v j) (fun y e => gi_m own o w (gh_U F 7 v 12) mk9 (gh_T c v j) (o y e) y e) := gi_all_go (gi_all_popT Hch hc (by omega)) (fun y e q => (hT 1 y e).mpr (Or.inl q)) (fun y => (by simp [gh_U])) (fun y e a m hy hm ha hb q => ⟨q.1, rj_mi Hn Htw Hts hj hT hTc hTm hTw hk hd hM1 hM2 hM3 hM4 rfl hy hm ha hb q.2.1, rj_mc Hn Htw Hts hj hT hTc hTm hTw hk hd hM1 hM2 hM3 hM4 rfl hy hm ha hb q.2.2.1, rj_mt Hn Htw Hts hj hT hTc hTm hTw hk hd hM1 hM2 hM3 hM4 rfl hy hm ha hb q.2.2.2.1, rj_ma Hn Htw Hts hj hT hTc hTm hTw hk hd hM1 hM2 hM3 hM4 rfl hy hm ha hb q.2.2.2.2.1, rj_mr Hn Htw Hts hj hT hTc hTm hTw hk hd hM1 hM2 hM3 hM4 rfl hy hm ha hb q.2.2.2.2.2.1, rj_mk Hn Htw Hts hj hT hTc hTm hTw hk hd hM1 hM2 hM3 hM4 rfl hy hm ha hb q.2.2.2.2.2.2.1, rj_mp Hn Htw Hts hj hT hTc hTm hTw hk hd hM1 hM2 hM3 hM4 rfl hy hm ha hb q.2.2.2.2.2.2.2⟩)
  exact K1
end
section
variable {own : Nat → Nat → Prop} {o : Nat → Nat → Nat} {w : Nat → Nat} {F : gh_F} {mk : Nat → Nat → Nat} {c : Nat → Nat → List gh_M}
theorem tb_tw {v j : Nat} (Htw : gi_tw own c) (Hn : gh_Net own o w) (Xa : gx_a own o w F mk c) {c1 : Nat → Nat → List gh_M} {m0 : gh_M} (hj : own v j) (hT : ∀ k y e, gh_has k (c y e) ↔ gh_has k (c1 y e) ∨ (y = v ∧ e = j ∧ k = m0.1)) (hTc : ∀ k y e, gh_cnt k (c y e) = gh_cnt k (c1 y e) + if y = v ∧ e = j ∧ k = m0.1 then 1 else 0) (hTm : ∀ y e m, m ∈ c y e ↔ m ∈ c1 y e ∨ (y = v ∧ e = j ∧ m = m0)) (hTw : ¬ gh_has m0.1 (c1 v j)) (hk : m0.1 = 2) (hd : gm_t own o w F mk c (o v j) v j (F 1 v) m0) (hl : m0.2.1 ≤ F 1 v) (hf : m0.2.2.1 ≠ F 2 v) (hs : F 8 (o v j) ≠ F 8 v)  : gi_tw own (gh_A c1 (o v j) j (3, 0, 0, 0)) := by
  dsimp only [gi_tw, gx_a, gm_t, gi_cur, gi_NR, gi_wt, gi_open, gh_Net] at *
  try simp (decide := true) only [gh_U, gh_K, gh_A_has, gh_A_cnt, gh_A_mem, false_and, true_and, and_false, or_false, if_false, if_true, and_true]
  grind (splits := 25) [gh_cnt_0]
theorem tb_ts {v j : Nat} (Hts : gi_ts own o F c) (Hn : gh_Net own o w) {c1 : Nat → Nat → List gh_M} {m0 : gh_M} (hj : own v j) (hT : ∀ k y e, gh_has k (c y e) ↔ gh_has k (c1 y e) ∨ (y = v ∧ e = j ∧ k = m0.1)) (hTc : ∀ k y e, gh_cnt k (c y e) = gh_cnt k (c1 y e) + if y = v ∧ e = j ∧ k = m0.1 then 1 else 0) (hTm : ∀ y e m, m ∈ c y e ↔ m ∈ c1 y e ∨ (y = v ∧ e = j ∧ m = m0)) (hTw : ¬ gh_has m0.1 (c1 v j)) (hk : m0.1 = 2) (hd : gm_t own o w F mk c (o v j) v j (F 1 v) m0) (hl : m0.2.1 ≤ F 1 v) (hf : m0.2.2.1 ≠ F 2 v) (hs : F 8 (o v j) ≠ F 8 v)  : gi_ts own o F (gh_A c1 (o v j) j (3, 0, 0, 0)) := by
  dsimp only [gi_ts, gm_t, gi_cur, gi_NR, gi_wt, gi_open, gh_Net] at *
  try simp (decide := true) only [gh_U, gh_K, gh_A_has, gh_A_cnt, gh_A_mem, false_and, true_and, and_false, or_false, if_false, if_true, and_true]
  grind (splits := 25)
theorem tb_Sr {v j : Nat} (HSr : gi_Sr o w F c) {c1 : Nat → Nat → List gh_M} {m0 : gh_M} (hj : own v j) (hT : ∀ k y e, gh_has k (c y e) ↔ gh_has k (c1 y e) ∨ (y = v ∧ e = j ∧ k = m0.1)) (hTc : ∀ k y e, gh_cnt k (c y e) = gh_cnt k (c1 y e) + if y = v ∧ e = j ∧ k = m0.1 then 1 else 0) (hTm : ∀ y e m, m ∈ c y e ↔ m ∈ c1 y e ∨ (y = v ∧ e = j ∧ m = m0)) (hTw : ¬ gh_has m0.1 (c1 v j)) (hk : m0.1 = 2) (hd : gm_t own o w F mk c (o v j) v j (F 1 v) m0) (hl : m0.2.1 ≤ F 1 v) (hf : m0.2.2.1 ≠ F 2 v) (hs : F 8 (o v j) ≠ F 8 v)  : gi_Sr o w F (gh_A c1 (o v j) j (3, 0, 0, 0)) := by
  intro x h1 h2
  obtain ⟨a1, a2, a3⟩ := HSr x h1 h2
  refine ⟨a1, a2, fun hc => ⟨(a3 hc).1, ?_⟩⟩
  rcases (a3 hc).2 with z | ⟨m, m1, m2, m3⟩
  · refine Or.inl ?_
    have b1 := hT 0 (o x (F 9 x)) (F 9 x)
    clear HSr a3
    try simp (decide := true) only [gh_U, gh_K, gh_A_has, gh_A_cnt, gh_A_mem, false_and, true_and, and_false, or_false, if_false, if_true, and_true]
    grind
  · refine Or.inr ⟨m, ?_, m2, m3⟩
    have b1 := hTm x (F 9 x) m
    clear HSr a3
    try simp (decide := true) only [gh_U, gh_K, gh_A_has, gh_A_cnt, gh_A_mem, false_and, true_and, and_false, or_false, if_false, if_true, and_true]
    grind
theorem tb_an {v j : Nat} (Han : gi_an own o F mk c) {c1 : Nat → Nat → List gh_M} {m0 : gh_M} (hj : own v j) (hT : ∀ k y e, gh_has k (c y e) ↔ gh_has k (c1 y e) ∨ (y = v ∧ e = j ∧ k = m0.1)) (hTc : ∀ k y e, gh_cnt k (c y e) = gh_cnt k (c1 y e) + if y = v ∧ e = j ∧ k = m0.1 then 1 else 0) (hTm : ∀ y e m, m ∈ c y e ↔ m ∈ c1 y e ∨ (y = v ∧ e = j ∧ m = m0)) (hTw : ¬ gh_has m0.1 (c1 v j)) (hk : m0.1 = 2) (hd : gm_t own o w F mk c (o v j) v j (F 1 v) m0) (hl : m0.2.1 ≤ F 1 v) (hf : m0.2.2.1 ≠ F 2 v) (hs : F 8 (o v j) ≠ F 8 v)  : gi_an own o F mk (gh_A c1 (o v j) j (3, 0, 0, 0)) := by
  intro x hx
  obtain ⟨l, l1, l2, l3⟩ := Han x hx
  refine ⟨l, l1, l2, fun e => (l3 e).trans ?_⟩
  have a1 := hT 5 x e
  
  clear Han l3
  dsimp only [gi_open, gi_cur] at *
  try simp (decide := true) only [gh_U, gh_K, gh_A_has, gh_A_cnt, gh_A_mem, false_and, true_and, and_false, or_false, if_false, if_true, and_true]
  grind
theorem tb_st {v j : Nat} (Hst : gi_st F) (Hn : gh_Net own o w) {c1 : Nat → Nat → List gh_M} {m0 : gh_M} (hj : own v j) (hT : ∀ k y e, gh_has k (c y e) ↔ gh_has k (c1 y e) ∨ (y = v ∧ e = j ∧ k = m0.1)) (hTc : ∀ k y e, gh_cnt k (c y e) = gh_cnt k (c1 y e) + if y = v ∧ e = j ∧ k = m0.1 then 1 else 0) (hTm : ∀ y e m, m ∈ c y e ↔ m ∈ c1 y e ∨ (y = v ∧ e = j ∧ m = m0)) (hTw : ¬ gh_has m0.1 (c1 v j)) (hk : m0.1 = 2) (hd : gm_t own o w F mk c (o v j) v j (F 1 v) m0) (hl : m0.2.1 ≤ F 1 v) (hf : m0.2.2.1 ≠ F 2 v) (hs : F 8 (o v j) ≠ F 8 v)  : gi_st F := by
  dsimp only [gi_st, gm_t, gi_cur, gi_NR, gi_wt, gi_open, gh_Net] at *
  try simp (decide := true) only [gh_U, gh_K, gh_A_has, gh_A_cnt, gh_A_mem, false_and, true_and, and_false, or_false, if_false, if_true, and_true]
  grind (splits := 25)
theorem tb_b1 {v j : Nat} (Hb1 : gi_b1 F) (Hn : gh_Net own o w) {c1 : Nat → Nat → List gh_M} {m0 : gh_M} (hj : own v j) (hT : ∀ k y e, gh_has k (c y e) ↔ gh_has k (c1 y e) ∨ (y = v ∧ e = j ∧ k = m0.1)) (hTc : ∀ k y e, gh_cnt k (c y e) = gh_cnt k (c1 y e) + if y = v ∧ e = j ∧ k = m0.1 then 1 else 0) (hTm : ∀ y e m, m ∈ c y e ↔ m ∈ c1 y e ∨ (y = v ∧ e = j ∧ m = m0)) (hTw : ¬ gh_has m0.1 (c1 v j)) (hk : m0.1 = 2) (hd : gm_t own o w F mk c (o v j) v j (F 1 v) m0) (hl : m0.2.1 ≤ F 1 v) (hf : m0.2.2.1 ≠ F 2 v) (hs : F 8 (o v j) ≠ F 8 v)  : gi_b1 F := by
  dsimp only [gi_b1, gm_t, gi_cur, gi_NR, gi_wt, gi_open, gh_Net] at *
  try simp (decide := true) only [gh_U, gh_K, gh_A_has, gh_A_cnt, gh_A_mem, false_and, true_and, and_false, or_false, if_false, if_true, and_true]
  grind (splits := 25)
theorem tb_b2 {v j : Nat} (Hb2 : gi_b2 F) (Hn : gh_Net own o w) {c1 : Nat → Nat → List gh_M} {m0 : gh_M} (hj : own v j) (hT : ∀ k y e, gh_has k (c y e) ↔ gh_has k (c1 y e) ∨ (y = v ∧ e = j ∧ k = m0.1)) (hTc : ∀ k y e, gh_cnt k (c y e) = gh_cnt k (c1 y e) + if y = v ∧ e = j ∧ k = m0.1 then 1 else 0) (hTm : ∀ y e m, m ∈ c y e ↔ m ∈ c1 y e ∨ (y = v ∧ e = j ∧ m = m0)) (hTw : ¬ gh_has m0.1 (c1 v j)) (hk : m0.1 = 2) (hd : gm_t own o w F mk c (o v j) v j (F 1 v) m0) (hl : m0.2.1 ≤ F 1 v) (hf : m0.2.2.1 ≠ F 2 v) (hs : F 8 (o v j) ≠ F 8 v)  : gi_b2 F := by
  dsimp only [gi_b2, gm_t, gi_cur, gi_NR, gi_wt, gi_open, gh_Net] at *
  try simp (decide := true) only [gh_U, gh_K, gh_A_has, gh_A_cnt, gh_A_mem, false_and, true_and, and_false, or_false, if_false, if_true, and_true]
  grind (splits := 25)
theorem tb_b3 {v j : Nat} (Hb3 : gi_b3 F) (Hn : gh_Net own o w) {c1 : Nat → Nat → List gh_M} {m0 : gh_M} (hj : own v j) (hT : ∀ k y e, gh_has k (c y e) ↔ gh_has k (c1 y e) ∨ (y = v ∧ e = j ∧ k = m0.1)) (hTc : ∀ k y e, gh_cnt k (c y e) = gh_cnt k (c1 y e) + if y = v ∧ e = j ∧ k = m0.1 then 1 else 0) (hTm : ∀ y e m, m ∈ c y e ↔ m ∈ c1 y e ∨ (y = v ∧ e = j ∧ m = m0)) (hTw : ¬ gh_has m0.1 (c1 v j)) (hk : m0.1 = 2) (hd : gm_t own o w F mk c (o v j) v j (F 1 v) m0) (hl : m0.2.1 ≤ F 1 v) (hf : m0.2.2.1 ≠ F 2 v) (hs : F 8 (o v j) ≠ F 8 v)  : gi_b3 F := by
  dsimp only [gi_b3, gm_t, gi_cur, gi_NR, gi_wt, gi_open, gh_Net] at *
  try simp (decide := true) only [gh_U, gh_K, gh_A_has, gh_A_cnt, gh_A_mem, false_and, true_and, and_false, or_false, if_false, if_true, and_true]
  grind (splits := 25)
theorem tb_b4 {v j : Nat} (Hb4 : gi_b4 F) (Hn : gh_Net own o w) {c1 : Nat → Nat → List gh_M} {m0 : gh_M} (hj : own v j) (hT : ∀ k y e, gh_has k (c y e) ↔ gh_has k (c1 y e) ∨ (y = v ∧ e = j ∧ k = m0.1)) (hTc : ∀ k y e, gh_cnt k (c y e) = gh_cnt k (c1 y e) + if y = v ∧ e = j ∧ k = m0.1 then 1 else 0) (hTm : ∀ y e m, m ∈ c y e ↔ m ∈ c1 y e ∨ (y = v ∧ e = j ∧ m = m0)) (hTw : ¬ gh_has m0.1 (c1 v j)) (hk : m0.1 = 2) (hd : gm_t own o w F mk c (o v j) v j (F 1 v) m0) (hl : m0.2.1 ≤ F 1 v) (hf : m0.2.2.1 ≠ F 2 v) (hs : F 8 (o v j) ≠ F 8 v)  : gi_b4 F := by
  dsimp only [gi_b4, gm_t, gi_cur, gi_NR, gi_wt, gi_open, gh_Net] at *
  try simp (decide := true) only [gh_U, gh_K, gh_A_has, gh_A_cnt, gh_A_mem, false_and, true_and, and_false, or_false, if_false, if_true, and_true]
  grind (splits := 25)
theorem tb_b5 {v j : Nat} (Hb5 : gi_b5 own o w F) (Hn : gh_Net own o w) {c1 : Nat → Nat → List gh_M} {m0 : gh_M} (hj : own v j) (hT : ∀ k y e, gh_has k (c y e) ↔ gh_has k (c1 y e) ∨ (y = v ∧ e = j ∧ k = m0.1)) (hTc : ∀ k y e, gh_cnt k (c y e) = gh_cnt k (c1 y e) + if y = v ∧ e = j ∧ k = m0.1 then 1 else 0) (hTm : ∀ y e m, m ∈ c y e ↔ m ∈ c1 y e ∨ (y = v ∧ e = j ∧ m = m0)) (hTw : ¬ gh_has m0.1 (c1 v j)) (hk : m0.1 = 2) (hd : gm_t own o w F mk c (o v j) v j (F 1 v) m0) (hl : m0.2.1 ≤ F 1 v) (hf : m0.2.2.1 ≠ F 2 v) (hs : F 8 (o v j) ≠ F 8 v)  : gi_b5 own o w F := by
  dsimp only [gi_b5, gm_t, gi_cur, gi_NR, gi_wt, gi_open, gh_Net] at *
  try simp (decide := true) only [gh_U, gh_K, gh_A_has, gh_A_cnt, gh_A_mem, false_and, true_and, and_false, or_false, if_false, if_true, and_true]
  grind (splits := 25)
theorem tb_b6 {v j : Nat} (Hb6 : gi_b6 own o w F mk) (Hn : gh_Net own o w) {c1 : Nat → Nat → List gh_M} {m0 : gh_M} (hj : own v j) (hT : ∀ k y e, gh_has k (c y e) ↔ gh_has k (c1 y e) ∨ (y = v ∧ e = j ∧ k = m0.1)) (hTc : ∀ k y e, gh_cnt k (c y e) = gh_cnt k (c1 y e) + if y = v ∧ e = j ∧ k = m0.1 then 1 else 0) (hTm : ∀ y e m, m ∈ c y e ↔ m ∈ c1 y e ∨ (y = v ∧ e = j ∧ m = m0)) (hTw : ¬ gh_has m0.1 (c1 v j)) (hk : m0.1 = 2) (hd : gm_t own o w F mk c (o v j) v j (F 1 v) m0) (hl : m0.2.1 ≤ F 1 v) (hf : m0.2.2.1 ≠ F 2 v) (hs : F 8 (o v j) ≠ F 8 v)  : gi_b6 own o w F mk := by
  dsimp only [gi_b6, gm_t, gi_cur, gi_NR, gi_wt, gi_open, gh_Net] at *
  try simp (decide := true) only [gh_U, gh_K, gh_A_has, gh_A_cnt, gh_A_mem, false_and, true_and, and_false, or_false, if_false, if_true, and_true]
  grind (splits := 25)
theorem tb_s0 {v j : Nat} (Hs0 : gi_s0 own F mk) (Hn : gh_Net own o w) {c1 : Nat → Nat → List gh_M} {m0 : gh_M} (hj : own v j) (hT : ∀ k y e, gh_has k (c y e) ↔ gh_has k (c1 y e) ∨ (y = v ∧ e = j ∧ k = m0.1)) (hTc : ∀ k y e, gh_cnt k (c y e) = gh_cnt k (c1 y e) + if y = v ∧ e = j ∧ k = m0.1 then 1 else 0) (hTm : ∀ y e m, m ∈ c y e ↔ m ∈ c1 y e ∨ (y = v ∧ e = j ∧ m = m0)) (hTw : ¬ gh_has m0.1 (c1 v j)) (hk : m0.1 = 2) (hd : gm_t own o w F mk c (o v j) v j (F 1 v) m0) (hl : m0.2.1 ≤ F 1 v) (hf : m0.2.2.1 ≠ F 2 v) (hs : F 8 (o v j) ≠ F 8 v)  : gi_s0 own F mk := by
  dsimp only [gi_s0, gm_t, gi_cur, gi_NR, gi_wt, gi_open, gh_Net] at *
  try simp (decide := true) only [gh_U, gh_K, gh_A_has, gh_A_cnt, gh_A_mem, false_and, true_and, and_false, or_false, if_false, if_true, and_true]
  grind (splits := 25)
theorem tb_pA {v j : Nat} (HpA : gi_pA own F mk) (Hn : gh_Net own o w) {c1 : Nat → Nat → List gh_M} {m0 : gh_M} (hj : own v j) (hT : ∀ k y e, gh_has k (c y e) ↔ gh_has k (c1 y e) ∨ (y = v ∧ e = j ∧ k = m0.1)) (hTc : ∀ k y e, gh_cnt k (c y e) = gh_cnt k (c1 y e) + if y = v ∧ e = j ∧ k = m0.1 then 1 else 0) (hTm : ∀ y e m, m ∈ c y e ↔ m ∈ c1 y e ∨ (y = v ∧ e = j ∧ m = m0)) (hTw : ¬ gh_has m0.1 (c1 v j)) (hk : m0.1 = 2) (hd : gm_t own o w F mk c (o v j) v j (F 1 v) m0) (hl : m0.2.1 ≤ F 1 v) (hf : m0.2.2.1 ≠ F 2 v) (hs : F 8 (o v j) ≠ F 8 v)  : gi_pA own F mk := by
  dsimp only [gi_pA, gm_t, gi_cur, gi_NR, gi_wt, gi_open, gh_Net] at *
  try simp (decide := true) only [gh_U, gh_K, gh_A_has, gh_A_cnt, gh_A_mem, false_and, true_and, and_false, or_false, if_false, if_true, and_true]
  grind (splits := 25)
theorem tb_s1 {v j : Nat} (Hs1 : gi_s1 F) (Hn : gh_Net own o w) {c1 : Nat → Nat → List gh_M} {m0 : gh_M} (hj : own v j) (hT : ∀ k y e, gh_has k (c y e) ↔ gh_has k (c1 y e) ∨ (y = v ∧ e = j ∧ k = m0.1)) (hTc : ∀ k y e, gh_cnt k (c y e) = gh_cnt k (c1 y e) + if y = v ∧ e = j ∧ k = m0.1 then 1 else 0) (hTm : ∀ y e m, m ∈ c y e ↔ m ∈ c1 y e ∨ (y = v ∧ e = j ∧ m = m0)) (hTw : ¬ gh_has m0.1 (c1 v j)) (hk : m0.1 = 2) (hd : gm_t own o w F mk c (o v j) v j (F 1 v) m0) (hl : m0.2.1 ≤ F 1 v) (hf : m0.2.2.1 ≠ F 2 v) (hs : F 8 (o v j) ≠ F 8 v)  : gi_s1 F := by
  dsimp only [gi_s1, gm_t, gi_cur, gi_NR, gi_wt, gi_open, gh_Net] at *
  try simp (decide := true) only [gh_U, gh_K, gh_A_has, gh_A_cnt, gh_A_mem, false_and, true_and, and_false, or_false, if_false, if_true, and_true]
  grind (splits := 25)
theorem tb_s2 {v j : Nat} (Hs2 : gi_s2 F) (Hn : gh_Net own o w) {c1 : Nat → Nat → List gh_M} {m0 : gh_M} (hj : own v j) (hT : ∀ k y e, gh_has k (c y e) ↔ gh_has k (c1 y e) ∨ (y = v ∧ e = j ∧ k = m0.1)) (hTc : ∀ k y e, gh_cnt k (c y e) = gh_cnt k (c1 y e) + if y = v ∧ e = j ∧ k = m0.1 then 1 else 0) (hTm : ∀ y e m, m ∈ c y e ↔ m ∈ c1 y e ∨ (y = v ∧ e = j ∧ m = m0)) (hTw : ¬ gh_has m0.1 (c1 v j)) (hk : m0.1 = 2) (hd : gm_t own o w F mk c (o v j) v j (F 1 v) m0) (hl : m0.2.1 ≤ F 1 v) (hf : m0.2.2.1 ≠ F 2 v) (hs : F 8 (o v j) ≠ F 8 v)  : gi_s2 F := by
  dsimp only [gi_s2, gm_t, gi_cur, gi_NR, gi_wt, gi_open, gh_Net] at *
  try simp (decide := true) only [gh_U, gh_K, gh_A_has, gh_A_cnt, gh_A_mem, false_and, true_and, and_false, or_false, if_false, if_true, and_true]
  grind (splits := 25)
theorem tb_Sl {v j : Nat} (HSl : gi_Sl F) (Hn : gh_Net own o w) {c1 : Nat → Nat → List gh_M} {m0 : gh_M} (hj : own v j) (hT : ∀ k y e, gh_has k (c y e) ↔ gh_has k (c1 y e) ∨ (y = v ∧ e = j ∧ k = m0.1)) (hTc : ∀ k y e, gh_cnt k (c y e) = gh_cnt k (c1 y e) + if y = v ∧ e = j ∧ k = m0.1 then 1 else 0) (hTm : ∀ y e m, m ∈ c y e ↔ m ∈ c1 y e ∨ (y = v ∧ e = j ∧ m = m0)) (hTw : ¬ gh_has m0.1 (c1 v j)) (hk : m0.1 = 2) (hd : gm_t own o w F mk c (o v j) v j (F 1 v) m0) (hl : m0.2.1 ≤ F 1 v) (hf : m0.2.2.1 ≠ F 2 v) (hs : F 8 (o v j) ≠ F 8 v)  : gi_Sl F := by
  dsimp only [gi_Sl, gm_t, gi_cur, gi_NR, gi_wt, gi_open, gh_Net] at *
  try simp (decide := true) only [gh_U, gh_K, gh_A_has, gh_A_cnt, gh_A_mem, false_and, true_and, and_false, or_false, if_false, if_true, and_true]
  grind (splits := 25)
theorem tb_s3 {v j : Nat} (Hs3 : gi_s3 F) (Hn : gh_Net own o w) {c1 : Nat → Nat → List gh_M} {m0 : gh_M} (hj : own v j) (hT : ∀ k y e, gh_has k (c y e) ↔ gh_has k (c1 y e) ∨ (y = v ∧ e = j ∧ k = m0.1)) (hTc : ∀ k y e, gh_cnt k (c y e) = gh_cnt k (c1 y e) + if y = v ∧ e = j ∧ k = m0.1 then 1 else 0) (hTm : ∀ y e m, m ∈ c y e ↔ m ∈ c1 y e ∨ (y = v ∧ e = j ∧ m = m0)) (hTw : ¬ gh_has m0.1 (c1 v j)) (hk : m0.1 = 2) (hd : gm_t own o w F mk c (o v j) v j (F 1 v) m0) (hl : m0.2.1 ≤ F 1 v) (hf : m0.2.2.1 ≠ F 2 v) (hs : F 8 (o v j) ≠ F 8 v)  : gi_s3 F := by
  dsimp only [gi_s3, gm_t, gi_cur, gi_NR, gi_wt, gi_open, gh_Net] at *
  try simp (decide := true) only [gh_U, gh_K, gh_A_has, gh_A_cnt, gh_A_mem, false_and, true_and, and_false, or_false, if_false, if_true, and_true]
  grind (splits := 25)
theorem tb_s4 {v j : Nat} (Hs4 : gi_s4 F) (Hn : gh_Net own o w) {c1 : Nat → Nat → List gh_M} {m0 : gh_M} (hj : own v j) (hT : ∀ k y e, gh_has k (c y e) ↔ gh_has k (c1 y e) ∨ (y = v ∧ e = j ∧ k = m0.1)) (hTc : ∀ k y e, gh_cnt k (c y e) = gh_cnt k (c1 y e) + if y = v ∧ e = j ∧ k = m0.1 then 1 else 0) (hTm : ∀ y e m, m ∈ c y e ↔ m ∈ c1 y e ∨ (y = v ∧ e = j ∧ m = m0)) (hTw : ¬ gh_has m0.1 (c1 v j)) (hk : m0.1 = 2) (hd : gm_t own o w F mk c (o v j) v j (F 1 v) m0) (hl : m0.2.1 ≤ F 1 v) (hf : m0.2.2.1 ≠ F 2 v) (hs : F 8 (o v j) ≠ F 8 v)  : gi_s4 F := by
  dsimp only [gi_s4, gm_t, gi_cur, gi_NR, gi_wt, gi_open, gh_Net] at *
  try simp (decide := true) only [gh_U, gh_K, gh_A_has, gh_A_cnt, gh_A_mem, false_and, true_and, and_false, or_false, if_false, if_true, and_true]
  grind (splits := 25)
theorem tb_ow {v j : Nat} (How : gi_ow own F) (Hn : gh_Net own o w) {c1 : Nat → Nat → List gh_M} {m0 : gh_M} (hj : own v j) (hT : ∀ k y e, gh_has k (c y e) ↔ gh_has k (c1 y e) ∨ (y = v ∧ e = j ∧ k = m0.1)) (hTc : ∀ k y e, gh_cnt k (c y e) = gh_cnt k (c1 y e) + if y = v ∧ e = j ∧ k = m0.1 then 1 else 0) (hTm : ∀ y e m, m ∈ c y e ↔ m ∈ c1 y e ∨ (y = v ∧ e = j ∧ m = m0)) (hTw : ¬ gh_has m0.1 (c1 v j)) (hk : m0.1 = 2) (hd : gm_t own o w F mk c (o v j) v j (F 1 v) m0) (hl : m0.2.1 ≤ F 1 v) (hf : m0.2.2.1 ≠ F 2 v) (hs : F 8 (o v j) ≠ F 8 v)  : gi_ow own F := by
  dsimp only [gi_ow, gm_t, gi_cur, gi_NR, gi_wt, gi_open, gh_Net] at *
  try simp (decide := true) only [gh_U, gh_K, gh_A_has, gh_A_cnt, gh_A_mem, false_and, true_and, and_false, or_false, if_false, if_true, and_true]
  grind (splits := 25)
theorem tb_s5 {v j : Nat} (Hs5 : gi_s5 F) (Hn : gh_Net own o w) {c1 : Nat → Nat → List gh_M} {m0 : gh_M} (hj : own v j) (hT : ∀ k y e, gh_has k (c y e) ↔ gh_has k (c1 y e) ∨ (y = v ∧ e = j ∧ k = m0.1)) (hTc : ∀ k y e, gh_cnt k (c y e) = gh_cnt k (c1 y e) + if y = v ∧ e = j ∧ k = m0.1 then 1 else 0) (hTm : ∀ y e m, m ∈ c y e ↔ m ∈ c1 y e ∨ (y = v ∧ e = j ∧ m = m0)) (hTw : ¬ gh_has m0.1 (c1 v j)) (hk : m0.1 = 2) (hd : gm_t own o w F mk c (o v j) v j (F 1 v) m0) (hl : m0.2.1 ≤ F 1 v) (hf : m0.2.2.1 ≠ F 2 v) (hs : F 8 (o v j) ≠ F 8 v)  : gi_s5 F := by
  dsimp only [gi_s5, gm_t, gi_cur, gi_NR, gi_wt, gi_open, gh_Net] at *
  try simp (decide := true) only [gh_U, gh_K, gh_A_has, gh_A_cnt, gh_A_mem, false_and, true_and, and_false, or_false, if_false, if_true, and_true]
  grind (splits := 25)
theorem tb_s6 {v j : Nat} (Hs6 : gi_s6 own F mk) (Hn : gh_Net own o w) {c1 : Nat → Nat → List gh_M} {m0 : gh_M} (hj : own v j) (hT : ∀ k y e, gh_has k (c y e) ↔ gh_has k (c1 y e) ∨ (y = v ∧ e = j ∧ k = m0.1)) (hTc : ∀ k y e, gh_cnt k (c y e) = gh_cnt k (c1 y e) + if y = v ∧ e = j ∧ k = m0.1 then 1 else 0) (hTm : ∀ y e m, m ∈ c y e ↔ m ∈ c1 y e ∨ (y = v ∧ e = j ∧ m = m0)) (hTw : ¬ gh_has m0.1 (c1 v j)) (hk : m0.1 = 2) (hd : gm_t own o w F mk c (o v j) v j (F 1 v) m0) (hl : m0.2.1 ≤ F 1 v) (hf : m0.2.2.1 ≠ F 2 v) (hs : F 8 (o v j) ≠ F 8 v)  : gi_s6 own F mk := by
  dsimp only [gi_s6, gm_t, gi_cur, gi_NR, gi_wt, gi_open, gh_Net] at *
  try simp (decide := true) only [gh_U, gh_K, gh_A_has, gh_A_cnt, gh_A_mem, false_and, true_and, and_false, or_false, if_false, if_true, and_true]
  grind (splits := 25)
theorem tb_Sn {v j : Nat} (HSn : gi_Sn o w F) (Hn : gh_Net own o w) {c1 : Nat → Nat → List gh_M} {m0 : gh_M} (hj : own v j) (hT : ∀ k y e, gh_has k (c y e) ↔ gh_has k (c1 y e) ∨ (y = v ∧ e = j ∧ k = m0.1)) (hTc : ∀ k y e, gh_cnt k (c y e) = gh_cnt k (c1 y e) + if y = v ∧ e = j ∧ k = m0.1 then 1 else 0) (hTm : ∀ y e m, m ∈ c y e ↔ m ∈ c1 y e ∨ (y = v ∧ e = j ∧ m = m0)) (hTw : ¬ gh_has m0.1 (c1 v j)) (hk : m0.1 = 2) (hd : gm_t own o w F mk c (o v j) v j (F 1 v) m0) (hl : m0.2.1 ≤ F 1 v) (hf : m0.2.2.1 ≠ F 2 v) (hs : F 8 (o v j) ≠ F 8 v)  : gi_Sn o w F := by
  dsimp only [gi_Sn, gm_t, gi_cur, gi_NR, gi_wt, gi_open, gh_Net] at *
  try simp (decide := true) only [gh_U, gh_K, gh_A_has, gh_A_cnt, gh_A_mem, false_and, true_and, and_false, or_false, if_false, if_true, and_true]
  grind (splits := 25)
theorem tb_M {v j : Nat} (HM : gi_M own o F) (Hn : gh_Net own o w) {c1 : Nat → Nat → List gh_M} {m0 : gh_M} (hj : own v j) (hT : ∀ k y e, gh_has k (c y e) ↔ gh_has k (c1 y e) ∨ (y = v ∧ e = j ∧ k = m0.1)) (hTc : ∀ k y e, gh_cnt k (c y e) = gh_cnt k (c1 y e) + if y = v ∧ e = j ∧ k = m0.1 then 1 else 0) (hTm : ∀ y e m, m ∈ c y e ↔ m ∈ c1 y e ∨ (y = v ∧ e = j ∧ m = m0)) (hTw : ¬ gh_has m0.1 (c1 v j)) (hk : m0.1 = 2) (hd : gm_t own o w F mk c (o v j) v j (F 1 v) m0) (hl : m0.2.1 ≤ F 1 v) (hf : m0.2.2.1 ≠ F 2 v) (hs : F 8 (o v j) ≠ F 8 v)  : gi_M own o F := by
  dsimp only [gi_M, gm_t, gi_cur, gi_NR, gi_wt, gi_open, gh_Net] at *
  try simp (decide := true) only [gh_U, gh_K, gh_A_has, gh_A_cnt, gh_A_mem, false_and, true_and, and_false, or_false, if_false, if_true, and_true]
  grind (splits := 25)
theorem tb_C {v j : Nat} (HC : gi_C own o F mk) (Hn : gh_Net own o w) {c1 : Nat → Nat → List gh_M} {m0 : gh_M} (hj : own v j) (hT : ∀ k y e, gh_has k (c y e) ↔ gh_has k (c1 y e) ∨ (y = v ∧ e = j ∧ k = m0.1)) (hTc : ∀ k y e, gh_cnt k (c y e) = gh_cnt k (c1 y e) + if y = v ∧ e = j ∧ k = m0.1 then 1 else 0) (hTm : ∀ y e m, m ∈ c y e ↔ m ∈ c1 y e ∨ (y = v ∧ e = j ∧ m = m0)) (hTw : ¬ gh_has m0.1 (c1 v j)) (hk : m0.1 = 2) (hd : gm_t own o w F mk c (o v j) v j (F 1 v) m0) (hl : m0.2.1 ≤ F 1 v) (hf : m0.2.2.1 ≠ F 2 v) (hs : F 8 (o v j) ≠ F 8 v)  : gi_C own o F mk := by
  dsimp only [gi_C, gm_t, gi_cur, gi_NR, gi_wt, gi_open, gh_Net] at *
  try simp (decide := true) only [gh_U, gh_K, gh_A_has, gh_A_cnt, gh_A_mem, false_and, true_and, and_false, or_false, if_false, if_true, and_true]
  grind (splits := 25)
theorem tb_ph {v j : Nat} (Hph : gi_ph F) (Hn : gh_Net own o w) {c1 : Nat → Nat → List gh_M} {m0 : gh_M} (hj : own v j) (hT : ∀ k y e, gh_has k (c y e) ↔ gh_has k (c1 y e) ∨ (y = v ∧ e = j ∧ k = m0.1)) (hTc : ∀ k y e, gh_cnt k (c y e) = gh_cnt k (c1 y e) + if y = v ∧ e = j ∧ k = m0.1 then 1 else 0) (hTm : ∀ y e m, m ∈ c y e ↔ m ∈ c1 y e ∨ (y = v ∧ e = j ∧ m = m0)) (hTw : ¬ gh_has m0.1 (c1 v j)) (hk : m0.1 = 2) (hd : gm_t own o w F mk c (o v j) v j (F 1 v) m0) (hl : m0.2.1 ≤ F 1 v) (hf : m0.2.2.1 ≠ F 2 v) (hs : F 8 (o v j) ≠ F 8 v)  : gi_ph F := by
  dsimp only [gi_ph, gm_t, gi_cur, gi_NR, gi_wt, gi_open, gh_Net] at *
  try simp (decide := true) only [gh_U, gh_K, gh_A_has, gh_A_cnt, gh_A_mem, false_and, true_and, and_false, or_false, if_false, if_true, and_true]
  grind (splits := 25)
theorem tb_6 {v j : Nat} (H6 : gi_6 o F c) (Hn : gh_Net own o w) {c1 : Nat → Nat → List gh_M} {m0 : gh_M} (hj : own v j) (hT : ∀ k y e, gh_has k (c y e) ↔ gh_has k (c1 y e) ∨ (y = v ∧ e = j ∧ k = m0.1)) (hTc : ∀ k y e, gh_cnt k (c y e) = gh_cnt k (c1 y e) + if y = v ∧ e = j ∧ k = m0.1 then 1 else 0) (hTm : ∀ y e m, m ∈ c y e ↔ m ∈ c1 y e ∨ (y = v ∧ e = j ∧ m = m0)) (hTw : ¬ gh_has m0.1 (c1 v j)) (hk : m0.1 = 2) (hd : gm_t own o w F mk c (o v j) v j (F 1 v) m0) (hl : m0.2.1 ≤ F 1 v) (hf : m0.2.2.1 ≠ F 2 v) (hs : F 8 (o v j) ≠ F 8 v)  : gi_6 o F (gh_A c1 (o v j) j (3, 0, 0, 0)) := by
  dsimp only [gi_6, gm_t, gi_cur, gi_NR, gi_wt, gi_open, gh_Net] at *
  try simp (decide := true) only [gh_U, gh_K, gh_A_has, gh_A_cnt, gh_A_mem, false_and, true_and, and_false, or_false, if_false, if_true, and_true]
  grind (splits := 25)
theorem tb_7 {v j : Nat} (H7 : gi_7 o F) (Hn : gh_Net own o w) {c1 : Nat → Nat → List gh_M} {m0 : gh_M} (hj : own v j) (hT : ∀ k y e, gh_has k (c y e) ↔ gh_has k (c1 y e) ∨ (y = v ∧ e = j ∧ k = m0.1)) (hTc : ∀ k y e, gh_cnt k (c y e) = gh_cnt k (c1 y e) + if y = v ∧ e = j ∧ k = m0.1 then 1 else 0) (hTm : ∀ y e m, m ∈ c y e ↔ m ∈ c1 y e ∨ (y = v ∧ e = j ∧ m = m0)) (hTw : ¬ gh_has m0.1 (c1 v j)) (hk : m0.1 = 2) (hd : gm_t own o w F mk c (o v j) v j (F 1 v) m0) (hl : m0.2.1 ≤ F 1 v) (hf : m0.2.2.1 ≠ F 2 v) (hs : F 8 (o v j) ≠ F 8 v)  : gi_7 o F := by
  dsimp only [gi_7, gm_t, gi_cur, gi_NR, gi_wt, gi_open, gh_Net] at *
  try simp (decide := true) only [gh_U, gh_K, gh_A_has, gh_A_cnt, gh_A_mem, false_and, true_and, and_false, or_false, if_false, if_true, and_true]
  grind (splits := 25)
theorem tb_bc {v j : Nat} (Hbc : gi_bc o F mk c) (Hn : gh_Net own o w) {c1 : Nat → Nat → List gh_M} {m0 : gh_M} (hj : own v j) (hT : ∀ k y e, gh_has k (c y e) ↔ gh_has k (c1 y e) ∨ (y = v ∧ e = j ∧ k = m0.1)) (hTc : ∀ k y e, gh_cnt k (c y e) = gh_cnt k (c1 y e) + if y = v ∧ e = j ∧ k = m0.1 then 1 else 0) (hTm : ∀ y e m, m ∈ c y e ↔ m ∈ c1 y e ∨ (y = v ∧ e = j ∧ m = m0)) (hTw : ¬ gh_has m0.1 (c1 v j)) (hk : m0.1 = 2) (hd : gm_t own o w F mk c (o v j) v j (F 1 v) m0) (hl : m0.2.1 ≤ F 1 v) (hf : m0.2.2.1 ≠ F 2 v) (hs : F 8 (o v j) ≠ F 8 v)  : gi_bc o F mk (gh_A c1 (o v j) j (3, 0, 0, 0)) := by
  dsimp only [gi_bc, gm_t, gi_cur, gi_NR, gi_wt, gi_open, gh_Net] at *
  try simp (decide := true) only [gh_U, gh_K, gh_A_has, gh_A_cnt, gh_A_mem, false_and, true_and, and_false, or_false, if_false, if_true, and_true]
  grind (splits := 25)
theorem tb_K {v j : Nat} (HK : gi_K own o F mk c) (Hn : gh_Net own o w) {c1 : Nat → Nat → List gh_M} {m0 : gh_M} (hj : own v j) (hT : ∀ k y e, gh_has k (c y e) ↔ gh_has k (c1 y e) ∨ (y = v ∧ e = j ∧ k = m0.1)) (hTc : ∀ k y e, gh_cnt k (c y e) = gh_cnt k (c1 y e) + if y = v ∧ e = j ∧ k = m0.1 then 1 else 0) (hTm : ∀ y e m, m ∈ c y e ↔ m ∈ c1 y e ∨ (y = v ∧ e = j ∧ m = m0)) (hTw : ¬ gh_has m0.1 (c1 v j)) (hk : m0.1 = 2) (hd : gm_t own o w F mk c (o v j) v j (F 1 v) m0) (hl : m0.2.1 ≤ F 1 v) (hf : m0.2.2.1 ≠ F 2 v) (hs : F 8 (o v j) ≠ F 8 v)  : gi_K own o F mk (gh_A c1 (o v j) j (3, 0, 0, 0)) := by
  dsimp only [gi_K, gm_t, gi_cur, gi_NR, gi_wt, gi_open, gh_Net] at *
  try simp (decide := true) only [gh_U, gh_K, gh_A_has, gh_A_cnt, gh_A_mem, false_and, true_and, and_false, or_false, if_false, if_true, and_true]
  grind (splits := 25)
theorem tb_rj {v j : Nat} (Hrj : gi_rj own o F mk) (Hn : gh_Net own o w) {c1 : Nat → Nat → List gh_M} {m0 : gh_M} (hj : own v j) (hT : ∀ k y e, gh_has k (c y e) ↔ gh_has k (c1 y e) ∨ (y = v ∧ e = j ∧ k = m0.1)) (hTc : ∀ k y e, gh_cnt k (c y e) = gh_cnt k (c1 y e) + if y = v ∧ e = j ∧ k = m0.1 then 1 else 0) (hTm : ∀ y e m, m ∈ c y e ↔ m ∈ c1 y e ∨ (y = v ∧ e = j ∧ m = m0)) (hTw : ¬ gh_has m0.1 (c1 v j)) (hk : m0.1 = 2) (hd : gm_t own o w F mk c (o v j) v j (F 1 v) m0) (hl : m0.2.1 ≤ F 1 v) (hf : m0.2.2.1 ≠ F 2 v) (hs : F 8 (o v j) ≠ F 8 v)  : gi_rj own o F mk := by
  dsimp only [gi_rj, gm_t, gi_cur, gi_NR, gi_wt, gi_open, gh_Net] at *
  try simp (decide := true) only [gh_U, gh_K, gh_A_has, gh_A_cnt, gh_A_mem, false_and, true_and, and_false, or_false, if_false, if_true, and_true]
  grind (splits := 25)
theorem tb_sz {v j : Nat} (Hsz : gi_sz F) (Hn : gh_Net own o w) {c1 : Nat → Nat → List gh_M} {m0 : gh_M} (hj : own v j) (hT : ∀ k y e, gh_has k (c y e) ↔ gh_has k (c1 y e) ∨ (y = v ∧ e = j ∧ k = m0.1)) (hTc : ∀ k y e, gh_cnt k (c y e) = gh_cnt k (c1 y e) + if y = v ∧ e = j ∧ k = m0.1 then 1 else 0) (hTm : ∀ y e m, m ∈ c y e ↔ m ∈ c1 y e ∨ (y = v ∧ e = j ∧ m = m0)) (hTw : ¬ gh_has m0.1 (c1 v j)) (hk : m0.1 = 2) (hd : gm_t own o w F mk c (o v j) v j (F 1 v) m0) (hl : m0.2.1 ≤ F 1 v) (hf : m0.2.2.1 ≠ F 2 v) (hs : F 8 (o v j) ≠ F 8 v)  : gi_sz F := by
  dsimp only [gi_sz, gm_t, gi_cur, gi_NR, gi_wt, gi_open, gh_Net] at *
  try simp (decide := true) only [gh_U, gh_K, gh_A_has, gh_A_cnt, gh_A_mem, false_and, true_and, and_false, or_false, if_false, if_true, and_true]
  grind (splits := 25)
theorem tb_mi {v j : Nat} (Hn : gh_Net own o w) (Htw : gi_tw own c) (Hts : gi_ts own o F c) {c1 : Nat → Nat → List gh_M} {m0 : gh_M} (hj : own v j) (hT : ∀ k y e, gh_has k (c y e) ↔ gh_has k (c1 y e) ∨ (y = v ∧ e = j ∧ k = m0.1)) (hTc : ∀ k y e, gh_cnt k (c y e) = gh_cnt k (c1 y e) + if y = v ∧ e = j ∧ k = m0.1 then 1 else 0) (hTm : ∀ y e m, m ∈ c y e ↔ m ∈ c1 y e ∨ (y = v ∧ e = j ∧ m = m0)) (hTw : ¬ gh_has m0.1 (c1 v j)) (hk : m0.1 = 2) (hd : gm_t own o w F mk c (o v j) v j (F 1 v) m0) (hl : m0.2.1 ≤ F 1 v) (hf : m0.2.2.1 ≠ F 2 v) (hs : F 8 (o v j) ≠ F 8 v)  {x y e a : Nat} {m : gh_M} (hx : o y e = x) (hy : own y e) (hm : m ∈ c1 y e) (ha : F 1 y ≤ a) (hb : ¬ gh_has 1 (c y e) → a = F 1 y)  (h : gm_i own o w F mk c x y e a m) : gm_i own o w F mk (gh_A c1 (o v j) j (3, 0, 0, 0)) x y e a m := by
  have hh : ∀ k, m.1 = k → gh_has k (c1 y e) := fun k hk => ⟨m, hm, hk⟩
  dsimp only [gi_tw, gi_ts, gm_t, gm_i, gi_cur, gi_NR, gi_wt, gi_open, gh_Net] at *
  try simp (decide := true) only [gh_U, gh_K, gh_A_has, gh_A_cnt, gh_A_mem, false_and, true_and, and_false, or_false, if_false, if_true, and_true]
  grind (splits := 25)
theorem tb_mc {v j : Nat} (Hn : gh_Net own o w) (Htw : gi_tw own c) (Hts : gi_ts own o F c) {c1 : Nat → Nat → List gh_M} {m0 : gh_M} (hj : own v j) (hT : ∀ k y e, gh_has k (c y e) ↔ gh_has k (c1 y e) ∨ (y = v ∧ e = j ∧ k = m0.1)) (hTc : ∀ k y e, gh_cnt k (c y e) = gh_cnt k (c1 y e) + if y = v ∧ e = j ∧ k = m0.1 then 1 else 0) (hTm : ∀ y e m, m ∈ c y e ↔ m ∈ c1 y e ∨ (y = v ∧ e = j ∧ m = m0)) (hTw : ¬ gh_has m0.1 (c1 v j)) (hk : m0.1 = 2) (hd : gm_t own o w F mk c (o v j) v j (F 1 v) m0) (hl : m0.2.1 ≤ F 1 v) (hf : m0.2.2.1 ≠ F 2 v) (hs : F 8 (o v j) ≠ F 8 v)  {x y e a : Nat} {m : gh_M} (hx : o y e = x) (hy : own y e) (hm : m ∈ c1 y e) (ha : F 1 y ≤ a) (hb : ¬ gh_has 1 (c y e) → a = F 1 y)  (h : gm_c own o w F mk c x y e a m) : gm_c own o w F mk (gh_A c1 (o v j) j (3, 0, 0, 0)) x y e a m := by
  have hh : ∀ k, m.1 = k → gh_has k (c1 y e) := fun k hk => ⟨m, hm, hk⟩
  dsimp only [gi_tw, gi_ts, gm_t, gm_c, gi_cur, gi_NR, gi_wt, gi_open, gh_Net] at *
  try simp (decide := true) only [gh_U, gh_K, gh_A_has, gh_A_cnt, gh_A_mem, false_and, true_and, and_false, or_false, if_false, if_true, and_true]
  grind (splits := 25)
theorem tb_mt {v j : Nat} (Hn : gh_Net own o w) (Htw : gi_tw own c) (Hts : gi_ts own o F c) {c1 : Nat → Nat → List gh_M} {m0 : gh_M} (hj : own v j) (hT : ∀ k y e, gh_has k (c y e) ↔ gh_has k (c1 y e) ∨ (y = v ∧ e = j ∧ k = m0.1)) (hTc : ∀ k y e, gh_cnt k (c y e) = gh_cnt k (c1 y e) + if y = v ∧ e = j ∧ k = m0.1 then 1 else 0) (hTm : ∀ y e m, m ∈ c y e ↔ m ∈ c1 y e ∨ (y = v ∧ e = j ∧ m = m0)) (hTw : ¬ gh_has m0.1 (c1 v j)) (hk : m0.1 = 2) (hd : gm_t own o w F mk c (o v j) v j (F 1 v) m0) (hl : m0.2.1 ≤ F 1 v) (hf : m0.2.2.1 ≠ F 2 v) (hs : F 8 (o v j) ≠ F 8 v)  {x y e a : Nat} {m : gh_M} (hx : o y e = x) (hy : own y e) (hm : m ∈ c1 y e) (ha : F 1 y ≤ a) (hb : ¬ gh_has 1 (c y e) → a = F 1 y)  (h : gm_t own o w F mk c x y e a m) : gm_t own o w F mk (gh_A c1 (o v j) j (3, 0, 0, 0)) x y e a m := by
  have hh : ∀ k, m.1 = k → gh_has k (c1 y e) := fun k hk => ⟨m, hm, hk⟩
  dsimp only [gi_tw, gi_ts, gm_t, gi_cur, gi_NR, gi_wt, gi_open, gh_Net] at *
  try simp (decide := true) only [gh_U, gh_K, gh_A_has, gh_A_cnt, gh_A_mem, false_and, true_and, and_false, or_false, if_false, if_true, and_true]
  grind (splits := 25)
theorem tb_ma {v j : Nat} (Hn : gh_Net own o w) (Htw : gi_tw own c) (Hts : gi_ts own o F c) {c1 : Nat → Nat → List gh_M} {m0 : gh_M} (hj : own v j) (hT : ∀ k y e, gh_has k (c y e) ↔ gh_has k (c1 y e) ∨ (y = v ∧ e = j ∧ k = m0.1)) (hTc : ∀ k y e, gh_cnt k (c y e) = gh_cnt k (c1 y e) + if y = v ∧ e = j ∧ k = m0.1 then 1 else 0) (hTm : ∀ y e m, m ∈ c y e ↔ m ∈ c1 y e ∨ (y = v ∧ e = j ∧ m = m0)) (hTw : ¬ gh_has m0.1 (c1 v j)) (hk : m0.1 = 2) (hd : gm_t own o w F mk c (o v j) v j (F 1 v) m0) (hl : m0.2.1 ≤ F 1 v) (hf : m0.2.2.1 ≠ F 2 v) (hs : F 8 (o v j) ≠ F 8 v)  {x y e a : Nat} {m : gh_M} (hx : o y e = x) (hy : own y e) (hm : m ∈ c1 y e) (ha : F 1 y ≤ a) (hb : ¬ gh_has 1 (c y e) → a = F 1 y)  (h : gm_a own o w F mk c x y e a m) : gm_a own o w F mk (gh_A c1 (o v j) j (3, 0, 0, 0)) x y e a m := by
  have hh : ∀ k, m.1 = k → gh_has k (c1 y e) := fun k hk => ⟨m, hm, hk⟩
  dsimp only [gi_tw, gi_ts, gm_t, gm_a, gi_cur, gi_NR, gi_wt, gi_open, gh_Net] at *
  try simp (decide := true) only [gh_U, gh_K, gh_A_has, gh_A_cnt, gh_A_mem, false_and, true_and, and_false, or_false, if_false, if_true, and_true]
  grind (splits := 25)
theorem tb_mr {v j : Nat} (Hn : gh_Net own o w) (Htw : gi_tw own c) (Hts : gi_ts own o F c) {c1 : Nat → Nat → List gh_M} {m0 : gh_M} (hj : own v j) (hT : ∀ k y e, gh_has k (c y e) ↔ gh_has k (c1 y e) ∨ (y = v ∧ e = j ∧ k = m0.1)) (hTc : ∀ k y e, gh_cnt k (c y e) = gh_cnt k (c1 y e) + if y = v ∧ e = j ∧ k = m0.1 then 1 else 0) (hTm : ∀ y e m, m ∈ c y e ↔ m ∈ c1 y e ∨ (y = v ∧ e = j ∧ m = m0)) (hTw : ¬ gh_has m0.1 (c1 v j)) (hk : m0.1 = 2) (hd : gm_t own o w F mk c (o v j) v j (F 1 v) m0) (hl : m0.2.1 ≤ F 1 v) (hf : m0.2.2.1 ≠ F 2 v) (hs : F 8 (o v j) ≠ F 8 v)  {x y e a : Nat} {m : gh_M} (hx : o y e = x) (hy : own y e) (hm : m ∈ c1 y e) (ha : F 1 y ≤ a) (hb : ¬ gh_has 1 (c y e) → a = F 1 y)  (h : gm_r own o w F mk c x y e a m) : gm_r own o w F mk (gh_A c1 (o v j) j (3, 0, 0, 0)) x y e a m := by
  have hh : ∀ k, m.1 = k → gh_has k (c1 y e) := fun k hk => ⟨m, hm, hk⟩
  dsimp only [gi_tw, gi_ts, gm_t, gm_r, gi_cur, gi_NR, gi_wt, gi_open, gh_Net] at *
  try simp (decide := true) only [gh_U, gh_K, gh_A_has, gh_A_cnt, gh_A_mem, false_and, true_and, and_false, or_false, if_false, if_true, and_true]
  grind (splits := 25)
theorem tb_mk {v j : Nat} (Hn : gh_Net own o w) (Htw : gi_tw own c) (Hts : gi_ts own o F c) {c1 : Nat → Nat → List gh_M} {m0 : gh_M} (hj : own v j) (hT : ∀ k y e, gh_has k (c y e) ↔ gh_has k (c1 y e) ∨ (y = v ∧ e = j ∧ k = m0.1)) (hTc : ∀ k y e, gh_cnt k (c y e) = gh_cnt k (c1 y e) + if y = v ∧ e = j ∧ k = m0.1 then 1 else 0) (hTm : ∀ y e m, m ∈ c y e ↔ m ∈ c1 y e ∨ (y = v ∧ e = j ∧ m = m0)) (hTw : ¬ gh_has m0.1 (c1 v j)) (hk : m0.1 = 2) (hd : gm_t own o w F mk c (o v j) v j (F 1 v) m0) (hl : m0.2.1 ≤ F 1 v) (hf : m0.2.2.1 ≠ F 2 v) (hs : F 8 (o v j) ≠ F 8 v)  {x y e a : Nat} {m : gh_M} (hx : o y e = x) (hy : own y e) (hm : m ∈ c1 y e) (ha : F 1 y ≤ a) (hb : ¬ gh_has 1 (c y e) → a = F 1 y)  (h : gm_k own o w F mk c x y e a m) : gm_k own o w F mk (gh_A c1 (o v j) j (3, 0, 0, 0)) x y e a m := by
  have hh : ∀ k, m.1 = k → gh_has k (c1 y e) := fun k hk => ⟨m, hm, hk⟩
  dsimp only [gi_tw, gi_ts, gm_t, gm_k, gi_cur, gi_NR, gi_wt, gi_open, gh_Net] at *
  try simp (decide := true) only [gh_U, gh_K, gh_A_has, gh_A_cnt, gh_A_mem, false_and, true_and, and_false, or_false, if_false, if_true, and_true]
  grind (splits := 25)
theorem tb_mp {v j : Nat} (Hn : gh_Net own o w) (Htw : gi_tw own c) (Hts : gi_ts own o F c) {c1 : Nat → Nat → List gh_M} {m0 : gh_M} (hj : own v j) (hT : ∀ k y e, gh_has k (c y e) ↔ gh_has k (c1 y e) ∨ (y = v ∧ e = j ∧ k = m0.1)) (hTc : ∀ k y e, gh_cnt k (c y e) = gh_cnt k (c1 y e) + if y = v ∧ e = j ∧ k = m0.1 then 1 else 0) (hTm : ∀ y e m, m ∈ c y e ↔ m ∈ c1 y e ∨ (y = v ∧ e = j ∧ m = m0)) (hTw : ¬ gh_has m0.1 (c1 v j)) (hk : m0.1 = 2) (hd : gm_t own o w F mk c (o v j) v j (F 1 v) m0) (hl : m0.2.1 ≤ F 1 v) (hf : m0.2.2.1 ≠ F 2 v) (hs : F 8 (o v j) ≠ F 8 v)  {x y e a : Nat} {m : gh_M} (hx : o y e = x) (hy : own y e) (hm : m ∈ c1 y e) (ha : F 1 y ≤ a) (hb : ¬ gh_has 1 (c y e) → a = F 1 y)  (h : gm_p own o w F mk c x y e a m) : gm_p own o w F mk (gh_A c1 (o v j) j (3, 0, 0, 0)) x y e a m := by
  have hh : ∀ k, m.1 = k → gh_has k (c1 y e) := fun k hk => ⟨m, hm, hk⟩
  dsimp only [gi_tw, gi_ts, gm_t, gm_p, gi_cur, gi_NR, gi_wt, gi_open, gh_Net] at *
  try simp (decide := true) only [gh_U, gh_K, gh_A_has, gh_A_cnt, gh_A_mem, false_and, true_and, and_false, or_false, if_false, if_true, and_true]
  grind (splits := 25)
theorem tb_new {v j : Nat} (Hn : gh_Net own o w) {c1 : Nat → Nat → List gh_M} {m0 : gh_M} (hj : own v j) (hT : ∀ k y e, gh_has k (c y e) ↔ gh_has k (c1 y e) ∨ (y = v ∧ e = j ∧ k = m0.1)) (hTc : ∀ k y e, gh_cnt k (c y e) = gh_cnt k (c1 y e) + if y = v ∧ e = j ∧ k = m0.1 then 1 else 0) (hTm : ∀ y e m, m ∈ c y e ↔ m ∈ c1 y e ∨ (y = v ∧ e = j ∧ m = m0)) (hTw : ¬ gh_has m0.1 (c1 v j)) (hk : m0.1 = 2) (hd : gm_t own o w F mk c (o v j) v j (F 1 v) m0) (hl : m0.2.1 ≤ F 1 v) (hf : m0.2.2.1 ≠ F 2 v) (hs : F 8 (o v j) ≠ F 8 v)   : gm_a own o w F mk (gh_A c1 (o v j) j (3, 0, 0, 0)) (o (o v j) (j)) (o v j) (j) (gh_last (F 1 (o v j)) (c1 (o v j) j)) (3, 0, 0, 0) := by
  dsimp only [gm_t, gm_a, gi_cur, gi_NR, gi_wt, gi_open, gh_Net] at *
  try simp (decide := true) only [gh_U, gh_K, gh_A_has, gh_A_cnt, gh_A_mem, false_and, true_and, and_false, or_false, if_false, if_true, and_true]
  grind (splits := 30)
theorem tb_I {v j : Nat} (Hn : gh_Net own o w) (h : gI own o w F mk c) {m0 : gh_M} {t : List gh_M} (hj : own v j) (hc : c v j = m0 :: t) (hk : m0.1 = 2) (hl : m0.2.1 ≤ F 1 v) (hf : m0.2.2.1 ≠ F 2 v)  : gI own o w F mk (gh_A (gh_T c v j) (o v j) j (3, 0, 0, 0)) := by
  obtain ⟨Hst, Hb1, Hb2, Hb3, Hb4, Hb5, Hb6, Hs0, HpA, Hs1, Hs2, HSl, Hs3, Hs4, How, Hs5, Hs6, HSr, HSn, HM, HC, Hph, H6, H7, Hbc, HK, Hrj, Htw, Hts, Han, Hsz, Hch⟩ := h
  have Xi := gx_iI Hch
  have Xc := gx_cI Hch
  have Xt := gx_tI Hch
  have Xa := gx_aI Hch
  have Xr := gx_rI Hch
  have Xk := gx_kI Hch
  have Xp := gx_pI Hch
  have Xl := gx_lI Hch
  have Xb := gx_bI Hch
  have Xn := gx_nI Hn Hph HpA HSr HSn HM HC
  have hT := gp_T hc
  have hTc := gp_C hc
  have hTm := gp_M hc
  have hTw := gp_W hc Htw hj (by omega)
  have hd0 := gi_hd Hch hj hc
  have hd := hd0.2.2.2.1
  have hs : F 8 (o v j) ≠ F 8 v := by
    have a0 := hd hk
    have a2 := Hs2 (o v j)
    have a3 := Hs2 v
    have a4 := Hb3 (o v j)
    have a7 := HSl (o v j)
    have a8 := HSl v
    have a9 := Hb3 v
    have a10 := Hb1 v
    unfold gi_wt gi_cur at *
    grind
  refine ⟨tb_st (c1 := gh_T c v j) Hst Hn hj hT hTc hTm hTw hk hd hl hf hs, tb_b1 (c1 := gh_T c v j) Hb1 Hn hj hT hTc hTm hTw hk hd hl hf hs, tb_b2 (c1 := gh_T c v j) Hb2 Hn hj hT hTc hTm hTw hk hd hl hf hs, tb_b3 (c1 := gh_T c v j) Hb3 Hn hj hT hTc hTm hTw hk hd hl hf hs, tb_b4 (c1 := gh_T c v j) Hb4 Hn hj hT hTc hTm hTw hk hd hl hf hs, tb_b5 (c1 := gh_T c v j) Hb5 Hn hj hT hTc hTm hTw hk hd hl hf hs, tb_b6 (c1 := gh_T c v j) Hb6 Hn hj hT hTc hTm hTw hk hd hl hf hs, tb_s0 (c1 := gh_T c v j) Hs0 Hn hj hT hTc hTm hTw hk hd hl hf hs, tb_pA (c1 := gh_T c v j) HpA Hn hj hT hTc hTm hTw hk hd hl hf hs, tb_s1 (c1 := gh_T c v j) Hs1 Hn hj hT hTc hTm hTw hk hd hl hf hs, tb_s2 (c1 := gh_T c v j) Hs2 Hn hj hT hTc hTm hTw hk hd hl hf hs, tb_Sl (c1 := gh_T c v j) HSl Hn hj hT hTc hTm hTw hk hd hl hf hs, tb_s3 (c1 := gh_T c v j) Hs3 Hn hj hT hTc hTm hTw hk hd hl hf hs, tb_s4 (c1 := gh_T c v j) Hs4 Hn hj hT hTc hTm hTw hk hd hl hf hs, tb_ow (c1 := gh_T c v j) How Hn hj hT hTc hTm hTw hk hd hl hf hs, tb_s5 (c1 := gh_T c v j) Hs5 Hn hj hT hTc hTm hTw hk hd hl hf hs, tb_s6 (c1 := gh_T c v j) Hs6 Hn hj hT hTc hTm hTw hk hd hl hf hs, tb_Sr (c1 := gh_T c v j) HSr hj hT hTc hTm hTw hk hd hl hf hs, tb_Sn (c1 := gh_T c v j) HSn Hn hj hT hTc hTm hTw hk hd hl hf hs, tb_M (c1 := gh_T c v j) HM Hn hj hT hTc hTm hTw hk hd hl hf hs, tb_C (c1 := gh_T c v j) HC Hn hj hT hTc hTm hTw hk hd hl hf hs, tb_ph (c1 := gh_T c v j) Hph Hn hj hT hTc hTm hTw hk hd hl hf hs, tb_6 (c1 := gh_T c v j) H6 Hn hj hT hTc hTm hTw hk hd hl hf hs, tb_7 (c1 := gh_T c v j) H7 Hn hj hT hTc hTm hTw hk hd hl hf hs, tb_bc (c1 := gh_T c v j) Hbc Hn hj hT hTc hTm hTw hk hd hl hf hs, tb_K (c1 := gh_T c v j) HK Hn hj hT hTc hTm hTw hk hd hl hf hs, tb_rj (c1 := gh_T c v j) Hrj Hn hj hT hTc hTm hTw hk hd hl hf hs, tb_tw (c1 := gh_T c v j) Htw Hn Xa hj hT hTc hTm hTw hk hd hl hf hs, tb_ts (c1 := gh_T c v j) Hts Hn hj hT hTc hTm hTw hk hd hl hf hs, tb_an (c1 := gh_T c v j) Han hj hT hTc hTm hTw hk hd hl hf hs, tb_sz (c1 := gh_T c v j) Hsz Hn hj hT hTc hTm hTw hk hd hl hf hs, ?_⟩
  have K1 : gi_all own F (gh_T c v j) (fun y e => gi_m own o w F mk (gh_A (gh_T c v j) (o v j) j (3, 0, 0, 0)) (o y e) y e) := gi_all_go (gi_all_popT Hch hc (by omega)) (fun y e q => (hT 1 y e).mpr (Or.inl q)) (fun y => rfl) (fun y e a m hy hm ha hb q => ⟨q.1, tb_mi Hn Htw Hts hj hT hTc hTm hTw hk hd hl hf hs rfl hy hm ha hb q.2.1, tb_mc Hn Htw Hts hj hT hTc hTm hTw hk hd hl hf hs rfl hy hm ha hb q.2.2.1, tb_mt Hn Htw Hts hj hT hTc hTm hTw hk hd hl hf hs rfl hy hm ha hb q.2.2.2.1, tb_ma Hn Htw Hts hj hT hTc hTm hTw hk hd hl hf hs rfl hy hm ha hb q.2.2.2.2.1, tb_mr Hn Htw Hts hj hT hTc hTm hTw hk hd hl hf hs rfl hy hm ha hb q.2.2.2.2.2.1, tb_mk Hn Htw Hts hj hT hTc hTm hTw hk hd hl hf hs rfl hy hm ha hb q.2.2.2.2.2.2.1, tb_mp Hn Htw Hts hj hT hTc hTm hTw hk hd hl hf hs rfl hy hm ha hb q.2.2.2.2.2.2.2⟩)
  exact gi_all_appA K1 (fun hy => ⟨by simp, fun z => absurd z (by simp), fun z => absurd z (by simp), fun z => absurd z (by simp), tb_new Hn hj hT hTc hTm hTw hk hd hl hf hs , fun z => absurd z (by simp), fun z => absurd z (by simp), fun z => absurd z (by simp)⟩)
end
section
variable {own : Nat → Nat → Prop} {o : Nat → Nat → Nat} {w : Nat → Nat} {F : gh_F} {mk : Nat → Nat → Nat} {c : Nat → Nat → List gh_M}
theorem tc_tw {v j : Nat} (Htw : gi_tw own c) (Hn : gh_Net own o w) (Xr : gx_r own o w F mk c) {c1 : Nat → Nat → List gh_M} {m0 : gh_M} (hj : own v j) (hT : ∀ k y e, gh_has k (c y e) ↔ gh_has k (c1 y e) ∨ (y = v ∧ e = j ∧ k = m0.1)) (hTc : ∀ k y e, gh_cnt k (c y e) = gh_cnt k (c1 y e) + if y = v ∧ e = j ∧ k = m0.1 then 1 else 0) (hTm : ∀ y e m, m ∈ c y e ↔ m ∈ c1 y e ∨ (y = v ∧ e = j ∧ m = m0)) (hTw : ¬ gh_has m0.1 (c1 v j)) (hk : m0.1 = 2) (hd : gm_t own o w F mk c (o v j) v j (F 1 v) m0) (hl : m0.2.1 ≤ F 1 v) (hf : m0.2.2.1 = F 2 v) (hs : F 8 (o v j) = F 8 v) (h7 : F 7 v ≠ j) {mk9 : Nat → Nat → Nat} (hM1 : ∀ x e, mk9 x e = 1 ↔ mk x e = 1) (hM2 : ∀ x e, ¬ (x = v ∧ e = j) → mk9 x e = mk x e) (hM3 : mk9 v j ≠ 0) (hM4 : (mk v j = 0 ∧ mk9 v j = 2) ∨ mk9 v j = mk v j)  : gi_tw own (gh_A c1 (o v j) j (4, 0, 0, 0)) := by
  dsimp only [gi_tw, gx_r, gm_t, gi_cur, gi_NR, gi_wt, gi_open, gh_Net] at *
  try simp (decide := true) only [gh_U, gh_K, gh_A_has, gh_A_cnt, gh_A_mem, false_and, true_and, and_false, or_false, if_false, if_true, and_true]
  grind (splits := 25) [gh_cnt_0]
theorem tc_ts {v j : Nat} (Hts : gi_ts own o F c) (Hn : gh_Net own o w) {c1 : Nat → Nat → List gh_M} {m0 : gh_M} (hj : own v j) (hT : ∀ k y e, gh_has k (c y e) ↔ gh_has k (c1 y e) ∨ (y = v ∧ e = j ∧ k = m0.1)) (hTc : ∀ k y e, gh_cnt k (c y e) = gh_cnt k (c1 y e) + if y = v ∧ e = j ∧ k = m0.1 then 1 else 0) (hTm : ∀ y e m, m ∈ c y e ↔ m ∈ c1 y e ∨ (y = v ∧ e = j ∧ m = m0)) (hTw : ¬ gh_has m0.1 (c1 v j)) (hk : m0.1 = 2) (hd : gm_t own o w F mk c (o v j) v j (F 1 v) m0) (hl : m0.2.1 ≤ F 1 v) (hf : m0.2.2.1 = F 2 v) (hs : F 8 (o v j) = F 8 v) (h7 : F 7 v ≠ j) {mk9 : Nat → Nat → Nat} (hM1 : ∀ x e, mk9 x e = 1 ↔ mk x e = 1) (hM2 : ∀ x e, ¬ (x = v ∧ e = j) → mk9 x e = mk x e) (hM3 : mk9 v j ≠ 0) (hM4 : (mk v j = 0 ∧ mk9 v j = 2) ∨ mk9 v j = mk v j)  : gi_ts own o F (gh_A c1 (o v j) j (4, 0, 0, 0)) := by
  dsimp only [gi_ts, gm_t, gi_cur, gi_NR, gi_wt, gi_open, gh_Net] at *
  try simp (decide := true) only [gh_U, gh_K, gh_A_has, gh_A_cnt, gh_A_mem, false_and, true_and, and_false, or_false, if_false, if_true, and_true]
  grind (splits := 25)
theorem tc_pA {v j : Nat} (HpA : gi_pA own F mk) (Hs2 : gi_s2 F) (Hn : gh_Net own o w) {c1 : Nat → Nat → List gh_M} {m0 : gh_M} (hj : own v j) (hT : ∀ k y e, gh_has k (c y e) ↔ gh_has k (c1 y e) ∨ (y = v ∧ e = j ∧ k = m0.1)) (hTc : ∀ k y e, gh_cnt k (c y e) = gh_cnt k (c1 y e) + if y = v ∧ e = j ∧ k = m0.1 then 1 else 0) (hTm : ∀ y e m, m ∈ c y e ↔ m ∈ c1 y e ∨ (y = v ∧ e = j ∧ m = m0)) (hTw : ¬ gh_has m0.1 (c1 v j)) (hk : m0.1 = 2) (hd : gm_t own o w F mk c (o v j) v j (F 1 v) m0) (hl : m0.2.1 ≤ F 1 v) (hf : m0.2.2.1 = F 2 v) (hs : F 8 (o v j) = F 8 v) (h7 : F 7 v ≠ j) {mk9 : Nat → Nat → Nat} (hM1 : ∀ x e, mk9 x e = 1 ↔ mk x e = 1) (hM2 : ∀ x e, ¬ (x = v ∧ e = j) → mk9 x e = mk x e) (hM3 : mk9 v j ≠ 0) (hM4 : (mk v j = 0 ∧ mk9 v j = 2) ∨ mk9 v j = mk v j)  : gi_pA own F mk9 := by
  dsimp only [gi_pA, gi_s2, gm_t, gi_cur, gi_NR, gi_wt, gi_open, gh_Net] at *
  try simp (decide := true) only [gh_U, gh_K, gh_A_has, gh_A_cnt, gh_A_mem, false_and, true_and, and_false, or_false, if_false, if_true, and_true]
  grind (splits := 25)
theorem tc_s6 {v j : Nat} (Hs6 : gi_s6 own F mk) (Hn : gh_Net own o w) {c1 : Nat → Nat → List gh_M} {m0 : gh_M} (hj : own v j) (hT : ∀ k y e, gh_has k (c y e) ↔ gh_has k (c1 y e) ∨ (y = v ∧ e = j ∧ k = m0.1)) (hTc : ∀ k y e, gh_cnt k (c y e) = gh_cnt k (c1 y e) + if y = v ∧ e = j ∧ k = m0.1 then 1 else 0) (hTm : ∀ y e m, m ∈ c y e ↔ m ∈ c1 y e ∨ (y = v ∧ e = j ∧ m = m0)) (hTw : ¬ gh_has m0.1 (c1 v j)) (hk : m0.1 = 2) (hd : gm_t own o w F mk c (o v j) v j (F 1 v) m0) (hl : m0.2.1 ≤ F 1 v) (hf : m0.2.2.1 = F 2 v) (hs : F 8 (o v j) = F 8 v) (h7 : F 7 v ≠ j) {mk9 : Nat → Nat → Nat} (hM1 : ∀ x e, mk9 x e = 1 ↔ mk x e = 1) (hM2 : ∀ x e, ¬ (x = v ∧ e = j) → mk9 x e = mk x e) (hM3 : mk9 v j ≠ 0) (hM4 : (mk v j = 0 ∧ mk9 v j = 2) ∨ mk9 v j = mk v j)  : gi_s6 own F mk9 := by
  dsimp only [gi_s6, gm_t, gi_cur, gi_NR, gi_wt, gi_open, gh_Net] at *
  try simp (decide := true) only [gh_U, gh_K, gh_A_has, gh_A_cnt, gh_A_mem, false_and, true_and, and_false, or_false, if_false, if_true, and_true]
  grind (splits := 25)
theorem tc_rj {v j : Nat} (Hrj : gi_rj own o F mk) (Hn : gh_Net own o w) {c1 : Nat → Nat → List gh_M} {m0 : gh_M} (hj : own v j) (hT : ∀ k y e, gh_has k (c y e) ↔ gh_has k (c1 y e) ∨ (y = v ∧ e = j ∧ k = m0.1)) (hTc : ∀ k y e, gh_cnt k (c y e) = gh_cnt k (c1 y e) + if y = v ∧ e = j ∧ k = m0.1 then 1 else 0) (hTm : ∀ y e m, m ∈ c y e ↔ m ∈ c1 y e ∨ (y = v ∧ e = j ∧ m = m0)) (hTw : ¬ gh_has m0.1 (c1 v j)) (hk : m0.1 = 2) (hd : gm_t own o w F mk c (o v j) v j (F 1 v) m0) (hl : m0.2.1 ≤ F 1 v) (hf : m0.2.2.1 = F 2 v) (hs : F 8 (o v j) = F 8 v) (h7 : F 7 v ≠ j) {mk9 : Nat → Nat → Nat} (hM1 : ∀ x e, mk9 x e = 1 ↔ mk x e = 1) (hM2 : ∀ x e, ¬ (x = v ∧ e = j) → mk9 x e = mk x e) (hM3 : mk9 v j ≠ 0) (hM4 : (mk v j = 0 ∧ mk9 v j = 2) ∨ mk9 v j = mk v j)  : gi_rj own o F mk9 := by
  dsimp only [gi_rj, gm_t, gi_cur, gi_NR, gi_wt, gi_open, gh_Net] at *
  try simp (decide := true) only [gh_U, gh_K, gh_A_has, gh_A_cnt, gh_A_mem, false_and, true_and, and_false, or_false, if_false, if_true, and_true]
  grind (splits := 25)
theorem tc_b6 {v j : Nat} (Hb6 : gi_b6 own o w F mk) {c1 : Nat → Nat → List gh_M} {m0 : gh_M} (hj : own v j) (hT : ∀ k y e, gh_has k (c y e) ↔ gh_has k (c1 y e) ∨ (y = v ∧ e = j ∧ k = m0.1)) (hTc : ∀ k y e, gh_cnt k (c y e) = gh_cnt k (c1 y e) + if y = v ∧ e = j ∧ k = m0.1 then 1 else 0) (hTm : ∀ y e m, m ∈ c y e ↔ m ∈ c1 y e ∨ (y = v ∧ e = j ∧ m = m0)) (hTw : ¬ gh_has m0.1 (c1 v j)) (hk : m0.1 = 2) (hd : gm_t own o w F mk c (o v j) v j (F 1 v) m0) (hl : m0.2.1 ≤ F 1 v) (hf : m0.2.2.1 = F 2 v) (hs : F 8 (o v j) = F 8 v) (h7 : F 7 v ≠ j) {mk9 : Nat → Nat → Nat} (hM1 : ∀ x e, mk9 x e = 1 ↔ mk x e = 1) (hM2 : ∀ x e, ¬ (x = v ∧ e = j) → mk9 x e = mk x e) (hM3 : mk9 v j ≠ 0) (hM4 : (mk v j = 0 ∧ mk9 v j = 2) ∨ mk9 v j = mk v j)  : gi_b6 own o w F mk9 := by
  intro x hx
  obtain ⟨y, e, h1, h2, h3, h4, h5, h6⟩ := Hb6 x hx
  exact ⟨y, e, h1, h2, h3, h4, (hM1 _ _).mpr h5, (hM1 _ _).mpr h6⟩
theorem tc_Sr {v j : Nat} (HSr : gi_Sr o w F c) {c1 : Nat → Nat → List gh_M} {m0 : gh_M} (hj : own v j) (hT : ∀ k y e, gh_has k (c y e) ↔ gh_has k (c1 y e) ∨ (y = v ∧ e = j ∧ k = m0.1)) (hTc : ∀ k y e, gh_cnt k (c y e) = gh_cnt k (c1 y e) + if y = v ∧ e = j ∧ k = m0.1 then 1 else 0) (hTm : ∀ y e m, m ∈ c y e ↔ m ∈ c1 y e ∨ (y = v ∧ e = j ∧ m = m0)) (hTw : ¬ gh_has m0.1 (c1 v j)) (hk : m0.1 = 2) (hd : gm_t own o w F mk c (o v j) v j (F 1 v) m0) (hl : m0.2.1 ≤ F 1 v) (hf : m0.2.2.1 = F 2 v) (hs : F 8 (o v j) = F 8 v) (h7 : F 7 v ≠ j) {mk9 : Nat → Nat → Nat} (hM1 : ∀ x e, mk9 x e = 1 ↔ mk x e = 1) (hM2 : ∀ x e, ¬ (x = v ∧ e = j) → mk9 x e = mk x e) (hM3 : mk9 v j ≠ 0) (hM4 : (mk v j = 0 ∧ mk9 v j = 2) ∨ mk9 v j = mk v j)  : gi_Sr o w F (gh_A c1 (o v j) j (4, 0, 0, 0)) := by
  intro x h1 h2
  obtain ⟨a1, a2, a3⟩ := HSr x h1 h2
  refine ⟨a1, a2, fun hc => ⟨(a3 hc).1, ?_⟩⟩
  rcases (a3 hc).2 with z | ⟨m, m1, m2, m3⟩
  · refine Or.inl ?_
    have b1 := hT 0 (o x (F 9 x)) (F 9 x)
    clear HSr a3
    try simp (decide := true) only [gh_U, gh_K, gh_A_has, gh_A_cnt, gh_A_mem, false_and, true_and, and_false, or_false, if_false, if_true, and_true]
    grind
  · refine Or.inr ⟨m, ?_, m2, m3⟩
    have b1 := hTm x (F 9 x) m
    clear HSr a3
    try simp (decide := true) only [gh_U, gh_K, gh_A_has, gh_A_cnt, gh_A_mem, false_and, true_and, and_false, or_false, if_false, if_true, and_true]
    grind
theorem tc_bc {v j : Nat} (Hbc : gi_bc o F mk c) (Hn : gh_Net own o w) (Hs2 : gi_s2 F) {c1 : Nat → Nat → List gh_M} {m0 : gh_M} (hj : own v j) (hT : ∀ k y e, gh_has k (c y e) ↔ gh_has k (c1 y e) ∨ (y = v ∧ e = j ∧ k = m0.1)) (hTc : ∀ k y e, gh_cnt k (c y e) = gh_cnt k (c1 y e) + if y = v ∧ e = j ∧ k = m0.1 then 1 else 0) (hTm : ∀ y e m, m ∈ c y e ↔ m ∈ c1 y e ∨ (y = v ∧ e = j ∧ m = m0)) (hTw : ¬ gh_has m0.1 (c1 v j)) (hk : m0.1 = 2) (hd : gm_t own o w F mk c (o v j) v j (F 1 v) m0) (hl : m0.2.1 ≤ F 1 v) (hf : m0.2.2.1 = F 2 v) (hs : F 8 (o v j) = F 8 v) (h7 : F 7 v ≠ j) {mk9 : Nat → Nat → Nat} (hM1 : ∀ x e, mk9 x e = 1 ↔ mk x e = 1) (hM2 : ∀ x e, ¬ (x = v ∧ e = j) → mk9 x e = mk x e) (hM3 : mk9 v j ≠ 0) (hM4 : (mk v j = 0 ∧ mk9 v j = 2) ∨ mk9 v j = mk v j)  : gi_bc o F mk9 (gh_A c1 (o v j) j (4, 0, 0, 0)) := by
  intro x b y hb hb1 hy hcu hph hw
  obtain ⟨b1, b2⟩ := Hbc x b y hb hb1 hy hcu hph hw
  have b3 := hT 5 x b
  have b4 := hM1 x b
  have b5 := hM2 x b
  
  clear Hbc
  dsimp only [gi_cur, gm_t] at *
  try simp (decide := true) only [gh_U, gh_K, gh_A_has, gh_A_cnt, gh_A_mem, false_and, true_and, and_false, or_false, if_false, if_true, and_true]
  grind
theorem tc_K {v j : Nat} (HK : gi_K own o F mk c) (Hn : gh_Net own o w) {c1 : Nat → Nat → List gh_M} {m0 : gh_M} (hj : own v j) (hT : ∀ k y e, gh_has k (c y e) ↔ gh_has k (c1 y e) ∨ (y = v ∧ e = j ∧ k = m0.1)) (hTc : ∀ k y e, gh_cnt k (c y e) = gh_cnt k (c1 y e) + if y = v ∧ e = j ∧ k = m0.1 then 1 else 0) (hTm : ∀ y e m, m ∈ c y e ↔ m ∈ c1 y e ∨ (y = v ∧ e = j ∧ m = m0)) (hTw : ¬ gh_has m0.1 (c1 v j)) (hk : m0.1 = 2) (hd : gm_t own o w F mk c (o v j) v j (F 1 v) m0) (hl : m0.2.1 ≤ F 1 v) (hf : m0.2.2.1 = F 2 v) (hs : F 8 (o v j) = F 8 v) (h7 : F 7 v ≠ j) {mk9 : Nat → Nat → Nat} (hM1 : ∀ x e, mk9 x e = 1 ↔ mk x e = 1) (hM2 : ∀ x e, ¬ (x = v ∧ e = j) → mk9 x e = mk x e) (hM3 : mk9 v j ≠ 0) (hM4 : (mk v j = 0 ∧ mk9 v j = 2) ∨ mk9 v j = mk v j)  : gi_K own o F mk9 (gh_A c1 (o v j) j (4, 0, 0, 0)) := by
  intro x e y h1 h2 h3
  have b1 := HK x e y h1 h2 ((hM1 x e).mp h3)
  have b2 := hM1 y e
  have b3 := hM2 y e
  have b4 := hT 0 y e
  have b5 := Hn.1 x e h1
  clear HK Hn
  dsimp only [gi_cur, gm_t] at *
  try simp (decide := true) only [gh_U, gh_K, gh_A_has, gh_A_cnt, gh_A_mem, false_and, true_and, and_false, or_false, if_false, if_true, and_true]
  grind
theorem tc_an {v j : Nat} (Han : gi_an own o F mk c) {c1 : Nat → Nat → List gh_M} {m0 : gh_M} (hj : own v j) (hT : ∀ k y e, gh_has k (c y e) ↔ gh_has k (c1 y e) ∨ (y = v ∧ e = j ∧ k = m0.1)) (hTc : ∀ k y e, gh_cnt k (c y e) = gh_cnt k (c1 y e) + if y = v ∧ e = j ∧ k = m0.1 then 1 else 0) (hTm : ∀ y e m, m ∈ c y e ↔ m ∈ c1 y e ∨ (y = v ∧ e = j ∧ m = m0)) (hTw : ¬ gh_has m0.1 (c1 v j)) (hk : m0.1 = 2) (hd : gm_t own o w F mk c (o v j) v j (F 1 v) m0) (hl : m0.2.1 ≤ F 1 v) (hf : m0.2.2.1 = F 2 v) (hs : F 8 (o v j) = F 8 v) (h7 : F 7 v ≠ j) {mk9 : Nat → Nat → Nat} (hM1 : ∀ x e, mk9 x e = 1 ↔ mk x e = 1) (hM2 : ∀ x e, ¬ (x = v ∧ e = j) → mk9 x e = mk x e) (hM3 : mk9 v j ≠ 0) (hM4 : (mk v j = 0 ∧ mk9 v j = 2) ∨ mk9 v j = mk v j)  : gi_an own o F mk9 (gh_A c1 (o v j) j (4, 0, 0, 0)) := by
  intro x hx
  obtain ⟨l, l1, l2, l3⟩ := Han x hx
  refine ⟨l, l1, l2, fun e => (l3 e).trans ?_⟩
  have a1 := hT 5 x e
  
  clear Han l3
  dsimp only [gi_open, gi_cur] at *
  try simp (decide := true) only [gh_U, gh_K, gh_A_has, gh_A_cnt, gh_A_mem, false_and, true_and, and_false, or_false, if_false, if_true, and_true]
  grind
theorem tc_st {v j : Nat} (Hst : gi_st F) {c1 : Nat → Nat → List gh_M} {m0 : gh_M} (hj : own v j) (hT : ∀ k y e, gh_has k (c y e) ↔ gh_has k (c1 y e) ∨ (y = v ∧ e = j ∧ k = m0.1)) (hTc : ∀ k y e, gh_cnt k (c y e) = gh_cnt k (c1 y e) + if y = v ∧ e = j ∧ k = m0.1 then 1 else 0) (hTm : ∀ y e m, m ∈ c y e ↔ m ∈ c1 y e ∨ (y = v ∧ e = j ∧ m = m0)) (hTw : ¬ gh_has m0.1 (c1 v j)) (hk : m0.1 = 2) (hd : gm_t own o w F mk c (o v j) v j (F 1 v) m0) (hl : m0.2.1 ≤ F 1 v) (hf : m0.2.2.1 = F 2 v) (hs : F 8 (o v j) = F 8 v) (h7 : F 7 v ≠ j) {mk9 : Nat → Nat → Nat} (hM1 : ∀ x e, mk9 x e = 1 ↔ mk x e = 1) (hM2 : ∀ x e, ¬ (x = v ∧ e = j) → mk9 x e = mk x e) (hM3 : mk9 v j ≠ 0) (hM4 : (mk v j = 0 ∧ mk9 v j = 2) ∨ mk9 v j = mk v j)  : gi_st F := by
  dsimp only [gi_st, gm_t, gi_cur, gi_NR, gi_wt, gi_open, gh_Net] at *
  try simp (decide := true) only [gh_U, gh_K, gh_A_has, gh_A_cnt, gh_A_mem, false_and, true_and, and_false, or_false, if_false, if_true, and_true]
  grind (splits := 25)
theorem tc_b1 {v j : Nat} (Hb1 : gi_b1 F) {c1 : Nat → Nat → List gh_M} {m0 : gh_M} (hj : own v j) (hT : ∀ k y e, gh_has k (c y e) ↔ gh_has k (c1 y e) ∨ (y = v ∧ e = j ∧ k = m0.1)) (hTc : ∀ k y e, gh_cnt k (c y e) = gh_cnt k (c1 y e) + if y = v ∧ e = j ∧ k = m0.1 then 1 else 0) (hTm : ∀ y e m, m ∈ c y e ↔ m ∈ c1 y e ∨ (y = v ∧ e = j ∧ m = m0)) (hTw : ¬ gh_has m0.1 (c1 v j)) (hk : m0.1 = 2) (hd : gm_t own o w F mk c (o v j) v j (F 1 v) m0) (hl : m0.2.1 ≤ F 1 v) (hf : m0.2.2.1 = F 2 v) (hs : F 8 (o v j) = F 8 v) (h7 : F 7 v ≠ j) {mk9 : Nat → Nat → Nat} (hM1 : ∀ x e, mk9 x e = 1 ↔ mk x e = 1) (hM2 : ∀ x e, ¬ (x = v ∧ e = j) → mk9 x e = mk x e) (hM3 : mk9 v j ≠ 0) (hM4 : (mk v j = 0 ∧ mk9 v j = 2) ∨ mk9 v j = mk v j)  : gi_b1 F := by
  dsimp only [gi_b1, gm_t, gi_cur, gi_NR, gi_wt, gi_open, gh_Net] at *
  try simp (decide := true) only [gh_U, gh_K, gh_A_has, gh_A_cnt, gh_A_mem, false_and, true_and, and_false, or_false, if_false, if_true, and_true]
  grind (splits := 25)
theorem tc_b2 {v j : Nat} (Hb2 : gi_b2 F) {c1 : Nat → Nat → List gh_M} {m0 : gh_M} (hj : own v j) (hT : ∀ k y e, gh_has k (c y e) ↔ gh_has k (c1 y e) ∨ (y = v ∧ e = j ∧ k = m0.1)) (hTc : ∀ k y e, gh_cnt k (c y e) = gh_cnt k (c1 y e) + if y = v ∧ e = j ∧ k = m0.1 then 1 else 0) (hTm : ∀ y e m, m ∈ c y e ↔ m ∈ c1 y e ∨ (y = v ∧ e = j ∧ m = m0)) (hTw : ¬ gh_has m0.1 (c1 v j)) (hk : m0.1 = 2) (hd : gm_t own o w F mk c (o v j) v j (F 1 v) m0) (hl : m0.2.1 ≤ F 1 v) (hf : m0.2.2.1 = F 2 v) (hs : F 8 (o v j) = F 8 v) (h7 : F 7 v ≠ j) {mk9 : Nat → Nat → Nat} (hM1 : ∀ x e, mk9 x e = 1 ↔ mk x e = 1) (hM2 : ∀ x e, ¬ (x = v ∧ e = j) → mk9 x e = mk x e) (hM3 : mk9 v j ≠ 0) (hM4 : (mk v j = 0 ∧ mk9 v j = 2) ∨ mk9 v j = mk v j)  : gi_b2 F := by
  dsimp only [gi_b2, gm_t, gi_cur, gi_NR, gi_wt, gi_open, gh_Net] at *
  try simp (decide := true) only [gh_U, gh_K, gh_A_has, gh_A_cnt, gh_A_mem, false_and, true_and, and_false, or_false, if_false, if_true, and_true]
  grind (splits := 25)
theorem tc_b3 {v j : Nat} (Hb3 : gi_b3 F) {c1 : Nat → Nat → List gh_M} {m0 : gh_M} (hj : own v j) (hT : ∀ k y e, gh_has k (c y e) ↔ gh_has k (c1 y e) ∨ (y = v ∧ e = j ∧ k = m0.1)) (hTc : ∀ k y e, gh_cnt k (c y e) = gh_cnt k (c1 y e) + if y = v ∧ e = j ∧ k = m0.1 then 1 else 0) (hTm : ∀ y e m, m ∈ c y e ↔ m ∈ c1 y e ∨ (y = v ∧ e = j ∧ m = m0)) (hTw : ¬ gh_has m0.1 (c1 v j)) (hk : m0.1 = 2) (hd : gm_t own o w F mk c (o v j) v j (F 1 v) m0) (hl : m0.2.1 ≤ F 1 v) (hf : m0.2.2.1 = F 2 v) (hs : F 8 (o v j) = F 8 v) (h7 : F 7 v ≠ j) {mk9 : Nat → Nat → Nat} (hM1 : ∀ x e, mk9 x e = 1 ↔ mk x e = 1) (hM2 : ∀ x e, ¬ (x = v ∧ e = j) → mk9 x e = mk x e) (hM3 : mk9 v j ≠ 0) (hM4 : (mk v j = 0 ∧ mk9 v j = 2) ∨ mk9 v j = mk v j)  : gi_b3 F := by
  dsimp only [gi_b3, gm_t, gi_cur, gi_NR, gi_wt, gi_open, gh_Net] at *
  try simp (decide := true) only [gh_U, gh_K, gh_A_has, gh_A_cnt, gh_A_mem, false_and, true_and, and_false, or_false, if_false, if_true, and_true]
  grind (splits := 25)
theorem tc_b4 {v j : Nat} (Hb4 : gi_b4 F) {c1 : Nat → Nat → List gh_M} {m0 : gh_M} (hj : own v j) (hT : ∀ k y e, gh_has k (c y e) ↔ gh_has k (c1 y e) ∨ (y = v ∧ e = j ∧ k = m0.1)) (hTc : ∀ k y e, gh_cnt k (c y e) = gh_cnt k (c1 y e) + if y = v ∧ e = j ∧ k = m0.1 then 1 else 0) (hTm : ∀ y e m, m ∈ c y e ↔ m ∈ c1 y e ∨ (y = v ∧ e = j ∧ m = m0)) (hTw : ¬ gh_has m0.1 (c1 v j)) (hk : m0.1 = 2) (hd : gm_t own o w F mk c (o v j) v j (F 1 v) m0) (hl : m0.2.1 ≤ F 1 v) (hf : m0.2.2.1 = F 2 v) (hs : F 8 (o v j) = F 8 v) (h7 : F 7 v ≠ j) {mk9 : Nat → Nat → Nat} (hM1 : ∀ x e, mk9 x e = 1 ↔ mk x e = 1) (hM2 : ∀ x e, ¬ (x = v ∧ e = j) → mk9 x e = mk x e) (hM3 : mk9 v j ≠ 0) (hM4 : (mk v j = 0 ∧ mk9 v j = 2) ∨ mk9 v j = mk v j)  : gi_b4 F := by
  dsimp only [gi_b4, gm_t, gi_cur, gi_NR, gi_wt, gi_open, gh_Net] at *
  try simp (decide := true) only [gh_U, gh_K, gh_A_has, gh_A_cnt, gh_A_mem, false_and, true_and, and_false, or_false, if_false, if_true, and_true]
  grind (splits := 25)
theorem tc_b5 {v j : Nat} (Hb5 : gi_b5 own o w F) {c1 : Nat → Nat → List gh_M} {m0 : gh_M} (hj : own v j) (hT : ∀ k y e, gh_has k (c y e) ↔ gh_has k (c1 y e) ∨ (y = v ∧ e = j ∧ k = m0.1)) (hTc : ∀ k y e, gh_cnt k (c y e) = gh_cnt k (c1 y e) + if y = v ∧ e = j ∧ k = m0.1 then 1 else 0) (hTm : ∀ y e m, m ∈ c y e ↔ m ∈ c1 y e ∨ (y = v ∧ e = j ∧ m = m0)) (hTw : ¬ gh_has m0.1 (c1 v j)) (hk : m0.1 = 2) (hd : gm_t own o w F mk c (o v j) v j (F 1 v) m0) (hl : m0.2.1 ≤ F 1 v) (hf : m0.2.2.1 = F 2 v) (hs : F 8 (o v j) = F 8 v) (h7 : F 7 v ≠ j) {mk9 : Nat → Nat → Nat} (hM1 : ∀ x e, mk9 x e = 1 ↔ mk x e = 1) (hM2 : ∀ x e, ¬ (x = v ∧ e = j) → mk9 x e = mk x e) (hM3 : mk9 v j ≠ 0) (hM4 : (mk v j = 0 ∧ mk9 v j = 2) ∨ mk9 v j = mk v j)  : gi_b5 own o w F := by
  dsimp only [gi_b5, gm_t, gi_cur, gi_NR, gi_wt, gi_open, gh_Net] at *
  try simp (decide := true) only [gh_U, gh_K, gh_A_has, gh_A_cnt, gh_A_mem, false_and, true_and, and_false, or_false, if_false, if_true, and_true]
  grind (splits := 25)
theorem tc_s0 {v j : Nat} (Hs0 : gi_s0 own F mk) {c1 : Nat → Nat → List gh_M} {m0 : gh_M} (hj : own v j) (hT : ∀ k y e, gh_has k (c y e) ↔ gh_has k (c1 y e) ∨ (y = v ∧ e = j ∧ k = m0.1)) (hTc : ∀ k y e, gh_cnt k (c y e) = gh_cnt k (c1 y e) + if y = v ∧ e = j ∧ k = m0.1 then 1 else 0) (hTm : ∀ y e m, m ∈ c y e ↔ m ∈ c1 y e ∨ (y = v ∧ e = j ∧ m = m0)) (hTw : ¬ gh_has m0.1 (c1 v j)) (hk : m0.1 = 2) (hd : gm_t own o w F mk c (o v j) v j (F 1 v) m0) (hl : m0.2.1 ≤ F 1 v) (hf : m0.2.2.1 = F 2 v) (hs : F 8 (o v j) = F 8 v) (h7 : F 7 v ≠ j) {mk9 : Nat → Nat → Nat} (hM1 : ∀ x e, mk9 x e = 1 ↔ mk x e = 1) (hM2 : ∀ x e, ¬ (x = v ∧ e = j) → mk9 x e = mk x e) (hM3 : mk9 v j ≠ 0) (hM4 : (mk v j = 0 ∧ mk9 v j = 2) ∨ mk9 v j = mk v j)  : gi_s0 own F mk9 := by
  dsimp only [gi_s0, gm_t, gi_cur, gi_NR, gi_wt, gi_open, gh_Net] at *
  try simp (decide := true) only [gh_U, gh_K, gh_A_has, gh_A_cnt, gh_A_mem, false_and, true_and, and_false, or_false, if_false, if_true, and_true]
  grind (splits := 25)
theorem tc_s1 {v j : Nat} (Hs1 : gi_s1 F) {c1 : Nat → Nat → List gh_M} {m0 : gh_M} (hj : own v j) (hT : ∀ k y e, gh_has k (c y e) ↔ gh_has k (c1 y e) ∨ (y = v ∧ e = j ∧ k = m0.1)) (hTc : ∀ k y e, gh_cnt k (c y e) = gh_cnt k (c1 y e) + if y = v ∧ e = j ∧ k = m0.1 then 1 else 0) (hTm : ∀ y e m, m ∈ c y e ↔ m ∈ c1 y e ∨ (y = v ∧ e = j ∧ m = m0)) (hTw : ¬ gh_has m0.1 (c1 v j)) (hk : m0.1 = 2) (hd : gm_t own o w F mk c (o v j) v j (F 1 v) m0) (hl : m0.2.1 ≤ F 1 v) (hf : m0.2.2.1 = F 2 v) (hs : F 8 (o v j) = F 8 v) (h7 : F 7 v ≠ j) {mk9 : Nat → Nat → Nat} (hM1 : ∀ x e, mk9 x e = 1 ↔ mk x e = 1) (hM2 : ∀ x e, ¬ (x = v ∧ e = j) → mk9 x e = mk x e) (hM3 : mk9 v j ≠ 0) (hM4 : (mk v j = 0 ∧ mk9 v j = 2) ∨ mk9 v j = mk v j)  : gi_s1 F := by
  dsimp only [gi_s1, gm_t, gi_cur, gi_NR, gi_wt, gi_open, gh_Net] at *
  try simp (decide := true) only [gh_U, gh_K, gh_A_has, gh_A_cnt, gh_A_mem, false_and, true_and, and_false, or_false, if_false, if_true, and_true]
  grind (splits := 25)
theorem tc_s2 {v j : Nat} (Hs2 : gi_s2 F) {c1 : Nat → Nat → List gh_M} {m0 : gh_M} (hj : own v j) (hT : ∀ k y e, gh_has k (c y e) ↔ gh_has k (c1 y e) ∨ (y = v ∧ e = j ∧ k = m0.1)) (hTc : ∀ k y e, gh_cnt k (c y e) = gh_cnt k (c1 y e) + if y = v ∧ e = j ∧ k = m0.1 then 1 else 0) (hTm : ∀ y e m, m ∈ c y e ↔ m ∈ c1 y e ∨ (y = v ∧ e = j ∧ m = m0)) (hTw : ¬ gh_has m0.1 (c1 v j)) (hk : m0.1 = 2) (hd : gm_t own o w F mk c (o v j) v j (F 1 v) m0) (hl : m0.2.1 ≤ F 1 v) (hf : m0.2.2.1 = F 2 v) (hs : F 8 (o v j) = F 8 v) (h7 : F 7 v ≠ j) {mk9 : Nat → Nat → Nat} (hM1 : ∀ x e, mk9 x e = 1 ↔ mk x e = 1) (hM2 : ∀ x e, ¬ (x = v ∧ e = j) → mk9 x e = mk x e) (hM3 : mk9 v j ≠ 0) (hM4 : (mk v j = 0 ∧ mk9 v j = 2) ∨ mk9 v j = mk v j)  : gi_s2 F := by
  dsimp only [gi_s2, gm_t, gi_cur, gi_NR, gi_wt, gi_open, gh_Net] at *
  try simp (decide := true) only [gh_U, gh_K, gh_A_has, gh_A_cnt, gh_A_mem, false_and, true_and, and_false, or_false, if_false, if_true, and_true]
  grind (splits := 25)
theorem tc_Sl {v j : Nat} (HSl : gi_Sl F) {c1 : Nat → Nat → List gh_M} {m0 : gh_M} (hj : own v j) (hT : ∀ k y e, gh_has k (c y e) ↔ gh_has k (c1 y e) ∨ (y = v ∧ e = j ∧ k = m0.1)) (hTc : ∀ k y e, gh_cnt k (c y e) = gh_cnt k (c1 y e) + if y = v ∧ e = j ∧ k = m0.1 then 1 else 0) (hTm : ∀ y e m, m ∈ c y e ↔ m ∈ c1 y e ∨ (y = v ∧ e = j ∧ m = m0)) (hTw : ¬ gh_has m0.1 (c1 v j)) (hk : m0.1 = 2) (hd : gm_t own o w F mk c (o v j) v j (F 1 v) m0) (hl : m0.2.1 ≤ F 1 v) (hf : m0.2.2.1 = F 2 v) (hs : F 8 (o v j) = F 8 v) (h7 : F 7 v ≠ j) {mk9 : Nat → Nat → Nat} (hM1 : ∀ x e, mk9 x e = 1 ↔ mk x e = 1) (hM2 : ∀ x e, ¬ (x = v ∧ e = j) → mk9 x e = mk x e) (hM3 : mk9 v j ≠ 0) (hM4 : (mk v j = 0 ∧ mk9 v j = 2) ∨ mk9 v j = mk v j)  : gi_Sl F := by
  dsimp only [gi_Sl, gm_t, gi_cur, gi_NR, gi_wt, gi_open, gh_Net] at *
  try simp (decide := true) only [gh_U, gh_K, gh_A_has, gh_A_cnt, gh_A_mem, false_and, true_and, and_false, or_false, if_false, if_true, and_true]
  grind (splits := 25)
theorem tc_s3 {v j : Nat} (Hs3 : gi_s3 F) {c1 : Nat → Nat → List gh_M} {m0 : gh_M} (hj : own v j) (hT : ∀ k y e, gh_has k (c y e) ↔ gh_has k (c1 y e) ∨ (y = v ∧ e = j ∧ k = m0.1)) (hTc : ∀ k y e, gh_cnt k (c y e) = gh_cnt k (c1 y e) + if y = v ∧ e = j ∧ k = m0.1 then 1 else 0) (hTm : ∀ y e m, m ∈ c y e ↔ m ∈ c1 y e ∨ (y = v ∧ e = j ∧ m = m0)) (hTw : ¬ gh_has m0.1 (c1 v j)) (hk : m0.1 = 2) (hd : gm_t own o w F mk c (o v j) v j (F 1 v) m0) (hl : m0.2.1 ≤ F 1 v) (hf : m0.2.2.1 = F 2 v) (hs : F 8 (o v j) = F 8 v) (h7 : F 7 v ≠ j) {mk9 : Nat → Nat → Nat} (hM1 : ∀ x e, mk9 x e = 1 ↔ mk x e = 1) (hM2 : ∀ x e, ¬ (x = v ∧ e = j) → mk9 x e = mk x e) (hM3 : mk9 v j ≠ 0) (hM4 : (mk v j = 0 ∧ mk9 v j = 2) ∨ mk9 v j = mk v j)  : gi_s3 F := by
  dsimp only [gi_s3, gm_t, gi_cur, gi_NR, gi_wt, gi_open, gh_Net] at *
  try simp (decide := true) only [gh_U, gh_K, gh_A_has, gh_A_cnt, gh_A_mem, false_and, true_and, and_false, or_false, if_false, if_true, and_true]
  grind (splits := 25)
theorem tc_s4 {v j : Nat} (Hs4 : gi_s4 F) {c1 : Nat → Nat → List gh_M} {m0 : gh_M} (hj : own v j) (hT : ∀ k y e, gh_has k (c y e) ↔ gh_has k (c1 y e) ∨ (y = v ∧ e = j ∧ k = m0.1)) (hTc : ∀ k y e, gh_cnt k (c y e) = gh_cnt k (c1 y e) + if y = v ∧ e = j ∧ k = m0.1 then 1 else 0) (hTm : ∀ y e m, m ∈ c y e ↔ m ∈ c1 y e ∨ (y = v ∧ e = j ∧ m = m0)) (hTw : ¬ gh_has m0.1 (c1 v j)) (hk : m0.1 = 2) (hd : gm_t own o w F mk c (o v j) v j (F 1 v) m0) (hl : m0.2.1 ≤ F 1 v) (hf : m0.2.2.1 = F 2 v) (hs : F 8 (o v j) = F 8 v) (h7 : F 7 v ≠ j) {mk9 : Nat → Nat → Nat} (hM1 : ∀ x e, mk9 x e = 1 ↔ mk x e = 1) (hM2 : ∀ x e, ¬ (x = v ∧ e = j) → mk9 x e = mk x e) (hM3 : mk9 v j ≠ 0) (hM4 : (mk v j = 0 ∧ mk9 v j = 2) ∨ mk9 v j = mk v j)  : gi_s4 F := by
  dsimp only [gi_s4, gm_t, gi_cur, gi_NR, gi_wt, gi_open, gh_Net] at *
  try simp (decide := true) only [gh_U, gh_K, gh_A_has, gh_A_cnt, gh_A_mem, false_and, true_and, and_false, or_false, if_false, if_true, and_true]
  grind (splits := 25)
theorem tc_ow {v j : Nat} (How : gi_ow own F) {c1 : Nat → Nat → List gh_M} {m0 : gh_M} (hj : own v j) (hT : ∀ k y e, gh_has k (c y e) ↔ gh_has k (c1 y e) ∨ (y = v ∧ e = j ∧ k = m0.1)) (hTc : ∀ k y e, gh_cnt k (c y e) = gh_cnt k (c1 y e) + if y = v ∧ e = j ∧ k = m0.1 then 1 else 0) (hTm : ∀ y e m, m ∈ c y e ↔ m ∈ c1 y e ∨ (y = v ∧ e = j ∧ m = m0)) (hTw : ¬ gh_has m0.1 (c1 v j)) (hk : m0.1 = 2) (hd : gm_t own o w F mk c (o v j) v j (F 1 v) m0) (hl : m0.2.1 ≤ F 1 v) (hf : m0.2.2.1 = F 2 v) (hs : F 8 (o v j) = F 8 v) (h7 : F 7 v ≠ j) {mk9 : Nat → Nat → Nat} (hM1 : ∀ x e, mk9 x e = 1 ↔ mk x e = 1) (hM2 : ∀ x e, ¬ (x = v ∧ e = j) → mk9 x e = mk x e) (hM3 : mk9 v j ≠ 0) (hM4 : (mk v j = 0 ∧ mk9 v j = 2) ∨ mk9 v j = mk v j)  : gi_ow own F := by
  dsimp only [gi_ow, gm_t, gi_cur, gi_NR, gi_wt, gi_open, gh_Net] at *
  try simp (decide := true) only [gh_U, gh_K, gh_A_has, gh_A_cnt, gh_A_mem, false_and, true_and, and_false, or_false, if_false, if_true, and_true]
  grind (splits := 25)
theorem tc_s5 {v j : Nat} (Hs5 : gi_s5 F) {c1 : Nat → Nat → List gh_M} {m0 : gh_M} (hj : own v j) (hT : ∀ k y e, gh_has k (c y e) ↔ gh_has k (c1 y e) ∨ (y = v ∧ e = j ∧ k = m0.1)) (hTc : ∀ k y e, gh_cnt k (c y e) = gh_cnt k (c1 y e) + if y = v ∧ e = j ∧ k = m0.1 then 1 else 0) (hTm : ∀ y e m, m ∈ c y e ↔ m ∈ c1 y e ∨ (y = v ∧ e = j ∧ m = m0)) (hTw : ¬ gh_has m0.1 (c1 v j)) (hk : m0.1 = 2) (hd : gm_t own o w F mk c (o v j) v j (F 1 v) m0) (hl : m0.2.1 ≤ F 1 v) (hf : m0.2.2.1 = F 2 v) (hs : F 8 (o v j) = F 8 v) (h7 : F 7 v ≠ j) {mk9 : Nat → Nat → Nat} (hM1 : ∀ x e, mk9 x e = 1 ↔ mk x e = 1) (hM2 : ∀ x e, ¬ (x = v ∧ e = j) → mk9 x e = mk x e) (hM3 : mk9 v j ≠ 0) (hM4 : (mk v j = 0 ∧ mk9 v j = 2) ∨ mk9 v j = mk v j)  : gi_s5 F := by
  dsimp only [gi_s5, gm_t, gi_cur, gi_NR, gi_wt, gi_open, gh_Net] at *
  try simp (decide := true) only [gh_U, gh_K, gh_A_has, gh_A_cnt, gh_A_mem, false_and, true_and, and_false, or_false, if_false, if_true, and_true]
  grind (splits := 25)
theorem tc_Sn {v j : Nat} (HSn : gi_Sn o w F) {c1 : Nat → Nat → List gh_M} {m0 : gh_M} (hj : own v j) (hT : ∀ k y e, gh_has k (c y e) ↔ gh_has k (c1 y e) ∨ (y = v ∧ e = j ∧ k = m0.1)) (hTc : ∀ k y e, gh_cnt k (c y e) = gh_cnt k (c1 y e) + if y = v ∧ e = j ∧ k = m0.1 then 1 else 0) (hTm : ∀ y e m, m ∈ c y e ↔ m ∈ c1 y e ∨ (y = v ∧ e = j ∧ m = m0)) (hTw : ¬ gh_has m0.1 (c1 v j)) (hk : m0.1 = 2) (hd : gm_t own o w F mk c (o v j) v j (F 1 v) m0) (hl : m0.2.1 ≤ F 1 v) (hf : m0.2.2.1 = F 2 v) (hs : F 8 (o v j) = F 8 v) (h7 : F 7 v ≠ j) {mk9 : Nat → Nat → Nat} (hM1 : ∀ x e, mk9 x e = 1 ↔ mk x e = 1) (hM2 : ∀ x e, ¬ (x = v ∧ e = j) → mk9 x e = mk x e) (hM3 : mk9 v j ≠ 0) (hM4 : (mk v j = 0 ∧ mk9 v j = 2) ∨ mk9 v j = mk v j)  : gi_Sn o w F := by
  dsimp only [gi_Sn, gm_t, gi_cur, gi_NR, gi_wt, gi_open, gh_Net] at *
  try simp (decide := true) only [gh_U, gh_K, gh_A_has, gh_A_cnt, gh_A_mem, false_and, true_and, and_false, or_false, if_false, if_true, and_true]
  grind (splits := 25)
theorem tc_M {v j : Nat} (HM : gi_M own o F) {c1 : Nat → Nat → List gh_M} {m0 : gh_M} (hj : own v j) (hT : ∀ k y e, gh_has k (c y e) ↔ gh_has k (c1 y e) ∨ (y = v ∧ e = j ∧ k = m0.1)) (hTc : ∀ k y e, gh_cnt k (c y e) = gh_cnt k (c1 y e) + if y = v ∧ e = j ∧ k = m0.1 then 1 else 0) (hTm : ∀ y e m, m ∈ c y e ↔ m ∈ c1 y e ∨ (y = v ∧ e = j ∧ m = m0)) (hTw : ¬ gh_has m0.1 (c1 v j)) (hk : m0.1 = 2) (hd : gm_t own o w F mk c (o v j) v j (F 1 v) m0) (hl : m0.2.1 ≤ F 1 v) (hf : m0.2.2.1 = F 2 v) (hs : F 8 (o v j) = F 8 v) (h7 : F 7 v ≠ j) {mk9 : Nat → Nat → Nat} (hM1 : ∀ x e, mk9 x e = 1 ↔ mk x e = 1) (hM2 : ∀ x e, ¬ (x = v ∧ e = j) → mk9 x e = mk x e) (hM3 : mk9 v j ≠ 0) (hM4 : (mk v j = 0 ∧ mk9 v j = 2) ∨ mk9 v j = mk v j)  : gi_M own o F := by
  dsimp only [gi_M, gm_t, gi_cur, gi_NR, gi_wt, gi_open, gh_Net] at *
  try simp (decide := true) only [gh_U, gh_K, gh_A_has, gh_A_cnt, gh_A_mem, false_and, true_and, and_false, or_false, if_false, if_true, and_true]
  grind (splits := 25)
theorem tc_C {v j : Nat} (HC : gi_C own o F mk) {c1 : Nat → Nat → List gh_M} {m0 : gh_M} (hj : own v j) (hT : ∀ k y e, gh_has k (c y e) ↔ gh_has k (c1 y e) ∨ (y = v ∧ e = j ∧ k = m0.1)) (hTc : ∀ k y e, gh_cnt k (c y e) = gh_cnt k (c1 y e) + if y = v ∧ e = j ∧ k = m0.1 then 1 else 0) (hTm : ∀ y e m, m ∈ c y e ↔ m ∈ c1 y e ∨ (y = v ∧ e = j ∧ m = m0)) (hTw : ¬ gh_has m0.1 (c1 v j)) (hk : m0.1 = 2) (hd : gm_t own o w F mk c (o v j) v j (F 1 v) m0) (hl : m0.2.1 ≤ F 1 v) (hf : m0.2.2.1 = F 2 v) (hs : F 8 (o v j) = F 8 v) (h7 : F 7 v ≠ j) {mk9 : Nat → Nat → Nat} (hM1 : ∀ x e, mk9 x e = 1 ↔ mk x e = 1) (hM2 : ∀ x e, ¬ (x = v ∧ e = j) → mk9 x e = mk x e) (hM3 : mk9 v j ≠ 0) (hM4 : (mk v j = 0 ∧ mk9 v j = 2) ∨ mk9 v j = mk v j)  : gi_C own o F mk9 := by
  dsimp only [gi_C, gm_t, gi_cur, gi_NR, gi_wt, gi_open, gh_Net] at *
  try simp (decide := true) only [gh_U, gh_K, gh_A_has, gh_A_cnt, gh_A_mem, false_and, true_and, and_false, or_false, if_false, if_true, and_true]
  grind (splits := 25)
theorem tc_ph {v j : Nat} (Hph : gi_ph F) {c1 : Nat → Nat → List gh_M} {m0 : gh_M} (hj : own v j) (hT : ∀ k y e, gh_has k (c y e) ↔ gh_has k (c1 y e) ∨ (y = v ∧ e = j ∧ k = m0.1)) (hTc : ∀ k y e, gh_cnt k (c y e) = gh_cnt k (c1 y e) + if y = v ∧ e = j ∧ k = m0.1 then 1 else 0) (hTm : ∀ y e m, m ∈ c y e ↔ m ∈ c1 y e ∨ (y = v ∧ e = j ∧ m = m0)) (hTw : ¬ gh_has m0.1 (c1 v j)) (hk : m0.1 = 2) (hd : gm_t own o w F mk c (o v j) v j (F 1 v) m0) (hl : m0.2.1 ≤ F 1 v) (hf : m0.2.2.1 = F 2 v) (hs : F 8 (o v j) = F 8 v) (h7 : F 7 v ≠ j) {mk9 : Nat → Nat → Nat} (hM1 : ∀ x e, mk9 x e = 1 ↔ mk x e = 1) (hM2 : ∀ x e, ¬ (x = v ∧ e = j) → mk9 x e = mk x e) (hM3 : mk9 v j ≠ 0) (hM4 : (mk v j = 0 ∧ mk9 v j = 2) ∨ mk9 v j = mk v j)  : gi_ph F := by
  dsimp only [gi_ph, gm_t, gi_cur, gi_NR, gi_wt, gi_open, gh_Net] at *
  try simp (decide := true) only [gh_U, gh_K, gh_A_has, gh_A_cnt, gh_A_mem, false_and, true_and, and_false, or_false, if_false, if_true, and_true]
  grind (splits := 25)
theorem tc_6 {v j : Nat} (H6 : gi_6 o F c) {c1 : Nat → Nat → List gh_M} {m0 : gh_M} (hj : own v j) (hT : ∀ k y e, gh_has k (c y e) ↔ gh_has k (c1 y e) ∨ (y = v ∧ e = j ∧ k = m0.1)) (hTc : ∀ k y e, gh_cnt k (c y e) = gh_cnt k (c1 y e) + if y = v ∧ e = j ∧ k = m0.1 then 1 else 0) (hTm : ∀ y e m, m ∈ c y e ↔ m ∈ c1 y e ∨ (y = v ∧ e = j ∧ m = m0)) (hTw : ¬ gh_has m0.1 (c1 v j)) (hk : m0.1 = 2) (hd : gm_t own o w F mk c (o v j) v j (F 1 v) m0) (hl : m0.2.1 ≤ F 1 v) (hf : m0.2.2.1 = F 2 v) (hs : F 8 (o v j) = F 8 v) (h7 : F 7 v ≠ j) {mk9 : Nat → Nat → Nat} (hM1 : ∀ x e, mk9 x e = 1 ↔ mk x e = 1) (hM2 : ∀ x e, ¬ (x = v ∧ e = j) → mk9 x e = mk x e) (hM3 : mk9 v j ≠ 0) (hM4 : (mk v j = 0 ∧ mk9 v j = 2) ∨ mk9 v j = mk v j)  : gi_6 o F (gh_A c1 (o v j) j (4, 0, 0, 0)) := by
  dsimp only [gi_6, gm_t, gi_cur, gi_NR, gi_wt, gi_open, gh_Net] at *
  try simp (decide := true) only [gh_U, gh_K, gh_A_has, gh_A_cnt, gh_A_mem, false_and, true_and, and_false, or_false, if_false, if_true, and_true]
  grind (splits := 25)
theorem tc_7 {v j : Nat} (H7 : gi_7 o F) {c1 : Nat → Nat → List gh_M} {m0 : gh_M} (hj : own v j) (hT : ∀ k y e, gh_has k (c y e) ↔ gh_has k (c1 y e) ∨ (y = v ∧ e = j ∧ k = m0.1)) (hTc : ∀ k y e, gh_cnt k (c y e) = gh_cnt k (c1 y e) + if y = v ∧ e = j ∧ k = m0.1 then 1 else 0) (hTm : ∀ y e m, m ∈ c y e ↔ m ∈ c1 y e ∨ (y = v ∧ e = j ∧ m = m0)) (hTw : ¬ gh_has m0.1 (c1 v j)) (hk : m0.1 = 2) (hd : gm_t own o w F mk c (o v j) v j (F 1 v) m0) (hl : m0.2.1 ≤ F 1 v) (hf : m0.2.2.1 = F 2 v) (hs : F 8 (o v j) = F 8 v) (h7 : F 7 v ≠ j) {mk9 : Nat → Nat → Nat} (hM1 : ∀ x e, mk9 x e = 1 ↔ mk x e = 1) (hM2 : ∀ x e, ¬ (x = v ∧ e = j) → mk9 x e = mk x e) (hM3 : mk9 v j ≠ 0) (hM4 : (mk v j = 0 ∧ mk9 v j = 2) ∨ mk9 v j = mk v j)  : gi_7 o F := by
  dsimp only [gi_7, gm_t, gi_cur, gi_NR, gi_wt, gi_open, gh_Net] at *
  try simp (decide := true) only [gh_U, gh_K, gh_A_has, gh_A_cnt, gh_A_mem, false_and, true_and, and_false, or_false, if_false, if_true, and_true]
  grind (splits := 25)
theorem tc_sz {v j : Nat} (Hsz : gi_sz F) {c1 : Nat → Nat → List gh_M} {m0 : gh_M} (hj : own v j) (hT : ∀ k y e, gh_has k (c y e) ↔ gh_has k (c1 y e) ∨ (y = v ∧ e = j ∧ k = m0.1)) (hTc : ∀ k y e, gh_cnt k (c y e) = gh_cnt k (c1 y e) + if y = v ∧ e = j ∧ k = m0.1 then 1 else 0) (hTm : ∀ y e m, m ∈ c y e ↔ m ∈ c1 y e ∨ (y = v ∧ e = j ∧ m = m0)) (hTw : ¬ gh_has m0.1 (c1 v j)) (hk : m0.1 = 2) (hd : gm_t own o w F mk c (o v j) v j (F 1 v) m0) (hl : m0.2.1 ≤ F 1 v) (hf : m0.2.2.1 = F 2 v) (hs : F 8 (o v j) = F 8 v) (h7 : F 7 v ≠ j) {mk9 : Nat → Nat → Nat} (hM1 : ∀ x e, mk9 x e = 1 ↔ mk x e = 1) (hM2 : ∀ x e, ¬ (x = v ∧ e = j) → mk9 x e = mk x e) (hM3 : mk9 v j ≠ 0) (hM4 : (mk v j = 0 ∧ mk9 v j = 2) ∨ mk9 v j = mk v j)  : gi_sz F := by
  dsimp only [gi_sz, gm_t, gi_cur, gi_NR, gi_wt, gi_open, gh_Net] at *
  try simp (decide := true) only [gh_U, gh_K, gh_A_has, gh_A_cnt, gh_A_mem, false_and, true_and, and_false, or_false, if_false, if_true, and_true]
  grind (splits := 25)
theorem tc_mi {v j : Nat} (Hn : gh_Net own o w) (Htw : gi_tw own c) (Hts : gi_ts own o F c) {c1 : Nat → Nat → List gh_M} {m0 : gh_M} (hj : own v j) (hT : ∀ k y e, gh_has k (c y e) ↔ gh_has k (c1 y e) ∨ (y = v ∧ e = j ∧ k = m0.1)) (hTc : ∀ k y e, gh_cnt k (c y e) = gh_cnt k (c1 y e) + if y = v ∧ e = j ∧ k = m0.1 then 1 else 0) (hTm : ∀ y e m, m ∈ c y e ↔ m ∈ c1 y e ∨ (y = v ∧ e = j ∧ m = m0)) (hTw : ¬ gh_has m0.1 (c1 v j)) (hk : m0.1 = 2) (hd : gm_t own o w F mk c (o v j) v j (F 1 v) m0) (hl : m0.2.1 ≤ F 1 v) (hf : m0.2.2.1 = F 2 v) (hs : F 8 (o v j) = F 8 v) (h7 : F 7 v ≠ j) {mk9 : Nat → Nat → Nat} (hM1 : ∀ x e, mk9 x e = 1 ↔ mk x e = 1) (hM2 : ∀ x e, ¬ (x = v ∧ e = j) → mk9 x e = mk x e) (hM3 : mk9 v j ≠ 0) (hM4 : (mk v j = 0 ∧ mk9 v j = 2) ∨ mk9 v j = mk v j)  {x y e a : Nat} {m : gh_M} (hx : o y e = x) (hy : own y e) (hm : m ∈ c1 y e) (ha : F 1 y ≤ a) (hb : ¬ gh_has 1 (c y e) → a = F 1 y)  (h : gm_i own o w F mk c x y e a m) : gm_i own o w F mk9 (gh_A c1 (o v j) j (4, 0, 0, 0)) x y e a m := by
  have hh : ∀ k, m.1 = k → gh_has k (c1 y e) := fun k hk => ⟨m, hm, hk⟩
  dsimp only [gi_tw, gi_ts, gm_t, gm_i, gi_cur, gi_NR, gi_wt, gi_open, gh_Net] at *
  try simp (decide := true) only [gh_U, gh_K, gh_A_has, gh_A_cnt, gh_A_mem, false_and, true_and, and_false, or_false, if_false, if_true, and_true]
  grind (splits := 25)
theorem tc_mc {v j : Nat} (Hn : gh_Net own o w) (Htw : gi_tw own c) (Hts : gi_ts own o F c) {c1 : Nat → Nat → List gh_M} {m0 : gh_M} (hj : own v j) (hT : ∀ k y e, gh_has k (c y e) ↔ gh_has k (c1 y e) ∨ (y = v ∧ e = j ∧ k = m0.1)) (hTc : ∀ k y e, gh_cnt k (c y e) = gh_cnt k (c1 y e) + if y = v ∧ e = j ∧ k = m0.1 then 1 else 0) (hTm : ∀ y e m, m ∈ c y e ↔ m ∈ c1 y e ∨ (y = v ∧ e = j ∧ m = m0)) (hTw : ¬ gh_has m0.1 (c1 v j)) (hk : m0.1 = 2) (hd : gm_t own o w F mk c (o v j) v j (F 1 v) m0) (hl : m0.2.1 ≤ F 1 v) (hf : m0.2.2.1 = F 2 v) (hs : F 8 (o v j) = F 8 v) (h7 : F 7 v ≠ j) {mk9 : Nat → Nat → Nat} (hM1 : ∀ x e, mk9 x e = 1 ↔ mk x e = 1) (hM2 : ∀ x e, ¬ (x = v ∧ e = j) → mk9 x e = mk x e) (hM3 : mk9 v j ≠ 0) (hM4 : (mk v j = 0 ∧ mk9 v j = 2) ∨ mk9 v j = mk v j)  {x y e a : Nat} {m : gh_M} (hx : o y e = x) (hy : own y e) (hm : m ∈ c1 y e) (ha : F 1 y ≤ a) (hb : ¬ gh_has 1 (c y e) → a = F 1 y)  (h : gm_c own o w F mk c x y e a m) : gm_c own o w F mk9 (gh_A c1 (o v j) j (4, 0, 0, 0)) x y e a m := by
  have hh : ∀ k, m.1 = k → gh_has k (c1 y e) := fun k hk => ⟨m, hm, hk⟩
  dsimp only [gi_tw, gi_ts, gm_t, gm_c, gi_cur, gi_NR, gi_wt, gi_open, gh_Net] at *
  try simp (decide := true) only [gh_U, gh_K, gh_A_has, gh_A_cnt, gh_A_mem, false_and, true_and, and_false, or_false, if_false, if_true, and_true]
  grind (splits := 25)
theorem tc_mt {v j : Nat} (Hn : gh_Net own o w) (Htw : gi_tw own c) (Hts : gi_ts own o F c) {c1 : Nat → Nat → List gh_M} {m0 : gh_M} (hj : own v j) (hT : ∀ k y e, gh_has k (c y e) ↔ gh_has k (c1 y e) ∨ (y = v ∧ e = j ∧ k = m0.1)) (hTc : ∀ k y e, gh_cnt k (c y e) = gh_cnt k (c1 y e) + if y = v ∧ e = j ∧ k = m0.1 then 1 else 0) (hTm : ∀ y e m, m ∈ c y e ↔ m ∈ c1 y e ∨ (y = v ∧ e = j ∧ m = m0)) (hTw : ¬ gh_has m0.1 (c1 v j)) (hk : m0.1 = 2) (hd : gm_t own o w F mk c (o v j) v j (F 1 v) m0) (hl : m0.2.1 ≤ F 1 v) (hf : m0.2.2.1 = F 2 v) (hs : F 8 (o v j) = F 8 v) (h7 : F 7 v ≠ j) {mk9 : Nat → Nat → Nat} (hM1 : ∀ x e, mk9 x e = 1 ↔ mk x e = 1) (hM2 : ∀ x e, ¬ (x = v ∧ e = j) → mk9 x e = mk x e) (hM3 : mk9 v j ≠ 0) (hM4 : (mk v j = 0 ∧ mk9 v j = 2) ∨ mk9 v j = mk v j)  {x y e a : Nat} {m : gh_M} (hx : o y e = x) (hy : own y e) (hm : m ∈ c1 y e) (ha : F 1 y ≤ a) (hb : ¬ gh_has 1 (c y e) → a = F 1 y)  (h : gm_t own o w F mk c x y e a m) : gm_t own o w F mk9 (gh_A c1 (o v j) j (4, 0, 0, 0)) x y e a m := by
  have hh : ∀ k, m.1 = k → gh_has k (c1 y e) := fun k hk => ⟨m, hm, hk⟩
  dsimp only [gi_tw, gi_ts, gm_t, gi_cur, gi_NR, gi_wt, gi_open, gh_Net] at *
  try simp (decide := true) only [gh_U, gh_K, gh_A_has, gh_A_cnt, gh_A_mem, false_and, true_and, and_false, or_false, if_false, if_true, and_true]
  grind (splits := 25)
theorem tc_ma {v j : Nat} (Hn : gh_Net own o w) (Htw : gi_tw own c) (Hts : gi_ts own o F c) {c1 : Nat → Nat → List gh_M} {m0 : gh_M} (hj : own v j) (hT : ∀ k y e, gh_has k (c y e) ↔ gh_has k (c1 y e) ∨ (y = v ∧ e = j ∧ k = m0.1)) (hTc : ∀ k y e, gh_cnt k (c y e) = gh_cnt k (c1 y e) + if y = v ∧ e = j ∧ k = m0.1 then 1 else 0) (hTm : ∀ y e m, m ∈ c y e ↔ m ∈ c1 y e ∨ (y = v ∧ e = j ∧ m = m0)) (hTw : ¬ gh_has m0.1 (c1 v j)) (hk : m0.1 = 2) (hd : gm_t own o w F mk c (o v j) v j (F 1 v) m0) (hl : m0.2.1 ≤ F 1 v) (hf : m0.2.2.1 = F 2 v) (hs : F 8 (o v j) = F 8 v) (h7 : F 7 v ≠ j) {mk9 : Nat → Nat → Nat} (hM1 : ∀ x e, mk9 x e = 1 ↔ mk x e = 1) (hM2 : ∀ x e, ¬ (x = v ∧ e = j) → mk9 x e = mk x e) (hM3 : mk9 v j ≠ 0) (hM4 : (mk v j = 0 ∧ mk9 v j = 2) ∨ mk9 v j = mk v j)  {x y e a : Nat} {m : gh_M} (hx : o y e = x) (hy : own y e) (hm : m ∈ c1 y e) (ha : F 1 y ≤ a) (hb : ¬ gh_has 1 (c y e) → a = F 1 y)  (h : gm_a own o w F mk c x y e a m) : gm_a own o w F mk9 (gh_A c1 (o v j) j (4, 0, 0, 0)) x y e a m := by
  have hh : ∀ k, m.1 = k → gh_has k (c1 y e) := fun k hk => ⟨m, hm, hk⟩
  dsimp only [gi_tw, gi_ts, gm_t, gm_a, gi_cur, gi_NR, gi_wt, gi_open, gh_Net] at *
  try simp (decide := true) only [gh_U, gh_K, gh_A_has, gh_A_cnt, gh_A_mem, false_and, true_and, and_false, or_false, if_false, if_true, and_true]
  grind (splits := 25)
theorem tc_mr {v j : Nat} (Hn : gh_Net own o w) (Htw : gi_tw own c) (Hts : gi_ts own o F c) {c1 : Nat → Nat → List gh_M} {m0 : gh_M} (hj : own v j) (hT : ∀ k y e, gh_has k (c y e) ↔ gh_has k (c1 y e) ∨ (y = v ∧ e = j ∧ k = m0.1)) (hTc : ∀ k y e, gh_cnt k (c y e) = gh_cnt k (c1 y e) + if y = v ∧ e = j ∧ k = m0.1 then 1 else 0) (hTm : ∀ y e m, m ∈ c y e ↔ m ∈ c1 y e ∨ (y = v ∧ e = j ∧ m = m0)) (hTw : ¬ gh_has m0.1 (c1 v j)) (hk : m0.1 = 2) (hd : gm_t own o w F mk c (o v j) v j (F 1 v) m0) (hl : m0.2.1 ≤ F 1 v) (hf : m0.2.2.1 = F 2 v) (hs : F 8 (o v j) = F 8 v) (h7 : F 7 v ≠ j) {mk9 : Nat → Nat → Nat} (hM1 : ∀ x e, mk9 x e = 1 ↔ mk x e = 1) (hM2 : ∀ x e, ¬ (x = v ∧ e = j) → mk9 x e = mk x e) (hM3 : mk9 v j ≠ 0) (hM4 : (mk v j = 0 ∧ mk9 v j = 2) ∨ mk9 v j = mk v j)  {x y e a : Nat} {m : gh_M} (hx : o y e = x) (hy : own y e) (hm : m ∈ c1 y e) (ha : F 1 y ≤ a) (hb : ¬ gh_has 1 (c y e) → a = F 1 y)  (h : gm_r own o w F mk c x y e a m) : gm_r own o w F mk9 (gh_A c1 (o v j) j (4, 0, 0, 0)) x y e a m := by
  have hh : ∀ k, m.1 = k → gh_has k (c1 y e) := fun k hk => ⟨m, hm, hk⟩
  dsimp only [gi_tw, gi_ts, gm_t, gm_r, gi_cur, gi_NR, gi_wt, gi_open, gh_Net] at *
  try simp (decide := true) only [gh_U, gh_K, gh_A_has, gh_A_cnt, gh_A_mem, false_and, true_and, and_false, or_false, if_false, if_true, and_true]
  grind (splits := 25)
theorem tc_mk {v j : Nat} (Hn : gh_Net own o w) (Htw : gi_tw own c) (Hts : gi_ts own o F c) {c1 : Nat → Nat → List gh_M} {m0 : gh_M} (hj : own v j) (hT : ∀ k y e, gh_has k (c y e) ↔ gh_has k (c1 y e) ∨ (y = v ∧ e = j ∧ k = m0.1)) (hTc : ∀ k y e, gh_cnt k (c y e) = gh_cnt k (c1 y e) + if y = v ∧ e = j ∧ k = m0.1 then 1 else 0) (hTm : ∀ y e m, m ∈ c y e ↔ m ∈ c1 y e ∨ (y = v ∧ e = j ∧ m = m0)) (hTw : ¬ gh_has m0.1 (c1 v j)) (hk : m0.1 = 2) (hd : gm_t own o w F mk c (o v j) v j (F 1 v) m0) (hl : m0.2.1 ≤ F 1 v) (hf : m0.2.2.1 = F 2 v) (hs : F 8 (o v j) = F 8 v) (h7 : F 7 v ≠ j) {mk9 : Nat → Nat → Nat} (hM1 : ∀ x e, mk9 x e = 1 ↔ mk x e = 1) (hM2 : ∀ x e, ¬ (x = v ∧ e = j) → mk9 x e = mk x e) (hM3 : mk9 v j ≠ 0) (hM4 : (mk v j = 0 ∧ mk9 v j = 2) ∨ mk9 v j = mk v j)  {x y e a : Nat} {m : gh_M} (hx : o y e = x) (hy : own y e) (hm : m ∈ c1 y e) (ha : F 1 y ≤ a) (hb : ¬ gh_has 1 (c y e) → a = F 1 y)  (h : gm_k own o w F mk c x y e a m) : gm_k own o w F mk9 (gh_A c1 (o v j) j (4, 0, 0, 0)) x y e a m := by
  have hh : ∀ k, m.1 = k → gh_has k (c1 y e) := fun k hk => ⟨m, hm, hk⟩
  dsimp only [gi_tw, gi_ts, gm_t, gm_k, gi_cur, gi_NR, gi_wt, gi_open, gh_Net] at *
  try simp (decide := true) only [gh_U, gh_K, gh_A_has, gh_A_cnt, gh_A_mem, false_and, true_and, and_false, or_false, if_false, if_true, and_true]
  grind (splits := 25)
theorem tc_mp {v j : Nat} (Hn : gh_Net own o w) (Htw : gi_tw own c) (Hts : gi_ts own o F c) {c1 : Nat → Nat → List gh_M} {m0 : gh_M} (hj : own v j) (hT : ∀ k y e, gh_has k (c y e) ↔ gh_has k (c1 y e) ∨ (y = v ∧ e = j ∧ k = m0.1)) (hTc : ∀ k y e, gh_cnt k (c y e) = gh_cnt k (c1 y e) + if y = v ∧ e = j ∧ k = m0.1 then 1 else 0) (hTm : ∀ y e m, m ∈ c y e ↔ m ∈ c1 y e ∨ (y = v ∧ e = j ∧ m = m0)) (hTw : ¬ gh_has m0.1 (c1 v j)) (hk : m0.1 = 2) (hd : gm_t own o w F mk c (o v j) v j (F 1 v) m0) (hl : m0.2.1 ≤ F 1 v) (hf : m0.2.2.1 = F 2 v) (hs : F 8 (o v j) = F 8 v) (h7 : F 7 v ≠ j) {mk9 : Nat → Nat → Nat} (hM1 : ∀ x e, mk9 x e = 1 ↔ mk x e = 1) (hM2 : ∀ x e, ¬ (x = v ∧ e = j) → mk9 x e = mk x e) (hM3 : mk9 v j ≠ 0) (hM4 : (mk v j = 0 ∧ mk9 v j = 2) ∨ mk9 v j = mk v j)  {x y e a : Nat} {m : gh_M} (hx : o y e = x) (hy : own y e) (hm : m ∈ c1 y e) (ha : F 1 y ≤ a) (hb : ¬ gh_has 1 (c y e) → a = F 1 y)  (h : gm_p own o w F mk c x y e a m) : gm_p own o w F mk9 (gh_A c1 (o v j) j (4, 0, 0, 0)) x y e a m := by
  have hh : ∀ k, m.1 = k → gh_has k (c1 y e) := fun k hk => ⟨m, hm, hk⟩
  dsimp only [gi_tw, gi_ts, gm_t, gm_p, gi_cur, gi_NR, gi_wt, gi_open, gh_Net] at *
  try simp (decide := true) only [gh_U, gh_K, gh_A_has, gh_A_cnt, gh_A_mem, false_and, true_and, and_false, or_false, if_false, if_true, and_true]
  grind (splits := 25)
theorem tc_new {v j : Nat} (Hn : gh_Net own o w) (Hts : gi_ts own o F c) (Hs1 : gi_s1 F) {c1 : Nat → Nat → List gh_M} {m0 : gh_M} (hj : own v j) (hT : ∀ k y e, gh_has k (c y e) ↔ gh_has k (c1 y e) ∨ (y = v ∧ e = j ∧ k = m0.1)) (hTc : ∀ k y e, gh_cnt k (c y e) = gh_cnt k (c1 y e) + if y = v ∧ e = j ∧ k = m0.1 then 1 else 0) (hTm : ∀ y e m, m ∈ c y e ↔ m ∈ c1 y e ∨ (y = v ∧ e = j ∧ m = m0)) (hTw : ¬ gh_has m0.1 (c1 v j)) (hk : m0.1 = 2) (hd : gm_t own o w F mk c (o v j) v j (F 1 v) m0) (hl : m0.2.1 ≤ F 1 v) (hf : m0.2.2.1 = F 2 v) (hs : F 8 (o v j) = F 8 v) (h7 : F 7 v ≠ j) {mk9 : Nat → Nat → Nat} (hM1 : ∀ x e, mk9 x e = 1 ↔ mk x e = 1) (hM2 : ∀ x e, ¬ (x = v ∧ e = j) → mk9 x e = mk x e) (hM3 : mk9 v j ≠ 0) (hM4 : (mk v j = 0 ∧ mk9 v j = 2) ∨ mk9 v j = mk v j)   : gm_r own o w F mk9 (gh_A c1 (o v j) j (4, 0, 0, 0)) (o (o v j) (j)) (o v j) (j) (gh_last (F 1 (o v j)) (c1 (o v j) j)) (4, 0, 0, 0) := by
  dsimp only [gi_ts, gi_s1, gm_t, gm_r, gi_cur, gi_NR, gi_wt, gi_open, gh_Net] at *
  try simp (decide := true) only [gh_U, gh_K, gh_A_has, gh_A_cnt, gh_A_mem, false_and, true_and, and_false, or_false, if_false, if_true, and_true]
  grind (splits := 30)
theorem tc_I {v j : Nat} (Hn : gh_Net own o w) (h : gI own o w F mk c) {m0 : gh_M} {t : List gh_M} (hj : own v j) (hc : c v j = m0 :: t) (hk : m0.1 = 2) (hl : m0.2.1 ≤ F 1 v) (hf : m0.2.2.1 = F 2 v) (h7 : F 7 v ≠ j) {mk9 : Nat → Nat → Nat} (hM1 : ∀ x e, mk9 x e = 1 ↔ mk x e = 1) (hM2 : ∀ x e, ¬ (x = v ∧ e = j) → mk9 x e = mk x e) (hM3 : mk9 v j ≠ 0) (hM4 : (mk v j = 0 ∧ mk9 v j = 2) ∨ mk9 v j = mk v j)  : gI own o w F mk9 (gh_A (gh_T c v j) (o v j) j (4, 0, 0, 0)) := by
  obtain ⟨Hst, Hb1, Hb2, Hb3, Hb4, Hb5, Hb6, Hs0, HpA, Hs1, Hs2, HSl, Hs3, Hs4, How, Hs5, Hs6, HSr, HSn, HM, HC, Hph, H6, H7, Hbc, HK, Hrj, Htw, Hts, Han, Hsz, Hch⟩ := h
  have Xi := gx_iI Hch
  have Xc := gx_cI Hch
  have Xt := gx_tI Hch
  have Xa := gx_aI Hch
  have Xr := gx_rI Hch
  have Xk := gx_kI Hch
  have Xp := gx_pI Hch
  have Xl := gx_lI Hch
  have Xb := gx_bI Hch
  have Xn := gx_nI Hn Hph HpA HSr HSn HM HC
  have hT := gp_T hc
  have hTc := gp_C hc
  have hTm := gp_M hc
  have hTw := gp_W hc Htw hj (by omega)
  have hd0 := gi_hd Hch hj hc
  have hd := hd0.2.2.2.1
  have hs : F 8 (o v j) = F 8 v := by
    have a0 := hd hk
    have a1 := Hn.1 v j hj
    have a2 := Hs2 (o v j)
    have a3 := Hs2 v
    have a4 := Hb3 (o v j)
    have a5 := Hb5 v
    have a6 := Hb6 (o v j)
    have a7 := HSl (o v j)
    have a8 := HSl v
    have a9 := Hb3 v
    have a10 := Hb2 (o v j)
    unfold gi_wt at a0
    by_cases q : F 0 (o v j) = 1 ∧ F 7 (o v j) = j
    · have b1 := a0.1 q
      obtain ⟨y, e, r1, r2, r3, r4⟩ := a5 (by grind)
      obtain ⟨y2, e2, s1, s2, s3, s4, -⟩ := a6 (by grind)
      have b2 := Hn.2.2 y y2 e e2 r1 s1 (by grind)
      have b3 := Hn.2.1 y y2 e r1 (by rw [b2]; exact s1)
      grind
    · exact (a0.2 q).2.2.2.1
  refine ⟨tc_st (c1 := gh_T c v j) Hst hj hT hTc hTm hTw hk hd hl hf hs h7 hM1 hM2 hM3 hM4, tc_b1 (c1 := gh_T c v j) Hb1 hj hT hTc hTm hTw hk hd hl hf hs h7 hM1 hM2 hM3 hM4, tc_b2 (c1 := gh_T c v j) Hb2 hj hT hTc hTm hTw hk hd hl hf hs h7 hM1 hM2 hM3 hM4, tc_b3 (c1 := gh_T c v j) Hb3 hj hT hTc hTm hTw hk hd hl hf hs h7 hM1 hM2 hM3 hM4, tc_b4 (c1 := gh_T c v j) Hb4 hj hT hTc hTm hTw hk hd hl hf hs h7 hM1 hM2 hM3 hM4, tc_b5 (c1 := gh_T c v j) Hb5 hj hT hTc hTm hTw hk hd hl hf hs h7 hM1 hM2 hM3 hM4, tc_b6 (c1 := gh_T c v j) Hb6 hj hT hTc hTm hTw hk hd hl hf hs h7 hM1 hM2 hM3 hM4, tc_s0 (c1 := gh_T c v j) Hs0 hj hT hTc hTm hTw hk hd hl hf hs h7 hM1 hM2 hM3 hM4, tc_pA (c1 := gh_T c v j) HpA Hs2 Hn hj hT hTc hTm hTw hk hd hl hf hs h7 hM1 hM2 hM3 hM4, tc_s1 (c1 := gh_T c v j) Hs1 hj hT hTc hTm hTw hk hd hl hf hs h7 hM1 hM2 hM3 hM4, tc_s2 (c1 := gh_T c v j) Hs2 hj hT hTc hTm hTw hk hd hl hf hs h7 hM1 hM2 hM3 hM4, tc_Sl (c1 := gh_T c v j) HSl hj hT hTc hTm hTw hk hd hl hf hs h7 hM1 hM2 hM3 hM4, tc_s3 (c1 := gh_T c v j) Hs3 hj hT hTc hTm hTw hk hd hl hf hs h7 hM1 hM2 hM3 hM4, tc_s4 (c1 := gh_T c v j) Hs4 hj hT hTc hTm hTw hk hd hl hf hs h7 hM1 hM2 hM3 hM4, tc_ow (c1 := gh_T c v j) How hj hT hTc hTm hTw hk hd hl hf hs h7 hM1 hM2 hM3 hM4, tc_s5 (c1 := gh_T c v j) Hs5 hj hT hTc hTm hTw hk hd hl hf hs h7 hM1 hM2 hM3 hM4, tc_s6 (c1 := gh_T c v j) Hs6 Hn hj hT hTc hTm hTw hk hd hl hf hs h7 hM1 hM2 hM3 hM4, tc_Sr (c1 := gh_T c v j) HSr hj hT hTc hTm hTw hk hd hl hf hs h7 hM1 hM2 hM3 hM4, tc_Sn (c1 := gh_T c v j) HSn hj hT hTc hTm hTw hk hd hl hf hs h7 hM1 hM2 hM3 hM4, tc_M (c1 := gh_T c v j) HM hj hT hTc hTm hTw hk hd hl hf hs h7 hM1 hM2 hM3 hM4, tc_C (c1 := gh_T c v j) HC hj hT hTc hTm hTw hk hd hl hf hs h7 hM1 hM2 hM3 hM4, tc_ph (c1 := gh_T c v j) Hph hj hT hTc hTm hTw hk hd hl hf hs h7 hM1 hM2 hM3 hM4, tc_6 (c1 := gh_T c v j) H6 hj hT hTc hTm hTw hk hd hl hf hs h7 hM1 hM2 hM3 hM4, tc_7 (c1 := gh_T c v j) H7 hj hT hTc hTm hTw hk hd hl hf hs h7 hM1 hM2 hM3 hM4, tc_bc (c1 := gh_T c v j) Hbc Hn Hs2 hj hT hTc hTm hTw hk hd hl hf hs h7 hM1 hM2 hM3 hM4, tc_K (c1 := gh_T c v j) HK Hn hj hT hTc hTm hTw hk hd hl hf hs h7 hM1 hM2 hM3 hM4, tc_rj (c1 := gh_T c v j) Hrj Hn hj hT hTc hTm hTw hk hd hl hf hs h7 hM1 hM2 hM3 hM4, tc_tw (c1 := gh_T c v j) Htw Hn Xr hj hT hTc hTm hTw hk hd hl hf hs h7 hM1 hM2 hM3 hM4, tc_ts (c1 := gh_T c v j) Hts Hn hj hT hTc hTm hTw hk hd hl hf hs h7 hM1 hM2 hM3 hM4, tc_an (c1 := gh_T c v j) Han hj hT hTc hTm hTw hk hd hl hf hs h7 hM1 hM2 hM3 hM4, tc_sz (c1 := gh_T c v j) Hsz hj hT hTc hTm hTw hk hd hl hf hs h7 hM1 hM2 hM3 hM4, ?_⟩
  have K1 : gi_all own F (gh_T c v j) (fun y e => gi_m own o w F mk9 (gh_A (gh_T c v j) (o v j) j (4, 0, 0, 0)) (o y e) y e) := gi_all_go (gi_all_popT Hch hc (by omega)) (fun y e q => (hT 1 y e).mpr (Or.inl q)) (fun y => rfl) (fun y e a m hy hm ha hb q => ⟨q.1, tc_mi Hn Htw Hts hj hT hTc hTm hTw hk hd hl hf hs h7 hM1 hM2 hM3 hM4 rfl hy hm ha hb q.2.1, tc_mc Hn Htw Hts hj hT hTc hTm hTw hk hd hl hf hs h7 hM1 hM2 hM3 hM4 rfl hy hm ha hb q.2.2.1, tc_mt Hn Htw Hts hj hT hTc hTm hTw hk hd hl hf hs h7 hM1 hM2 hM3 hM4 rfl hy hm ha hb q.2.2.2.1, tc_ma Hn Htw Hts hj hT hTc hTm hTw hk hd hl hf hs h7 hM1 hM2 hM3 hM4 rfl hy hm ha hb q.2.2.2.2.1, tc_mr Hn Htw Hts hj hT hTc hTm hTw hk hd hl hf hs h7 hM1 hM2 hM3 hM4 rfl hy hm ha hb q.2.2.2.2.2.1, tc_mk Hn Htw Hts hj hT hTc hTm hTw hk hd hl hf hs h7 hM1 hM2 hM3 hM4 rfl hy hm ha hb q.2.2.2.2.2.2.1, tc_mp Hn Htw Hts hj hT hTc hTm hTw hk hd hl hf hs h7 hM1 hM2 hM3 hM4 rfl hy hm ha hb q.2.2.2.2.2.2.2⟩)
  exact gi_all_appA K1 (fun hy => ⟨by simp, fun z => absurd z (by simp), fun z => absurd z (by simp), fun z => absurd z (by simp), fun z => absurd z (by simp), tc_new Hn Hts Hs1 hj hT hTc hTm hTw hk hd hl hf hs h7 hM1 hM2 hM3 hM4 , fun z => absurd z (by simp), fun z => absurd z (by simp)⟩)
end
section
variable {own : Nat → Nat → Prop} {o : Nat → Nat → Nat} {w : Nat → Nat} {F : gh_F} {mk : Nat → Nat → Nat} {c : Nat → Nat → List gh_M}
theorem td_tw {v j : Nat} (Htw : gi_tw own c) (Hn : gh_Net own o w) {c1 : Nat → Nat → List gh_M} {m0 : gh_M} (hj : own v j) (hT : ∀ k y e, gh_has k (c y e) ↔ gh_has k (c1 y e) ∨ (y = v ∧ e = j ∧ k = m0.1)) (hTc : ∀ k y e, gh_cnt k (c y e) = gh_cnt k (c1 y e) + if y = v ∧ e = j ∧ k = m0.1 then 1 else 0) (hTm : ∀ y e m, m ∈ c y e ↔ m ∈ c1 y e ∨ (y = v ∧ e = j ∧ m = m0)) (hTw : ¬ gh_has m0.1 (c1 v j)) (hk : m0.1 = 2) (hd : gm_t own o w F mk c (o v j) v j (F 1 v) m0) (hl : m0.2.1 ≤ F 1 v) (hf : m0.2.2.1 = F 2 v) (hs : F 8 (o v j) = F 8 v) (h7 : F 7 v = j) (h0 : F 0 v = 1) {mk9 : Nat → Nat → Nat} (hM1 : ∀ x e, mk9 x e = 1 ↔ mk x e = 1) (hM2 : ∀ x e, ¬ (x = v ∧ e = j) → mk9 x e = mk x e) (hM3 : mk9 v j ≠ 0) (hM4 : (mk v j = 0 ∧ mk9 v j = 2) ∨ mk9 v j = mk v j)  : gi_tw own c1 := by
  dsimp only [gi_tw, gm_t, gi_cur, gi_NR, gi_wt, gi_open, gh_Net] at *
  try simp (decide := true) only [gh_U, gh_K, gh_A_has, gh_A_cnt, gh_A_mem, false_and, true_and, and_false, or_false, if_false, if_true, and_true]
  grind (splits := 25)
theorem td_ts {v j : Nat} (Hts : gi_ts own o F c) (Hn : gh_Net own o w) {c1 : Nat → Nat → List gh_M} {m0 : gh_M} (hj : own v j) (hT : ∀ k y e, gh_has k (c y e) ↔ gh_has k (c1 y e) ∨ (y = v ∧ e = j ∧ k = m0.1)) (hTc : ∀ k y e, gh_cnt k (c y e) = gh_cnt k (c1 y e) + if y = v ∧ e = j ∧ k = m0.1 then 1 else 0) (hTm : ∀ y e m, m ∈ c y e ↔ m ∈ c1 y e ∨ (y = v ∧ e = j ∧ m = m0)) (hTw : ¬ gh_has m0.1 (c1 v j)) (hk : m0.1 = 2) (hd : gm_t own o w F mk c (o v j) v j (F 1 v) m0) (hl : m0.2.1 ≤ F 1 v) (hf : m0.2.2.1 = F 2 v) (hs : F 8 (o v j) = F 8 v) (h7 : F 7 v = j) (h0 : F 0 v = 1) {mk9 : Nat → Nat → Nat} (hM1 : ∀ x e, mk9 x e = 1 ↔ mk x e = 1) (hM2 : ∀ x e, ¬ (x = v ∧ e = j) → mk9 x e = mk x e) (hM3 : mk9 v j ≠ 0) (hM4 : (mk v j = 0 ∧ mk9 v j = 2) ∨ mk9 v j = mk v j)  : gi_ts own o (gh_U F 7 v 12) c1 := by
  dsimp only [gi_ts, gm_t, gi_cur, gi_NR, gi_wt, gi_open, gh_Net] at *
  try simp (decide := true) only [gh_U, gh_K, gh_A_has, gh_A_cnt, gh_A_mem, false_and, true_and, and_false, or_false, if_false, if_true, and_true]
  grind (splits := 25)
theorem td_pA {v j : Nat} (HpA : gi_pA own F mk) (Hs2 : gi_s2 F) (Hn : gh_Net own o w) {c1 : Nat → Nat → List gh_M} {m0 : gh_M} (hj : own v j) (hT : ∀ k y e, gh_has k (c y e) ↔ gh_has k (c1 y e) ∨ (y = v ∧ e = j ∧ k = m0.1)) (hTc : ∀ k y e, gh_cnt k (c y e) = gh_cnt k (c1 y e) + if y = v ∧ e = j ∧ k = m0.1 then 1 else 0) (hTm : ∀ y e m, m ∈ c y e ↔ m ∈ c1 y e ∨ (y = v ∧ e = j ∧ m = m0)) (hTw : ¬ gh_has m0.1 (c1 v j)) (hk : m0.1 = 2) (hd : gm_t own o w F mk c (o v j) v j (F 1 v) m0) (hl : m0.2.1 ≤ F 1 v) (hf : m0.2.2.1 = F 2 v) (hs : F 8 (o v j) = F 8 v) (h7 : F 7 v = j) (h0 : F 0 v = 1) {mk9 : Nat → Nat → Nat} (hM1 : ∀ x e, mk9 x e = 1 ↔ mk x e = 1) (hM2 : ∀ x e, ¬ (x = v ∧ e = j) → mk9 x e = mk x e) (hM3 : mk9 v j ≠ 0) (hM4 : (mk v j = 0 ∧ mk9 v j = 2) ∨ mk9 v j = mk v j)  : gi_pA own (gh_U F 7 v 12) mk9 := by
  dsimp only [gi_pA, gi_s2, gm_t, gi_cur, gi_NR, gi_wt, gi_open, gh_Net] at *
  try simp (decide := true) only [gh_U, gh_K, gh_A_has, gh_A_cnt, gh_A_mem, false_and, true_and, and_false, or_false, if_false, if_true, and_true]
  grind (splits := 25)
theorem td_s6 {v j : Nat} (Hs6 : gi_s6 own F mk) (Hn : gh_Net own o w) {c1 : Nat → Nat → List gh_M} {m0 : gh_M} (hj : own v j) (hT : ∀ k y e, gh_has k (c y e) ↔ gh_has k (c1 y e) ∨ (y = v ∧ e = j ∧ k = m0.1)) (hTc : ∀ k y e, gh_cnt k (c y e) = gh_cnt k (c1 y e) + if y = v ∧ e = j ∧ k = m0.1 then 1 else 0) (hTm : ∀ y e m, m ∈ c y e ↔ m ∈ c1 y e ∨ (y = v ∧ e = j ∧ m = m0)) (hTw : ¬ gh_has m0.1 (c1 v j)) (hk : m0.1 = 2) (hd : gm_t own o w F mk c (o v j) v j (F 1 v) m0) (hl : m0.2.1 ≤ F 1 v) (hf : m0.2.2.1 = F 2 v) (hs : F 8 (o v j) = F 8 v) (h7 : F 7 v = j) (h0 : F 0 v = 1) {mk9 : Nat → Nat → Nat} (hM1 : ∀ x e, mk9 x e = 1 ↔ mk x e = 1) (hM2 : ∀ x e, ¬ (x = v ∧ e = j) → mk9 x e = mk x e) (hM3 : mk9 v j ≠ 0) (hM4 : (mk v j = 0 ∧ mk9 v j = 2) ∨ mk9 v j = mk v j)  : gi_s6 own (gh_U F 7 v 12) mk9 := by
  dsimp only [gi_s6, gm_t, gi_cur, gi_NR, gi_wt, gi_open, gh_Net] at *
  try simp (decide := true) only [gh_U, gh_K, gh_A_has, gh_A_cnt, gh_A_mem, false_and, true_and, and_false, or_false, if_false, if_true, and_true]
  grind (splits := 25)
theorem td_rj {v j : Nat} (Hrj : gi_rj own o F mk) (Hn : gh_Net own o w) {c1 : Nat → Nat → List gh_M} {m0 : gh_M} (hj : own v j) (hT : ∀ k y e, gh_has k (c y e) ↔ gh_has k (c1 y e) ∨ (y = v ∧ e = j ∧ k = m0.1)) (hTc : ∀ k y e, gh_cnt k (c y e) = gh_cnt k (c1 y e) + if y = v ∧ e = j ∧ k = m0.1 then 1 else 0) (hTm : ∀ y e m, m ∈ c y e ↔ m ∈ c1 y e ∨ (y = v ∧ e = j ∧ m = m0)) (hTw : ¬ gh_has m0.1 (c1 v j)) (hk : m0.1 = 2) (hd : gm_t own o w F mk c (o v j) v j (F 1 v) m0) (hl : m0.2.1 ≤ F 1 v) (hf : m0.2.2.1 = F 2 v) (hs : F 8 (o v j) = F 8 v) (h7 : F 7 v = j) (h0 : F 0 v = 1) {mk9 : Nat → Nat → Nat} (hM1 : ∀ x e, mk9 x e = 1 ↔ mk x e = 1) (hM2 : ∀ x e, ¬ (x = v ∧ e = j) → mk9 x e = mk x e) (hM3 : mk9 v j ≠ 0) (hM4 : (mk v j = 0 ∧ mk9 v j = 2) ∨ mk9 v j = mk v j)  : gi_rj own o (gh_U F 7 v 12) mk9 := by
  dsimp only [gi_rj, gm_t, gi_cur, gi_NR, gi_wt, gi_open, gh_Net] at *
  try simp (decide := true) only [gh_U, gh_K, gh_A_has, gh_A_cnt, gh_A_mem, false_and, true_and, and_false, or_false, if_false, if_true, and_true]
  grind (splits := 25)
theorem td_b6 {v j : Nat} (Hb6 : gi_b6 own o w F mk) {c1 : Nat → Nat → List gh_M} {m0 : gh_M} (hj : own v j) (hT : ∀ k y e, gh_has k (c y e) ↔ gh_has k (c1 y e) ∨ (y = v ∧ e = j ∧ k = m0.1)) (hTc : ∀ k y e, gh_cnt k (c y e) = gh_cnt k (c1 y e) + if y = v ∧ e = j ∧ k = m0.1 then 1 else 0) (hTm : ∀ y e m, m ∈ c y e ↔ m ∈ c1 y e ∨ (y = v ∧ e = j ∧ m = m0)) (hTw : ¬ gh_has m0.1 (c1 v j)) (hk : m0.1 = 2) (hd : gm_t own o w F mk c (o v j) v j (F 1 v) m0) (hl : m0.2.1 ≤ F 1 v) (hf : m0.2.2.1 = F 2 v) (hs : F 8 (o v j) = F 8 v) (h7 : F 7 v = j) (h0 : F 0 v = 1) {mk9 : Nat → Nat → Nat} (hM1 : ∀ x e, mk9 x e = 1 ↔ mk x e = 1) (hM2 : ∀ x e, ¬ (x = v ∧ e = j) → mk9 x e = mk x e) (hM3 : mk9 v j ≠ 0) (hM4 : (mk v j = 0 ∧ mk9 v j = 2) ∨ mk9 v j = mk v j)  : gi_b6 own o w (gh_U F 7 v 12) mk9 := by
  intro x hx
  obtain ⟨y, e, h1, h2, h3, h4, h5, h6⟩ := Hb6 x hx
  exact ⟨y, e, h1, h2, h3, h4, (hM1 _ _).mpr h5, (hM1 _ _).mpr h6⟩
theorem td_Sr {v j : Nat} (HSr : gi_Sr o w F c) {c1 : Nat → Nat → List gh_M} {m0 : gh_M} (hj : own v j) (hT : ∀ k y e, gh_has k (c y e) ↔ gh_has k (c1 y e) ∨ (y = v ∧ e = j ∧ k = m0.1)) (hTc : ∀ k y e, gh_cnt k (c y e) = gh_cnt k (c1 y e) + if y = v ∧ e = j ∧ k = m0.1 then 1 else 0) (hTm : ∀ y e m, m ∈ c y e ↔ m ∈ c1 y e ∨ (y = v ∧ e = j ∧ m = m0)) (hTw : ¬ gh_has m0.1 (c1 v j)) (hk : m0.1 = 2) (hd : gm_t own o w F mk c (o v j) v j (F 1 v) m0) (hl : m0.2.1 ≤ F 1 v) (hf : m0.2.2.1 = F 2 v) (hs : F 8 (o v j) = F 8 v) (h7 : F 7 v = j) (h0 : F 0 v = 1) {mk9 : Nat → Nat → Nat} (hM1 : ∀ x e, mk9 x e = 1 ↔ mk x e = 1) (hM2 : ∀ x e, ¬ (x = v ∧ e = j) → mk9 x e = mk x e) (hM3 : mk9 v j ≠ 0) (hM4 : (mk v j = 0 ∧ mk9 v j = 2) ∨ mk9 v j = mk v j)  : gi_Sr o w (gh_U F 7 v 12) c1 := by
  intro x h1 h2
  obtain ⟨a1, a2, a3⟩ := HSr x h1 h2
  refine ⟨a1, a2, fun hc => ⟨(a3 hc).1, ?_⟩⟩
  rcases (a3 hc).2 with z | ⟨m, m1, m2, m3⟩
  · refine Or.inl ?_
    have b1 := hT 0 (o x (F 9 x)) (F 9 x)
    clear HSr a3
    try simp (decide := true) only [gh_U, gh_K, gh_A_has, gh_A_cnt, gh_A_mem, false_and, true_and, and_false, or_false, if_false, if_true, and_true]
    grind
  · refine Or.inr ⟨m, ?_, m2, m3⟩
    have b1 := hTm x (F 9 x) m
    clear HSr a3
    try simp (decide := true) only [gh_U, gh_K, gh_A_has, gh_A_cnt, gh_A_mem, false_and, true_and, and_false, or_false, if_false, if_true, and_true]
    grind
theorem td_bc {v j : Nat} (Hbc : gi_bc o F mk c) (Hn : gh_Net own o w) (Hs2 : gi_s2 F) {c1 : Nat → Nat → List gh_M} {m0 : gh_M} (hj : own v j) (hT : ∀ k y e, gh_has k (c y e) ↔ gh_has k (c1 y e) ∨ (y = v ∧ e = j ∧ k = m0.1)) (hTc : ∀ k y e, gh_cnt k (c y e) = gh_cnt k (c1 y e) + if y = v ∧ e = j ∧ k = m0.1 then 1 else 0) (hTm : ∀ y e m, m ∈ c y e ↔ m ∈ c1 y e ∨ (y = v ∧ e = j ∧ m = m0)) (hTw : ¬ gh_has m0.1 (c1 v j)) (hk : m0.1 = 2) (hd : gm_t own o w F mk c (o v j) v j (F 1 v) m0) (hl : m0.2.1 ≤ F 1 v) (hf : m0.2.2.1 = F 2 v) (hs : F 8 (o v j) = F 8 v) (h7 : F 7 v = j) (h0 : F 0 v = 1) {mk9 : Nat → Nat → Nat} (hM1 : ∀ x e, mk9 x e = 1 ↔ mk x e = 1) (hM2 : ∀ x e, ¬ (x = v ∧ e = j) → mk9 x e = mk x e) (hM3 : mk9 v j ≠ 0) (hM4 : (mk v j = 0 ∧ mk9 v j = 2) ∨ mk9 v j = mk v j)  : gi_bc o (gh_U F 7 v 12) mk9 c1 := by
  intro x b y hb hb1 hy hcu hph hw
  obtain ⟨b1, b2⟩ := Hbc x b y hb hb1 hy hcu hph hw
  have b3 := hT 5 x b
  have b4 := hM1 x b
  have b5 := hM2 x b
  
  clear Hbc
  dsimp only [gi_cur, gm_t] at *
  try simp (decide := true) only [gh_U, gh_K, gh_A_has, gh_A_cnt, gh_A_mem, false_and, true_and, and_false, or_false, if_false, if_true, and_true]
  grind
theorem td_K {v j : Nat} (HK : gi_K own o F mk c) (Hn : gh_Net own o w) {c1 : Nat → Nat → List gh_M} {m0 : gh_M} (hj : own v j) (hT : ∀ k y e, gh_has k (c y e) ↔ gh_has k (c1 y e) ∨ (y = v ∧ e = j ∧ k = m0.1)) (hTc : ∀ k y e, gh_cnt k (c y e) = gh_cnt k (c1 y e) + if y = v ∧ e = j ∧ k = m0.1 then 1 else 0) (hTm : ∀ y e m, m ∈ c y e ↔ m ∈ c1 y e ∨ (y = v ∧ e = j ∧ m = m0)) (hTw : ¬ gh_has m0.1 (c1 v j)) (hk : m0.1 = 2) (hd : gm_t own o w F mk c (o v j) v j (F 1 v) m0) (hl : m0.2.1 ≤ F 1 v) (hf : m0.2.2.1 = F 2 v) (hs : F 8 (o v j) = F 8 v) (h7 : F 7 v = j) (h0 : F 0 v = 1) {mk9 : Nat → Nat → Nat} (hM1 : ∀ x e, mk9 x e = 1 ↔ mk x e = 1) (hM2 : ∀ x e, ¬ (x = v ∧ e = j) → mk9 x e = mk x e) (hM3 : mk9 v j ≠ 0) (hM4 : (mk v j = 0 ∧ mk9 v j = 2) ∨ mk9 v j = mk v j)  : gi_K own o (gh_U F 7 v 12) mk9 c1 := by
  intro x e y h1 h2 h3
  have b1 := HK x e y h1 h2 ((hM1 x e).mp h3)
  have b2 := hM1 y e
  have b3 := hM2 y e
  have b4 := hT 0 y e
  have b5 := Hn.1 x e h1
  clear HK Hn
  dsimp only [gi_cur, gm_t] at *
  try simp (decide := true) only [gh_U, gh_K, gh_A_has, gh_A_cnt, gh_A_mem, false_and, true_and, and_false, or_false, if_false, if_true, and_true]
  grind
theorem td_an {v j : Nat} (Han : gi_an own o F mk c) {c1 : Nat → Nat → List gh_M} {m0 : gh_M} (hj : own v j) (hT : ∀ k y e, gh_has k (c y e) ↔ gh_has k (c1 y e) ∨ (y = v ∧ e = j ∧ k = m0.1)) (hTc : ∀ k y e, gh_cnt k (c y e) = gh_cnt k (c1 y e) + if y = v ∧ e = j ∧ k = m0.1 then 1 else 0) (hTm : ∀ y e m, m ∈ c y e ↔ m ∈ c1 y e ∨ (y = v ∧ e = j ∧ m = m0)) (hTw : ¬ gh_has m0.1 (c1 v j)) (hk : m0.1 = 2) (hd : gm_t own o w F mk c (o v j) v j (F 1 v) m0) (hl : m0.2.1 ≤ F 1 v) (hf : m0.2.2.1 = F 2 v) (hs : F 8 (o v j) = F 8 v) (h7 : F 7 v = j) (h0 : F 0 v = 1) {mk9 : Nat → Nat → Nat} (hM1 : ∀ x e, mk9 x e = 1 ↔ mk x e = 1) (hM2 : ∀ x e, ¬ (x = v ∧ e = j) → mk9 x e = mk x e) (hM3 : mk9 v j ≠ 0) (hM4 : (mk v j = 0 ∧ mk9 v j = 2) ∨ mk9 v j = mk v j)  : gi_an own o (gh_U F 7 v 12) mk9 c1 := by
  intro x hx
  obtain ⟨l, l1, l2, l3⟩ := Han x hx
  refine ⟨l, l1, l2, fun e => (l3 e).trans ?_⟩
  have a1 := hT 5 x e
  
  clear Han l3
  dsimp only [gi_open, gi_cur] at *
  try simp (decide := true) only [gh_U, gh_K, gh_A_has, gh_A_cnt, gh_A_mem, false_and, true_and, and_false, or_false, if_false, if_true, and_true]
  grind
theorem td_st {v j : Nat} (Hst : gi_st F) {c1 : Nat → Nat → List gh_M} {m0 : gh_M} (hj : own v j) (hT : ∀ k y e, gh_has k (c y e) ↔ gh_has k (c1 y e) ∨ (y = v ∧ e = j ∧ k = m0.1)) (hTc : ∀ k y e, gh_cnt k (c y e) = gh_cnt k (c1 y e) + if y = v ∧ e = j ∧ k = m0.1 then 1 else 0) (hTm : ∀ y e m, m ∈ c y e ↔ m ∈ c1 y e ∨ (y = v ∧ e = j ∧ m = m0)) (hTw : ¬ gh_has m0.1 (c1 v j)) (hk : m0.1 = 2) (hd : gm_t own o w F mk c (o v j) v j (F 1 v) m0) (hl : m0.2.1 ≤ F 1 v) (hf : m0.2.2.1 = F 2 v) (hs : F 8 (o v j) = F 8 v) (h7 : F 7 v = j) (h0 : F 0 v = 1) {mk9 : Nat → Nat → Nat} (hM1 : ∀ x e, mk9 x e = 1 ↔ mk x e = 1) (hM2 : ∀ x e, ¬ (x = v ∧ e = j) → mk9 x e = mk x e) (hM3 : mk9 v j ≠ 0) (hM4 : (mk v j = 0 ∧ mk9 v j = 2) ∨ mk9 v j = mk v j)  : gi_st (gh_U F 7 v 12) := by
  dsimp only [gi_st, gm_t, gi_cur, gi_NR, gi_wt, gi_open, gh_Net] at *
  try simp (decide := true) only [gh_U, gh_K, gh_A_has, gh_A_cnt, gh_A_mem, false_and, true_and, and_false, or_false, if_false, if_true, and_true]
  grind (splits := 25)
theorem td_b1 {v j : Nat} (Hb1 : gi_b1 F) {c1 : Nat → Nat → List gh_M} {m0 : gh_M} (hj : own v j) (hT : ∀ k y e, gh_has k (c y e) ↔ gh_has k (c1 y e) ∨ (y = v ∧ e = j ∧ k = m0.1)) (hTc : ∀ k y e, gh_cnt k (c y e) = gh_cnt k (c1 y e) + if y = v ∧ e = j ∧ k = m0.1 then 1 else 0) (hTm : ∀ y e m, m ∈ c y e ↔ m ∈ c1 y e ∨ (y = v ∧ e = j ∧ m = m0)) (hTw : ¬ gh_has m0.1 (c1 v j)) (hk : m0.1 = 2) (hd : gm_t own o w F mk c (o v j) v j (F 1 v) m0) (hl : m0.2.1 ≤ F 1 v) (hf : m0.2.2.1 = F 2 v) (hs : F 8 (o v j) = F 8 v) (h7 : F 7 v = j) (h0 : F 0 v = 1) {mk9 : Nat → Nat → Nat} (hM1 : ∀ x e, mk9 x e = 1 ↔ mk x e = 1) (hM2 : ∀ x e, ¬ (x = v ∧ e = j) → mk9 x e = mk x e) (hM3 : mk9 v j ≠ 0) (hM4 : (mk v j = 0 ∧ mk9 v j = 2) ∨ mk9 v j = mk v j)  : gi_b1 (gh_U F 7 v 12) := by
  dsimp only [gi_b1, gm_t, gi_cur, gi_NR, gi_wt, gi_open, gh_Net] at *
  try simp (decide := true) only [gh_U, gh_K, gh_A_has, gh_A_cnt, gh_A_mem, false_and, true_and, and_false, or_false, if_false, if_true, and_true]
  grind (splits := 25)
theorem td_b2 {v j : Nat} (Hb2 : gi_b2 F) {c1 : Nat → Nat → List gh_M} {m0 : gh_M} (hj : own v j) (hT : ∀ k y e, gh_has k (c y e) ↔ gh_has k (c1 y e) ∨ (y = v ∧ e = j ∧ k = m0.1)) (hTc : ∀ k y e, gh_cnt k (c y e) = gh_cnt k (c1 y e) + if y = v ∧ e = j ∧ k = m0.1 then 1 else 0) (hTm : ∀ y e m, m ∈ c y e ↔ m ∈ c1 y e ∨ (y = v ∧ e = j ∧ m = m0)) (hTw : ¬ gh_has m0.1 (c1 v j)) (hk : m0.1 = 2) (hd : gm_t own o w F mk c (o v j) v j (F 1 v) m0) (hl : m0.2.1 ≤ F 1 v) (hf : m0.2.2.1 = F 2 v) (hs : F 8 (o v j) = F 8 v) (h7 : F 7 v = j) (h0 : F 0 v = 1) {mk9 : Nat → Nat → Nat} (hM1 : ∀ x e, mk9 x e = 1 ↔ mk x e = 1) (hM2 : ∀ x e, ¬ (x = v ∧ e = j) → mk9 x e = mk x e) (hM3 : mk9 v j ≠ 0) (hM4 : (mk v j = 0 ∧ mk9 v j = 2) ∨ mk9 v j = mk v j)  : gi_b2 (gh_U F 7 v 12) := by
  dsimp only [gi_b2, gm_t, gi_cur, gi_NR, gi_wt, gi_open, gh_Net] at *
  try simp (decide := true) only [gh_U, gh_K, gh_A_has, gh_A_cnt, gh_A_mem, false_and, true_and, and_false, or_false, if_false, if_true, and_true]
  grind (splits := 25)
theorem td_b3 {v j : Nat} (Hb3 : gi_b3 F) {c1 : Nat → Nat → List gh_M} {m0 : gh_M} (hj : own v j) (hT : ∀ k y e, gh_has k (c y e) ↔ gh_has k (c1 y e) ∨ (y = v ∧ e = j ∧ k = m0.1)) (hTc : ∀ k y e, gh_cnt k (c y e) = gh_cnt k (c1 y e) + if y = v ∧ e = j ∧ k = m0.1 then 1 else 0) (hTm : ∀ y e m, m ∈ c y e ↔ m ∈ c1 y e ∨ (y = v ∧ e = j ∧ m = m0)) (hTw : ¬ gh_has m0.1 (c1 v j)) (hk : m0.1 = 2) (hd : gm_t own o w F mk c (o v j) v j (F 1 v) m0) (hl : m0.2.1 ≤ F 1 v) (hf : m0.2.2.1 = F 2 v) (hs : F 8 (o v j) = F 8 v) (h7 : F 7 v = j) (h0 : F 0 v = 1) {mk9 : Nat → Nat → Nat} (hM1 : ∀ x e, mk9 x e = 1 ↔ mk x e = 1) (hM2 : ∀ x e, ¬ (x = v ∧ e = j) → mk9 x e = mk x e) (hM3 : mk9 v j ≠ 0) (hM4 : (mk v j = 0 ∧ mk9 v j = 2) ∨ mk9 v j = mk v j)  : gi_b3 (gh_U F 7 v 12) := by
  dsimp only [gi_b3, gm_t, gi_cur, gi_NR, gi_wt, gi_open, gh_Net] at *
  try simp (decide := true) only [gh_U, gh_K, gh_A_has, gh_A_cnt, gh_A_mem, false_and, true_and, and_false, or_false, if_false, if_true, and_true]
  grind (splits := 25)
theorem td_b4 {v j : Nat} (Hb4 : gi_b4 F) {c1 : Nat → Nat → List gh_M} {m0 : gh_M} (hj : own v j) (hT : ∀ k y e, gh_has k (c y e) ↔ gh_has k (c1 y e) ∨ (y = v ∧ e = j ∧ k = m0.1)) (hTc : ∀ k y e, gh_cnt k (c y e) = gh_cnt k (c1 y e) + if y = v ∧ e = j ∧ k = m0.1 then 1 else 0) (hTm : ∀ y e m, m ∈ c y e ↔ m ∈ c1 y e ∨ (y = v ∧ e = j ∧ m = m0)) (hTw : ¬ gh_has m0.1 (c1 v j)) (hk : m0.1 = 2) (hd : gm_t own o w F mk c (o v j) v j (F 1 v) m0) (hl : m0.2.1 ≤ F 1 v) (hf : m0.2.2.1 = F 2 v) (hs : F 8 (o v j) = F 8 v) (h7 : F 7 v = j) (h0 : F 0 v = 1) {mk9 : Nat → Nat → Nat} (hM1 : ∀ x e, mk9 x e = 1 ↔ mk x e = 1) (hM2 : ∀ x e, ¬ (x = v ∧ e = j) → mk9 x e = mk x e) (hM3 : mk9 v j ≠ 0) (hM4 : (mk v j = 0 ∧ mk9 v j = 2) ∨ mk9 v j = mk v j)  : gi_b4 (gh_U F 7 v 12) := by
  dsimp only [gi_b4, gm_t, gi_cur, gi_NR, gi_wt, gi_open, gh_Net] at *
  try simp (decide := true) only [gh_U, gh_K, gh_A_has, gh_A_cnt, gh_A_mem, false_and, true_and, and_false, or_false, if_false, if_true, and_true]
  grind (splits := 25)
theorem td_b5 {v j : Nat} (Hb5 : gi_b5 own o w F) {c1 : Nat → Nat → List gh_M} {m0 : gh_M} (hj : own v j) (hT : ∀ k y e, gh_has k (c y e) ↔ gh_has k (c1 y e) ∨ (y = v ∧ e = j ∧ k = m0.1)) (hTc : ∀ k y e, gh_cnt k (c y e) = gh_cnt k (c1 y e) + if y = v ∧ e = j ∧ k = m0.1 then 1 else 0) (hTm : ∀ y e m, m ∈ c y e ↔ m ∈ c1 y e ∨ (y = v ∧ e = j ∧ m = m0)) (hTw : ¬ gh_has m0.1 (c1 v j)) (hk : m0.1 = 2) (hd : gm_t own o w F mk c (o v j) v j (F 1 v) m0) (hl : m0.2.1 ≤ F 1 v) (hf : m0.2.2.1 = F 2 v) (hs : F 8 (o v j) = F 8 v) (h7 : F 7 v = j) (h0 : F 0 v = 1) {mk9 : Nat → Nat → Nat} (hM1 : ∀ x e, mk9 x e = 1 ↔ mk x e = 1) (hM2 : ∀ x e, ¬ (x = v ∧ e = j) → mk9 x e = mk x e) (hM3 : mk9 v j ≠ 0) (hM4 : (mk v j = 0 ∧ mk9 v j = 2) ∨ mk9 v j = mk v j)  : gi_b5 own o w (gh_U F 7 v 12) := by
  dsimp only [gi_b5, gm_t, gi_cur, gi_NR, gi_wt, gi_open, gh_Net] at *
  try simp (decide := true) only [gh_U, gh_K, gh_A_has, gh_A_cnt, gh_A_mem, false_and, true_and, and_false, or_false, if_false, if_true, and_true]
  grind (splits := 25)
theorem td_s0 {v j : Nat} (Hs0 : gi_s0 own F mk) {c1 : Nat → Nat → List gh_M} {m0 : gh_M} (hj : own v j) (hT : ∀ k y e, gh_has k (c y e) ↔ gh_has k (c1 y e) ∨ (y = v ∧ e = j ∧ k = m0.1)) (hTc : ∀ k y e, gh_cnt k (c y e) = gh_cnt k (c1 y e) + if y = v ∧ e = j ∧ k = m0.1 then 1 else 0) (hTm : ∀ y e m, m ∈ c y e ↔ m ∈ c1 y e ∨ (y = v ∧ e = j ∧ m = m0)) (hTw : ¬ gh_has m0.1 (c1 v j)) (hk : m0.1 = 2) (hd : gm_t own o w F mk c (o v j) v j (F 1 v) m0) (hl : m0.2.1 ≤ F 1 v) (hf : m0.2.2.1 = F 2 v) (hs : F 8 (o v j) = F 8 v) (h7 : F 7 v = j) (h0 : F 0 v = 1) {mk9 : Nat → Nat → Nat} (hM1 : ∀ x e, mk9 x e = 1 ↔ mk x e = 1) (hM2 : ∀ x e, ¬ (x = v ∧ e = j) → mk9 x e = mk x e) (hM3 : mk9 v j ≠ 0) (hM4 : (mk v j = 0 ∧ mk9 v j = 2) ∨ mk9 v j = mk v j)  : gi_s0 own (gh_U F 7 v 12) mk9 := by
  dsimp only [gi_s0, gm_t, gi_cur, gi_NR, gi_wt, gi_open, gh_Net] at *
  try simp (decide := true) only [gh_U, gh_K, gh_A_has, gh_A_cnt, gh_A_mem, false_and, true_and, and_false, or_false, if_false, if_true, and_true]
  grind (splits := 25)
theorem td_s1 {v j : Nat} (Hs1 : gi_s1 F) {c1 : Nat → Nat → List gh_M} {m0 : gh_M} (hj : own v j) (hT : ∀ k y e, gh_has k (c y e) ↔ gh_has k (c1 y e) ∨ (y = v ∧ e = j ∧ k = m0.1)) (hTc : ∀ k y e, gh_cnt k (c y e) = gh_cnt k (c1 y e) + if y = v ∧ e = j ∧ k = m0.1 then 1 else 0) (hTm : ∀ y e m, m ∈ c y e ↔ m ∈ c1 y e ∨ (y = v ∧ e = j ∧ m = m0)) (hTw : ¬ gh_has m0.1 (c1 v j)) (hk : m0.1 = 2) (hd : gm_t own o w F mk c (o v j) v j (F 1 v) m0) (hl : m0.2.1 ≤ F 1 v) (hf : m0.2.2.1 = F 2 v) (hs : F 8 (o v j) = F 8 v) (h7 : F 7 v = j) (h0 : F 0 v = 1) {mk9 : Nat → Nat → Nat} (hM1 : ∀ x e, mk9 x e = 1 ↔ mk x e = 1) (hM2 : ∀ x e, ¬ (x = v ∧ e = j) → mk9 x e = mk x e) (hM3 : mk9 v j ≠ 0) (hM4 : (mk v j = 0 ∧ mk9 v j = 2) ∨ mk9 v j = mk v j)  : gi_s1 (gh_U F 7 v 12) := by
  dsimp only [gi_s1, gm_t, gi_cur, gi_NR, gi_wt, gi_open, gh_Net] at *
  try simp (decide := true) only [gh_U, gh_K, gh_A_has, gh_A_cnt, gh_A_mem, false_and, true_and, and_false, or_false, if_false, if_true, and_true]
  grind (splits := 25)
theorem td_s2 {v j : Nat} (Hs2 : gi_s2 F) {c1 : Nat → Nat → List gh_M} {m0 : gh_M} (hj : own v j) (hT : ∀ k y e, gh_has k (c y e) ↔ gh_has k (c1 y e) ∨ (y = v ∧ e = j ∧ k = m0.1)) (hTc : ∀ k y e, gh_cnt k (c y e) = gh_cnt k (c1 y e) + if y = v ∧ e = j ∧ k = m0.1 then 1 else 0) (hTm : ∀ y e m, m ∈ c y e ↔ m ∈ c1 y e ∨ (y = v ∧ e = j ∧ m = m0)) (hTw : ¬ gh_has m0.1 (c1 v j)) (hk : m0.1 = 2) (hd : gm_t own o w F mk c (o v j) v j (F 1 v) m0) (hl : m0.2.1 ≤ F 1 v) (hf : m0.2.2.1 = F 2 v) (hs : F 8 (o v j) = F 8 v) (h7 : F 7 v = j) (h0 : F 0 v = 1) {mk9 : Nat → Nat → Nat} (hM1 : ∀ x e, mk9 x e = 1 ↔ mk x e = 1) (hM2 : ∀ x e, ¬ (x = v ∧ e = j) → mk9 x e = mk x e) (hM3 : mk9 v j ≠ 0) (hM4 : (mk v j = 0 ∧ mk9 v j = 2) ∨ mk9 v j = mk v j)  : gi_s2 (gh_U F 7 v 12) := by
  dsimp only [gi_s2, gm_t, gi_cur, gi_NR, gi_wt, gi_open, gh_Net] at *
  try simp (decide := true) only [gh_U, gh_K, gh_A_has, gh_A_cnt, gh_A_mem, false_and, true_and, and_false, or_false, if_false, if_true, and_true]
  grind (splits := 25)
theorem td_Sl {v j : Nat} (HSl : gi_Sl F) {c1 : Nat → Nat → List gh_M} {m0 : gh_M} (hj : own v j) (hT : ∀ k y e, gh_has k (c y e) ↔ gh_has k (c1 y e) ∨ (y = v ∧ e = j ∧ k = m0.1)) (hTc : ∀ k y e, gh_cnt k (c y e) = gh_cnt k (c1 y e) + if y = v ∧ e = j ∧ k = m0.1 then 1 else 0) (hTm : ∀ y e m, m ∈ c y e ↔ m ∈ c1 y e ∨ (y = v ∧ e = j ∧ m = m0)) (hTw : ¬ gh_has m0.1 (c1 v j)) (hk : m0.1 = 2) (hd : gm_t own o w F mk c (o v j) v j (F 1 v) m0) (hl : m0.2.1 ≤ F 1 v) (hf : m0.2.2.1 = F 2 v) (hs : F 8 (o v j) = F 8 v) (h7 : F 7 v = j) (h0 : F 0 v = 1) {mk9 : Nat → Nat → Nat} (hM1 : ∀ x e, mk9 x e = 1 ↔ mk x e = 1) (hM2 : ∀ x e, ¬ (x = v ∧ e = j) → mk9 x e = mk x e) (hM3 : mk9 v j ≠ 0) (hM4 : (mk v j = 0 ∧ mk9 v j = 2) ∨ mk9 v j = mk v j)  : gi_Sl (gh_U F 7 v 12) := by
  dsimp only [gi_Sl, gm_t, gi_cur, gi_NR, gi_wt, gi_open, gh_Net] at *
  try simp (decide := true) only [gh_U, gh_K, gh_A_has, gh_A_cnt, gh_A_mem, false_and, true_and, and_false, or_false, if_false, if_true, and_true]
  grind (splits := 25)
theorem td_s3 {v j : Nat} (Hs3 : gi_s3 F) {c1 : Nat → Nat → List gh_M} {m0 : gh_M} (hj : own v j) (hT : ∀ k y e, gh_has k (c y e) ↔ gh_has k (c1 y e) ∨ (y = v ∧ e = j ∧ k = m0.1)) (hTc : ∀ k y e, gh_cnt k (c y e) = gh_cnt k (c1 y e) + if y = v ∧ e = j ∧ k = m0.1 then 1 else 0) (hTm : ∀ y e m, m ∈ c y e ↔ m ∈ c1 y e ∨ (y = v ∧ e = j ∧ m = m0)) (hTw : ¬ gh_has m0.1 (c1 v j)) (hk : m0.1 = 2) (hd : gm_t own o w F mk c (o v j) v j (F 1 v) m0) (hl : m0.2.1 ≤ F 1 v) (hf : m0.2.2.1 = F 2 v) (hs : F 8 (o v j) = F 8 v) (h7 : F 7 v = j) (h0 : F 0 v = 1) {mk9 : Nat → Nat → Nat} (hM1 : ∀ x e, mk9 x e = 1 ↔ mk x e = 1) (hM2 : ∀ x e, ¬ (x = v ∧ e = j) → mk9 x e = mk x e) (hM3 : mk9 v j ≠ 0) (hM4 : (mk v j = 0 ∧ mk9 v j = 2) ∨ mk9 v j = mk v j)  : gi_s3 (gh_U F 7 v 12) := by
  dsimp only [gi_s3, gm_t, gi_cur, gi_NR, gi_wt, gi_open, gh_Net] at *
  try simp (decide := true) only [gh_U, gh_K, gh_A_has, gh_A_cnt, gh_A_mem, false_and, true_and, and_false, or_false, if_false, if_true, and_true]
  grind (splits := 25)
theorem td_s4 {v j : Nat} (Hs4 : gi_s4 F) {c1 : Nat → Nat → List gh_M} {m0 : gh_M} (hj : own v j) (hT : ∀ k y e, gh_has k (c y e) ↔ gh_has k (c1 y e) ∨ (y = v ∧ e = j ∧ k = m0.1)) (hTc : ∀ k y e, gh_cnt k (c y e) = gh_cnt k (c1 y e) + if y = v ∧ e = j ∧ k = m0.1 then 1 else 0) (hTm : ∀ y e m, m ∈ c y e ↔ m ∈ c1 y e ∨ (y = v ∧ e = j ∧ m = m0)) (hTw : ¬ gh_has m0.1 (c1 v j)) (hk : m0.1 = 2) (hd : gm_t own o w F mk c (o v j) v j (F 1 v) m0) (hl : m0.2.1 ≤ F 1 v) (hf : m0.2.2.1 = F 2 v) (hs : F 8 (o v j) = F 8 v) (h7 : F 7 v = j) (h0 : F 0 v = 1) {mk9 : Nat → Nat → Nat} (hM1 : ∀ x e, mk9 x e = 1 ↔ mk x e = 1) (hM2 : ∀ x e, ¬ (x = v ∧ e = j) → mk9 x e = mk x e) (hM3 : mk9 v j ≠ 0) (hM4 : (mk v j = 0 ∧ mk9 v j = 2) ∨ mk9 v j = mk v j)  : gi_s4 (gh_U F 7 v 12) := by
  dsimp only [gi_s4, gm_t, gi_cur, gi_NR, gi_wt, gi_open, gh_Net] at *
  try simp (decide := true) only [gh_U, gh_K, gh_A_has, gh_A_cnt, gh_A_mem, false_and, true_and, and_false, or_false, if_false, if_true, and_true]
  grind (splits := 25)
theorem td_ow {v j : Nat} (How : gi_ow own F) {c1 : Nat → Nat → List gh_M} {m0 : gh_M} (hj : own v j) (hT : ∀ k y e, gh_has k (c y e) ↔ gh_has k (c1 y e) ∨ (y = v ∧ e = j ∧ k = m0.1)) (hTc : ∀ k y e, gh_cnt k (c y e) = gh_cnt k (c1 y e) + if y = v ∧ e = j ∧ k = m0.1 then 1 else 0) (hTm : ∀ y e m, m ∈ c y e ↔ m ∈ c1 y e ∨ (y = v ∧ e = j ∧ m = m0)) (hTw : ¬ gh_has m0.1 (c1 v j)) (hk : m0.1 = 2) (hd : gm_t own o w F mk c (o v j) v j (F 1 v) m0) (hl : m0.2.1 ≤ F 1 v) (hf : m0.2.2.1 = F 2 v) (hs : F 8 (o v j) = F 8 v) (h7 : F 7 v = j) (h0 : F 0 v = 1) {mk9 : Nat → Nat → Nat} (hM1 : ∀ x e, mk9 x e = 1 ↔ mk x e = 1) (hM2 : ∀ x e, ¬ (x = v ∧ e = j) → mk9 x e = mk x e) (hM3 : mk9 v j ≠ 0) (hM4 : (mk v j = 0 ∧ mk9 v j = 2) ∨ mk9 v j = mk v j)  : gi_ow own (gh_U F 7 v 12) := by
  dsimp only [gi_ow, gm_t, gi_cur, gi_NR, gi_wt, gi_open, gh_Net] at *
  try simp (decide := true) only [gh_U, gh_K, gh_A_has, gh_A_cnt, gh_A_mem, false_and, true_and, and_false, or_false, if_false, if_true, and_true]
  grind (splits := 25)
theorem td_s5 {v j : Nat} (Hs5 : gi_s5 F) {c1 : Nat → Nat → List gh_M} {m0 : gh_M} (hj : own v j) (hT : ∀ k y e, gh_has k (c y e) ↔ gh_has k (c1 y e) ∨ (y = v ∧ e = j ∧ k = m0.1)) (hTc : ∀ k y e, gh_cnt k (c y e) = gh_cnt k (c1 y e) + if y = v ∧ e = j ∧ k = m0.1 then 1 else 0) (hTm : ∀ y e m, m ∈ c y e ↔ m ∈ c1 y e ∨ (y = v ∧ e = j ∧ m = m0)) (hTw : ¬ gh_has m0.1 (c1 v j)) (hk : m0.1 = 2) (hd : gm_t own o w F mk c (o v j) v j (F 1 v) m0) (hl : m0.2.1 ≤ F 1 v) (hf : m0.2.2.1 = F 2 v) (hs : F 8 (o v j) = F 8 v) (h7 : F 7 v = j) (h0 : F 0 v = 1) {mk9 : Nat → Nat → Nat} (hM1 : ∀ x e, mk9 x e = 1 ↔ mk x e = 1) (hM2 : ∀ x e, ¬ (x = v ∧ e = j) → mk9 x e = mk x e) (hM3 : mk9 v j ≠ 0) (hM4 : (mk v j = 0 ∧ mk9 v j = 2) ∨ mk9 v j = mk v j)  : gi_s5 (gh_U F 7 v 12) := by
  dsimp only [gi_s5, gm_t, gi_cur, gi_NR, gi_wt, gi_open, gh_Net] at *
  try simp (decide := true) only [gh_U, gh_K, gh_A_has, gh_A_cnt, gh_A_mem, false_and, true_and, and_false, or_false, if_false, if_true, and_true]
  grind (splits := 25)
theorem td_Sn {v j : Nat} (HSn : gi_Sn o w F) {c1 : Nat → Nat → List gh_M} {m0 : gh_M} (hj : own v j) (hT : ∀ k y e, gh_has k (c y e) ↔ gh_has k (c1 y e) ∨ (y = v ∧ e = j ∧ k = m0.1)) (hTc : ∀ k y e, gh_cnt k (c y e) = gh_cnt k (c1 y e) + if y = v ∧ e = j ∧ k = m0.1 then 1 else 0) (hTm : ∀ y e m, m ∈ c y e ↔ m ∈ c1 y e ∨ (y = v ∧ e = j ∧ m = m0)) (hTw : ¬ gh_has m0.1 (c1 v j)) (hk : m0.1 = 2) (hd : gm_t own o w F mk c (o v j) v j (F 1 v) m0) (hl : m0.2.1 ≤ F 1 v) (hf : m0.2.2.1 = F 2 v) (hs : F 8 (o v j) = F 8 v) (h7 : F 7 v = j) (h0 : F 0 v = 1) {mk9 : Nat → Nat → Nat} (hM1 : ∀ x e, mk9 x e = 1 ↔ mk x e = 1) (hM2 : ∀ x e, ¬ (x = v ∧ e = j) → mk9 x e = mk x e) (hM3 : mk9 v j ≠ 0) (hM4 : (mk v j = 0 ∧ mk9 v j = 2) ∨ mk9 v j = mk v j)  : gi_Sn o w (gh_U F 7 v 12) := by
  dsimp only [gi_Sn, gm_t, gi_cur, gi_NR, gi_wt, gi_open, gh_Net] at *
  try simp (decide := true) only [gh_U, gh_K, gh_A_has, gh_A_cnt, gh_A_mem, false_and, true_and, and_false, or_false, if_false, if_true, and_true]
  grind (splits := 25)
theorem td_M {v j : Nat} (HM : gi_M own o F) {c1 : Nat → Nat → List gh_M} {m0 : gh_M} (hj : own v j) (hT : ∀ k y e, gh_has k (c y e) ↔ gh_has k (c1 y e) ∨ (y = v ∧ e = j ∧ k = m0.1)) (hTc : ∀ k y e, gh_cnt k (c y e) = gh_cnt k (c1 y e) + if y = v ∧ e = j ∧ k = m0.1 then 1 else 0) (hTm : ∀ y e m, m ∈ c y e ↔ m ∈ c1 y e ∨ (y = v ∧ e = j ∧ m = m0)) (hTw : ¬ gh_has m0.1 (c1 v j)) (hk : m0.1 = 2) (hd : gm_t own o w F mk c (o v j) v j (F 1 v) m0) (hl : m0.2.1 ≤ F 1 v) (hf : m0.2.2.1 = F 2 v) (hs : F 8 (o v j) = F 8 v) (h7 : F 7 v = j) (h0 : F 0 v = 1) {mk9 : Nat → Nat → Nat} (hM1 : ∀ x e, mk9 x e = 1 ↔ mk x e = 1) (hM2 : ∀ x e, ¬ (x = v ∧ e = j) → mk9 x e = mk x e) (hM3 : mk9 v j ≠ 0) (hM4 : (mk v j = 0 ∧ mk9 v j = 2) ∨ mk9 v j = mk v j)  : gi_M own o (gh_U F 7 v 12) := by
  dsimp only [gi_M, gm_t, gi_cur, gi_NR, gi_wt, gi_open, gh_Net] at *
  try simp (decide := true) only [gh_U, gh_K, gh_A_has, gh_A_cnt, gh_A_mem, false_and, true_and, and_false, or_false, if_false, if_true, and_true]
  grind (splits := 25)
theorem td_C {v j : Nat} (HC : gi_C own o F mk) {c1 : Nat → Nat → List gh_M} {m0 : gh_M} (hj : own v j) (hT : ∀ k y e, gh_has k (c y e) ↔ gh_has k (c1 y e) ∨ (y = v ∧ e = j ∧ k = m0.1)) (hTc : ∀ k y e, gh_cnt k (c y e) = gh_cnt k (c1 y e) + if y = v ∧ e = j ∧ k = m0.1 then 1 else 0) (hTm : ∀ y e m, m ∈ c y e ↔ m ∈ c1 y e ∨ (y = v ∧ e = j ∧ m = m0)) (hTw : ¬ gh_has m0.1 (c1 v j)) (hk : m0.1 = 2) (hd : gm_t own o w F mk c (o v j) v j (F 1 v) m0) (hl : m0.2.1 ≤ F 1 v) (hf : m0.2.2.1 = F 2 v) (hs : F 8 (o v j) = F 8 v) (h7 : F 7 v = j) (h0 : F 0 v = 1) {mk9 : Nat → Nat → Nat} (hM1 : ∀ x e, mk9 x e = 1 ↔ mk x e = 1) (hM2 : ∀ x e, ¬ (x = v ∧ e = j) → mk9 x e = mk x e) (hM3 : mk9 v j ≠ 0) (hM4 : (mk v j = 0 ∧ mk9 v j = 2) ∨ mk9 v j = mk v j)  : gi_C own o (gh_U F 7 v 12) mk9 := by
  dsimp only [gi_C, gm_t, gi_cur, gi_NR, gi_wt, gi_open, gh_Net] at *
  try simp (decide := true) only [gh_U, gh_K, gh_A_has, gh_A_cnt, gh_A_mem, false_and, true_and, and_false, or_false, if_false, if_true, and_true]
  grind (splits := 25)
theorem td_ph {v j : Nat} (Hph : gi_ph F) {c1 : Nat → Nat → List gh_M} {m0 : gh_M} (hj : own v j) (hT : ∀ k y e, gh_has k (c y e) ↔ gh_has k (c1 y e) ∨ (y = v ∧ e = j ∧ k = m0.1)) (hTc : ∀ k y e, gh_cnt k (c y e) = gh_cnt k (c1 y e) + if y = v ∧ e = j ∧ k = m0.1 then 1 else 0) (hTm : ∀ y e m, m ∈ c y e ↔ m ∈ c1 y e ∨ (y = v ∧ e = j ∧ m = m0)) (hTw : ¬ gh_has m0.1 (c1 v j)) (hk : m0.1 = 2) (hd : gm_t own o w F mk c (o v j) v j (F 1 v) m0) (hl : m0.2.1 ≤ F 1 v) (hf : m0.2.2.1 = F 2 v) (hs : F 8 (o v j) = F 8 v) (h7 : F 7 v = j) (h0 : F 0 v = 1) {mk9 : Nat → Nat → Nat} (hM1 : ∀ x e, mk9 x e = 1 ↔ mk x e = 1) (hM2 : ∀ x e, ¬ (x = v ∧ e = j) → mk9 x e = mk x e) (hM3 : mk9 v j ≠ 0) (hM4 : (mk v j = 0 ∧ mk9 v j = 2) ∨ mk9 v j = mk v j)  : gi_ph (gh_U F 7 v 12) := by
  dsimp only [gi_ph, gm_t, gi_cur, gi_NR, gi_wt, gi_open, gh_Net] at *
  try simp (decide := true) only [gh_U, gh_K, gh_A_has, gh_A_cnt, gh_A_mem, false_and, true_and, and_false, or_false, if_false, if_true, and_true]
  grind (splits := 25)
theorem td_6 {v j : Nat} (H6 : gi_6 o F c) {c1 : Nat → Nat → List gh_M} {m0 : gh_M} (hj : own v j) (hT : ∀ k y e, gh_has k (c y e) ↔ gh_has k (c1 y e) ∨ (y = v ∧ e = j ∧ k = m0.1)) (hTc : ∀ k y e, gh_cnt k (c y e) = gh_cnt k (c1 y e) + if y = v ∧ e = j ∧ k = m0.1 then 1 else 0) (hTm : ∀ y e m, m ∈ c y e ↔ m ∈ c1 y e ∨ (y = v ∧ e = j ∧ m = m0)) (hTw : ¬ gh_has m0.1 (c1 v j)) (hk : m0.1 = 2) (hd : gm_t own o w F mk c (o v j) v j (F 1 v) m0) (hl : m0.2.1 ≤ F 1 v) (hf : m0.2.2.1 = F 2 v) (hs : F 8 (o v j) = F 8 v) (h7 : F 7 v = j) (h0 : F 0 v = 1) {mk9 : Nat → Nat → Nat} (hM1 : ∀ x e, mk9 x e = 1 ↔ mk x e = 1) (hM2 : ∀ x e, ¬ (x = v ∧ e = j) → mk9 x e = mk x e) (hM3 : mk9 v j ≠ 0) (hM4 : (mk v j = 0 ∧ mk9 v j = 2) ∨ mk9 v j = mk v j)  : gi_6 o (gh_U F 7 v 12) c1 := by
  dsimp only [gi_6, gm_t, gi_cur, gi_NR, gi_wt, gi_open, gh_Net] at *
  try simp (decide := true) only [gh_U, gh_K, gh_A_has, gh_A_cnt, gh_A_mem, false_and, true_and, and_false, or_false, if_false, if_true, and_true]
  grind (splits := 25)
theorem td_7 {v j : Nat} (H7 : gi_7 o F) {c1 : Nat → Nat → List gh_M} {m0 : gh_M} (hj : own v j) (hT : ∀ k y e, gh_has k (c y e) ↔ gh_has k (c1 y e) ∨ (y = v ∧ e = j ∧ k = m0.1)) (hTc : ∀ k y e, gh_cnt k (c y e) = gh_cnt k (c1 y e) + if y = v ∧ e = j ∧ k = m0.1 then 1 else 0) (hTm : ∀ y e m, m ∈ c y e ↔ m ∈ c1 y e ∨ (y = v ∧ e = j ∧ m = m0)) (hTw : ¬ gh_has m0.1 (c1 v j)) (hk : m0.1 = 2) (hd : gm_t own o w F mk c (o v j) v j (F 1 v) m0) (hl : m0.2.1 ≤ F 1 v) (hf : m0.2.2.1 = F 2 v) (hs : F 8 (o v j) = F 8 v) (h7 : F 7 v = j) (h0 : F 0 v = 1) {mk9 : Nat → Nat → Nat} (hM1 : ∀ x e, mk9 x e = 1 ↔ mk x e = 1) (hM2 : ∀ x e, ¬ (x = v ∧ e = j) → mk9 x e = mk x e) (hM3 : mk9 v j ≠ 0) (hM4 : (mk v j = 0 ∧ mk9 v j = 2) ∨ mk9 v j = mk v j)  : gi_7 o (gh_U F 7 v 12) := by
  dsimp only [gi_7, gm_t, gi_cur, gi_NR, gi_wt, gi_open, gh_Net] at *
  try simp (decide := true) only [gh_U, gh_K, gh_A_has, gh_A_cnt, gh_A_mem, false_and, true_and, and_false, or_false, if_false, if_true, and_true]
  grind (splits := 25)
theorem td_sz {v j : Nat} (Hsz : gi_sz F) {c1 : Nat → Nat → List gh_M} {m0 : gh_M} (hj : own v j) (hT : ∀ k y e, gh_has k (c y e) ↔ gh_has k (c1 y e) ∨ (y = v ∧ e = j ∧ k = m0.1)) (hTc : ∀ k y e, gh_cnt k (c y e) = gh_cnt k (c1 y e) + if y = v ∧ e = j ∧ k = m0.1 then 1 else 0) (hTm : ∀ y e m, m ∈ c y e ↔ m ∈ c1 y e ∨ (y = v ∧ e = j ∧ m = m0)) (hTw : ¬ gh_has m0.1 (c1 v j)) (hk : m0.1 = 2) (hd : gm_t own o w F mk c (o v j) v j (F 1 v) m0) (hl : m0.2.1 ≤ F 1 v) (hf : m0.2.2.1 = F 2 v) (hs : F 8 (o v j) = F 8 v) (h7 : F 7 v = j) (h0 : F 0 v = 1) {mk9 : Nat → Nat → Nat} (hM1 : ∀ x e, mk9 x e = 1 ↔ mk x e = 1) (hM2 : ∀ x e, ¬ (x = v ∧ e = j) → mk9 x e = mk x e) (hM3 : mk9 v j ≠ 0) (hM4 : (mk v j = 0 ∧ mk9 v j = 2) ∨ mk9 v j = mk v j)  : gi_sz (gh_U F 7 v 12) := by
  dsimp only [gi_sz, gm_t, gi_cur, gi_NR, gi_wt, gi_open, gh_Net] at *
  try simp (decide := true) only [gh_U, gh_K, gh_A_has, gh_A_cnt, gh_A_mem, false_and, true_and, and_false, or_false, if_false, if_true, and_true]
  grind (splits := 25)
theorem td_mi {v j : Nat} (Hn : gh_Net own o w) (Htw : gi_tw own c) (Hts : gi_ts own o F c) {c1 : Nat → Nat → List gh_M} {m0 : gh_M} (hj : own v j) (hT : ∀ k y e, gh_has k (c y e) ↔ gh_has k (c1 y e) ∨ (y = v ∧ e = j ∧ k = m0.1)) (hTc : ∀ k y e, gh_cnt k (c y e) = gh_cnt k (c1 y e) + if y = v ∧ e = j ∧ k = m0.1 then 1 else 0) (hTm : ∀ y e m, m ∈ c y e ↔ m ∈ c1 y e ∨ (y = v ∧ e = j ∧ m = m0)) (hTw : ¬ gh_has m0.1 (c1 v j)) (hk : m0.1 = 2) (hd : gm_t own o w F mk c (o v j) v j (F 1 v) m0) (hl : m0.2.1 ≤ F 1 v) (hf : m0.2.2.1 = F 2 v) (hs : F 8 (o v j) = F 8 v) (h7 : F 7 v = j) (h0 : F 0 v = 1) {mk9 : Nat → Nat → Nat} (hM1 : ∀ x e, mk9 x e = 1 ↔ mk x e = 1) (hM2 : ∀ x e, ¬ (x = v ∧ e = j) → mk9 x e = mk x e) (hM3 : mk9 v j ≠ 0) (hM4 : (mk v j = 0 ∧ mk9 v j = 2) ∨ mk9 v j = mk v j)  {x y e a : Nat} {m : gh_M} (hx : o y e = x) (hy : own y e) (hm : m ∈ c1 y e) (ha : F 1 y ≤ a) (hb : ¬ gh_has 1 (c y e) → a = F 1 y)  (h : gm_i own o w F mk c x y e a m) : gm_i own o w (gh_U F 7 v 12) mk9 c1 x y e a m := by
  have hh : ∀ k, m.1 = k → gh_has k (c1 y e) := fun k hk => ⟨m, hm, hk⟩
  dsimp only [gi_tw, gi_ts, gm_t, gm_i, gi_cur, gi_NR, gi_wt, gi_open, gh_Net] at *
  try simp (decide := true) only [gh_U, gh_K, gh_A_has, gh_A_cnt, gh_A_mem, false_and, true_and, and_false, or_false, if_false, if_true, and_true]
  grind (splits := 25)
theorem td_mc {v j : Nat} (Hn : gh_Net own o w) (Htw : gi_tw own c) (Hts : gi_ts own o F c) {c1 : Nat → Nat → List gh_M} {m0 : gh_M} (hj : own v j) (hT : ∀ k y e, gh_has k (c y e) ↔ gh_has k (c1 y e) ∨ (y = v ∧ e = j ∧ k = m0.1)) (hTc : ∀ k y e, gh_cnt k (c y e) = gh_cnt k (c1 y e) + if y = v ∧ e = j ∧ k = m0.1 then 1 else 0) (hTm : ∀ y e m, m ∈ c y e ↔ m ∈ c1 y e ∨ (y = v ∧ e = j ∧ m = m0)) (hTw : ¬ gh_has m0.1 (c1 v j)) (hk : m0.1 = 2) (hd : gm_t own o w F mk c (o v j) v j (F 1 v) m0) (hl : m0.2.1 ≤ F 1 v) (hf : m0.2.2.1 = F 2 v) (hs : F 8 (o v j) = F 8 v) (h7 : F 7 v = j) (h0 : F 0 v = 1) {mk9 : Nat → Nat → Nat} (hM1 : ∀ x e, mk9 x e = 1 ↔ mk x e = 1) (hM2 : ∀ x e, ¬ (x = v ∧ e = j) → mk9 x e = mk x e) (hM3 : mk9 v j ≠ 0) (hM4 : (mk v j = 0 ∧ mk9 v j = 2) ∨ mk9 v j = mk v j)  {x y e a : Nat} {m : gh_M} (hx : o y e = x) (hy : own y e) (hm : m ∈ c1 y e) (ha : F 1 y ≤ a) (hb : ¬ gh_has 1 (c y e) → a = F 1 y)  (h : gm_c own o w F mk c x y e a m) : gm_c own o w (gh_U F 7 v 12) mk9 c1 x y e a m := by
  have hh : ∀ k, m.1 = k → gh_has k (c1 y e) := fun k hk => ⟨m, hm, hk⟩
  dsimp only [gi_tw, gi_ts, gm_t, gm_c, gi_cur, gi_NR, gi_wt, gi_open, gh_Net] at *
  try simp (decide := true) only [gh_U, gh_K, gh_A_has, gh_A_cnt, gh_A_mem, false_and, true_and, and_false, or_false, if_false, if_true, and_true]
  grind (splits := 25)
theorem td_ma {v j : Nat} (Hn : gh_Net own o w) (Htw : gi_tw own c) (Hts : gi_ts own o F c) {c1 : Nat → Nat → List gh_M} {m0 : gh_M} (hj : own v j) (hT : ∀ k y e, gh_has k (c y e) ↔ gh_has k (c1 y e) ∨ (y = v ∧ e = j ∧ k = m0.1)) (hTc : ∀ k y e, gh_cnt k (c y e) = gh_cnt k (c1 y e) + if y = v ∧ e = j ∧ k = m0.1 then 1 else 0) (hTm : ∀ y e m, m ∈ c y e ↔ m ∈ c1 y e ∨ (y = v ∧ e = j ∧ m = m0)) (hTw : ¬ gh_has m0.1 (c1 v j)) (hk : m0.1 = 2) (hd : gm_t own o w F mk c (o v j) v j (F 1 v) m0) (hl : m0.2.1 ≤ F 1 v) (hf : m0.2.2.1 = F 2 v) (hs : F 8 (o v j) = F 8 v) (h7 : F 7 v = j) (h0 : F 0 v = 1) {mk9 : Nat → Nat → Nat} (hM1 : ∀ x e, mk9 x e = 1 ↔ mk x e = 1) (hM2 : ∀ x e, ¬ (x = v ∧ e = j) → mk9 x e = mk x e) (hM3 : mk9 v j ≠ 0) (hM4 : (mk v j = 0 ∧ mk9 v j = 2) ∨ mk9 v j = mk v j)  {x y e a : Nat} {m : gh_M} (hx : o y e = x) (hy : own y e) (hm : m ∈ c1 y e) (ha : F 1 y ≤ a) (hb : ¬ gh_has 1 (c y e) → a = F 1 y)  (h : gm_a own o w F mk c x y e a m) : gm_a own o w (gh_U F 7 v 12) mk9 c1 x y e a m := by
  have hh : ∀ k, m.1 = k → gh_has k (c1 y e) := fun k hk => ⟨m, hm, hk⟩
  dsimp only [gi_tw, gi_ts, gm_t, gm_a, gi_cur, gi_NR, gi_wt, gi_open, gh_Net] at *
  try simp (decide := true) only [gh_U, gh_K, gh_A_has, gh_A_cnt, gh_A_mem, false_and, true_and, and_false, or_false, if_false, if_true, and_true]
  grind (splits := 25)
theorem td_mr {v j : Nat} (Hn : gh_Net own o w) (Htw : gi_tw own c) (Hts : gi_ts own o F c) {c1 : Nat → Nat → List gh_M} {m0 : gh_M} (hj : own v j) (hT : ∀ k y e, gh_has k (c y e) ↔ gh_has k (c1 y e) ∨ (y = v ∧ e = j ∧ k = m0.1)) (hTc : ∀ k y e, gh_cnt k (c y e) = gh_cnt k (c1 y e) + if y = v ∧ e = j ∧ k = m0.1 then 1 else 0) (hTm : ∀ y e m, m ∈ c y e ↔ m ∈ c1 y e ∨ (y = v ∧ e = j ∧ m = m0)) (hTw : ¬ gh_has m0.1 (c1 v j)) (hk : m0.1 = 2) (hd : gm_t own o w F mk c (o v j) v j (F 1 v) m0) (hl : m0.2.1 ≤ F 1 v) (hf : m0.2.2.1 = F 2 v) (hs : F 8 (o v j) = F 8 v) (h7 : F 7 v = j) (h0 : F 0 v = 1) {mk9 : Nat → Nat → Nat} (hM1 : ∀ x e, mk9 x e = 1 ↔ mk x e = 1) (hM2 : ∀ x e, ¬ (x = v ∧ e = j) → mk9 x e = mk x e) (hM3 : mk9 v j ≠ 0) (hM4 : (mk v j = 0 ∧ mk9 v j = 2) ∨ mk9 v j = mk v j)  {x y e a : Nat} {m : gh_M} (hx : o y e = x) (hy : own y e) (hm : m ∈ c1 y e) (ha : F 1 y ≤ a) (hb : ¬ gh_has 1 (c y e) → a = F 1 y)  (h : gm_r own o w F mk c x y e a m) : gm_r own o w (gh_U F 7 v 12) mk9 c1 x y e a m := by
  have hh : ∀ k, m.1 = k → gh_has k (c1 y e) := fun k hk => ⟨m, hm, hk⟩
  dsimp only [gi_tw, gi_ts, gm_t, gm_r, gi_cur, gi_NR, gi_wt, gi_open, gh_Net] at *
  try simp (decide := true) only [gh_U, gh_K, gh_A_has, gh_A_cnt, gh_A_mem, false_and, true_and, and_false, or_false, if_false, if_true, and_true]
  grind (splits := 25)
theorem td_mk {v j : Nat} (Hn : gh_Net own o w) (Htw : gi_tw own c) (Hts : gi_ts own o F c) {c1 : Nat → Nat → List gh_M} {m0 : gh_M} (hj : own v j) (hT : ∀ k y e, gh_has k (c y e) ↔ gh_has k (c1 y e) ∨ (y = v ∧ e = j ∧ k = m0.1)) (hTc : ∀ k y e, gh_cnt k (c y e) = gh_cnt k (c1 y e) + if y = v ∧ e = j ∧ k = m0.1 then 1 else 0) (hTm : ∀ y e m, m ∈ c y e ↔ m ∈ c1 y e ∨ (y = v ∧ e = j ∧ m = m0)) (hTw : ¬ gh_has m0.1 (c1 v j)) (hk : m0.1 = 2) (hd : gm_t own o w F mk c (o v j) v j (F 1 v) m0) (hl : m0.2.1 ≤ F 1 v) (hf : m0.2.2.1 = F 2 v) (hs : F 8 (o v j) = F 8 v) (h7 : F 7 v = j) (h0 : F 0 v = 1) {mk9 : Nat → Nat → Nat} (hM1 : ∀ x e, mk9 x e = 1 ↔ mk x e = 1) (hM2 : ∀ x e, ¬ (x = v ∧ e = j) → mk9 x e = mk x e) (hM3 : mk9 v j ≠ 0) (hM4 : (mk v j = 0 ∧ mk9 v j = 2) ∨ mk9 v j = mk v j)  {x y e a : Nat} {m : gh_M} (hx : o y e = x) (hy : own y e) (hm : m ∈ c1 y e) (ha : F 1 y ≤ a) (hb : ¬ gh_has 1 (c y e) → a = F 1 y)  (h : gm_k own o w F mk c x y e a m) : gm_k own o w (gh_U F 7 v 12) mk9 c1 x y e a m := by
  have hh : ∀ k, m.1 = k → gh_has k (c1 y e) := fun k hk => ⟨m, hm, hk⟩
  dsimp only [gi_tw, gi_ts, gm_t, gm_k, gi_cur, gi_NR, gi_wt, gi_open, gh_Net] at *
  try simp (decide := true) only [gh_U, gh_K, gh_A_has, gh_A_cnt, gh_A_mem, false_and, true_and, and_false, or_false, if_false, if_true, and_true]
  grind (splits := 25)
theorem td_mp {v j : Nat} (Hn : gh_Net own o w) (Htw : gi_tw own c) (Hts : gi_ts own o F c) {c1 : Nat → Nat → List gh_M} {m0 : gh_M} (hj : own v j) (hT : ∀ k y e, gh_has k (c y e) ↔ gh_has k (c1 y e) ∨ (y = v ∧ e = j ∧ k = m0.1)) (hTc : ∀ k y e, gh_cnt k (c y e) = gh_cnt k (c1 y e) + if y = v ∧ e = j ∧ k = m0.1 then 1 else 0) (hTm : ∀ y e m, m ∈ c y e ↔ m ∈ c1 y e ∨ (y = v ∧ e = j ∧ m = m0)) (hTw : ¬ gh_has m0.1 (c1 v j)) (hk : m0.1 = 2) (hd : gm_t own o w F mk c (o v j) v j (F 1 v) m0) (hl : m0.2.1 ≤ F 1 v) (hf : m0.2.2.1 = F 2 v) (hs : F 8 (o v j) = F 8 v) (h7 : F 7 v = j) (h0 : F 0 v = 1) {mk9 : Nat → Nat → Nat} (hM1 : ∀ x e, mk9 x e = 1 ↔ mk x e = 1) (hM2 : ∀ x e, ¬ (x = v ∧ e = j) → mk9 x e = mk x e) (hM3 : mk9 v j ≠ 0) (hM4 : (mk v j = 0 ∧ mk9 v j = 2) ∨ mk9 v j = mk v j)  {x y e a : Nat} {m : gh_M} (hx : o y e = x) (hy : own y e) (hm : m ∈ c1 y e) (ha : F 1 y ≤ a) (hb : ¬ gh_has 1 (c y e) → a = F 1 y)  (h : gm_p own o w F mk c x y e a m) : gm_p own o w (gh_U F 7 v 12) mk9 c1 x y e a m := by
  have hh : ∀ k, m.1 = k → gh_has k (c1 y e) := fun k hk => ⟨m, hm, hk⟩
  dsimp only [gi_tw, gi_ts, gm_t, gm_p, gi_cur, gi_NR, gi_wt, gi_open, gh_Net] at *
  try simp (decide := true) only [gh_U, gh_K, gh_A_has, gh_A_cnt, gh_A_mem, false_and, true_and, and_false, or_false, if_false, if_true, and_true]
  grind (splits := 25)
theorem td_mt {v j : Nat} (Hn : gh_Net own o w) (Hts : gi_ts own o F c) (Hs2 : gi_s2 F) {c1 : Nat → Nat → List gh_M} {m0 : gh_M} (hj : own v j) (hT : ∀ k y e, gh_has k (c y e) ↔ gh_has k (c1 y e) ∨ (y = v ∧ e = j ∧ k = m0.1)) (hTc : ∀ k y e, gh_cnt k (c y e) = gh_cnt k (c1 y e) + if y = v ∧ e = j ∧ k = m0.1 then 1 else 0) (hTm : ∀ y e m, m ∈ c y e ↔ m ∈ c1 y e ∨ (y = v ∧ e = j ∧ m = m0)) (hTw : ¬ gh_has m0.1 (c1 v j)) (hk : m0.1 = 2) (hd : gm_t own o w F mk c (o v j) v j (F 1 v) m0) (hl : m0.2.1 ≤ F 1 v) (hf : m0.2.2.1 = F 2 v) (hs : F 8 (o v j) = F 8 v) (h7 : F 7 v = j) (h0 : F 0 v = 1) {mk9 : Nat → Nat → Nat} (hM1 : ∀ x e, mk9 x e = 1 ↔ mk x e = 1) (hM2 : ∀ x e, ¬ (x = v ∧ e = j) → mk9 x e = mk x e) (hM3 : mk9 v j ≠ 0) (hM4 : (mk v j = 0 ∧ mk9 v j = 2) ∨ mk9 v j = mk v j)  {x y e a : Nat} {m : gh_M} (hx : o y e = x) (hy : own y e) (hm : m ∈ c1 y e) (ha : F 1 y ≤ a) (hb : ¬ gh_has 1 (c y e) → a = F 1 y)  (h : gm_t own o w F mk c x y e a m) : gm_t own o w (gh_U F 7 v 12) mk9 c1 x y e a m := by
  have hh : ∀ k, m.1 = k → gh_has k (c1 y e) := fun k hk => ⟨m, hm, hk⟩
  intro hm2
  have h := h hm2
  have hh := hh 2 hm2
  have b1 := hT 2 y e
  have b2 := hT 2 v j
  have b3 := Hts v j hj
  have b4 := Hs2 v h0
  have b5 := Hs2 (o v j)
  have b6 := Hn.1 v j hj
  have b7 := Hn.1 y e hy
  have b8 := hM2 x e
  have b9 := hd hk
  clear Hs2 Hts Hn hT hTc hTm hM1 hM2 hd
  dsimp only [gi_ts, gi_s2, gm_t, gi_cur, gi_NR, gi_wt, gi_open, gh_Net] at *
  try simp (decide := true) only [gh_U, gh_K, gh_A_has, gh_A_cnt, gh_A_mem, false_and, true_and, and_false, or_false, if_false, if_true, and_true]
  grind (splits := 25)
theorem td_I {v j : Nat} (Hn : gh_Net own o w) (h : gI own o w F mk c) {m0 : gh_M} {t : List gh_M} (hj : own v j) (hc : c v j = m0 :: t) (hk : m0.1 = 2) (hl : m0.2.1 ≤ F 1 v) (hf : m0.2.2.1 = F 2 v) (h7 : F 7 v = j) (h0 : F 0 v = 1) {mk9 : Nat → Nat → Nat} (hM1 : ∀ x e, mk9 x e = 1 ↔ mk x e = 1) (hM2 : ∀ x e, ¬ (x = v ∧ e = j) → mk9 x e = mk x e) (hM3 : mk9 v j ≠ 0) (hM4 : (mk v j = 0 ∧ mk9 v j = 2) ∨ mk9 v j = mk v j)  : gI own o w (gh_U F 7 v 12) mk9 (gh_T c v j) := by
  obtain ⟨Hst, Hb1, Hb2, Hb3, Hb4, Hb5, Hb6, Hs0, HpA, Hs1, Hs2, HSl, Hs3, Hs4, How, Hs5, Hs6, HSr, HSn, HM, HC, Hph, H6, H7, Hbc, HK, Hrj, Htw, Hts, Han, Hsz, Hch⟩ := h
  have Xi := gx_iI Hch
  have Xc := gx_cI Hch
  have Xt := gx_tI Hch
  have Xa := gx_aI Hch
  have Xr := gx_rI Hch
  have Xk := gx_kI Hch
  have Xp := gx_pI Hch
  have Xl := gx_lI Hch
  have Xb := gx_bI Hch
  have Xn := gx_nI Hn Hph HpA HSr HSn HM HC
  have hT := gp_T hc
  have hTc := gp_C hc
  have hTm := gp_M hc
  have hTw := gp_W hc Htw hj (by omega)
  have hd0 := gi_hd Hch hj hc
  have hd := hd0.2.2.2.1
  have hs : F 8 (o v j) = F 8 v := by
    have a0 := hd hk
    have a1 := Hn.1 v j hj
    have a2 := Hs2 (o v j)
    have a3 := Hs2 v
    have a4 := Hb3 (o v j)
    have a5 := Hb5 v
    have a6 := Hb6 (o v j)
    have a7 := HSl (o v j)
    have a8 := HSl v
    have a9 := Hb3 v
    have a10 := Hb2 (o v j)
    unfold gi_wt at a0
    by_cases q : F 0 (o v j) = 1 ∧ F 7 (o v j) = j
    · have b1 := a0.1 q
      obtain ⟨y, e, r1, r2, r3, r4⟩ := a5 (by grind)
      obtain ⟨y2, e2, s1, s2, s3, s4, -⟩ := a6 (by grind)
      have b2 := Hn.2.2 y y2 e e2 r1 s1 (by grind)
      have b3 := Hn.2.1 y y2 e r1 (by rw [b2]; exact s1)
      grind
    · exact (a0.2 q).2.2.2.1
  refine ⟨td_st (c1 := gh_T c v j) Hst hj hT hTc hTm hTw hk hd hl hf hs h7 h0 hM1 hM2 hM3 hM4, td_b1 (c1 := gh_T c v j) Hb1 hj hT hTc hTm hTw hk hd hl hf hs h7 h0 hM1 hM2 hM3 hM4, td_b2 (c1 := gh_T c v j) Hb2 hj hT hTc hTm hTw hk hd hl hf hs h7 h0 hM1 hM2 hM3 hM4, td_b3 (c1 := gh_T c v j) Hb3 hj hT hTc hTm hTw hk hd hl hf hs h7 h0 hM1 hM2 hM3 hM4, td_b4 (c1 := gh_T c v j) Hb4 hj hT hTc hTm hTw hk hd hl hf hs h7 h0 hM1 hM2 hM3 hM4, td_b5 (c1 := gh_T c v j) Hb5 hj hT hTc hTm hTw hk hd hl hf hs h7 h0 hM1 hM2 hM3 hM4, td_b6 (c1 := gh_T c v j) Hb6 hj hT hTc hTm hTw hk hd hl hf hs h7 h0 hM1 hM2 hM3 hM4, td_s0 (c1 := gh_T c v j) Hs0 hj hT hTc hTm hTw hk hd hl hf hs h7 h0 hM1 hM2 hM3 hM4, td_pA (c1 := gh_T c v j) HpA Hs2 Hn hj hT hTc hTm hTw hk hd hl hf hs h7 h0 hM1 hM2 hM3 hM4, td_s1 (c1 := gh_T c v j) Hs1 hj hT hTc hTm hTw hk hd hl hf hs h7 h0 hM1 hM2 hM3 hM4, td_s2 (c1 := gh_T c v j) Hs2 hj hT hTc hTm hTw hk hd hl hf hs h7 h0 hM1 hM2 hM3 hM4, td_Sl (c1 := gh_T c v j) HSl hj hT hTc hTm hTw hk hd hl hf hs h7 h0 hM1 hM2 hM3 hM4, td_s3 (c1 := gh_T c v j) Hs3 hj hT hTc hTm hTw hk hd hl hf hs h7 h0 hM1 hM2 hM3 hM4, td_s4 (c1 := gh_T c v j) Hs4 hj hT hTc hTm hTw hk hd hl hf hs h7 h0 hM1 hM2 hM3 hM4, td_ow (c1 := gh_T c v j) How hj hT hTc hTm hTw hk hd hl hf hs h7 h0 hM1 hM2 hM3 hM4, td_s5 (c1 := gh_T c v j) Hs5 hj hT hTc hTm hTw hk hd hl hf hs h7 h0 hM1 hM2 hM3 hM4, td_s6 (c1 := gh_T c v j) Hs6 Hn hj hT hTc hTm hTw hk hd hl hf hs h7 h0 hM1 hM2 hM3 hM4, td_Sr (c1 := gh_T c v j) HSr hj hT hTc hTm hTw hk hd hl hf hs h7 h0 hM1 hM2 hM3 hM4, td_Sn (c1 := gh_T c v j) HSn hj hT hTc hTm hTw hk hd hl hf hs h7 h0 hM1 hM2 hM3 hM4, td_M (c1 := gh_T c v j) HM hj hT hTc hTm hTw hk hd hl hf hs h7 h0 hM1 hM2 hM3 hM4, td_C (c1 := gh_T c v j) HC hj hT hTc hTm hTw hk hd hl hf hs h7 h0 hM1 hM2 hM3 hM4, td_ph (c1 := gh_T c v j) Hph hj hT hTc hTm hTw hk hd hl hf hs h7 h0 hM1 hM2 hM3 hM4, td_6 (c1 := gh_T c v j) H6 hj hT hTc hTm hTw hk hd hl hf hs h7 h0 hM1 hM2 hM3 hM4, td_7 (c1 := gh_T c v j) H7 hj hT hTc hTm hTw hk hd hl hf hs h7 h0 hM1 hM2 hM3 hM4, td_bc (c1 := gh_T c v j) Hbc Hn Hs2 hj hT hTc hTm hTw hk hd hl hf hs h7 h0 hM1 hM2 hM3 hM4, td_K (c1 := gh_T c v j) HK Hn hj hT hTc hTm hTw hk hd hl hf hs h7 h0 hM1 hM2 hM3 hM4, td_rj (c1 := gh_T c v j) Hrj Hn hj hT hTc hTm hTw hk hd hl hf hs h7 h0 hM1 hM2 hM3 hM4, td_tw (c1 := gh_T c v j) Htw Hn hj hT hTc hTm hTw hk hd hl hf hs h7 h0 hM1 hM2 hM3 hM4, td_ts (c1 := gh_T c v j) Hts Hn hj hT hTc hTm hTw hk hd hl hf hs h7 h0 hM1 hM2 hM3 hM4, td_an (c1 := gh_T c v j) Han hj hT hTc hTm hTw hk hd hl hf hs h7 h0 hM1 hM2 hM3 hM4, td_sz (c1 := gh_T c v j) Hsz hj hT hTc hTm hTw hk hd hl hf hs h7 h0 hM1 hM2 hM3 hM4, ?_⟩
  have K1 : gi_all own (gh_U F 7 v 12) (gh_T c v j) (fun y e => gi_m own o w (gh_U F 7 v 12) mk9 (gh_T c v j) (o y e) y e) := gi_all_go (gi_all_popT Hch hc (by omega)) (fun y e q => (hT 1 y e).mpr (Or.inl q)) (fun y => (by simp [gh_U])) (fun y e a m hy hm ha hb q => ⟨q.1, td_mi Hn Htw Hts hj hT hTc hTm hTw hk hd hl hf hs h7 h0 hM1 hM2 hM3 hM4 rfl hy hm ha hb q.2.1, td_mc Hn Htw Hts hj hT hTc hTm hTw hk hd hl hf hs h7 h0 hM1 hM2 hM3 hM4 rfl hy hm ha hb q.2.2.1, td_mt Hn Hts Hs2 hj hT hTc hTm hTw hk hd hl hf hs h7 h0 hM1 hM2 hM3 hM4 rfl hy hm ha hb q.2.2.2.1, td_ma Hn Htw Hts hj hT hTc hTm hTw hk hd hl hf hs h7 h0 hM1 hM2 hM3 hM4 rfl hy hm ha hb q.2.2.2.2.1, td_mr Hn Htw Hts hj hT hTc hTm hTw hk hd hl hf hs h7 h0 hM1 hM2 hM3 hM4 rfl hy hm ha hb q.2.2.2.2.2.1, td_mk Hn Htw Hts hj hT hTc hTm hTw hk hd hl hf hs h7 h0 hM1 hM2 hM3 hM4 rfl hy hm ha hb q.2.2.2.2.2.2.1, td_mp Hn Htw Hts hj hT hTc hTm hTw hk hd hl hf hs h7 h0 hM1 hM2 hM3 hM4 rfl hy hm ha hb q.2.2.2.2.2.2.2⟩)
  exact K1
end
section
variable {own : Nat → Nat → Prop} {o : Nat → Nat → Nat} {w : Nat → Nat} {F : gh_F} {mk : Nat → Nat → Nat} {c : Nat → Nat → List gh_M}
theorem rd_an {v j : Nat} (Han : gi_an own o F mk c) {c1 : Nat → Nat → List gh_M} {m0 : gh_M} (hj : own v j) (hT : ∀ k y e, gh_has k (c y e) ↔ gh_has k (c1 y e) ∨ (y = v ∧ e = j ∧ k = m0.1)) (hTc : ∀ k y e, gh_cnt k (c y e) = gh_cnt k (c1 y e) + if y = v ∧ e = j ∧ k = m0.1 then 1 else 0) (hTm : ∀ y e m, m ∈ c y e ↔ m ∈ c1 y e ∨ (y = v ∧ e = j ∧ m = m0)) (hTw : ¬ gh_has m0.1 (c1 v j)) (hk : m0.1 = 5) (hd : gm_p own o w F mk c (o v j) v j (F 1 v) m0) (h4 : j = F 4 v) (h0 : F 0 v ≠ 1)  : gi_an own o F mk c1 := by
  intro x hx
  obtain ⟨l, l1, l2, l3⟩ := Han x hx
  refine ⟨l, l1, l2, fun e => (l3 e).trans ?_⟩
  have a1 := hT 5 x e
  
  clear Han l3
  dsimp only [gi_open, gi_cur] at *
  try simp (decide := true) only [gh_U, gh_K, gh_A_has, gh_A_cnt, gh_A_mem, false_and, true_and, and_false, or_false, if_false, if_true, and_true]
  grind
theorem rd_Sr {v j : Nat} (HSr : gi_Sr o w F c) {c1 : Nat → Nat → List gh_M} {m0 : gh_M} (hj : own v j) (hT : ∀ k y e, gh_has k (c y e) ↔ gh_has k (c1 y e) ∨ (y = v ∧ e = j ∧ k = m0.1)) (hTc : ∀ k y e, gh_cnt k (c y e) = gh_cnt k (c1 y e) + if y = v ∧ e = j ∧ k = m0.1 then 1 else 0) (hTm : ∀ y e m, m ∈ c y e ↔ m ∈ c1 y e ∨ (y = v ∧ e = j ∧ m = m0)) (hTw : ¬ gh_has m0.1 (c1 v j)) (hk : m0.1 = 5) (hd : gm_p own o w F mk c (o v j) v j (F 1 v) m0) (h4 : j = F 4 v) (h0 : F 0 v ≠ 1)  : gi_Sr o w F c1 := by
  intro x h1 h2
  obtain ⟨a1, a2, a3⟩ := HSr x h1 h2
  refine ⟨a1, a2, fun hc => ⟨(a3 hc).1, ?_⟩⟩
  rcases (a3 hc).2 with z | ⟨m, m1, m2, m3⟩
  · refine Or.inl ?_
    have b1 := hT 0 (o x (F 9 x)) (F 9 x)
    clear HSr a3
    try simp (decide := true) only [gh_U, gh_K, gh_A_has, gh_A_cnt, gh_A_mem, false_and, true_and, and_false, or_false, if_false, if_true, and_true]
    grind
  · refine Or.inr ⟨m, ?_, m2, m3⟩
    have b1 := hTm x (F 9 x) m
    clear HSr a3
    try simp (decide := true) only [gh_U, gh_K, gh_A_has, gh_A_cnt, gh_A_mem, false_and, true_and, and_false, or_false, if_false, if_true, and_true]
    grind
theorem rd_st {v j : Nat} (Hst : gi_st F) {c1 : Nat → Nat → List gh_M} {m0 : gh_M} (hj : own v j) (hT : ∀ k y e, gh_has k (c y e) ↔ gh_has k (c1 y e) ∨ (y = v ∧ e = j ∧ k = m0.1)) (hTc : ∀ k y e, gh_cnt k (c y e) = gh_cnt k (c1 y e) + if y = v ∧ e = j ∧ k = m0.1 then 1 else 0) (hTm : ∀ y e m, m ∈ c y e ↔ m ∈ c1 y e ∨ (y = v ∧ e = j ∧ m = m0)) (hTw : ¬ gh_has m0.1 (c1 v j)) (hk : m0.1 = 5) (hd : gm_p own o w F mk c (o v j) v j (F 1 v) m0) (h4 : j = F 4 v) (h0 : F 0 v ≠ 1)  : gi_st F := by
  dsimp only [gi_st, gm_p, gi_cur, gi_NR, gi_wt, gi_open, gh_Net] at *
  try simp (decide := true) only [gh_U, gh_K, gh_A_has, gh_A_cnt, gh_A_mem, false_and, true_and, and_false, or_false, if_false, if_true, and_true]
  grind (splits := 25)
theorem rd_b1 {v j : Nat} (Hb1 : gi_b1 F) {c1 : Nat → Nat → List gh_M} {m0 : gh_M} (hj : own v j) (hT : ∀ k y e, gh_has k (c y e) ↔ gh_has k (c1 y e) ∨ (y = v ∧ e = j ∧ k = m0.1)) (hTc : ∀ k y e, gh_cnt k (c y e) = gh_cnt k (c1 y e) + if y = v ∧ e = j ∧ k = m0.1 then 1 else 0) (hTm : ∀ y e m, m ∈ c y e ↔ m ∈ c1 y e ∨ (y = v ∧ e = j ∧ m = m0)) (hTw : ¬ gh_has m0.1 (c1 v j)) (hk : m0.1 = 5) (hd : gm_p own o w F mk c (o v j) v j (F 1 v) m0) (h4 : j = F 4 v) (h0 : F 0 v ≠ 1)  : gi_b1 F := by
  dsimp only [gi_b1, gm_p, gi_cur, gi_NR, gi_wt, gi_open, gh_Net] at *
  try simp (decide := true) only [gh_U, gh_K, gh_A_has, gh_A_cnt, gh_A_mem, false_and, true_and, and_false, or_false, if_false, if_true, and_true]
  grind (splits := 25)
theorem rd_b2 {v j : Nat} (Hb2 : gi_b2 F) {c1 : Nat → Nat → List gh_M} {m0 : gh_M} (hj : own v j) (hT : ∀ k y e, gh_has k (c y e) ↔ gh_has k (c1 y e) ∨ (y = v ∧ e = j ∧ k = m0.1)) (hTc : ∀ k y e, gh_cnt k (c y e) = gh_cnt k (c1 y e) + if y = v ∧ e = j ∧ k = m0.1 then 1 else 0) (hTm : ∀ y e m, m ∈ c y e ↔ m ∈ c1 y e ∨ (y = v ∧ e = j ∧ m = m0)) (hTw : ¬ gh_has m0.1 (c1 v j)) (hk : m0.1 = 5) (hd : gm_p own o w F mk c (o v j) v j (F 1 v) m0) (h4 : j = F 4 v) (h0 : F 0 v ≠ 1)  : gi_b2 F := by
  dsimp only [gi_b2, gm_p, gi_cur, gi_NR, gi_wt, gi_open, gh_Net] at *
  try simp (decide := true) only [gh_U, gh_K, gh_A_has, gh_A_cnt, gh_A_mem, false_and, true_and, and_false, or_false, if_false, if_true, and_true]
  grind (splits := 25)
theorem rd_b3 {v j : Nat} (Hb3 : gi_b3 F) {c1 : Nat → Nat → List gh_M} {m0 : gh_M} (hj : own v j) (hT : ∀ k y e, gh_has k (c y e) ↔ gh_has k (c1 y e) ∨ (y = v ∧ e = j ∧ k = m0.1)) (hTc : ∀ k y e, gh_cnt k (c y e) = gh_cnt k (c1 y e) + if y = v ∧ e = j ∧ k = m0.1 then 1 else 0) (hTm : ∀ y e m, m ∈ c y e ↔ m ∈ c1 y e ∨ (y = v ∧ e = j ∧ m = m0)) (hTw : ¬ gh_has m0.1 (c1 v j)) (hk : m0.1 = 5) (hd : gm_p own o w F mk c (o v j) v j (F 1 v) m0) (h4 : j = F 4 v) (h0 : F 0 v ≠ 1)  : gi_b3 F := by
  dsimp only [gi_b3, gm_p, gi_cur, gi_NR, gi_wt, gi_open, gh_Net] at *
  try simp (decide := true) only [gh_U, gh_K, gh_A_has, gh_A_cnt, gh_A_mem, false_and, true_and, and_false, or_false, if_false, if_true, and_true]
  grind (splits := 25)
theorem rd_b4 {v j : Nat} (Hb4 : gi_b4 F) {c1 : Nat → Nat → List gh_M} {m0 : gh_M} (hj : own v j) (hT : ∀ k y e, gh_has k (c y e) ↔ gh_has k (c1 y e) ∨ (y = v ∧ e = j ∧ k = m0.1)) (hTc : ∀ k y e, gh_cnt k (c y e) = gh_cnt k (c1 y e) + if y = v ∧ e = j ∧ k = m0.1 then 1 else 0) (hTm : ∀ y e m, m ∈ c y e ↔ m ∈ c1 y e ∨ (y = v ∧ e = j ∧ m = m0)) (hTw : ¬ gh_has m0.1 (c1 v j)) (hk : m0.1 = 5) (hd : gm_p own o w F mk c (o v j) v j (F 1 v) m0) (h4 : j = F 4 v) (h0 : F 0 v ≠ 1)  : gi_b4 F := by
  dsimp only [gi_b4, gm_p, gi_cur, gi_NR, gi_wt, gi_open, gh_Net] at *
  try simp (decide := true) only [gh_U, gh_K, gh_A_has, gh_A_cnt, gh_A_mem, false_and, true_and, and_false, or_false, if_false, if_true, and_true]
  grind (splits := 25)
theorem rd_b5 {v j : Nat} (Hb5 : gi_b5 own o w F) {c1 : Nat → Nat → List gh_M} {m0 : gh_M} (hj : own v j) (hT : ∀ k y e, gh_has k (c y e) ↔ gh_has k (c1 y e) ∨ (y = v ∧ e = j ∧ k = m0.1)) (hTc : ∀ k y e, gh_cnt k (c y e) = gh_cnt k (c1 y e) + if y = v ∧ e = j ∧ k = m0.1 then 1 else 0) (hTm : ∀ y e m, m ∈ c y e ↔ m ∈ c1 y e ∨ (y = v ∧ e = j ∧ m = m0)) (hTw : ¬ gh_has m0.1 (c1 v j)) (hk : m0.1 = 5) (hd : gm_p own o w F mk c (o v j) v j (F 1 v) m0) (h4 : j = F 4 v) (h0 : F 0 v ≠ 1)  : gi_b5 own o w F := by
  dsimp only [gi_b5, gm_p, gi_cur, gi_NR, gi_wt, gi_open, gh_Net] at *
  try simp (decide := true) only [gh_U, gh_K, gh_A_has, gh_A_cnt, gh_A_mem, false_and, true_and, and_false, or_false, if_false, if_true, and_true]
  grind (splits := 25)
theorem rd_b6 {v j : Nat} (Hb6 : gi_b6 own o w F mk) {c1 : Nat → Nat → List gh_M} {m0 : gh_M} (hj : own v j) (hT : ∀ k y e, gh_has k (c y e) ↔ gh_has k (c1 y e) ∨ (y = v ∧ e = j ∧ k = m0.1)) (hTc : ∀ k y e, gh_cnt k (c y e) = gh_cnt k (c1 y e) + if y = v ∧ e = j ∧ k = m0.1 then 1 else 0) (hTm : ∀ y e m, m ∈ c y e ↔ m ∈ c1 y e ∨ (y = v ∧ e = j ∧ m = m0)) (hTw : ¬ gh_has m0.1 (c1 v j)) (hk : m0.1 = 5) (hd : gm_p own o w F mk c (o v j) v j (F 1 v) m0) (h4 : j = F 4 v) (h0 : F 0 v ≠ 1)  : gi_b6 own o w F mk := by
  dsimp only [gi_b6, gm_p, gi_cur, gi_NR, gi_wt, gi_open, gh_Net] at *
  try simp (decide := true) only [gh_U, gh_K, gh_A_has, gh_A_cnt, gh_A_mem, false_and, true_and, and_false, or_false, if_false, if_true, and_true]
  grind (splits := 25)
theorem rd_s0 {v j : Nat} (Hs0 : gi_s0 own F mk) {c1 : Nat → Nat → List gh_M} {m0 : gh_M} (hj : own v j) (hT : ∀ k y e, gh_has k (c y e) ↔ gh_has k (c1 y e) ∨ (y = v ∧ e = j ∧ k = m0.1)) (hTc : ∀ k y e, gh_cnt k (c y e) = gh_cnt k (c1 y e) + if y = v ∧ e = j ∧ k = m0.1 then 1 else 0) (hTm : ∀ y e m, m ∈ c y e ↔ m ∈ c1 y e ∨ (y = v ∧ e = j ∧ m = m0)) (hTw : ¬ gh_has m0.1 (c1 v j)) (hk : m0.1 = 5) (hd : gm_p own o w F mk c (o v j) v j (F 1 v) m0) (h4 : j = F 4 v) (h0 : F 0 v ≠ 1)  : gi_s0 own F mk := by
  dsimp only [gi_s0, gm_p, gi_cur, gi_NR, gi_wt, gi_open, gh_Net] at *
  try simp (decide := true) only [gh_U, gh_K, gh_A_has, gh_A_cnt, gh_A_mem, false_and, true_and, and_false, or_false, if_false, if_true, and_true]
  grind (splits := 25)
theorem rd_pA {v j : Nat} (HpA : gi_pA own F mk) {c1 : Nat → Nat → List gh_M} {m0 : gh_M} (hj : own v j) (hT : ∀ k y e, gh_has k (c y e) ↔ gh_has k (c1 y e) ∨ (y = v ∧ e = j ∧ k = m0.1)) (hTc : ∀ k y e, gh_cnt k (c y e) = gh_cnt k (c1 y e) + if y = v ∧ e = j ∧ k = m0.1 then 1 else 0) (hTm : ∀ y e m, m ∈ c y e ↔ m ∈ c1 y e ∨ (y = v ∧ e = j ∧ m = m0)) (hTw : ¬ gh_has m0.1 (c1 v j)) (hk : m0.1 = 5) (hd : gm_p own o w F mk c (o v j) v j (F 1 v) m0) (h4 : j = F 4 v) (h0 : F 0 v ≠ 1)  : gi_pA own F mk := by
  dsimp only [gi_pA, gm_p, gi_cur, gi_NR, gi_wt, gi_open, gh_Net] at *
  try simp (decide := true) only [gh_U, gh_K, gh_A_has, gh_A_cnt, gh_A_mem, false_and, true_and, and_false, or_false, if_false, if_true, and_true]
  grind (splits := 25)
theorem rd_s1 {v j : Nat} (Hs1 : gi_s1 F) {c1 : Nat → Nat → List gh_M} {m0 : gh_M} (hj : own v j) (hT : ∀ k y e, gh_has k (c y e) ↔ gh_has k (c1 y e) ∨ (y = v ∧ e = j ∧ k = m0.1)) (hTc : ∀ k y e, gh_cnt k (c y e) = gh_cnt k (c1 y e) + if y = v ∧ e = j ∧ k = m0.1 then 1 else 0) (hTm : ∀ y e m, m ∈ c y e ↔ m ∈ c1 y e ∨ (y = v ∧ e = j ∧ m = m0)) (hTw : ¬ gh_has m0.1 (c1 v j)) (hk : m0.1 = 5) (hd : gm_p own o w F mk c (o v j) v j (F 1 v) m0) (h4 : j = F 4 v) (h0 : F 0 v ≠ 1)  : gi_s1 F := by
  dsimp only [gi_s1, gm_p, gi_cur, gi_NR, gi_wt, gi_open, gh_Net] at *
  try simp (decide := true) only [gh_U, gh_K, gh_A_has, gh_A_cnt, gh_A_mem, false_and, true_and, and_false, or_false, if_false, if_true, and_true]
  grind (splits := 25)
theorem rd_s2 {v j : Nat} (Hs2 : gi_s2 F) {c1 : Nat → Nat → List gh_M} {m0 : gh_M} (hj : own v j) (hT : ∀ k y e, gh_has k (c y e) ↔ gh_has k (c1 y e) ∨ (y = v ∧ e = j ∧ k = m0.1)) (hTc : ∀ k y e, gh_cnt k (c y e) = gh_cnt k (c1 y e) + if y = v ∧ e = j ∧ k = m0.1 then 1 else 0) (hTm : ∀ y e m, m ∈ c y e ↔ m ∈ c1 y e ∨ (y = v ∧ e = j ∧ m = m0)) (hTw : ¬ gh_has m0.1 (c1 v j)) (hk : m0.1 = 5) (hd : gm_p own o w F mk c (o v j) v j (F 1 v) m0) (h4 : j = F 4 v) (h0 : F 0 v ≠ 1)  : gi_s2 F := by
  dsimp only [gi_s2, gm_p, gi_cur, gi_NR, gi_wt, gi_open, gh_Net] at *
  try simp (decide := true) only [gh_U, gh_K, gh_A_has, gh_A_cnt, gh_A_mem, false_and, true_and, and_false, or_false, if_false, if_true, and_true]
  grind (splits := 25)
theorem rd_Sl {v j : Nat} (HSl : gi_Sl F) {c1 : Nat → Nat → List gh_M} {m0 : gh_M} (hj : own v j) (hT : ∀ k y e, gh_has k (c y e) ↔ gh_has k (c1 y e) ∨ (y = v ∧ e = j ∧ k = m0.1)) (hTc : ∀ k y e, gh_cnt k (c y e) = gh_cnt k (c1 y e) + if y = v ∧ e = j ∧ k = m0.1 then 1 else 0) (hTm : ∀ y e m, m ∈ c y e ↔ m ∈ c1 y e ∨ (y = v ∧ e = j ∧ m = m0)) (hTw : ¬ gh_has m0.1 (c1 v j)) (hk : m0.1 = 5) (hd : gm_p own o w F mk c (o v j) v j (F 1 v) m0) (h4 : j = F 4 v) (h0 : F 0 v ≠ 1)  : gi_Sl F := by
  dsimp only [gi_Sl, gm_p, gi_cur, gi_NR, gi_wt, gi_open, gh_Net] at *
  try simp (decide := true) only [gh_U, gh_K, gh_A_has, gh_A_cnt, gh_A_mem, false_and, true_and, and_false, or_false, if_false, if_true, and_true]
  grind (splits := 25)
theorem rd_s3 {v j : Nat} (Hs3 : gi_s3 F) {c1 : Nat → Nat → List gh_M} {m0 : gh_M} (hj : own v j) (hT : ∀ k y e, gh_has k (c y e) ↔ gh_has k (c1 y e) ∨ (y = v ∧ e = j ∧ k = m0.1)) (hTc : ∀ k y e, gh_cnt k (c y e) = gh_cnt k (c1 y e) + if y = v ∧ e = j ∧ k = m0.1 then 1 else 0) (hTm : ∀ y e m, m ∈ c y e ↔ m ∈ c1 y e ∨ (y = v ∧ e = j ∧ m = m0)) (hTw : ¬ gh_has m0.1 (c1 v j)) (hk : m0.1 = 5) (hd : gm_p own o w F mk c (o v j) v j (F 1 v) m0) (h4 : j = F 4 v) (h0 : F 0 v ≠ 1)  : gi_s3 F := by
  dsimp only [gi_s3, gm_p, gi_cur, gi_NR, gi_wt, gi_open, gh_Net] at *
  try simp (decide := true) only [gh_U, gh_K, gh_A_has, gh_A_cnt, gh_A_mem, false_and, true_and, and_false, or_false, if_false, if_true, and_true]
  grind (splits := 25)
theorem rd_s4 {v j : Nat} (Hs4 : gi_s4 F) {c1 : Nat → Nat → List gh_M} {m0 : gh_M} (hj : own v j) (hT : ∀ k y e, gh_has k (c y e) ↔ gh_has k (c1 y e) ∨ (y = v ∧ e = j ∧ k = m0.1)) (hTc : ∀ k y e, gh_cnt k (c y e) = gh_cnt k (c1 y e) + if y = v ∧ e = j ∧ k = m0.1 then 1 else 0) (hTm : ∀ y e m, m ∈ c y e ↔ m ∈ c1 y e ∨ (y = v ∧ e = j ∧ m = m0)) (hTw : ¬ gh_has m0.1 (c1 v j)) (hk : m0.1 = 5) (hd : gm_p own o w F mk c (o v j) v j (F 1 v) m0) (h4 : j = F 4 v) (h0 : F 0 v ≠ 1)  : gi_s4 F := by
  dsimp only [gi_s4, gm_p, gi_cur, gi_NR, gi_wt, gi_open, gh_Net] at *
  try simp (decide := true) only [gh_U, gh_K, gh_A_has, gh_A_cnt, gh_A_mem, false_and, true_and, and_false, or_false, if_false, if_true, and_true]
  grind (splits := 25)
theorem rd_ow {v j : Nat} (How : gi_ow own F) {c1 : Nat → Nat → List gh_M} {m0 : gh_M} (hj : own v j) (hT : ∀ k y e, gh_has k (c y e) ↔ gh_has k (c1 y e) ∨ (y = v ∧ e = j ∧ k = m0.1)) (hTc : ∀ k y e, gh_cnt k (c y e) = gh_cnt k (c1 y e) + if y = v ∧ e = j ∧ k = m0.1 then 1 else 0) (hTm : ∀ y e m, m ∈ c y e ↔ m ∈ c1 y e ∨ (y = v ∧ e = j ∧ m = m0)) (hTw : ¬ gh_has m0.1 (c1 v j)) (hk : m0.1 = 5) (hd : gm_p own o w F mk c (o v j) v j (F 1 v) m0) (h4 : j = F 4 v) (h0 : F 0 v ≠ 1)  : gi_ow own F := by
  dsimp only [gi_ow, gm_p, gi_cur, gi_NR, gi_wt, gi_open, gh_Net] at *
  try simp (decide := true) only [gh_U, gh_K, gh_A_has, gh_A_cnt, gh_A_mem, false_and, true_and, and_false, or_false, if_false, if_true, and_true]
  grind (splits := 25)
theorem rd_s5 {v j : Nat} (Hs5 : gi_s5 F) {c1 : Nat → Nat → List gh_M} {m0 : gh_M} (hj : own v j) (hT : ∀ k y e, gh_has k (c y e) ↔ gh_has k (c1 y e) ∨ (y = v ∧ e = j ∧ k = m0.1)) (hTc : ∀ k y e, gh_cnt k (c y e) = gh_cnt k (c1 y e) + if y = v ∧ e = j ∧ k = m0.1 then 1 else 0) (hTm : ∀ y e m, m ∈ c y e ↔ m ∈ c1 y e ∨ (y = v ∧ e = j ∧ m = m0)) (hTw : ¬ gh_has m0.1 (c1 v j)) (hk : m0.1 = 5) (hd : gm_p own o w F mk c (o v j) v j (F 1 v) m0) (h4 : j = F 4 v) (h0 : F 0 v ≠ 1)  : gi_s5 F := by
  dsimp only [gi_s5, gm_p, gi_cur, gi_NR, gi_wt, gi_open, gh_Net] at *
  try simp (decide := true) only [gh_U, gh_K, gh_A_has, gh_A_cnt, gh_A_mem, false_and, true_and, and_false, or_false, if_false, if_true, and_true]
  grind (splits := 25)
theorem rd_s6 {v j : Nat} (Hs6 : gi_s6 own F mk) {c1 : Nat → Nat → List gh_M} {m0 : gh_M} (hj : own v j) (hT : ∀ k y e, gh_has k (c y e) ↔ gh_has k (c1 y e) ∨ (y = v ∧ e = j ∧ k = m0.1)) (hTc : ∀ k y e, gh_cnt k (c y e) = gh_cnt k (c1 y e) + if y = v ∧ e = j ∧ k = m0.1 then 1 else 0) (hTm : ∀ y e m, m ∈ c y e ↔ m ∈ c1 y e ∨ (y = v ∧ e = j ∧ m = m0)) (hTw : ¬ gh_has m0.1 (c1 v j)) (hk : m0.1 = 5) (hd : gm_p own o w F mk c (o v j) v j (F 1 v) m0) (h4 : j = F 4 v) (h0 : F 0 v ≠ 1)  : gi_s6 own F mk := by
  dsimp only [gi_s6, gm_p, gi_cur, gi_NR, gi_wt, gi_open, gh_Net] at *
  try simp (decide := true) only [gh_U, gh_K, gh_A_has, gh_A_cnt, gh_A_mem, false_and, true_and, and_false, or_false, if_false, if_true, and_true]
  grind (splits := 25)
theorem rd_Sn {v j : Nat} (HSn : gi_Sn o w F) {c1 : Nat → Nat → List gh_M} {m0 : gh_M} (hj : own v j) (hT : ∀ k y e, gh_has k (c y e) ↔ gh_has k (c1 y e) ∨ (y = v ∧ e = j ∧ k = m0.1)) (hTc : ∀ k y e, gh_cnt k (c y e) = gh_cnt k (c1 y e) + if y = v ∧ e = j ∧ k = m0.1 then 1 else 0) (hTm : ∀ y e m, m ∈ c y e ↔ m ∈ c1 y e ∨ (y = v ∧ e = j ∧ m = m0)) (hTw : ¬ gh_has m0.1 (c1 v j)) (hk : m0.1 = 5) (hd : gm_p own o w F mk c (o v j) v j (F 1 v) m0) (h4 : j = F 4 v) (h0 : F 0 v ≠ 1)  : gi_Sn o w F := by
  dsimp only [gi_Sn, gm_p, gi_cur, gi_NR, gi_wt, gi_open, gh_Net] at *
  try simp (decide := true) only [gh_U, gh_K, gh_A_has, gh_A_cnt, gh_A_mem, false_and, true_and, and_false, or_false, if_false, if_true, and_true]
  grind (splits := 25)
theorem rd_M {v j : Nat} (HM : gi_M own o F) {c1 : Nat → Nat → List gh_M} {m0 : gh_M} (hj : own v j) (hT : ∀ k y e, gh_has k (c y e) ↔ gh_has k (c1 y e) ∨ (y = v ∧ e = j ∧ k = m0.1)) (hTc : ∀ k y e, gh_cnt k (c y e) = gh_cnt k (c1 y e) + if y = v ∧ e = j ∧ k = m0.1 then 1 else 0) (hTm : ∀ y e m, m ∈ c y e ↔ m ∈ c1 y e ∨ (y = v ∧ e = j ∧ m = m0)) (hTw : ¬ gh_has m0.1 (c1 v j)) (hk : m0.1 = 5) (hd : gm_p own o w F mk c (o v j) v j (F 1 v) m0) (h4 : j = F 4 v) (h0 : F 0 v ≠ 1)  : gi_M own o F := by
  dsimp only [gi_M, gm_p, gi_cur, gi_NR, gi_wt, gi_open, gh_Net] at *
  try simp (decide := true) only [gh_U, gh_K, gh_A_has, gh_A_cnt, gh_A_mem, false_and, true_and, and_false, or_false, if_false, if_true, and_true]
  grind (splits := 25)
theorem rd_C {v j : Nat} (HC : gi_C own o F mk) {c1 : Nat → Nat → List gh_M} {m0 : gh_M} (hj : own v j) (hT : ∀ k y e, gh_has k (c y e) ↔ gh_has k (c1 y e) ∨ (y = v ∧ e = j ∧ k = m0.1)) (hTc : ∀ k y e, gh_cnt k (c y e) = gh_cnt k (c1 y e) + if y = v ∧ e = j ∧ k = m0.1 then 1 else 0) (hTm : ∀ y e m, m ∈ c y e ↔ m ∈ c1 y e ∨ (y = v ∧ e = j ∧ m = m0)) (hTw : ¬ gh_has m0.1 (c1 v j)) (hk : m0.1 = 5) (hd : gm_p own o w F mk c (o v j) v j (F 1 v) m0) (h4 : j = F 4 v) (h0 : F 0 v ≠ 1)  : gi_C own o F mk := by
  dsimp only [gi_C, gm_p, gi_cur, gi_NR, gi_wt, gi_open, gh_Net] at *
  try simp (decide := true) only [gh_U, gh_K, gh_A_has, gh_A_cnt, gh_A_mem, false_and, true_and, and_false, or_false, if_false, if_true, and_true]
  grind (splits := 25)
theorem rd_ph {v j : Nat} (Hph : gi_ph F) {c1 : Nat → Nat → List gh_M} {m0 : gh_M} (hj : own v j) (hT : ∀ k y e, gh_has k (c y e) ↔ gh_has k (c1 y e) ∨ (y = v ∧ e = j ∧ k = m0.1)) (hTc : ∀ k y e, gh_cnt k (c y e) = gh_cnt k (c1 y e) + if y = v ∧ e = j ∧ k = m0.1 then 1 else 0) (hTm : ∀ y e m, m ∈ c y e ↔ m ∈ c1 y e ∨ (y = v ∧ e = j ∧ m = m0)) (hTw : ¬ gh_has m0.1 (c1 v j)) (hk : m0.1 = 5) (hd : gm_p own o w F mk c (o v j) v j (F 1 v) m0) (h4 : j = F 4 v) (h0 : F 0 v ≠ 1)  : gi_ph F := by
  dsimp only [gi_ph, gm_p, gi_cur, gi_NR, gi_wt, gi_open, gh_Net] at *
  try simp (decide := true) only [gh_U, gh_K, gh_A_has, gh_A_cnt, gh_A_mem, false_and, true_and, and_false, or_false, if_false, if_true, and_true]
  grind (splits := 25)
theorem rd_6 {v j : Nat} (H6 : gi_6 o F c) {c1 : Nat → Nat → List gh_M} {m0 : gh_M} (hj : own v j) (hT : ∀ k y e, gh_has k (c y e) ↔ gh_has k (c1 y e) ∨ (y = v ∧ e = j ∧ k = m0.1)) (hTc : ∀ k y e, gh_cnt k (c y e) = gh_cnt k (c1 y e) + if y = v ∧ e = j ∧ k = m0.1 then 1 else 0) (hTm : ∀ y e m, m ∈ c y e ↔ m ∈ c1 y e ∨ (y = v ∧ e = j ∧ m = m0)) (hTw : ¬ gh_has m0.1 (c1 v j)) (hk : m0.1 = 5) (hd : gm_p own o w F mk c (o v j) v j (F 1 v) m0) (h4 : j = F 4 v) (h0 : F 0 v ≠ 1)  : gi_6 o F c1 := by
  dsimp only [gi_6, gm_p, gi_cur, gi_NR, gi_wt, gi_open, gh_Net] at *
  try simp (decide := true) only [gh_U, gh_K, gh_A_has, gh_A_cnt, gh_A_mem, false_and, true_and, and_false, or_false, if_false, if_true, and_true]
  grind (splits := 25)
theorem rd_7 {v j : Nat} (H7 : gi_7 o F) {c1 : Nat → Nat → List gh_M} {m0 : gh_M} (hj : own v j) (hT : ∀ k y e, gh_has k (c y e) ↔ gh_has k (c1 y e) ∨ (y = v ∧ e = j ∧ k = m0.1)) (hTc : ∀ k y e, gh_cnt k (c y e) = gh_cnt k (c1 y e) + if y = v ∧ e = j ∧ k = m0.1 then 1 else 0) (hTm : ∀ y e m, m ∈ c y e ↔ m ∈ c1 y e ∨ (y = v ∧ e = j ∧ m = m0)) (hTw : ¬ gh_has m0.1 (c1 v j)) (hk : m0.1 = 5) (hd : gm_p own o w F mk c (o v j) v j (F 1 v) m0) (h4 : j = F 4 v) (h0 : F 0 v ≠ 1)  : gi_7 o F := by
  dsimp only [gi_7, gm_p, gi_cur, gi_NR, gi_wt, gi_open, gh_Net] at *
  try simp (decide := true) only [gh_U, gh_K, gh_A_has, gh_A_cnt, gh_A_mem, false_and, true_and, and_false, or_false, if_false, if_true, and_true]
  grind (splits := 25)
theorem rd_bc {v j : Nat} (Hbc : gi_bc o F mk c) {c1 : Nat → Nat → List gh_M} {m0 : gh_M} (hj : own v j) (hT : ∀ k y e, gh_has k (c y e) ↔ gh_has k (c1 y e) ∨ (y = v ∧ e = j ∧ k = m0.1)) (hTc : ∀ k y e, gh_cnt k (c y e) = gh_cnt k (c1 y e) + if y = v ∧ e = j ∧ k = m0.1 then 1 else 0) (hTm : ∀ y e m, m ∈ c y e ↔ m ∈ c1 y e ∨ (y = v ∧ e = j ∧ m = m0)) (hTw : ¬ gh_has m0.1 (c1 v j)) (hk : m0.1 = 5) (hd : gm_p own o w F mk c (o v j) v j (F 1 v) m0) (h4 : j = F 4 v) (h0 : F 0 v ≠ 1)  : gi_bc o F mk c1 := by
  dsimp only [gi_bc, gm_p, gi_cur, gi_NR, gi_wt, gi_open, gh_Net] at *
  try simp (decide := true) only [gh_U, gh_K, gh_A_has, gh_A_cnt, gh_A_mem, false_and, true_and, and_false, or_false, if_false, if_true, and_true]
  grind (splits := 25)
theorem rd_K {v j : Nat} (HK : gi_K own o F mk c) {c1 : Nat → Nat → List gh_M} {m0 : gh_M} (hj : own v j) (hT : ∀ k y e, gh_has k (c y e) ↔ gh_has k (c1 y e) ∨ (y = v ∧ e = j ∧ k = m0.1)) (hTc : ∀ k y e, gh_cnt k (c y e) = gh_cnt k (c1 y e) + if y = v ∧ e = j ∧ k = m0.1 then 1 else 0) (hTm : ∀ y e m, m ∈ c y e ↔ m ∈ c1 y e ∨ (y = v ∧ e = j ∧ m = m0)) (hTw : ¬ gh_has m0.1 (c1 v j)) (hk : m0.1 = 5) (hd : gm_p own o w F mk c (o v j) v j (F 1 v) m0) (h4 : j = F 4 v) (h0 : F 0 v ≠ 1)  : gi_K own o F mk c1 := by
  dsimp only [gi_K, gm_p, gi_cur, gi_NR, gi_wt, gi_open, gh_Net] at *
  try simp (decide := true) only [gh_U, gh_K, gh_A_has, gh_A_cnt, gh_A_mem, false_and, true_and, and_false, or_false, if_false, if_true, and_true]
  grind (splits := 25)
theorem rd_rj {v j : Nat} (Hrj : gi_rj own o F mk) {c1 : Nat → Nat → List gh_M} {m0 : gh_M} (hj : own v j) (hT : ∀ k y e, gh_has k (c y e) ↔ gh_has k (c1 y e) ∨ (y = v ∧ e = j ∧ k = m0.1)) (hTc : ∀ k y e, gh_cnt k (c y e) = gh_cnt k (c1 y e) + if y = v ∧ e = j ∧ k = m0.1 then 1 else 0) (hTm : ∀ y e m, m ∈ c y e ↔ m ∈ c1 y e ∨ (y = v ∧ e = j ∧ m = m0)) (hTw : ¬ gh_has m0.1 (c1 v j)) (hk : m0.1 = 5) (hd : gm_p own o w F mk c (o v j) v j (F 1 v) m0) (h4 : j = F 4 v) (h0 : F 0 v ≠ 1)  : gi_rj own o F mk := by
  dsimp only [gi_rj, gm_p, gi_cur, gi_NR, gi_wt, gi_open, gh_Net] at *
  try simp (decide := true) only [gh_U, gh_K, gh_A_has, gh_A_cnt, gh_A_mem, false_and, true_and, and_false, or_false, if_false, if_true, and_true]
  grind (splits := 25)
theorem rd_tw {v j : Nat} (Htw : gi_tw own c) {c1 : Nat → Nat → List gh_M} {m0 : gh_M} (hj : own v j) (hT : ∀ k y e, gh_has k (c y e) ↔ gh_has k (c1 y e) ∨ (y = v ∧ e = j ∧ k = m0.1)) (hTc : ∀ k y e, gh_cnt k (c y e) = gh_cnt k (c1 y e) + if y = v ∧ e = j ∧ k = m0.1 then 1 else 0) (hTm : ∀ y e m, m ∈ c y e ↔ m ∈ c1 y e ∨ (y = v ∧ e = j ∧ m = m0)) (hTw : ¬ gh_has m0.1 (c1 v j)) (hk : m0.1 = 5) (hd : gm_p own o w F mk c (o v j) v j (F 1 v) m0) (h4 : j = F 4 v) (h0 : F 0 v ≠ 1)  : gi_tw own c1 := by
  dsimp only [gi_tw, gm_p, gi_cur, gi_NR, gi_wt, gi_open, gh_Net] at *
  try simp (decide := true) only [gh_U, gh_K, gh_A_has, gh_A_cnt, gh_A_mem, false_and, true_and, and_false, or_false, if_false, if_true, and_true]
  grind (splits := 25)
theorem rd_ts {v j : Nat} (Hts : gi_ts own o F c) {c1 : Nat → Nat → List gh_M} {m0 : gh_M} (hj : own v j) (hT : ∀ k y e, gh_has k (c y e) ↔ gh_has k (c1 y e) ∨ (y = v ∧ e = j ∧ k = m0.1)) (hTc : ∀ k y e, gh_cnt k (c y e) = gh_cnt k (c1 y e) + if y = v ∧ e = j ∧ k = m0.1 then 1 else 0) (hTm : ∀ y e m, m ∈ c y e ↔ m ∈ c1 y e ∨ (y = v ∧ e = j ∧ m = m0)) (hTw : ¬ gh_has m0.1 (c1 v j)) (hk : m0.1 = 5) (hd : gm_p own o w F mk c (o v j) v j (F 1 v) m0) (h4 : j = F 4 v) (h0 : F 0 v ≠ 1)  : gi_ts own o F c1 := by
  dsimp only [gi_ts, gm_p, gi_cur, gi_NR, gi_wt, gi_open, gh_Net] at *
  try simp (decide := true) only [gh_U, gh_K, gh_A_has, gh_A_cnt, gh_A_mem, false_and, true_and, and_false, or_false, if_false, if_true, and_true]
  grind (splits := 25)
theorem rd_sz {v j : Nat} (Hsz : gi_sz F) {c1 : Nat → Nat → List gh_M} {m0 : gh_M} (hj : own v j) (hT : ∀ k y e, gh_has k (c y e) ↔ gh_has k (c1 y e) ∨ (y = v ∧ e = j ∧ k = m0.1)) (hTc : ∀ k y e, gh_cnt k (c y e) = gh_cnt k (c1 y e) + if y = v ∧ e = j ∧ k = m0.1 then 1 else 0) (hTm : ∀ y e m, m ∈ c y e ↔ m ∈ c1 y e ∨ (y = v ∧ e = j ∧ m = m0)) (hTw : ¬ gh_has m0.1 (c1 v j)) (hk : m0.1 = 5) (hd : gm_p own o w F mk c (o v j) v j (F 1 v) m0) (h4 : j = F 4 v) (h0 : F 0 v ≠ 1)  : gi_sz F := by
  dsimp only [gi_sz, gm_p, gi_cur, gi_NR, gi_wt, gi_open, gh_Net] at *
  try simp (decide := true) only [gh_U, gh_K, gh_A_has, gh_A_cnt, gh_A_mem, false_and, true_and, and_false, or_false, if_false, if_true, and_true]
  grind (splits := 25)
theorem rd_mi {v j : Nat} (Hn : gh_Net own o w) (Htw : gi_tw own c) {c1 : Nat → Nat → List gh_M} {m0 : gh_M} (hj : own v j) (hT : ∀ k y e, gh_has k (c y e) ↔ gh_has k (c1 y e) ∨ (y = v ∧ e = j ∧ k = m0.1)) (hTc : ∀ k y e, gh_cnt k (c y e) = gh_cnt k (c1 y e) + if y = v ∧ e = j ∧ k = m0.1 then 1 else 0) (hTm : ∀ y e m, m ∈ c y e ↔ m ∈ c1 y e ∨ (y = v ∧ e = j ∧ m = m0)) (hTw : ¬ gh_has m0.1 (c1 v j)) (hk : m0.1 = 5) (hd : gm_p own o w F mk c (o v j) v j (F 1 v) m0) (h4 : j = F 4 v) (h0 : F 0 v ≠ 1)  {x y e a : Nat} {m : gh_M} (hx : o y e = x) (hy : own y e) (hm : m ∈ c1 y e) (ha : F 1 y ≤ a) (hb : ¬ gh_has 1 (c y e) → a = F 1 y)  (h : gm_i own o w F mk c x y e a m) : gm_i own o w F mk c1 x y e a m := by
  have hh : ∀ k, m.1 = k → gh_has k (c1 y e) := fun k hk => ⟨m, hm, hk⟩
  dsimp only [gi_tw, gm_p, gm_i, gi_cur, gi_NR, gi_wt, gi_open, gh_Net] at *
  try simp (decide := true) only [gh_U, gh_K, gh_A_has, gh_A_cnt, gh_A_mem, false_and, true_and, and_false, or_false, if_false, if_true, and_true]
  grind (splits := 25)
theorem rd_mc {v j : Nat} (Hn : gh_Net own o w) (Htw : gi_tw own c) {c1 : Nat → Nat → List gh_M} {m0 : gh_M} (hj : own v j) (hT : ∀ k y e, gh_has k (c y e) ↔ gh_has k (c1 y e) ∨ (y = v ∧ e = j ∧ k = m0.1)) (hTc : ∀ k y e, gh_cnt k (c y e) = gh_cnt k (c1 y e) + if y = v ∧ e = j ∧ k = m0.1 then 1 else 0) (hTm : ∀ y e m, m ∈ c y e ↔ m ∈ c1 y e ∨ (y = v ∧ e = j ∧ m = m0)) (hTw : ¬ gh_has m0.1 (c1 v j)) (hk : m0.1 = 5) (hd : gm_p own o w F mk c (o v j) v j (F 1 v) m0) (h4 : j = F 4 v) (h0 : F 0 v ≠ 1)  {x y e a : Nat} {m : gh_M} (hx : o y e = x) (hy : own y e) (hm : m ∈ c1 y e) (ha : F 1 y ≤ a) (hb : ¬ gh_has 1 (c y e) → a = F 1 y)  (h : gm_c own o w F mk c x y e a m) : gm_c own o w F mk c1 x y e a m := by
  have hh : ∀ k, m.1 = k → gh_has k (c1 y e) := fun k hk => ⟨m, hm, hk⟩
  dsimp only [gi_tw, gm_p, gm_c, gi_cur, gi_NR, gi_wt, gi_open, gh_Net] at *
  try simp (decide := true) only [gh_U, gh_K, gh_A_has, gh_A_cnt, gh_A_mem, false_and, true_and, and_false, or_false, if_false, if_true, and_true]
  grind (splits := 25)
theorem rd_mt {v j : Nat} (Hn : gh_Net own o w) (Htw : gi_tw own c) {c1 : Nat → Nat → List gh_M} {m0 : gh_M} (hj : own v j) (hT : ∀ k y e, gh_has k (c y e) ↔ gh_has k (c1 y e) ∨ (y = v ∧ e = j ∧ k = m0.1)) (hTc : ∀ k y e, gh_cnt k (c y e) = gh_cnt k (c1 y e) + if y = v ∧ e = j ∧ k = m0.1 then 1 else 0) (hTm : ∀ y e m, m ∈ c y e ↔ m ∈ c1 y e ∨ (y = v ∧ e = j ∧ m = m0)) (hTw : ¬ gh_has m0.1 (c1 v j)) (hk : m0.1 = 5) (hd : gm_p own o w F mk c (o v j) v j (F 1 v) m0) (h4 : j = F 4 v) (h0 : F 0 v ≠ 1)  {x y e a : Nat} {m : gh_M} (hx : o y e = x) (hy : own y e) (hm : m ∈ c1 y e) (ha : F 1 y ≤ a) (hb : ¬ gh_has 1 (c y e) → a = F 1 y)  (h : gm_t own o w F mk c x y e a m) : gm_t own o w F mk c1 x y e a m := by
  have hh : ∀ k, m.1 = k → gh_has k (c1 y e) := fun k hk => ⟨m, hm, hk⟩
  dsimp only [gi_tw, gm_p, gm_t, gi_cur, gi_NR, gi_wt, gi_open, gh_Net] at *
  try simp (decide := true) only [gh_U, gh_K, gh_A_has, gh_A_cnt, gh_A_mem, false_and, true_and, and_false, or_false, if_false, if_true, and_true]
  grind (splits := 25)
theorem rd_ma {v j : Nat} (Hn : gh_Net own o w) (Htw : gi_tw own c) {c1 : Nat → Nat → List gh_M} {m0 : gh_M} (hj : own v j) (hT : ∀ k y e, gh_has k (c y e) ↔ gh_has k (c1 y e) ∨ (y = v ∧ e = j ∧ k = m0.1)) (hTc : ∀ k y e, gh_cnt k (c y e) = gh_cnt k (c1 y e) + if y = v ∧ e = j ∧ k = m0.1 then 1 else 0) (hTm : ∀ y e m, m ∈ c y e ↔ m ∈ c1 y e ∨ (y = v ∧ e = j ∧ m = m0)) (hTw : ¬ gh_has m0.1 (c1 v j)) (hk : m0.1 = 5) (hd : gm_p own o w F mk c (o v j) v j (F 1 v) m0) (h4 : j = F 4 v) (h0 : F 0 v ≠ 1)  {x y e a : Nat} {m : gh_M} (hx : o y e = x) (hy : own y e) (hm : m ∈ c1 y e) (ha : F 1 y ≤ a) (hb : ¬ gh_has 1 (c y e) → a = F 1 y)  (h : gm_a own o w F mk c x y e a m) : gm_a own o w F mk c1 x y e a m := by
  have hh : ∀ k, m.1 = k → gh_has k (c1 y e) := fun k hk => ⟨m, hm, hk⟩
  dsimp only [gi_tw, gm_p, gm_a, gi_cur, gi_NR, gi_wt, gi_open, gh_Net] at *
  try simp (decide := true) only [gh_U, gh_K, gh_A_has, gh_A_cnt, gh_A_mem, false_and, true_and, and_false, or_false, if_false, if_true, and_true]
  grind (splits := 25)
theorem rd_mr {v j : Nat} (Hn : gh_Net own o w) (Htw : gi_tw own c) {c1 : Nat → Nat → List gh_M} {m0 : gh_M} (hj : own v j) (hT : ∀ k y e, gh_has k (c y e) ↔ gh_has k (c1 y e) ∨ (y = v ∧ e = j ∧ k = m0.1)) (hTc : ∀ k y e, gh_cnt k (c y e) = gh_cnt k (c1 y e) + if y = v ∧ e = j ∧ k = m0.1 then 1 else 0) (hTm : ∀ y e m, m ∈ c y e ↔ m ∈ c1 y e ∨ (y = v ∧ e = j ∧ m = m0)) (hTw : ¬ gh_has m0.1 (c1 v j)) (hk : m0.1 = 5) (hd : gm_p own o w F mk c (o v j) v j (F 1 v) m0) (h4 : j = F 4 v) (h0 : F 0 v ≠ 1)  {x y e a : Nat} {m : gh_M} (hx : o y e = x) (hy : own y e) (hm : m ∈ c1 y e) (ha : F 1 y ≤ a) (hb : ¬ gh_has 1 (c y e) → a = F 1 y)  (h : gm_r own o w F mk c x y e a m) : gm_r own o w F mk c1 x y e a m := by
  have hh : ∀ k, m.1 = k → gh_has k (c1 y e) := fun k hk => ⟨m, hm, hk⟩
  dsimp only [gi_tw, gm_p, gm_r, gi_cur, gi_NR, gi_wt, gi_open, gh_Net] at *
  try simp (decide := true) only [gh_U, gh_K, gh_A_has, gh_A_cnt, gh_A_mem, false_and, true_and, and_false, or_false, if_false, if_true, and_true]
  grind (splits := 25)
theorem rd_mk {v j : Nat} (Hn : gh_Net own o w) (Htw : gi_tw own c) {c1 : Nat → Nat → List gh_M} {m0 : gh_M} (hj : own v j) (hT : ∀ k y e, gh_has k (c y e) ↔ gh_has k (c1 y e) ∨ (y = v ∧ e = j ∧ k = m0.1)) (hTc : ∀ k y e, gh_cnt k (c y e) = gh_cnt k (c1 y e) + if y = v ∧ e = j ∧ k = m0.1 then 1 else 0) (hTm : ∀ y e m, m ∈ c y e ↔ m ∈ c1 y e ∨ (y = v ∧ e = j ∧ m = m0)) (hTw : ¬ gh_has m0.1 (c1 v j)) (hk : m0.1 = 5) (hd : gm_p own o w F mk c (o v j) v j (F 1 v) m0) (h4 : j = F 4 v) (h0 : F 0 v ≠ 1)  {x y e a : Nat} {m : gh_M} (hx : o y e = x) (hy : own y e) (hm : m ∈ c1 y e) (ha : F 1 y ≤ a) (hb : ¬ gh_has 1 (c y e) → a = F 1 y)  (h : gm_k own o w F mk c x y e a m) : gm_k own o w F mk c1 x y e a m := by
  have hh : ∀ k, m.1 = k → gh_has k (c1 y e) := fun k hk => ⟨m, hm, hk⟩
  dsimp only [gi_tw, gm_p, gm_k, gi_cur, gi_NR, gi_wt, gi_open, gh_Net] at *
  try simp (decide := true) only [gh_U, gh_K, gh_A_has, gh_A_cnt, gh_A_mem, false_and, true_and, and_false, or_false, if_false, if_true, and_true]
  grind (splits := 25)
theorem rd_mp {v j : Nat} (Hn : gh_Net own o w) (Htw : gi_tw own c) {c1 : Nat → Nat → List gh_M} {m0 : gh_M} (hj : own v j) (hT : ∀ k y e, gh_has k (c y e) ↔ gh_has k (c1 y e) ∨ (y = v ∧ e = j ∧ k = m0.1)) (hTc : ∀ k y e, gh_cnt k (c y e) = gh_cnt k (c1 y e) + if y = v ∧ e = j ∧ k = m0.1 then 1 else 0) (hTm : ∀ y e m, m ∈ c y e ↔ m ∈ c1 y e ∨ (y = v ∧ e = j ∧ m = m0)) (hTw : ¬ gh_has m0.1 (c1 v j)) (hk : m0.1 = 5) (hd : gm_p own o w F mk c (o v j) v j (F 1 v) m0) (h4 : j = F 4 v) (h0 : F 0 v ≠ 1)  {x y e a : Nat} {m : gh_M} (hx : o y e = x) (hy : own y e) (hm : m ∈ c1 y e) (ha : F 1 y ≤ a) (hb : ¬ gh_has 1 (c y e) → a = F 1 y)  (h : gm_p own o w F mk c x y e a m) : gm_p own o w F mk c1 x y e a m := by
  have hh : ∀ k, m.1 = k → gh_has k (c1 y e) := fun k hk => ⟨m, hm, hk⟩
  dsimp only [gi_tw, gm_p, gi_cur, gi_NR, gi_wt, gi_open, gh_Net] at *
  try simp (decide := true) only [gh_U, gh_K, gh_A_has, gh_A_cnt, gh_A_mem, false_and, true_and, and_false, or_false, if_false, if_true, and_true]
  grind (splits := 25)
theorem rd_I {v j : Nat} (Hn : gh_Net own o w) (h : gI own o w F mk c) {m0 : gh_M} {t : List gh_M} (hj : own v j) (hc : c v j = m0 :: t) (hk : m0.1 = 5) (h4 : j = F 4 v) (h0 : F 0 v ≠ 1)  : gI own o w F mk (gh_T c v j) := by
  obtain ⟨Hst, Hb1, Hb2, Hb3, Hb4, Hb5, Hb6, Hs0, HpA, Hs1, Hs2, HSl, Hs3, Hs4, How, Hs5, Hs6, HSr, HSn, HM, HC, Hph, H6, H7, Hbc, HK, Hrj, Htw, Hts, Han, Hsz, Hch⟩ := h
  have Xi := gx_iI Hch
  have Xc := gx_cI Hch
  have Xt := gx_tI Hch
  have Xa := gx_aI Hch
  have Xr := gx_rI Hch
  have Xk := gx_kI Hch
  have Xp := gx_pI Hch
  have Xl := gx_lI Hch
  have Xb := gx_bI Hch
  have Xn := gx_nI Hn Hph HpA HSr HSn HM HC
  have hT := gp_T hc
  have hTc := gp_C hc
  have hTm := gp_M hc
  have hTw := gp_W hc Htw hj (by omega)
  have hd0 := gi_hd Hch hj hc
  have hd := hd0.2.2.2.2.2.2.2
  refine ⟨rd_st (c1 := gh_T c v j) Hst hj hT hTc hTm hTw hk hd h4 h0, rd_b1 (c1 := gh_T c v j) Hb1 hj hT hTc hTm hTw hk hd h4 h0, rd_b2 (c1 := gh_T c v j) Hb2 hj hT hTc hTm hTw hk hd h4 h0, rd_b3 (c1 := gh_T c v j) Hb3 hj hT hTc hTm hTw hk hd h4 h0, rd_b4 (c1 := gh_T c v j) Hb4 hj hT hTc hTm hTw hk hd h4 h0, rd_b5 (c1 := gh_T c v j) Hb5 hj hT hTc hTm hTw hk hd h4 h0, rd_b6 (c1 := gh_T c v j) Hb6 hj hT hTc hTm hTw hk hd h4 h0, rd_s0 (c1 := gh_T c v j) Hs0 hj hT hTc hTm hTw hk hd h4 h0, rd_pA (c1 := gh_T c v j) HpA hj hT hTc hTm hTw hk hd h4 h0, rd_s1 (c1 := gh_T c v j) Hs1 hj hT hTc hTm hTw hk hd h4 h0, rd_s2 (c1 := gh_T c v j) Hs2 hj hT hTc hTm hTw hk hd h4 h0, rd_Sl (c1 := gh_T c v j) HSl hj hT hTc hTm hTw hk hd h4 h0, rd_s3 (c1 := gh_T c v j) Hs3 hj hT hTc hTm hTw hk hd h4 h0, rd_s4 (c1 := gh_T c v j) Hs4 hj hT hTc hTm hTw hk hd h4 h0, rd_ow (c1 := gh_T c v j) How hj hT hTc hTm hTw hk hd h4 h0, rd_s5 (c1 := gh_T c v j) Hs5 hj hT hTc hTm hTw hk hd h4 h0, rd_s6 (c1 := gh_T c v j) Hs6 hj hT hTc hTm hTw hk hd h4 h0, rd_Sr (c1 := gh_T c v j) HSr hj hT hTc hTm hTw hk hd h4 h0, rd_Sn (c1 := gh_T c v j) HSn hj hT hTc hTm hTw hk hd h4 h0, rd_M (c1 := gh_T c v j) HM hj hT hTc hTm hTw hk hd h4 h0, rd_C (c1 := gh_T c v j) HC hj hT hTc hTm hTw hk hd h4 h0, rd_ph (c1 := gh_T c v j) Hph hj hT hTc hTm hTw hk hd h4 h0, rd_6 (c1 := gh_T c v j) H6 hj hT hTc hTm hTw hk hd h4 h0, rd_7 (c1 := gh_T c v j) H7 hj hT hTc hTm hTw hk hd h4 h0, rd_bc (c1 := gh_T c v j) Hbc hj hT hTc hTm hTw hk hd h4 h0, rd_K (c1 := gh_T c v j) HK hj hT hTc hTm hTw hk hd h4 h0, rd_rj (c1 := gh_T c v j) Hrj hj hT hTc hTm hTw hk hd h4 h0, rd_tw (c1 := gh_T c v j) Htw hj hT hTc hTm hTw hk hd h4 h0, rd_ts (c1 := gh_T c v j) Hts hj hT hTc hTm hTw hk hd h4 h0, rd_an (c1 := gh_T c v j) Han hj hT hTc hTm hTw hk hd h4 h0, rd_sz (c1 := gh_T c v j) Hsz hj hT hTc hTm hTw hk hd h4 h0, ?_⟩
  have K1 : gi_all own F (gh_T c v j) (fun y e => gi_m own o w F mk (gh_T c v j) (o y e) y e) := gi_all_go (gi_all_popT Hch hc (by omega)) (fun y e q => (hT 1 y e).mpr (Or.inl q)) (fun y => rfl) (fun y e a m hy hm ha hb q => ⟨q.1, rd_mi Hn Htw hj hT hTc hTm hTw hk hd h4 h0 rfl hy hm ha hb q.2.1, rd_mc Hn Htw hj hT hTc hTm hTw hk hd h4 h0 rfl hy hm ha hb q.2.2.1, rd_mt Hn Htw hj hT hTc hTm hTw hk hd h4 h0 rfl hy hm ha hb q.2.2.2.1, rd_ma Hn Htw hj hT hTc hTm hTw hk hd h4 h0 rfl hy hm ha hb q.2.2.2.2.1, rd_mr Hn Htw hj hT hTc hTm hTw hk hd h4 h0 rfl hy hm ha hb q.2.2.2.2.2.1, rd_mk Hn Htw hj hT hTc hTm hTw hk hd h4 h0 rfl hy hm ha hb q.2.2.2.2.2.2.1, rd_mp Hn Htw hj hT hTc hTm hTw hk hd h4 h0 rfl hy hm ha hb q.2.2.2.2.2.2.2⟩)
  exact K1
end
section
variable {own : Nat → Nat → Prop} {o : Nat → Nat → Nat} {w : Nat → Nat} {F : gh_F} {mk : Nat → Nat → Nat} {c : Nat → Nat → List gh_M}
theorem ro_st {v j : Nat} (Hst : gi_st F) {c1 : Nat → Nat → List gh_M} {m0 : gh_M} (hj : own v j) (hT : ∀ k y e, gh_has k (c y e) ↔ gh_has k (c1 y e) ∨ (y = v ∧ e = j ∧ k = m0.1)) (hTc : ∀ k y e, gh_cnt k (c y e) = gh_cnt k (c1 y e) + if y = v ∧ e = j ∧ k = m0.1 then 1 else 0) (hTm : ∀ y e m, m ∈ c y e ↔ m ∈ c1 y e ∨ (y = v ∧ e = j ∧ m = m0)) (hTw : ¬ gh_has m0.1 (c1 v j)) (hk : m0.1 = m0.1)  : gi_st F := by
  dsimp only [gi_st, gi_cur, gi_NR, gi_wt, gi_open, gh_Net] at *
  try simp (decide := true) only [gh_U, gh_K, gh_A_has, gh_A_cnt, gh_A_mem, false_and, true_and, and_false, or_false, if_false, if_true, and_true]
  grind (splits := 25)
theorem ro_b1 {v j : Nat} (Hb1 : gi_b1 F) {c1 : Nat → Nat → List gh_M} {m0 : gh_M} (hj : own v j) (hT : ∀ k y e, gh_has k (c y e) ↔ gh_has k (c1 y e) ∨ (y = v ∧ e = j ∧ k = m0.1)) (hTc : ∀ k y e, gh_cnt k (c y e) = gh_cnt k (c1 y e) + if y = v ∧ e = j ∧ k = m0.1 then 1 else 0) (hTm : ∀ y e m, m ∈ c y e ↔ m ∈ c1 y e ∨ (y = v ∧ e = j ∧ m = m0)) (hTw : ¬ gh_has m0.1 (c1 v j)) (hk : m0.1 = m0.1)  : gi_b1 F := by
  dsimp only [gi_b1, gi_cur, gi_NR, gi_wt, gi_open, gh_Net] at *
  try simp (decide := true) only [gh_U, gh_K, gh_A_has, gh_A_cnt, gh_A_mem, false_and, true_and, and_false, or_false, if_false, if_true, and_true]
  grind (splits := 25)
theorem ro_b2 {v j : Nat} (Hb2 : gi_b2 F) {c1 : Nat → Nat → List gh_M} {m0 : gh_M} (hj : own v j) (hT : ∀ k y e, gh_has k (c y e) ↔ gh_has k (c1 y e) ∨ (y = v ∧ e = j ∧ k = m0.1)) (hTc : ∀ k y e, gh_cnt k (c y e) = gh_cnt k (c1 y e) + if y = v ∧ e = j ∧ k = m0.1 then 1 else 0) (hTm : ∀ y e m, m ∈ c y e ↔ m ∈ c1 y e ∨ (y = v ∧ e = j ∧ m = m0)) (hTw : ¬ gh_has m0.1 (c1 v j)) (hk : m0.1 = m0.1)  : gi_b2 F := by
  dsimp only [gi_b2, gi_cur, gi_NR, gi_wt, gi_open, gh_Net] at *
  try simp (decide := true) only [gh_U, gh_K, gh_A_has, gh_A_cnt, gh_A_mem, false_and, true_and, and_false, or_false, if_false, if_true, and_true]
  grind (splits := 25)
theorem ro_b3 {v j : Nat} (Hb3 : gi_b3 F) {c1 : Nat → Nat → List gh_M} {m0 : gh_M} (hj : own v j) (hT : ∀ k y e, gh_has k (c y e) ↔ gh_has k (c1 y e) ∨ (y = v ∧ e = j ∧ k = m0.1)) (hTc : ∀ k y e, gh_cnt k (c y e) = gh_cnt k (c1 y e) + if y = v ∧ e = j ∧ k = m0.1 then 1 else 0) (hTm : ∀ y e m, m ∈ c y e ↔ m ∈ c1 y e ∨ (y = v ∧ e = j ∧ m = m0)) (hTw : ¬ gh_has m0.1 (c1 v j)) (hk : m0.1 = m0.1)  : gi_b3 F := by
  dsimp only [gi_b3, gi_cur, gi_NR, gi_wt, gi_open, gh_Net] at *
  try simp (decide := true) only [gh_U, gh_K, gh_A_has, gh_A_cnt, gh_A_mem, false_and, true_and, and_false, or_false, if_false, if_true, and_true]
  grind (splits := 25)
theorem ro_b4 {v j : Nat} (Hb4 : gi_b4 F) {c1 : Nat → Nat → List gh_M} {m0 : gh_M} (hj : own v j) (hT : ∀ k y e, gh_has k (c y e) ↔ gh_has k (c1 y e) ∨ (y = v ∧ e = j ∧ k = m0.1)) (hTc : ∀ k y e, gh_cnt k (c y e) = gh_cnt k (c1 y e) + if y = v ∧ e = j ∧ k = m0.1 then 1 else 0) (hTm : ∀ y e m, m ∈ c y e ↔ m ∈ c1 y e ∨ (y = v ∧ e = j ∧ m = m0)) (hTw : ¬ gh_has m0.1 (c1 v j)) (hk : m0.1 = m0.1)  : gi_b4 F := by
  dsimp only [gi_b4, gi_cur, gi_NR, gi_wt, gi_open, gh_Net] at *
  try simp (decide := true) only [gh_U, gh_K, gh_A_has, gh_A_cnt, gh_A_mem, false_and, true_and, and_false, or_false, if_false, if_true, and_true]
  grind (splits := 25)
theorem ro_b5 {v j : Nat} (Hb5 : gi_b5 own o w F) {c1 : Nat → Nat → List gh_M} {m0 : gh_M} (hj : own v j) (hT : ∀ k y e, gh_has k (c y e) ↔ gh_has k (c1 y e) ∨ (y = v ∧ e = j ∧ k = m0.1)) (hTc : ∀ k y e, gh_cnt k (c y e) = gh_cnt k (c1 y e) + if y = v ∧ e = j ∧ k = m0.1 then 1 else 0) (hTm : ∀ y e m, m ∈ c y e ↔ m ∈ c1 y e ∨ (y = v ∧ e = j ∧ m = m0)) (hTw : ¬ gh_has m0.1 (c1 v j)) (hk : m0.1 = m0.1)  : gi_b5 own o w F := by
  dsimp only [gi_b5, gi_cur, gi_NR, gi_wt, gi_open, gh_Net] at *
  try simp (decide := true) only [gh_U, gh_K, gh_A_has, gh_A_cnt, gh_A_mem, false_and, true_and, and_false, or_false, if_false, if_true, and_true]
  grind (splits := 25)
theorem ro_b6 {v j : Nat} (Hb6 : gi_b6 own o w F mk) {c1 : Nat → Nat → List gh_M} {m0 : gh_M} (hj : own v j) (hT : ∀ k y e, gh_has k (c y e) ↔ gh_has k (c1 y e) ∨ (y = v ∧ e = j ∧ k = m0.1)) (hTc : ∀ k y e, gh_cnt k (c y e) = gh_cnt k (c1 y e) + if y = v ∧ e = j ∧ k = m0.1 then 1 else 0) (hTm : ∀ y e m, m ∈ c y e ↔ m ∈ c1 y e ∨ (y = v ∧ e = j ∧ m = m0)) (hTw : ¬ gh_has m0.1 (c1 v j)) (hk : m0.1 = m0.1)  : gi_b6 own o w F mk := by
  dsimp only [gi_b6, gi_cur, gi_NR, gi_wt, gi_open, gh_Net] at *
  try simp (decide := true) only [gh_U, gh_K, gh_A_has, gh_A_cnt, gh_A_mem, false_and, true_and, and_false, or_false, if_false, if_true, and_true]
  grind (splits := 25)
theorem ro_s0 {v j : Nat} (Hs0 : gi_s0 own F mk) {c1 : Nat → Nat → List gh_M} {m0 : gh_M} (hj : own v j) (hT : ∀ k y e, gh_has k (c y e) ↔ gh_has k (c1 y e) ∨ (y = v ∧ e = j ∧ k = m0.1)) (hTc : ∀ k y e, gh_cnt k (c y e) = gh_cnt k (c1 y e) + if y = v ∧ e = j ∧ k = m0.1 then 1 else 0) (hTm : ∀ y e m, m ∈ c y e ↔ m ∈ c1 y e ∨ (y = v ∧ e = j ∧ m = m0)) (hTw : ¬ gh_has m0.1 (c1 v j)) (hk : m0.1 = m0.1)  : gi_s0 own F mk := by
  dsimp only [gi_s0, gi_cur, gi_NR, gi_wt, gi_open, gh_Net] at *
  try simp (decide := true) only [gh_U, gh_K, gh_A_has, gh_A_cnt, gh_A_mem, false_and, true_and, and_false, or_false, if_false, if_true, and_true]
  grind (splits := 25)
theorem ro_pA {v j : Nat} (HpA : gi_pA own F mk) {c1 : Nat → Nat → List gh_M} {m0 : gh_M} (hj : own v j) (hT : ∀ k y e, gh_has k (c y e) ↔ gh_has k (c1 y e) ∨ (y = v ∧ e = j ∧ k = m0.1)) (hTc : ∀ k y e, gh_cnt k (c y e) = gh_cnt k (c1 y e) + if y = v ∧ e = j ∧ k = m0.1 then 1 else 0) (hTm : ∀ y e m, m ∈ c y e ↔ m ∈ c1 y e ∨ (y = v ∧ e = j ∧ m = m0)) (hTw : ¬ gh_has m0.1 (c1 v j)) (hk : m0.1 = m0.1)  : gi_pA own F mk := by
  dsimp only [gi_pA, gi_cur, gi_NR, gi_wt, gi_open, gh_Net] at *
  try simp (decide := true) only [gh_U, gh_K, gh_A_has, gh_A_cnt, gh_A_mem, false_and, true_and, and_false, or_false, if_false, if_true, and_true]
  grind (splits := 25)
theorem ro_s1 {v j : Nat} (Hs1 : gi_s1 F) {c1 : Nat → Nat → List gh_M} {m0 : gh_M} (hj : own v j) (hT : ∀ k y e, gh_has k (c y e) ↔ gh_has k (c1 y e) ∨ (y = v ∧ e = j ∧ k = m0.1)) (hTc : ∀ k y e, gh_cnt k (c y e) = gh_cnt k (c1 y e) + if y = v ∧ e = j ∧ k = m0.1 then 1 else 0) (hTm : ∀ y e m, m ∈ c y e ↔ m ∈ c1 y e ∨ (y = v ∧ e = j ∧ m = m0)) (hTw : ¬ gh_has m0.1 (c1 v j)) (hk : m0.1 = m0.1)  : gi_s1 F := by
  dsimp only [gi_s1, gi_cur, gi_NR, gi_wt, gi_open, gh_Net] at *
  try simp (decide := true) only [gh_U, gh_K, gh_A_has, gh_A_cnt, gh_A_mem, false_and, true_and, and_false, or_false, if_false, if_true, and_true]
  grind (splits := 25)
theorem ro_s2 {v j : Nat} (Hs2 : gi_s2 F) {c1 : Nat → Nat → List gh_M} {m0 : gh_M} (hj : own v j) (hT : ∀ k y e, gh_has k (c y e) ↔ gh_has k (c1 y e) ∨ (y = v ∧ e = j ∧ k = m0.1)) (hTc : ∀ k y e, gh_cnt k (c y e) = gh_cnt k (c1 y e) + if y = v ∧ e = j ∧ k = m0.1 then 1 else 0) (hTm : ∀ y e m, m ∈ c y e ↔ m ∈ c1 y e ∨ (y = v ∧ e = j ∧ m = m0)) (hTw : ¬ gh_has m0.1 (c1 v j)) (hk : m0.1 = m0.1)  : gi_s2 F := by
  dsimp only [gi_s2, gi_cur, gi_NR, gi_wt, gi_open, gh_Net] at *
  try simp (decide := true) only [gh_U, gh_K, gh_A_has, gh_A_cnt, gh_A_mem, false_and, true_and, and_false, or_false, if_false, if_true, and_true]
  grind (splits := 25)
theorem ro_Sl {v j : Nat} (HSl : gi_Sl F) {c1 : Nat → Nat → List gh_M} {m0 : gh_M} (hj : own v j) (hT : ∀ k y e, gh_has k (c y e) ↔ gh_has k (c1 y e) ∨ (y = v ∧ e = j ∧ k = m0.1)) (hTc : ∀ k y e, gh_cnt k (c y e) = gh_cnt k (c1 y e) + if y = v ∧ e = j ∧ k = m0.1 then 1 else 0) (hTm : ∀ y e m, m ∈ c y e ↔ m ∈ c1 y e ∨ (y = v ∧ e = j ∧ m = m0)) (hTw : ¬ gh_has m0.1 (c1 v j)) (hk : m0.1 = m0.1)  : gi_Sl F := by
  dsimp only [gi_Sl, gi_cur, gi_NR, gi_wt, gi_open, gh_Net] at *
  try simp (decide := true) only [gh_U, gh_K, gh_A_has, gh_A_cnt, gh_A_mem, false_and, true_and, and_false, or_false, if_false, if_true, and_true]
  grind (splits := 25)
theorem ro_s3 {v j : Nat} (Hs3 : gi_s3 F) {c1 : Nat → Nat → List gh_M} {m0 : gh_M} (hj : own v j) (hT : ∀ k y e, gh_has k (c y e) ↔ gh_has k (c1 y e) ∨ (y = v ∧ e = j ∧ k = m0.1)) (hTc : ∀ k y e, gh_cnt k (c y e) = gh_cnt k (c1 y e) + if y = v ∧ e = j ∧ k = m0.1 then 1 else 0) (hTm : ∀ y e m, m ∈ c y e ↔ m ∈ c1 y e ∨ (y = v ∧ e = j ∧ m = m0)) (hTw : ¬ gh_has m0.1 (c1 v j)) (hk : m0.1 = m0.1)  : gi_s3 F := by
  dsimp only [gi_s3, gi_cur, gi_NR, gi_wt, gi_open, gh_Net] at *
  try simp (decide := true) only [gh_U, gh_K, gh_A_has, gh_A_cnt, gh_A_mem, false_and, true_and, and_false, or_false, if_false, if_true, and_true]
  grind (splits := 25)
theorem ro_s4 {v j : Nat} (Hs4 : gi_s4 F) {c1 : Nat → Nat → List gh_M} {m0 : gh_M} (hj : own v j) (hT : ∀ k y e, gh_has k (c y e) ↔ gh_has k (c1 y e) ∨ (y = v ∧ e = j ∧ k = m0.1)) (hTc : ∀ k y e, gh_cnt k (c y e) = gh_cnt k (c1 y e) + if y = v ∧ e = j ∧ k = m0.1 then 1 else 0) (hTm : ∀ y e m, m ∈ c y e ↔ m ∈ c1 y e ∨ (y = v ∧ e = j ∧ m = m0)) (hTw : ¬ gh_has m0.1 (c1 v j)) (hk : m0.1 = m0.1)  : gi_s4 F := by
  dsimp only [gi_s4, gi_cur, gi_NR, gi_wt, gi_open, gh_Net] at *
  try simp (decide := true) only [gh_U, gh_K, gh_A_has, gh_A_cnt, gh_A_mem, false_and, true_and, and_false, or_false, if_false, if_true, and_true]
  grind (splits := 25)
theorem ro_ow {v j : Nat} (How : gi_ow own F) {c1 : Nat → Nat → List gh_M} {m0 : gh_M} (hj : own v j) (hT : ∀ k y e, gh_has k (c y e) ↔ gh_has k (c1 y e) ∨ (y = v ∧ e = j ∧ k = m0.1)) (hTc : ∀ k y e, gh_cnt k (c y e) = gh_cnt k (c1 y e) + if y = v ∧ e = j ∧ k = m0.1 then 1 else 0) (hTm : ∀ y e m, m ∈ c y e ↔ m ∈ c1 y e ∨ (y = v ∧ e = j ∧ m = m0)) (hTw : ¬ gh_has m0.1 (c1 v j)) (hk : m0.1 = m0.1)  : gi_ow own F := by
  dsimp only [gi_ow, gi_cur, gi_NR, gi_wt, gi_open, gh_Net] at *
  try simp (decide := true) only [gh_U, gh_K, gh_A_has, gh_A_cnt, gh_A_mem, false_and, true_and, and_false, or_false, if_false, if_true, and_true]
  grind (splits := 25)
theorem ro_s5 {v j : Nat} (Hs5 : gi_s5 F) {c1 : Nat → Nat → List gh_M} {m0 : gh_M} (hj : own v j) (hT : ∀ k y e, gh_has k (c y e) ↔ gh_has k (c1 y e) ∨ (y = v ∧ e = j ∧ k = m0.1)) (hTc : ∀ k y e, gh_cnt k (c y e) = gh_cnt k (c1 y e) + if y = v ∧ e = j ∧ k = m0.1 then 1 else 0) (hTm : ∀ y e m, m ∈ c y e ↔ m ∈ c1 y e ∨ (y = v ∧ e = j ∧ m = m0)) (hTw : ¬ gh_has m0.1 (c1 v j)) (hk : m0.1 = m0.1)  : gi_s5 F := by
  dsimp only [gi_s5, gi_cur, gi_NR, gi_wt, gi_open, gh_Net] at *
  try simp (decide := true) only [gh_U, gh_K, gh_A_has, gh_A_cnt, gh_A_mem, false_and, true_and, and_false, or_false, if_false, if_true, and_true]
  grind (splits := 25)
theorem ro_s6 {v j : Nat} (Hs6 : gi_s6 own F mk) {c1 : Nat → Nat → List gh_M} {m0 : gh_M} (hj : own v j) (hT : ∀ k y e, gh_has k (c y e) ↔ gh_has k (c1 y e) ∨ (y = v ∧ e = j ∧ k = m0.1)) (hTc : ∀ k y e, gh_cnt k (c y e) = gh_cnt k (c1 y e) + if y = v ∧ e = j ∧ k = m0.1 then 1 else 0) (hTm : ∀ y e m, m ∈ c y e ↔ m ∈ c1 y e ∨ (y = v ∧ e = j ∧ m = m0)) (hTw : ¬ gh_has m0.1 (c1 v j)) (hk : m0.1 = m0.1)  : gi_s6 own F mk := by
  dsimp only [gi_s6, gi_cur, gi_NR, gi_wt, gi_open, gh_Net] at *
  try simp (decide := true) only [gh_U, gh_K, gh_A_has, gh_A_cnt, gh_A_mem, false_and, true_and, and_false, or_false, if_false, if_true, and_true]
  grind (splits := 25)
theorem ro_Sr {v j : Nat} (HSr : gi_Sr o w F c) {c1 : Nat → Nat → List gh_M} {m0 : gh_M} (hj : own v j) (hT : ∀ k y e, gh_has k (c y e) ↔ gh_has k (c1 y e) ∨ (y = v ∧ e = j ∧ k = m0.1)) (hTc : ∀ k y e, gh_cnt k (c y e) = gh_cnt k (c1 y e) + if y = v ∧ e = j ∧ k = m0.1 then 1 else 0) (hTm : ∀ y e m, m ∈ c y e ↔ m ∈ c1 y e ∨ (y = v ∧ e = j ∧ m = m0)) (hTw : ¬ gh_has m0.1 (c1 v j)) (hk : m0.1 = m0.1)  : gi_Sr o w F (gh_A c1 v j m0) := by
  dsimp only [gi_Sr, gi_cur, gi_NR, gi_wt, gi_open, gh_Net] at *
  try simp (decide := true) only [gh_U, gh_K, gh_A_has, gh_A_cnt, gh_A_mem, false_and, true_and, and_false, or_false, if_false, if_true, and_true]
  grind (splits := 25)
theorem ro_Sn {v j : Nat} (HSn : gi_Sn o w F) {c1 : Nat → Nat → List gh_M} {m0 : gh_M} (hj : own v j) (hT : ∀ k y e, gh_has k (c y e) ↔ gh_has k (c1 y e) ∨ (y = v ∧ e = j ∧ k = m0.1)) (hTc : ∀ k y e, gh_cnt k (c y e) = gh_cnt k (c1 y e) + if y = v ∧ e = j ∧ k = m0.1 then 1 else 0) (hTm : ∀ y e m, m ∈ c y e ↔ m ∈ c1 y e ∨ (y = v ∧ e = j ∧ m = m0)) (hTw : ¬ gh_has m0.1 (c1 v j)) (hk : m0.1 = m0.1)  : gi_Sn o w F := by
  dsimp only [gi_Sn, gi_cur, gi_NR, gi_wt, gi_open, gh_Net] at *
  try simp (decide := true) only [gh_U, gh_K, gh_A_has, gh_A_cnt, gh_A_mem, false_and, true_and, and_false, or_false, if_false, if_true, and_true]
  grind (splits := 25)
theorem ro_M {v j : Nat} (HM : gi_M own o F) {c1 : Nat → Nat → List gh_M} {m0 : gh_M} (hj : own v j) (hT : ∀ k y e, gh_has k (c y e) ↔ gh_has k (c1 y e) ∨ (y = v ∧ e = j ∧ k = m0.1)) (hTc : ∀ k y e, gh_cnt k (c y e) = gh_cnt k (c1 y e) + if y = v ∧ e = j ∧ k = m0.1 then 1 else 0) (hTm : ∀ y e m, m ∈ c y e ↔ m ∈ c1 y e ∨ (y = v ∧ e = j ∧ m = m0)) (hTw : ¬ gh_has m0.1 (c1 v j)) (hk : m0.1 = m0.1)  : gi_M own o F := by
  dsimp only [gi_M, gi_cur, gi_NR, gi_wt, gi_open, gh_Net] at *
  try simp (decide := true) only [gh_U, gh_K, gh_A_has, gh_A_cnt, gh_A_mem, false_and, true_and, and_false, or_false, if_false, if_true, and_true]
  grind (splits := 25)
theorem ro_C {v j : Nat} (HC : gi_C own o F mk) {c1 : Nat → Nat → List gh_M} {m0 : gh_M} (hj : own v j) (hT : ∀ k y e, gh_has k (c y e) ↔ gh_has k (c1 y e) ∨ (y = v ∧ e = j ∧ k = m0.1)) (hTc : ∀ k y e, gh_cnt k (c y e) = gh_cnt k (c1 y e) + if y = v ∧ e = j ∧ k = m0.1 then 1 else 0) (hTm : ∀ y e m, m ∈ c y e ↔ m ∈ c1 y e ∨ (y = v ∧ e = j ∧ m = m0)) (hTw : ¬ gh_has m0.1 (c1 v j)) (hk : m0.1 = m0.1)  : gi_C own o F mk := by
  dsimp only [gi_C, gi_cur, gi_NR, gi_wt, gi_open, gh_Net] at *
  try simp (decide := true) only [gh_U, gh_K, gh_A_has, gh_A_cnt, gh_A_mem, false_and, true_and, and_false, or_false, if_false, if_true, and_true]
  grind (splits := 25)
theorem ro_ph {v j : Nat} (Hph : gi_ph F) {c1 : Nat → Nat → List gh_M} {m0 : gh_M} (hj : own v j) (hT : ∀ k y e, gh_has k (c y e) ↔ gh_has k (c1 y e) ∨ (y = v ∧ e = j ∧ k = m0.1)) (hTc : ∀ k y e, gh_cnt k (c y e) = gh_cnt k (c1 y e) + if y = v ∧ e = j ∧ k = m0.1 then 1 else 0) (hTm : ∀ y e m, m ∈ c y e ↔ m ∈ c1 y e ∨ (y = v ∧ e = j ∧ m = m0)) (hTw : ¬ gh_has m0.1 (c1 v j)) (hk : m0.1 = m0.1)  : gi_ph F := by
  dsimp only [gi_ph, gi_cur, gi_NR, gi_wt, gi_open, gh_Net] at *
  try simp (decide := true) only [gh_U, gh_K, gh_A_has, gh_A_cnt, gh_A_mem, false_and, true_and, and_false, or_false, if_false, if_true, and_true]
  grind (splits := 25)
theorem ro_6 {v j : Nat} (H6 : gi_6 o F c) {c1 : Nat → Nat → List gh_M} {m0 : gh_M} (hj : own v j) (hT : ∀ k y e, gh_has k (c y e) ↔ gh_has k (c1 y e) ∨ (y = v ∧ e = j ∧ k = m0.1)) (hTc : ∀ k y e, gh_cnt k (c y e) = gh_cnt k (c1 y e) + if y = v ∧ e = j ∧ k = m0.1 then 1 else 0) (hTm : ∀ y e m, m ∈ c y e ↔ m ∈ c1 y e ∨ (y = v ∧ e = j ∧ m = m0)) (hTw : ¬ gh_has m0.1 (c1 v j)) (hk : m0.1 = m0.1)  : gi_6 o F (gh_A c1 v j m0) := by
  dsimp only [gi_6, gi_cur, gi_NR, gi_wt, gi_open, gh_Net] at *
  try simp (decide := true) only [gh_U, gh_K, gh_A_has, gh_A_cnt, gh_A_mem, false_and, true_and, and_false, or_false, if_false, if_true, and_true]
  grind (splits := 25)
theorem ro_7 {v j : Nat} (H7 : gi_7 o F) {c1 : Nat → Nat → List gh_M} {m0 : gh_M} (hj : own v j) (hT : ∀ k y e, gh_has k (c y e) ↔ gh_has k (c1 y e) ∨ (y = v ∧ e = j ∧ k = m0.1)) (hTc : ∀ k y e, gh_cnt k (c y e) = gh_cnt k (c1 y e) + if y = v ∧ e = j ∧ k = m0.1 then 1 else 0) (hTm : ∀ y e m, m ∈ c y e ↔ m ∈ c1 y e ∨ (y = v ∧ e = j ∧ m = m0)) (hTw : ¬ gh_has m0.1 (c1 v j)) (hk : m0.1 = m0.1)  : gi_7 o F := by
  dsimp only [gi_7, gi_cur, gi_NR, gi_wt, gi_open, gh_Net] at *
  try simp (decide := true) only [gh_U, gh_K, gh_A_has, gh_A_cnt, gh_A_mem, false_and, true_and, and_false, or_false, if_false, if_true, and_true]
  grind (splits := 25)
theorem ro_bc {v j : Nat} (Hbc : gi_bc o F mk c) {c1 : Nat → Nat → List gh_M} {m0 : gh_M} (hj : own v j) (hT : ∀ k y e, gh_has k (c y e) ↔ gh_has k (c1 y e) ∨ (y = v ∧ e = j ∧ k = m0.1)) (hTc : ∀ k y e, gh_cnt k (c y e) = gh_cnt k (c1 y e) + if y = v ∧ e = j ∧ k = m0.1 then 1 else 0) (hTm : ∀ y e m, m ∈ c y e ↔ m ∈ c1 y e ∨ (y = v ∧ e = j ∧ m = m0)) (hTw : ¬ gh_has m0.1 (c1 v j)) (hk : m0.1 = m0.1)  : gi_bc o F mk (gh_A c1 v j m0) := by
  dsimp only [gi_bc, gi_cur, gi_NR, gi_wt, gi_open, gh_Net] at *
  try simp (decide := true) only [gh_U, gh_K, gh_A_has, gh_A_cnt, gh_A_mem, false_and, true_and, and_false, or_false, if_false, if_true, and_true]
  grind (splits := 25)
theorem ro_K {v j : Nat} (HK : gi_K own o F mk c) {c1 : Nat → Nat → List gh_M} {m0 : gh_M} (hj : own v j) (hT : ∀ k y e, gh_has k (c y e) ↔ gh_has k (c1 y e) ∨ (y = v ∧ e = j ∧ k = m0.1)) (hTc : ∀ k y e, gh_cnt k (c y e) = gh_cnt k (c1 y e) + if y = v ∧ e = j ∧ k = m0.1 then 1 else 0) (hTm : ∀ y e m, m ∈ c y e ↔ m ∈ c1 y e ∨ (y = v ∧ e = j ∧ m = m0)) (hTw : ¬ gh_has m0.1 (c1 v j)) (hk : m0.1 = m0.1)  : gi_K own o F mk (gh_A c1 v j m0) := by
  dsimp only [gi_K, gi_cur, gi_NR, gi_wt, gi_open, gh_Net] at *
  try simp (decide := true) only [gh_U, gh_K, gh_A_has, gh_A_cnt, gh_A_mem, false_and, true_and, and_false, or_false, if_false, if_true, and_true]
  grind (splits := 25)
theorem ro_rj {v j : Nat} (Hrj : gi_rj own o F mk) {c1 : Nat → Nat → List gh_M} {m0 : gh_M} (hj : own v j) (hT : ∀ k y e, gh_has k (c y e) ↔ gh_has k (c1 y e) ∨ (y = v ∧ e = j ∧ k = m0.1)) (hTc : ∀ k y e, gh_cnt k (c y e) = gh_cnt k (c1 y e) + if y = v ∧ e = j ∧ k = m0.1 then 1 else 0) (hTm : ∀ y e m, m ∈ c y e ↔ m ∈ c1 y e ∨ (y = v ∧ e = j ∧ m = m0)) (hTw : ¬ gh_has m0.1 (c1 v j)) (hk : m0.1 = m0.1)  : gi_rj own o F mk := by
  dsimp only [gi_rj, gi_cur, gi_NR, gi_wt, gi_open, gh_Net] at *
  try simp (decide := true) only [gh_U, gh_K, gh_A_has, gh_A_cnt, gh_A_mem, false_and, true_and, and_false, or_false, if_false, if_true, and_true]
  grind (splits := 25)
theorem ro_tw {v j : Nat} (Htw : gi_tw own c) {c1 : Nat → Nat → List gh_M} {m0 : gh_M} (hj : own v j) (hT : ∀ k y e, gh_has k (c y e) ↔ gh_has k (c1 y e) ∨ (y = v ∧ e = j ∧ k = m0.1)) (hTc : ∀ k y e, gh_cnt k (c y e) = gh_cnt k (c1 y e) + if y = v ∧ e = j ∧ k = m0.1 then 1 else 0) (hTm : ∀ y e m, m ∈ c y e ↔ m ∈ c1 y e ∨ (y = v ∧ e = j ∧ m = m0)) (hTw : ¬ gh_has m0.1 (c1 v j)) (hk : m0.1 = m0.1)  : gi_tw own (gh_A c1 v j m0) := by
  dsimp only [gi_tw, gi_cur, gi_NR, gi_wt, gi_open, gh_Net] at *
  try simp (decide := true) only [gh_U, gh_K, gh_A_has, gh_A_cnt, gh_A_mem, false_and, true_and, and_false, or_false, if_false, if_true, and_true]
  grind (splits := 25)
theorem ro_ts {v j : Nat} (Hts : gi_ts own o F c) {c1 : Nat → Nat → List gh_M} {m0 : gh_M} (hj : own v j) (hT : ∀ k y e, gh_has k (c y e) ↔ gh_has k (c1 y e) ∨ (y = v ∧ e = j ∧ k = m0.1)) (hTc : ∀ k y e, gh_cnt k (c y e) = gh_cnt k (c1 y e) + if y = v ∧ e = j ∧ k = m0.1 then 1 else 0) (hTm : ∀ y e m, m ∈ c y e ↔ m ∈ c1 y e ∨ (y = v ∧ e = j ∧ m = m0)) (hTw : ¬ gh_has m0.1 (c1 v j)) (hk : m0.1 = m0.1)  : gi_ts own o F (gh_A c1 v j m0) := by
  dsimp only [gi_ts, gi_cur, gi_NR, gi_wt, gi_open, gh_Net] at *
  try simp (decide := true) only [gh_U, gh_K, gh_A_has, gh_A_cnt, gh_A_mem, false_and, true_and, and_false, or_false, if_false, if_true, and_true]
  grind (splits := 25)
theorem ro_an {v j : Nat} (Han : gi_an own o F mk c) {c1 : Nat → Nat → List gh_M} {m0 : gh_M} (hj : own v j) (hT : ∀ k y e, gh_has k (c y e) ↔ gh_has k (c1 y e) ∨ (y = v ∧ e = j ∧ k = m0.1)) (hTc : ∀ k y e, gh_cnt k (c y e) = gh_cnt k (c1 y e) + if y = v ∧ e = j ∧ k = m0.1 then 1 else 0) (hTm : ∀ y e m, m ∈ c y e ↔ m ∈ c1 y e ∨ (y = v ∧ e = j ∧ m = m0)) (hTw : ¬ gh_has m0.1 (c1 v j)) (hk : m0.1 = m0.1)  : gi_an own o F mk (gh_A c1 v j m0) := by
  dsimp only [gi_an, gi_cur, gi_NR, gi_wt, gi_open, gh_Net] at *
  try simp (decide := true) only [gh_U, gh_K, gh_A_has, gh_A_cnt, gh_A_mem, false_and, true_and, and_false, or_false, if_false, if_true, and_true]
  grind (splits := 25)
theorem ro_sz {v j : Nat} (Hsz : gi_sz F) {c1 : Nat → Nat → List gh_M} {m0 : gh_M} (hj : own v j) (hT : ∀ k y e, gh_has k (c y e) ↔ gh_has k (c1 y e) ∨ (y = v ∧ e = j ∧ k = m0.1)) (hTc : ∀ k y e, gh_cnt k (c y e) = gh_cnt k (c1 y e) + if y = v ∧ e = j ∧ k = m0.1 then 1 else 0) (hTm : ∀ y e m, m ∈ c y e ↔ m ∈ c1 y e ∨ (y = v ∧ e = j ∧ m = m0)) (hTw : ¬ gh_has m0.1 (c1 v j)) (hk : m0.1 = m0.1)  : gi_sz F := by
  dsimp only [gi_sz, gi_cur, gi_NR, gi_wt, gi_open, gh_Net] at *
  try simp (decide := true) only [gh_U, gh_K, gh_A_has, gh_A_cnt, gh_A_mem, false_and, true_and, and_false, or_false, if_false, if_true, and_true]
  grind (splits := 25)
theorem ro_mi {v j : Nat}  {c1 : Nat → Nat → List gh_M} {m0 : gh_M} (hj : own v j) (hT : ∀ k y e, gh_has k (c y e) ↔ gh_has k (c1 y e) ∨ (y = v ∧ e = j ∧ k = m0.1)) (hTc : ∀ k y e, gh_cnt k (c y e) = gh_cnt k (c1 y e) + if y = v ∧ e = j ∧ k = m0.1 then 1 else 0) (hTm : ∀ y e m, m ∈ c y e ↔ m ∈ c1 y e ∨ (y = v ∧ e = j ∧ m = m0)) (hTw : ¬ gh_has m0.1 (c1 v j)) (hk : m0.1 = m0.1)  {x y e a : Nat} {m : gh_M} (hx : o y e = x) (hy : own y e) (hm : m ∈ c1 y e) (ha : F 1 y ≤ a) (hb : ¬ gh_has 1 (c y e) → a = F 1 y)  (h : gm_i own o w F mk c x y e a m) : gm_i own o w F mk (gh_A c1 v j m0) x y e a m := by
  have hh : ∀ k, m.1 = k → gh_has k (c1 y e) := fun k hk => ⟨m, hm, hk⟩
  dsimp only [gm_i, gi_cur, gi_NR, gi_wt, gi_open, gh_Net] at *
  try simp (decide := true) only [gh_U, gh_K, gh_A_has, gh_A_cnt, gh_A_mem, false_and, true_and, and_false, or_false, if_false, if_true, and_true]
  grind (splits := 25)
theorem ro_mc {v j : Nat}  {c1 : Nat → Nat → List gh_M} {m0 : gh_M} (hj : own v j) (hT : ∀ k y e, gh_has k (c y e) ↔ gh_has k (c1 y e) ∨ (y = v ∧ e = j ∧ k = m0.1)) (hTc : ∀ k y e, gh_cnt k (c y e) = gh_cnt k (c1 y e) + if y = v ∧ e = j ∧ k = m0.1 then 1 else 0) (hTm : ∀ y e m, m ∈ c y e ↔ m ∈ c1 y e ∨ (y = v ∧ e = j ∧ m = m0)) (hTw : ¬ gh_has m0.1 (c1 v j)) (hk : m0.1 = m0.1)  {x y e a : Nat} {m : gh_M} (hx : o y e = x) (hy : own y e) (hm : m ∈ c1 y e) (ha : F 1 y ≤ a) (hb : ¬ gh_has 1 (c y e) → a = F 1 y)  (h : gm_c own o w F mk c x y e a m) : gm_c own o w F mk (gh_A c1 v j m0) x y e a m := by
  have hh : ∀ k, m.1 = k → gh_has k (c1 y e) := fun k hk => ⟨m, hm, hk⟩
  dsimp only [gm_c, gi_cur, gi_NR, gi_wt, gi_open, gh_Net] at *
  try simp (decide := true) only [gh_U, gh_K, gh_A_has, gh_A_cnt, gh_A_mem, false_and, true_and, and_false, or_false, if_false, if_true, and_true]
  grind (splits := 25)
theorem ro_mt {v j : Nat}  {c1 : Nat → Nat → List gh_M} {m0 : gh_M} (hj : own v j) (hT : ∀ k y e, gh_has k (c y e) ↔ gh_has k (c1 y e) ∨ (y = v ∧ e = j ∧ k = m0.1)) (hTc : ∀ k y e, gh_cnt k (c y e) = gh_cnt k (c1 y e) + if y = v ∧ e = j ∧ k = m0.1 then 1 else 0) (hTm : ∀ y e m, m ∈ c y e ↔ m ∈ c1 y e ∨ (y = v ∧ e = j ∧ m = m0)) (hTw : ¬ gh_has m0.1 (c1 v j)) (hk : m0.1 = m0.1)  {x y e a : Nat} {m : gh_M} (hx : o y e = x) (hy : own y e) (hm : m ∈ c1 y e) (ha : F 1 y ≤ a) (hb : ¬ gh_has 1 (c y e) → a = F 1 y)  (h : gm_t own o w F mk c x y e a m) : gm_t own o w F mk (gh_A c1 v j m0) x y e a m := by
  have hh : ∀ k, m.1 = k → gh_has k (c1 y e) := fun k hk => ⟨m, hm, hk⟩
  dsimp only [gm_t, gi_cur, gi_NR, gi_wt, gi_open, gh_Net] at *
  try simp (decide := true) only [gh_U, gh_K, gh_A_has, gh_A_cnt, gh_A_mem, false_and, true_and, and_false, or_false, if_false, if_true, and_true]
  grind (splits := 25)
theorem ro_ma {v j : Nat}  {c1 : Nat → Nat → List gh_M} {m0 : gh_M} (hj : own v j) (hT : ∀ k y e, gh_has k (c y e) ↔ gh_has k (c1 y e) ∨ (y = v ∧ e = j ∧ k = m0.1)) (hTc : ∀ k y e, gh_cnt k (c y e) = gh_cnt k (c1 y e) + if y = v ∧ e = j ∧ k = m0.1 then 1 else 0) (hTm : ∀ y e m, m ∈ c y e ↔ m ∈ c1 y e ∨ (y = v ∧ e = j ∧ m = m0)) (hTw : ¬ gh_has m0.1 (c1 v j)) (hk : m0.1 = m0.1)  {x y e a : Nat} {m : gh_M} (hx : o y e = x) (hy : own y e) (hm : m ∈ c1 y e) (ha : F 1 y ≤ a) (hb : ¬ gh_has 1 (c y e) → a = F 1 y)  (h : gm_a own o w F mk c x y e a m) : gm_a own o w F mk (gh_A c1 v j m0) x y e a m := by
  have hh : ∀ k, m.1 = k → gh_has k (c1 y e) := fun k hk => ⟨m, hm, hk⟩
  dsimp only [gm_a, gi_cur, gi_NR, gi_wt, gi_open, gh_Net] at *
  try simp (decide := true) only [gh_U, gh_K, gh_A_has, gh_A_cnt, gh_A_mem, false_and, true_and, and_false, or_false, if_false, if_true, and_true]
  grind (splits := 25)
theorem ro_mr {v j : Nat}  {c1 : Nat → Nat → List gh_M} {m0 : gh_M} (hj : own v j) (hT : ∀ k y e, gh_has k (c y e) ↔ gh_has k (c1 y e) ∨ (y = v ∧ e = j ∧ k = m0.1)) (hTc : ∀ k y e, gh_cnt k (c y e) = gh_cnt k (c1 y e) + if y = v ∧ e = j ∧ k = m0.1 then 1 else 0) (hTm : ∀ y e m, m ∈ c y e ↔ m ∈ c1 y e ∨ (y = v ∧ e = j ∧ m = m0)) (hTw : ¬ gh_has m0.1 (c1 v j)) (hk : m0.1 = m0.1)  {x y e a : Nat} {m : gh_M} (hx : o y e = x) (hy : own y e) (hm : m ∈ c1 y e) (ha : F 1 y ≤ a) (hb : ¬ gh_has 1 (c y e) → a = F 1 y)  (h : gm_r own o w F mk c x y e a m) : gm_r own o w F mk (gh_A c1 v j m0) x y e a m := by
  have hh : ∀ k, m.1 = k → gh_has k (c1 y e) := fun k hk => ⟨m, hm, hk⟩
  dsimp only [gm_r, gi_cur, gi_NR, gi_wt, gi_open, gh_Net] at *
  try simp (decide := true) only [gh_U, gh_K, gh_A_has, gh_A_cnt, gh_A_mem, false_and, true_and, and_false, or_false, if_false, if_true, and_true]
  grind (splits := 25)
theorem ro_mk {v j : Nat}  {c1 : Nat → Nat → List gh_M} {m0 : gh_M} (hj : own v j) (hT : ∀ k y e, gh_has k (c y e) ↔ gh_has k (c1 y e) ∨ (y = v ∧ e = j ∧ k = m0.1)) (hTc : ∀ k y e, gh_cnt k (c y e) = gh_cnt k (c1 y e) + if y = v ∧ e = j ∧ k = m0.1 then 1 else 0) (hTm : ∀ y e m, m ∈ c y e ↔ m ∈ c1 y e ∨ (y = v ∧ e = j ∧ m = m0)) (hTw : ¬ gh_has m0.1 (c1 v j)) (hk : m0.1 = m0.1)  {x y e a : Nat} {m : gh_M} (hx : o y e = x) (hy : own y e) (hm : m ∈ c1 y e) (ha : F 1 y ≤ a) (hb : ¬ gh_has 1 (c y e) → a = F 1 y)  (h : gm_k own o w F mk c x y e a m) : gm_k own o w F mk (gh_A c1 v j m0) x y e a m := by
  have hh : ∀ k, m.1 = k → gh_has k (c1 y e) := fun k hk => ⟨m, hm, hk⟩
  dsimp only [gm_k, gi_cur, gi_NR, gi_wt, gi_open, gh_Net] at *
  try simp (decide := true) only [gh_U, gh_K, gh_A_has, gh_A_cnt, gh_A_mem, false_and, true_and, and_false, or_false, if_false, if_true, and_true]
  grind (splits := 25)
theorem ro_mp {v j : Nat}  {c1 : Nat → Nat → List gh_M} {m0 : gh_M} (hj : own v j) (hT : ∀ k y e, gh_has k (c y e) ↔ gh_has k (c1 y e) ∨ (y = v ∧ e = j ∧ k = m0.1)) (hTc : ∀ k y e, gh_cnt k (c y e) = gh_cnt k (c1 y e) + if y = v ∧ e = j ∧ k = m0.1 then 1 else 0) (hTm : ∀ y e m, m ∈ c y e ↔ m ∈ c1 y e ∨ (y = v ∧ e = j ∧ m = m0)) (hTw : ¬ gh_has m0.1 (c1 v j)) (hk : m0.1 = m0.1)  {x y e a : Nat} {m : gh_M} (hx : o y e = x) (hy : own y e) (hm : m ∈ c1 y e) (ha : F 1 y ≤ a) (hb : ¬ gh_has 1 (c y e) → a = F 1 y)  (h : gm_p own o w F mk c x y e a m) : gm_p own o w F mk (gh_A c1 v j m0) x y e a m := by
  have hh : ∀ k, m.1 = k → gh_has k (c1 y e) := fun k hk => ⟨m, hm, hk⟩
  dsimp only [gm_p, gi_cur, gi_NR, gi_wt, gi_open, gh_Net] at *
  try simp (decide := true) only [gh_U, gh_K, gh_A_has, gh_A_cnt, gh_A_mem, false_and, true_and, and_false, or_false, if_false, if_true, and_true]
  grind (splits := 25)
theorem ro_newc {v j : Nat} (Hn : gh_Net own o w) (HK : gi_K own o F mk c) {c1 : Nat → Nat → List gh_M} {m0 : gh_M} (hj : own v j) (hT : ∀ k y e, gh_has k (c y e) ↔ gh_has k (c1 y e) ∨ (y = v ∧ e = j ∧ k = m0.1)) (hTc : ∀ k y e, gh_cnt k (c y e) = gh_cnt k (c1 y e) + if y = v ∧ e = j ∧ k = m0.1 then 1 else 0) (hTm : ∀ y e m, m ∈ c y e ↔ m ∈ c1 y e ∨ (y = v ∧ e = j ∧ m = m0)) (hTw : ¬ gh_has m0.1 (c1 v j)) (hk : m0.1 = m0.1)  (hk0 : m0.1 = 0) (hd : gm_c own o w F mk c (o v j) v j (F 1 v) m0) (hv0 : mk v j = 0) : gm_c own o w F mk (gh_A c1 v j m0) (o (v) (j)) (v) (j) (gh_last (F 1 v) (c1 v j)) m0 := by
  intro _
  have h := hd hk0
  have a11 := Hn.1 v j hj
  have a1 := HK (o v j) j v a11.1 a11.2.1 h.1
  refine ⟨h.1, fun z => ?_, h.2.2⟩
  have := (a1.1 z).1
  omega
theorem ro_newt {v j : Nat} (Hn : gh_Net own o w) {c1 : Nat → Nat → List gh_M} {m0 : gh_M} (hj : own v j) (hT : ∀ k y e, gh_has k (c y e) ↔ gh_has k (c1 y e) ∨ (y = v ∧ e = j ∧ k = m0.1)) (hTc : ∀ k y e, gh_cnt k (c y e) = gh_cnt k (c1 y e) + if y = v ∧ e = j ∧ k = m0.1 then 1 else 0) (hTm : ∀ y e m, m ∈ c y e ↔ m ∈ c1 y e ∨ (y = v ∧ e = j ∧ m = m0)) (hTw : ¬ gh_has m0.1 (c1 v j)) (hk : m0.1 = m0.1)  (hk0 : m0.1 = 2) (hd : gm_t own o w F mk c (o v j) v j (F 1 v) m0) : gm_t own o w F mk (gh_A c1 v j m0) (o (v) (j)) (v) (j) (gh_last (F 1 v) (c1 v j)) m0 := by
  exact hd
theorem ro_newp {v j : Nat} (Hn : gh_Net own o w) (Hs2 : gi_s2 F) (Hs5 : gi_s5 F) (Hb1 : gi_b1 F) (Xb : gx_b own F c) {c1 : Nat → Nat → List gh_M} {m0 : gh_M} (hj : own v j) (hT : ∀ k y e, gh_has k (c y e) ↔ gh_has k (c1 y e) ∨ (y = v ∧ e = j ∧ k = m0.1)) (hTc : ∀ k y e, gh_cnt k (c y e) = gh_cnt k (c1 y e) + if y = v ∧ e = j ∧ k = m0.1 then 1 else 0) (hTm : ∀ y e m, m ∈ c y e ↔ m ∈ c1 y e ∨ (y = v ∧ e = j ∧ m = m0)) (hTw : ¬ gh_has m0.1 (c1 v j)) (hk : m0.1 = m0.1)  (hk0 : m0.1 = 5) (hd : gm_p own o w F mk c (o v j) v j (F 1 v) m0) (h0 : F 0 v = 1) (h4 : j = F 4 v) (hlast : gi_cur F v → gh_last (F 1 v) (c1 v j) = F 1 v) : gm_p own o w F mk (gh_A c1 v j m0) (o (v) (j)) (v) (j) (gh_last (F 1 v) (c1 v j)) m0 := by
  intro _
  have h := hd hk0
  have a1 := Hs2 v h0
  have a2 := Hs5 v a1.1 a1.2.1
  have a3 : gh_last (F 1 v) (c1 v j) = F 1 v := hlast a1.1
  rw [a3]
  unfold gi_cur at *
  grind
theorem ro_Ic {v j : Nat} (Hn : gh_Net own o w) (h : gI own o w F mk c) {m0 : gh_M} {t : List gh_M} (hj : own v j) (hc : c v j = m0 :: t) (hk : m0.1 = 0) (hv0 : mk v j = 0) : gI own o w F mk (gh_A (gh_T c v j) v j m0) := by
  obtain ⟨Hst, Hb1, Hb2, Hb3, Hb4, Hb5, Hb6, Hs0, HpA, Hs1, Hs2, HSl, Hs3, Hs4, How, Hs5, Hs6, HSr, HSn, HM, HC, Hph, H6, H7, Hbc, HK, Hrj, Htw, Hts, Han, Hsz, Hch⟩ := h
  have Xi := gx_iI Hch
  have Xc := gx_cI Hch
  have Xt := gx_tI Hch
  have Xa := gx_aI Hch
  have Xr := gx_rI Hch
  have Xk := gx_kI Hch
  have Xp := gx_pI Hch
  have Xl := gx_lI Hch
  have Xb := gx_bI Hch
  have Xn := gx_nI Hn Hph HpA HSr HSn HM HC
  have hT := gp_T hc
  have hTc := gp_C hc
  have hTm := gp_M hc
  have hTw := gp_W hc Htw hj (by omega)
  have hd0 := gi_hd Hch hj hc
  refine ⟨ro_st (c1 := gh_T c v j) Hst hj hT hTc hTm hTw rfl, ro_b1 (c1 := gh_T c v j) Hb1 hj hT hTc hTm hTw rfl, ro_b2 (c1 := gh_T c v j) Hb2 hj hT hTc hTm hTw rfl, ro_b3 (c1 := gh_T c v j) Hb3 hj hT hTc hTm hTw rfl, ro_b4 (c1 := gh_T c v j) Hb4 hj hT hTc hTm hTw rfl, ro_b5 (c1 := gh_T c v j) Hb5 hj hT hTc hTm hTw rfl, ro_b6 (c1 := gh_T c v j) Hb6 hj hT hTc hTm hTw rfl, ro_s0 (c1 := gh_T c v j) Hs0 hj hT hTc hTm hTw rfl, ro_pA (c1 := gh_T c v j) HpA hj hT hTc hTm hTw rfl, ro_s1 (c1 := gh_T c v j) Hs1 hj hT hTc hTm hTw rfl, ro_s2 (c1 := gh_T c v j) Hs2 hj hT hTc hTm hTw rfl, ro_Sl (c1 := gh_T c v j) HSl hj hT hTc hTm hTw rfl, ro_s3 (c1 := gh_T c v j) Hs3 hj hT hTc hTm hTw rfl, ro_s4 (c1 := gh_T c v j) Hs4 hj hT hTc hTm hTw rfl, ro_ow (c1 := gh_T c v j) How hj hT hTc hTm hTw rfl, ro_s5 (c1 := gh_T c v j) Hs5 hj hT hTc hTm hTw rfl, ro_s6 (c1 := gh_T c v j) Hs6 hj hT hTc hTm hTw rfl, ro_Sr (c1 := gh_T c v j) HSr hj hT hTc hTm hTw rfl, ro_Sn (c1 := gh_T c v j) HSn hj hT hTc hTm hTw rfl, ro_M (c1 := gh_T c v j) HM hj hT hTc hTm hTw rfl, ro_C (c1 := gh_T c v j) HC hj hT hTc hTm hTw rfl, ro_ph (c1 := gh_T c v j) Hph hj hT hTc hTm hTw rfl, ro_6 (c1 := gh_T c v j) H6 hj hT hTc hTm hTw rfl, ro_7 (c1 := gh_T c v j) H7 hj hT hTc hTm hTw rfl, ro_bc (c1 := gh_T c v j) Hbc hj hT hTc hTm hTw rfl, ro_K (c1 := gh_T c v j) HK hj hT hTc hTm hTw rfl, ro_rj (c1 := gh_T c v j) Hrj hj hT hTc hTm hTw rfl, ro_tw (c1 := gh_T c v j) Htw hj hT hTc hTm hTw rfl, ro_ts (c1 := gh_T c v j) Hts hj hT hTc hTm hTw rfl, ro_an (c1 := gh_T c v j) Han hj hT hTc hTm hTw rfl, ro_sz (c1 := gh_T c v j) Hsz hj hT hTc hTm hTw rfl, ?_⟩
  have K1 : gi_all own F (gh_T c v j) (fun y e => gi_m own o w F mk (gh_A (gh_T c v j) v j m0) (o y e) y e) := gi_all_go (gi_all_popT Hch hc (by omega)) (fun y e q => (hT 1 y e).mpr (Or.inl q)) (fun y => rfl) (fun y e a m hy hm ha hb q => ⟨q.1, ro_mi  hj hT hTc hTm hTw rfl rfl hy hm ha hb q.2.1, ro_mc  hj hT hTc hTm hTw rfl rfl hy hm ha hb q.2.2.1, ro_mt  hj hT hTc hTm hTw rfl rfl hy hm ha hb q.2.2.2.1, ro_ma  hj hT hTc hTm hTw rfl rfl hy hm ha hb q.2.2.2.2.1, ro_mr  hj hT hTc hTm hTw rfl rfl hy hm ha hb q.2.2.2.2.2.1, ro_mk  hj hT hTc hTm hTw rfl rfl hy hm ha hb q.2.2.2.2.2.2.1, ro_mp  hj hT hTc hTm hTw rfl rfl hy hm ha hb q.2.2.2.2.2.2.2⟩)
  exact gi_all_appA K1 (fun hy => ⟨by omega, fun z => absurd (hk.symm.trans z) (by decide), ro_newc Hn HK hj hT hTc hTm hTw rfl hk hd0.2.2.1 hv0, fun z => absurd (hk.symm.trans z) (by decide), fun z => absurd (hk.symm.trans z) (by decide), fun z => absurd (hk.symm.trans z) (by decide), fun z => absurd (hk.symm.trans z) (by decide), fun z => absurd (hk.symm.trans z) (by decide)⟩)
theorem ro_It {v j : Nat} (Hn : gh_Net own o w) (h : gI own o w F mk c) {m0 : gh_M} {t : List gh_M} (hj : own v j) (hc : c v j = m0 :: t) (hk : m0.1 = 2)  : gI own o w F mk (gh_A (gh_T c v j) v j m0) := by
  obtain ⟨Hst, Hb1, Hb2, Hb3, Hb4, Hb5, Hb6, Hs0, HpA, Hs1, Hs2, HSl, Hs3, Hs4, How, Hs5, Hs6, HSr, HSn, HM, HC, Hph, H6, H7, Hbc, HK, Hrj, Htw, Hts, Han, Hsz, Hch⟩ := h
  have Xi := gx_iI Hch
  have Xc := gx_cI Hch
  have Xt := gx_tI Hch
  have Xa := gx_aI Hch
  have Xr := gx_rI Hch
  have Xk := gx_kI Hch
  have Xp := gx_pI Hch
  have Xl := gx_lI Hch
  have Xb := gx_bI Hch
  have Xn := gx_nI Hn Hph HpA HSr HSn HM HC
  have hT := gp_T hc
  have hTc := gp_C hc
  have hTm := gp_M hc
  have hTw := gp_W hc Htw hj (by omega)
  have hd0 := gi_hd Hch hj hc
  refine ⟨ro_st (c1 := gh_T c v j) Hst hj hT hTc hTm hTw rfl, ro_b1 (c1 := gh_T c v j) Hb1 hj hT hTc hTm hTw rfl, ro_b2 (c1 := gh_T c v j) Hb2 hj hT hTc hTm hTw rfl, ro_b3 (c1 := gh_T c v j) Hb3 hj hT hTc hTm hTw rfl, ro_b4 (c1 := gh_T c v j) Hb4 hj hT hTc hTm hTw rfl, ro_b5 (c1 := gh_T c v j) Hb5 hj hT hTc hTm hTw rfl, ro_b6 (c1 := gh_T c v j) Hb6 hj hT hTc hTm hTw rfl, ro_s0 (c1 := gh_T c v j) Hs0 hj hT hTc hTm hTw rfl, ro_pA (c1 := gh_T c v j) HpA hj hT hTc hTm hTw rfl, ro_s1 (c1 := gh_T c v j) Hs1 hj hT hTc hTm hTw rfl, ro_s2 (c1 := gh_T c v j) Hs2 hj hT hTc hTm hTw rfl, ro_Sl (c1 := gh_T c v j) HSl hj hT hTc hTm hTw rfl, ro_s3 (c1 := gh_T c v j) Hs3 hj hT hTc hTm hTw rfl, ro_s4 (c1 := gh_T c v j) Hs4 hj hT hTc hTm hTw rfl, ro_ow (c1 := gh_T c v j) How hj hT hTc hTm hTw rfl, ro_s5 (c1 := gh_T c v j) Hs5 hj hT hTc hTm hTw rfl, ro_s6 (c1 := gh_T c v j) Hs6 hj hT hTc hTm hTw rfl, ro_Sr (c1 := gh_T c v j) HSr hj hT hTc hTm hTw rfl, ro_Sn (c1 := gh_T c v j) HSn hj hT hTc hTm hTw rfl, ro_M (c1 := gh_T c v j) HM hj hT hTc hTm hTw rfl, ro_C (c1 := gh_T c v j) HC hj hT hTc hTm hTw rfl, ro_ph (c1 := gh_T c v j) Hph hj hT hTc hTm hTw rfl, ro_6 (c1 := gh_T c v j) H6 hj hT hTc hTm hTw rfl, ro_7 (c1 := gh_T c v j) H7 hj hT hTc hTm hTw rfl, ro_bc (c1 := gh_T c v j) Hbc hj hT hTc hTm hTw rfl, ro_K (c1 := gh_T c v j) HK hj hT hTc hTm hTw rfl, ro_rj (c1 := gh_T c v j) Hrj hj hT hTc hTm hTw rfl, ro_tw (c1 := gh_T c v j) Htw hj hT hTc hTm hTw rfl, ro_ts (c1 := gh_T c v j) Hts hj hT hTc hTm hTw rfl, ro_an (c1 := gh_T c v j) Han hj hT hTc hTm hTw rfl, ro_sz (c1 := gh_T c v j) Hsz hj hT hTc hTm hTw rfl, ?_⟩
  have K1 : gi_all own F (gh_T c v j) (fun y e => gi_m own o w F mk (gh_A (gh_T c v j) v j m0) (o y e) y e) := gi_all_go (gi_all_popT Hch hc (by omega)) (fun y e q => (hT 1 y e).mpr (Or.inl q)) (fun y => rfl) (fun y e a m hy hm ha hb q => ⟨q.1, ro_mi  hj hT hTc hTm hTw rfl rfl hy hm ha hb q.2.1, ro_mc  hj hT hTc hTm hTw rfl rfl hy hm ha hb q.2.2.1, ro_mt  hj hT hTc hTm hTw rfl rfl hy hm ha hb q.2.2.2.1, ro_ma  hj hT hTc hTm hTw rfl rfl hy hm ha hb q.2.2.2.2.1, ro_mr  hj hT hTc hTm hTw rfl rfl hy hm ha hb q.2.2.2.2.2.1, ro_mk  hj hT hTc hTm hTw rfl rfl hy hm ha hb q.2.2.2.2.2.2.1, ro_mp  hj hT hTc hTm hTw rfl rfl hy hm ha hb q.2.2.2.2.2.2.2⟩)
  exact gi_all_appA K1 (fun hy => ⟨by omega, fun z => absurd (hk.symm.trans z) (by decide), fun z => absurd (hk.symm.trans z) (by decide), ro_newt Hn hj hT hTc hTm hTw rfl hk hd0.2.2.2.1, fun z => absurd (hk.symm.trans z) (by decide), fun z => absurd (hk.symm.trans z) (by decide), fun z => absurd (hk.symm.trans z) (by decide), fun z => absurd (hk.symm.trans z) (by decide)⟩)
theorem ro_Ip {v j : Nat} (Hn : gh_Net own o w) (h : gI own o w F mk c) {m0 : gh_M} {t : List gh_M} (hj : own v j) (hc : c v j = m0 :: t) (hk : m0.1 = 5) (h0 : F 0 v = 1) (h4 : j = F 4 v) : gI own o w F mk (gh_A (gh_T c v j) v j m0) := by
  obtain ⟨Hst, Hb1, Hb2, Hb3, Hb4, Hb5, Hb6, Hs0, HpA, Hs1, Hs2, HSl, Hs3, Hs4, How, Hs5, Hs6, HSr, HSn, HM, HC, Hph, H6, H7, Hbc, HK, Hrj, Htw, Hts, Han, Hsz, Hch⟩ := h
  have Xi := gx_iI Hch
  have Xc := gx_cI Hch
  have Xt := gx_tI Hch
  have Xa := gx_aI Hch
  have Xr := gx_rI Hch
  have Xk := gx_kI Hch
  have Xp := gx_pI Hch
  have Xl := gx_lI Hch
  have Xb := gx_bI Hch
  have Xn := gx_nI Hn Hph HpA HSr HSn HM HC
  have hT := gp_T hc
  have hTc := gp_C hc
  have hTm := gp_M hc
  have hTw := gp_W hc Htw hj (by omega)
  have hd0 := gi_hd Hch hj hc
  have hlast : gi_cur F v → gh_last (F 1 v) (gh_T c v j v j) = F 1 v := by
    intro q
    have e1 : gh_last (F 1 v) (c v j) = gh_last (F 1 v) (gh_T c v j v j) := by
      rw [hc]
      unfold gh_T gh_C
      rw [if_pos ⟨rfl, rfl⟩, hc]
      show gh_last (gh_v (F 1 v) m0) t = _
      rw [show gh_v (F 1 v) m0 = F 1 v from if_neg (by omega)]
      rfl
    rw [← e1]
    have e2 := Xb v j hj
    have e3 := e2.2.1 (Hb1 v)
    unfold gi_cur at q
    omega
  refine ⟨ro_st (c1 := gh_T c v j) Hst hj hT hTc hTm hTw rfl, ro_b1 (c1 := gh_T c v j) Hb1 hj hT hTc hTm hTw rfl, ro_b2 (c1 := gh_T c v j) Hb2 hj hT hTc hTm hTw rfl, ro_b3 (c1 := gh_T c v j) Hb3 hj hT hTc hTm hTw rfl, ro_b4 (c1 := gh_T c v j) Hb4 hj hT hTc hTm hTw rfl, ro_b5 (c1 := gh_T c v j) Hb5 hj hT hTc hTm hTw rfl, ro_b6 (c1 := gh_T c v j) Hb6 hj hT hTc hTm hTw rfl, ro_s0 (c1 := gh_T c v j) Hs0 hj hT hTc hTm hTw rfl, ro_pA (c1 := gh_T c v j) HpA hj hT hTc hTm hTw rfl, ro_s1 (c1 := gh_T c v j) Hs1 hj hT hTc hTm hTw rfl, ro_s2 (c1 := gh_T c v j) Hs2 hj hT hTc hTm hTw rfl, ro_Sl (c1 := gh_T c v j) HSl hj hT hTc hTm hTw rfl, ro_s3 (c1 := gh_T c v j) Hs3 hj hT hTc hTm hTw rfl, ro_s4 (c1 := gh_T c v j) Hs4 hj hT hTc hTm hTw rfl, ro_ow (c1 := gh_T c v j) How hj hT hTc hTm hTw rfl, ro_s5 (c1 := gh_T c v j) Hs5 hj hT hTc hTm hTw rfl, ro_s6 (c1 := gh_T c v j) Hs6 hj hT hTc hTm hTw rfl, ro_Sr (c1 := gh_T c v j) HSr hj hT hTc hTm hTw rfl, ro_Sn (c1 := gh_T c v j) HSn hj hT hTc hTm hTw rfl, ro_M (c1 := gh_T c v j) HM hj hT hTc hTm hTw rfl, ro_C (c1 := gh_T c v j) HC hj hT hTc hTm hTw rfl, ro_ph (c1 := gh_T c v j) Hph hj hT hTc hTm hTw rfl, ro_6 (c1 := gh_T c v j) H6 hj hT hTc hTm hTw rfl, ro_7 (c1 := gh_T c v j) H7 hj hT hTc hTm hTw rfl, ro_bc (c1 := gh_T c v j) Hbc hj hT hTc hTm hTw rfl, ro_K (c1 := gh_T c v j) HK hj hT hTc hTm hTw rfl, ro_rj (c1 := gh_T c v j) Hrj hj hT hTc hTm hTw rfl, ro_tw (c1 := gh_T c v j) Htw hj hT hTc hTm hTw rfl, ro_ts (c1 := gh_T c v j) Hts hj hT hTc hTm hTw rfl, ro_an (c1 := gh_T c v j) Han hj hT hTc hTm hTw rfl, ro_sz (c1 := gh_T c v j) Hsz hj hT hTc hTm hTw rfl, ?_⟩
  have K1 : gi_all own F (gh_T c v j) (fun y e => gi_m own o w F mk (gh_A (gh_T c v j) v j m0) (o y e) y e) := gi_all_go (gi_all_popT Hch hc (by omega)) (fun y e q => (hT 1 y e).mpr (Or.inl q)) (fun y => rfl) (fun y e a m hy hm ha hb q => ⟨q.1, ro_mi  hj hT hTc hTm hTw rfl rfl hy hm ha hb q.2.1, ro_mc  hj hT hTc hTm hTw rfl rfl hy hm ha hb q.2.2.1, ro_mt  hj hT hTc hTm hTw rfl rfl hy hm ha hb q.2.2.2.1, ro_ma  hj hT hTc hTm hTw rfl rfl hy hm ha hb q.2.2.2.2.1, ro_mr  hj hT hTc hTm hTw rfl rfl hy hm ha hb q.2.2.2.2.2.1, ro_mk  hj hT hTc hTm hTw rfl rfl hy hm ha hb q.2.2.2.2.2.2.1, ro_mp  hj hT hTc hTm hTw rfl rfl hy hm ha hb q.2.2.2.2.2.2.2⟩)
  exact gi_all_appA K1 (fun hy => ⟨by omega, fun z => absurd (hk.symm.trans z) (by decide), fun z => absurd (hk.symm.trans z) (by decide), fun z => absurd (hk.symm.trans z) (by decide), fun z => absurd (hk.symm.trans z) (by decide), fun z => absurd (hk.symm.trans z) (by decide), fun z => absurd (hk.symm.trans z) (by decide), ro_newp Hn Hs2 Hs5 Hb1 Xb hj hT hTc hTm hTw rfl hk hd0.2.2.2.2.2.2.2 h0 h4 hlast⟩)
end
