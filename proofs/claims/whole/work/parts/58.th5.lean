/-! The network: the core moves, CONNECT goes out, two classes are one, by program (wip/th). -/
section
variable {own : Nat → Nat → Prop} {o : Nat → Nat → Nat} {w : Nat → Nat} {F : gh_F} {mk : Nat → Nat → Nat} {c : Nat → Nat → List gh_M}
theorem mv_st {v b : Nat} (Hst : gi_st F) (hcu : gi_cur F v) (hset : ∀ x, F 8 x = F 8 v → F 11 x = 1 ∧ F 0 x = 2) (hR9 : ∀ x, F 8 x = F 8 v → x = v ∨ x = o v b ∨ gi_NR o (gh_R F v b) x) (hK9 : ∀ e, own v e → mk v e = 1 → F 8 (o v e) = F 8 v → F 9 (o v e) = e ∨ e = b) (hph : F 13 (F 8 v) ≠ 3) (hnk : ∀ y e, own y e → F 8 y = F 8 v → ¬ gh_has 6 (c y e)) (hnc : ∀ y e, own y e → F 8 y = F 8 v → F 8 (o y e) = F 8 v → ¬ gh_has 0 (c y e)) (hnp : ∀ y e a m, own y e → F 8 y = F 8 v → m ∈ c y e → m.1 = 5 → gm_p own o w F mk c (o y e) y e a m → (mk y e = 1 ∧ F 0 y = 2 ∧ F 4 y = e ∧ m.2.1 < F 6 y ∧ F 9 y = e ∧ y ≠ v ∧ gh_R F v b 9 (o y e) ≠ e ∧ a = F 1 y ∧ (¬ gi_cur F y ∨ F 4 (o y e) ≠ gh_R F v b 9 (o y e)) ∧ 1 ≤ F 1 y)) (hob : own v b) (hph2 : F 13 (F 8 v) = 1 ∨ F 13 (F 8 v) = 2) (hg : F 8 v < 100) (h49 : F 4 v = F 9 v) (hz : F 9 (o v (F 9 v)) = F 9 v) (h9 : own v (F 9 v)) (hb1 : mk v b = 1) (hb9 : b ≠ F 9 v) (hyb : F 9 (o v b) = b ∧ F 8 (o v b) = F 8 v ∧ gi_cur F (o v b) ∧ F 4 (o v b) = b ∧ F 5 (o v b) ≠ 12)  : gi_st (gh_H (gh_R F v b) (F 8 v) 2 (o v b) b) := by
  clear hnk hnc hnp hK9 hR9
  dsimp only [gi_st, gi_cur, gi_NR, gi_wt, gi_open, gh_Net] at *
  try simp (decide := true) only [gh_H, gh_R, gh_U, gh_K, gh_A_has, gh_A_cnt, gh_A_mem, false_and, true_and, and_false, or_false, if_false, if_true, and_true]
  grind (splits := 25)
theorem mv_b1 {v b : Nat} (Hb1 : gi_b1 F) (hcu : gi_cur F v) (hset : ∀ x, F 8 x = F 8 v → F 11 x = 1 ∧ F 0 x = 2) (hR9 : ∀ x, F 8 x = F 8 v → x = v ∨ x = o v b ∨ gi_NR o (gh_R F v b) x) (hK9 : ∀ e, own v e → mk v e = 1 → F 8 (o v e) = F 8 v → F 9 (o v e) = e ∨ e = b) (hph : F 13 (F 8 v) ≠ 3) (hnk : ∀ y e, own y e → F 8 y = F 8 v → ¬ gh_has 6 (c y e)) (hnc : ∀ y e, own y e → F 8 y = F 8 v → F 8 (o y e) = F 8 v → ¬ gh_has 0 (c y e)) (hnp : ∀ y e a m, own y e → F 8 y = F 8 v → m ∈ c y e → m.1 = 5 → gm_p own o w F mk c (o y e) y e a m → (mk y e = 1 ∧ F 0 y = 2 ∧ F 4 y = e ∧ m.2.1 < F 6 y ∧ F 9 y = e ∧ y ≠ v ∧ gh_R F v b 9 (o y e) ≠ e ∧ a = F 1 y ∧ (¬ gi_cur F y ∨ F 4 (o y e) ≠ gh_R F v b 9 (o y e)) ∧ 1 ≤ F 1 y)) (hob : own v b) (hph2 : F 13 (F 8 v) = 1 ∨ F 13 (F 8 v) = 2) (hg : F 8 v < 100) (h49 : F 4 v = F 9 v) (hz : F 9 (o v (F 9 v)) = F 9 v) (h9 : own v (F 9 v)) (hb1 : mk v b = 1) (hb9 : b ≠ F 9 v) (hyb : F 9 (o v b) = b ∧ F 8 (o v b) = F 8 v ∧ gi_cur F (o v b) ∧ F 4 (o v b) = b ∧ F 5 (o v b) ≠ 12)  : gi_b1 (gh_H (gh_R F v b) (F 8 v) 2 (o v b) b) := by
  clear hnk hnc hnp hK9 hR9
  dsimp only [gi_b1, gi_cur, gi_NR, gi_wt, gi_open, gh_Net] at *
  try simp (decide := true) only [gh_H, gh_R, gh_U, gh_K, gh_A_has, gh_A_cnt, gh_A_mem, false_and, true_and, and_false, or_false, if_false, if_true, and_true]
  grind (splits := 25)
theorem mv_b2 {v b : Nat} (Hb2 : gi_b2 F) (hcu : gi_cur F v) (hset : ∀ x, F 8 x = F 8 v → F 11 x = 1 ∧ F 0 x = 2) (hR9 : ∀ x, F 8 x = F 8 v → x = v ∨ x = o v b ∨ gi_NR o (gh_R F v b) x) (hK9 : ∀ e, own v e → mk v e = 1 → F 8 (o v e) = F 8 v → F 9 (o v e) = e ∨ e = b) (hph : F 13 (F 8 v) ≠ 3) (hnk : ∀ y e, own y e → F 8 y = F 8 v → ¬ gh_has 6 (c y e)) (hnc : ∀ y e, own y e → F 8 y = F 8 v → F 8 (o y e) = F 8 v → ¬ gh_has 0 (c y e)) (hnp : ∀ y e a m, own y e → F 8 y = F 8 v → m ∈ c y e → m.1 = 5 → gm_p own o w F mk c (o y e) y e a m → (mk y e = 1 ∧ F 0 y = 2 ∧ F 4 y = e ∧ m.2.1 < F 6 y ∧ F 9 y = e ∧ y ≠ v ∧ gh_R F v b 9 (o y e) ≠ e ∧ a = F 1 y ∧ (¬ gi_cur F y ∨ F 4 (o y e) ≠ gh_R F v b 9 (o y e)) ∧ 1 ≤ F 1 y)) (hob : own v b) (hph2 : F 13 (F 8 v) = 1 ∨ F 13 (F 8 v) = 2) (hg : F 8 v < 100) (h49 : F 4 v = F 9 v) (hz : F 9 (o v (F 9 v)) = F 9 v) (h9 : own v (F 9 v)) (hb1 : mk v b = 1) (hb9 : b ≠ F 9 v) (hyb : F 9 (o v b) = b ∧ F 8 (o v b) = F 8 v ∧ gi_cur F (o v b) ∧ F 4 (o v b) = b ∧ F 5 (o v b) ≠ 12)  : gi_b2 (gh_H (gh_R F v b) (F 8 v) 2 (o v b) b) := by
  clear hnk hnc hnp hK9 hR9
  dsimp only [gi_b2, gi_cur, gi_NR, gi_wt, gi_open, gh_Net] at *
  try simp (decide := true) only [gh_H, gh_R, gh_U, gh_K, gh_A_has, gh_A_cnt, gh_A_mem, false_and, true_and, and_false, or_false, if_false, if_true, and_true]
  grind (splits := 25)
theorem mv_b3 {v b : Nat} (Hb3 : gi_b3 F) (hcu : gi_cur F v) (hset : ∀ x, F 8 x = F 8 v → F 11 x = 1 ∧ F 0 x = 2) (hR9 : ∀ x, F 8 x = F 8 v → x = v ∨ x = o v b ∨ gi_NR o (gh_R F v b) x) (hK9 : ∀ e, own v e → mk v e = 1 → F 8 (o v e) = F 8 v → F 9 (o v e) = e ∨ e = b) (hph : F 13 (F 8 v) ≠ 3) (hnk : ∀ y e, own y e → F 8 y = F 8 v → ¬ gh_has 6 (c y e)) (hnc : ∀ y e, own y e → F 8 y = F 8 v → F 8 (o y e) = F 8 v → ¬ gh_has 0 (c y e)) (hnp : ∀ y e a m, own y e → F 8 y = F 8 v → m ∈ c y e → m.1 = 5 → gm_p own o w F mk c (o y e) y e a m → (mk y e = 1 ∧ F 0 y = 2 ∧ F 4 y = e ∧ m.2.1 < F 6 y ∧ F 9 y = e ∧ y ≠ v ∧ gh_R F v b 9 (o y e) ≠ e ∧ a = F 1 y ∧ (¬ gi_cur F y ∨ F 4 (o y e) ≠ gh_R F v b 9 (o y e)) ∧ 1 ≤ F 1 y)) (hob : own v b) (hph2 : F 13 (F 8 v) = 1 ∨ F 13 (F 8 v) = 2) (hg : F 8 v < 100) (h49 : F 4 v = F 9 v) (hz : F 9 (o v (F 9 v)) = F 9 v) (h9 : own v (F 9 v)) (hb1 : mk v b = 1) (hb9 : b ≠ F 9 v) (hyb : F 9 (o v b) = b ∧ F 8 (o v b) = F 8 v ∧ gi_cur F (o v b) ∧ F 4 (o v b) = b ∧ F 5 (o v b) ≠ 12)  : gi_b3 (gh_H (gh_R F v b) (F 8 v) 2 (o v b) b) := by
  clear hnk hnc hnp hK9 hR9
  dsimp only [gi_b3, gi_cur, gi_NR, gi_wt, gi_open, gh_Net] at *
  try simp (decide := true) only [gh_H, gh_R, gh_U, gh_K, gh_A_has, gh_A_cnt, gh_A_mem, false_and, true_and, and_false, or_false, if_false, if_true, and_true]
  grind (splits := 25)
theorem mv_b4 {v b : Nat} (Hb4 : gi_b4 F) (hcu : gi_cur F v) (hset : ∀ x, F 8 x = F 8 v → F 11 x = 1 ∧ F 0 x = 2) (hR9 : ∀ x, F 8 x = F 8 v → x = v ∨ x = o v b ∨ gi_NR o (gh_R F v b) x) (hK9 : ∀ e, own v e → mk v e = 1 → F 8 (o v e) = F 8 v → F 9 (o v e) = e ∨ e = b) (hph : F 13 (F 8 v) ≠ 3) (hnk : ∀ y e, own y e → F 8 y = F 8 v → ¬ gh_has 6 (c y e)) (hnc : ∀ y e, own y e → F 8 y = F 8 v → F 8 (o y e) = F 8 v → ¬ gh_has 0 (c y e)) (hnp : ∀ y e a m, own y e → F 8 y = F 8 v → m ∈ c y e → m.1 = 5 → gm_p own o w F mk c (o y e) y e a m → (mk y e = 1 ∧ F 0 y = 2 ∧ F 4 y = e ∧ m.2.1 < F 6 y ∧ F 9 y = e ∧ y ≠ v ∧ gh_R F v b 9 (o y e) ≠ e ∧ a = F 1 y ∧ (¬ gi_cur F y ∨ F 4 (o y e) ≠ gh_R F v b 9 (o y e)) ∧ 1 ≤ F 1 y)) (hob : own v b) (hph2 : F 13 (F 8 v) = 1 ∨ F 13 (F 8 v) = 2) (hg : F 8 v < 100) (h49 : F 4 v = F 9 v) (hz : F 9 (o v (F 9 v)) = F 9 v) (h9 : own v (F 9 v)) (hb1 : mk v b = 1) (hb9 : b ≠ F 9 v) (hyb : F 9 (o v b) = b ∧ F 8 (o v b) = F 8 v ∧ gi_cur F (o v b) ∧ F 4 (o v b) = b ∧ F 5 (o v b) ≠ 12)  : gi_b4 (gh_H (gh_R F v b) (F 8 v) 2 (o v b) b) := by
  clear hnk hnc hnp hK9 hR9
  dsimp only [gi_b4, gi_cur, gi_NR, gi_wt, gi_open, gh_Net] at *
  try simp (decide := true) only [gh_H, gh_R, gh_U, gh_K, gh_A_has, gh_A_cnt, gh_A_mem, false_and, true_and, and_false, or_false, if_false, if_true, and_true]
  grind (splits := 25)
theorem mv_b6 {v b : Nat} (Hb6 : gi_b6 own o w F mk) (hcu : gi_cur F v) (hset : ∀ x, F 8 x = F 8 v → F 11 x = 1 ∧ F 0 x = 2) (hR9 : ∀ x, F 8 x = F 8 v → x = v ∨ x = o v b ∨ gi_NR o (gh_R F v b) x) (hK9 : ∀ e, own v e → mk v e = 1 → F 8 (o v e) = F 8 v → F 9 (o v e) = e ∨ e = b) (hph : F 13 (F 8 v) ≠ 3) (hnk : ∀ y e, own y e → F 8 y = F 8 v → ¬ gh_has 6 (c y e)) (hnc : ∀ y e, own y e → F 8 y = F 8 v → F 8 (o y e) = F 8 v → ¬ gh_has 0 (c y e)) (hnp : ∀ y e a m, own y e → F 8 y = F 8 v → m ∈ c y e → m.1 = 5 → gm_p own o w F mk c (o y e) y e a m → (mk y e = 1 ∧ F 0 y = 2 ∧ F 4 y = e ∧ m.2.1 < F 6 y ∧ F 9 y = e ∧ y ≠ v ∧ gh_R F v b 9 (o y e) ≠ e ∧ a = F 1 y ∧ (¬ gi_cur F y ∨ F 4 (o y e) ≠ gh_R F v b 9 (o y e)) ∧ 1 ≤ F 1 y)) (hob : own v b) (hph2 : F 13 (F 8 v) = 1 ∨ F 13 (F 8 v) = 2) (hg : F 8 v < 100) (h49 : F 4 v = F 9 v) (hz : F 9 (o v (F 9 v)) = F 9 v) (h9 : own v (F 9 v)) (hb1 : mk v b = 1) (hb9 : b ≠ F 9 v) (hyb : F 9 (o v b) = b ∧ F 8 (o v b) = F 8 v ∧ gi_cur F (o v b) ∧ F 4 (o v b) = b ∧ F 5 (o v b) ≠ 12)  : gi_b6 own o w (gh_H (gh_R F v b) (F 8 v) 2 (o v b) b) mk := by
  clear hnk hnc hnp hK9 hR9
  exact Hb6
theorem mv_b5 {v b : Nat} (Hb5 : gi_b5 own o w F) (hcu : gi_cur F v) (hset : ∀ x, F 8 x = F 8 v → F 11 x = 1 ∧ F 0 x = 2) (hR9 : ∀ x, F 8 x = F 8 v → x = v ∨ x = o v b ∨ gi_NR o (gh_R F v b) x) (hK9 : ∀ e, own v e → mk v e = 1 → F 8 (o v e) = F 8 v → F 9 (o v e) = e ∨ e = b) (hph : F 13 (F 8 v) ≠ 3) (hnk : ∀ y e, own y e → F 8 y = F 8 v → ¬ gh_has 6 (c y e)) (hnc : ∀ y e, own y e → F 8 y = F 8 v → F 8 (o y e) = F 8 v → ¬ gh_has 0 (c y e)) (hnp : ∀ y e a m, own y e → F 8 y = F 8 v → m ∈ c y e → m.1 = 5 → gm_p own o w F mk c (o y e) y e a m → (mk y e = 1 ∧ F 0 y = 2 ∧ F 4 y = e ∧ m.2.1 < F 6 y ∧ F 9 y = e ∧ y ≠ v ∧ gh_R F v b 9 (o y e) ≠ e ∧ a = F 1 y ∧ (¬ gi_cur F y ∨ F 4 (o y e) ≠ gh_R F v b 9 (o y e)) ∧ 1 ≤ F 1 y)) (hob : own v b) (hph2 : F 13 (F 8 v) = 1 ∨ F 13 (F 8 v) = 2) (hg : F 8 v < 100) (h49 : F 4 v = F 9 v) (hz : F 9 (o v (F 9 v)) = F 9 v) (h9 : own v (F 9 v)) (hb1 : mk v b = 1) (hb9 : b ≠ F 9 v) (hyb : F 9 (o v b) = b ∧ F 8 (o v b) = F 8 v ∧ gi_cur F (o v b) ∧ F 4 (o v b) = b ∧ F 5 (o v b) ≠ 12)  : gi_b5 own o w (gh_H (gh_R F v b) (F 8 v) 2 (o v b) b) := by
  exact Hb5
theorem mv_s0 {v b : Nat} (Hs0 : gi_s0 own F mk) (HpA : gi_pA own F mk) (hcu : gi_cur F v) (hset : ∀ x, F 8 x = F 8 v → F 11 x = 1 ∧ F 0 x = 2) (hR9 : ∀ x, F 8 x = F 8 v → x = v ∨ x = o v b ∨ gi_NR o (gh_R F v b) x) (hK9 : ∀ e, own v e → mk v e = 1 → F 8 (o v e) = F 8 v → F 9 (o v e) = e ∨ e = b) (hph : F 13 (F 8 v) ≠ 3) (hnk : ∀ y e, own y e → F 8 y = F 8 v → ¬ gh_has 6 (c y e)) (hnc : ∀ y e, own y e → F 8 y = F 8 v → F 8 (o y e) = F 8 v → ¬ gh_has 0 (c y e)) (hnp : ∀ y e a m, own y e → F 8 y = F 8 v → m ∈ c y e → m.1 = 5 → gm_p own o w F mk c (o y e) y e a m → (mk y e = 1 ∧ F 0 y = 2 ∧ F 4 y = e ∧ m.2.1 < F 6 y ∧ F 9 y = e ∧ y ≠ v ∧ gh_R F v b 9 (o y e) ≠ e ∧ a = F 1 y ∧ (¬ gi_cur F y ∨ F 4 (o y e) ≠ gh_R F v b 9 (o y e)) ∧ 1 ≤ F 1 y)) (hob : own v b) (hph2 : F 13 (F 8 v) = 1 ∨ F 13 (F 8 v) = 2) (hg : F 8 v < 100) (h49 : F 4 v = F 9 v) (hz : F 9 (o v (F 9 v)) = F 9 v) (h9 : own v (F 9 v)) (hb1 : mk v b = 1) (hb9 : b ≠ F 9 v) (hyb : F 9 (o v b) = b ∧ F 8 (o v b) = F 8 v ∧ gi_cur F (o v b) ∧ F 4 (o v b) = b ∧ F 5 (o v b) ≠ 12)  : gi_s0 own (gh_H (gh_R F v b) (F 8 v) 2 (o v b) b) mk := by
  clear hnk hnc hnp hK9 hR9
  dsimp only [gi_s0, gi_pA, gi_cur, gi_NR, gi_wt, gi_open, gh_Net] at *
  try simp (decide := true) only [gh_H, gh_R, gh_U, gh_K, gh_A_has, gh_A_cnt, gh_A_mem, false_and, true_and, and_false, or_false, if_false, if_true, and_true]
  grind (splits := 25)
theorem mv_s1 {v b : Nat} (Hs1 : gi_s1 F) (Hn : gh_Net own o w) (hcu : gi_cur F v) (hset : ∀ x, F 8 x = F 8 v → F 11 x = 1 ∧ F 0 x = 2) (hR9 : ∀ x, F 8 x = F 8 v → x = v ∨ x = o v b ∨ gi_NR o (gh_R F v b) x) (hK9 : ∀ e, own v e → mk v e = 1 → F 8 (o v e) = F 8 v → F 9 (o v e) = e ∨ e = b) (hph : F 13 (F 8 v) ≠ 3) (hnk : ∀ y e, own y e → F 8 y = F 8 v → ¬ gh_has 6 (c y e)) (hnc : ∀ y e, own y e → F 8 y = F 8 v → F 8 (o y e) = F 8 v → ¬ gh_has 0 (c y e)) (hnp : ∀ y e a m, own y e → F 8 y = F 8 v → m ∈ c y e → m.1 = 5 → gm_p own o w F mk c (o y e) y e a m → (mk y e = 1 ∧ F 0 y = 2 ∧ F 4 y = e ∧ m.2.1 < F 6 y ∧ F 9 y = e ∧ y ≠ v ∧ gh_R F v b 9 (o y e) ≠ e ∧ a = F 1 y ∧ (¬ gi_cur F y ∨ F 4 (o y e) ≠ gh_R F v b 9 (o y e)) ∧ 1 ≤ F 1 y)) (hob : own v b) (hph2 : F 13 (F 8 v) = 1 ∨ F 13 (F 8 v) = 2) (hg : F 8 v < 100) (h49 : F 4 v = F 9 v) (hz : F 9 (o v (F 9 v)) = F 9 v) (h9 : own v (F 9 v)) (hb1 : mk v b = 1) (hb9 : b ≠ F 9 v) (hyb : F 9 (o v b) = b ∧ F 8 (o v b) = F 8 v ∧ gi_cur F (o v b) ∧ F 4 (o v b) = b ∧ F 5 (o v b) ≠ 12)  : gi_s1 (gh_H (gh_R F v b) (F 8 v) 2 (o v b) b) := by
  clear hnk hnc hnp hK9 hR9
  dsimp only [gi_s1, gi_cur, gi_NR, gi_wt, gi_open, gh_Net] at *
  try simp (decide := true) only [gh_H, gh_R, gh_U, gh_K, gh_A_has, gh_A_cnt, gh_A_mem, false_and, true_and, and_false, or_false, if_false, if_true, and_true]
  grind (splits := 25)
theorem mv_s2 {v b : Nat} (Hs2 : gi_s2 F) (Hn : gh_Net own o w) (hcu : gi_cur F v) (hset : ∀ x, F 8 x = F 8 v → F 11 x = 1 ∧ F 0 x = 2) (hR9 : ∀ x, F 8 x = F 8 v → x = v ∨ x = o v b ∨ gi_NR o (gh_R F v b) x) (hK9 : ∀ e, own v e → mk v e = 1 → F 8 (o v e) = F 8 v → F 9 (o v e) = e ∨ e = b) (hph : F 13 (F 8 v) ≠ 3) (hnk : ∀ y e, own y e → F 8 y = F 8 v → ¬ gh_has 6 (c y e)) (hnc : ∀ y e, own y e → F 8 y = F 8 v → F 8 (o y e) = F 8 v → ¬ gh_has 0 (c y e)) (hnp : ∀ y e a m, own y e → F 8 y = F 8 v → m ∈ c y e → m.1 = 5 → gm_p own o w F mk c (o y e) y e a m → (mk y e = 1 ∧ F 0 y = 2 ∧ F 4 y = e ∧ m.2.1 < F 6 y ∧ F 9 y = e ∧ y ≠ v ∧ gh_R F v b 9 (o y e) ≠ e ∧ a = F 1 y ∧ (¬ gi_cur F y ∨ F 4 (o y e) ≠ gh_R F v b 9 (o y e)) ∧ 1 ≤ F 1 y)) (hob : own v b) (hph2 : F 13 (F 8 v) = 1 ∨ F 13 (F 8 v) = 2) (hg : F 8 v < 100) (h49 : F 4 v = F 9 v) (hz : F 9 (o v (F 9 v)) = F 9 v) (h9 : own v (F 9 v)) (hb1 : mk v b = 1) (hb9 : b ≠ F 9 v) (hyb : F 9 (o v b) = b ∧ F 8 (o v b) = F 8 v ∧ gi_cur F (o v b) ∧ F 4 (o v b) = b ∧ F 5 (o v b) ≠ 12)  : gi_s2 (gh_H (gh_R F v b) (F 8 v) 2 (o v b) b) := by
  clear hnk hnc hnp hK9 hR9
  dsimp only [gi_s2, gi_cur, gi_NR, gi_wt, gi_open, gh_Net] at *
  try simp (decide := true) only [gh_H, gh_R, gh_U, gh_K, gh_A_has, gh_A_cnt, gh_A_mem, false_and, true_and, and_false, or_false, if_false, if_true, and_true]
  grind (splits := 25)
theorem mv_Sl {v b : Nat} (HSl : gi_Sl F) (Hn : gh_Net own o w) (hcu : gi_cur F v) (hset : ∀ x, F 8 x = F 8 v → F 11 x = 1 ∧ F 0 x = 2) (hR9 : ∀ x, F 8 x = F 8 v → x = v ∨ x = o v b ∨ gi_NR o (gh_R F v b) x) (hK9 : ∀ e, own v e → mk v e = 1 → F 8 (o v e) = F 8 v → F 9 (o v e) = e ∨ e = b) (hph : F 13 (F 8 v) ≠ 3) (hnk : ∀ y e, own y e → F 8 y = F 8 v → ¬ gh_has 6 (c y e)) (hnc : ∀ y e, own y e → F 8 y = F 8 v → F 8 (o y e) = F 8 v → ¬ gh_has 0 (c y e)) (hnp : ∀ y e a m, own y e → F 8 y = F 8 v → m ∈ c y e → m.1 = 5 → gm_p own o w F mk c (o y e) y e a m → (mk y e = 1 ∧ F 0 y = 2 ∧ F 4 y = e ∧ m.2.1 < F 6 y ∧ F 9 y = e ∧ y ≠ v ∧ gh_R F v b 9 (o y e) ≠ e ∧ a = F 1 y ∧ (¬ gi_cur F y ∨ F 4 (o y e) ≠ gh_R F v b 9 (o y e)) ∧ 1 ≤ F 1 y)) (hob : own v b) (hph2 : F 13 (F 8 v) = 1 ∨ F 13 (F 8 v) = 2) (hg : F 8 v < 100) (h49 : F 4 v = F 9 v) (hz : F 9 (o v (F 9 v)) = F 9 v) (h9 : own v (F 9 v)) (hb1 : mk v b = 1) (hb9 : b ≠ F 9 v) (hyb : F 9 (o v b) = b ∧ F 8 (o v b) = F 8 v ∧ gi_cur F (o v b) ∧ F 4 (o v b) = b ∧ F 5 (o v b) ≠ 12)  : gi_Sl (gh_H (gh_R F v b) (F 8 v) 2 (o v b) b) := by
  clear hnk hnc hnp hK9 hR9
  dsimp only [gi_Sl, gi_cur, gi_NR, gi_wt, gi_open, gh_Net] at *
  try simp (decide := true) only [gh_H, gh_R, gh_U, gh_K, gh_A_has, gh_A_cnt, gh_A_mem, false_and, true_and, and_false, or_false, if_false, if_true, and_true]
  grind (splits := 25)
theorem mv_s3 {v b : Nat} (Hs3 : gi_s3 F) (Hn : gh_Net own o w) (hcu : gi_cur F v) (hset : ∀ x, F 8 x = F 8 v → F 11 x = 1 ∧ F 0 x = 2) (hR9 : ∀ x, F 8 x = F 8 v → x = v ∨ x = o v b ∨ gi_NR o (gh_R F v b) x) (hK9 : ∀ e, own v e → mk v e = 1 → F 8 (o v e) = F 8 v → F 9 (o v e) = e ∨ e = b) (hph : F 13 (F 8 v) ≠ 3) (hnk : ∀ y e, own y e → F 8 y = F 8 v → ¬ gh_has 6 (c y e)) (hnc : ∀ y e, own y e → F 8 y = F 8 v → F 8 (o y e) = F 8 v → ¬ gh_has 0 (c y e)) (hnp : ∀ y e a m, own y e → F 8 y = F 8 v → m ∈ c y e → m.1 = 5 → gm_p own o w F mk c (o y e) y e a m → (mk y e = 1 ∧ F 0 y = 2 ∧ F 4 y = e ∧ m.2.1 < F 6 y ∧ F 9 y = e ∧ y ≠ v ∧ gh_R F v b 9 (o y e) ≠ e ∧ a = F 1 y ∧ (¬ gi_cur F y ∨ F 4 (o y e) ≠ gh_R F v b 9 (o y e)) ∧ 1 ≤ F 1 y)) (hob : own v b) (hph2 : F 13 (F 8 v) = 1 ∨ F 13 (F 8 v) = 2) (hg : F 8 v < 100) (h49 : F 4 v = F 9 v) (hz : F 9 (o v (F 9 v)) = F 9 v) (h9 : own v (F 9 v)) (hb1 : mk v b = 1) (hb9 : b ≠ F 9 v) (hyb : F 9 (o v b) = b ∧ F 8 (o v b) = F 8 v ∧ gi_cur F (o v b) ∧ F 4 (o v b) = b ∧ F 5 (o v b) ≠ 12)  : gi_s3 (gh_H (gh_R F v b) (F 8 v) 2 (o v b) b) := by
  clear hnk hnc hnp hK9 hR9
  dsimp only [gi_s3, gi_cur, gi_NR, gi_wt, gi_open, gh_Net] at *
  try simp (decide := true) only [gh_H, gh_R, gh_U, gh_K, gh_A_has, gh_A_cnt, gh_A_mem, false_and, true_and, and_false, or_false, if_false, if_true, and_true]
  grind (splits := 25)
theorem mv_s4 {v b : Nat} (Hs4 : gi_s4 F) (Hn : gh_Net own o w) (hcu : gi_cur F v) (hset : ∀ x, F 8 x = F 8 v → F 11 x = 1 ∧ F 0 x = 2) (hR9 : ∀ x, F 8 x = F 8 v → x = v ∨ x = o v b ∨ gi_NR o (gh_R F v b) x) (hK9 : ∀ e, own v e → mk v e = 1 → F 8 (o v e) = F 8 v → F 9 (o v e) = e ∨ e = b) (hph : F 13 (F 8 v) ≠ 3) (hnk : ∀ y e, own y e → F 8 y = F 8 v → ¬ gh_has 6 (c y e)) (hnc : ∀ y e, own y e → F 8 y = F 8 v → F 8 (o y e) = F 8 v → ¬ gh_has 0 (c y e)) (hnp : ∀ y e a m, own y e → F 8 y = F 8 v → m ∈ c y e → m.1 = 5 → gm_p own o w F mk c (o y e) y e a m → (mk y e = 1 ∧ F 0 y = 2 ∧ F 4 y = e ∧ m.2.1 < F 6 y ∧ F 9 y = e ∧ y ≠ v ∧ gh_R F v b 9 (o y e) ≠ e ∧ a = F 1 y ∧ (¬ gi_cur F y ∨ F 4 (o y e) ≠ gh_R F v b 9 (o y e)) ∧ 1 ≤ F 1 y)) (hob : own v b) (hph2 : F 13 (F 8 v) = 1 ∨ F 13 (F 8 v) = 2) (hg : F 8 v < 100) (h49 : F 4 v = F 9 v) (hz : F 9 (o v (F 9 v)) = F 9 v) (h9 : own v (F 9 v)) (hb1 : mk v b = 1) (hb9 : b ≠ F 9 v) (hyb : F 9 (o v b) = b ∧ F 8 (o v b) = F 8 v ∧ gi_cur F (o v b) ∧ F 4 (o v b) = b ∧ F 5 (o v b) ≠ 12)  : gi_s4 (gh_H (gh_R F v b) (F 8 v) 2 (o v b) b) := by
  clear hnk hnc hnp hK9 hR9
  dsimp only [gi_s4, gi_cur, gi_NR, gi_wt, gi_open, gh_Net] at *
  try simp (decide := true) only [gh_H, gh_R, gh_U, gh_K, gh_A_has, gh_A_cnt, gh_A_mem, false_and, true_and, and_false, or_false, if_false, if_true, and_true]
  grind (splits := 25)
theorem mv_ow {v b : Nat} (How : gi_ow own F) (Hn : gh_Net own o w) (hcu : gi_cur F v) (hset : ∀ x, F 8 x = F 8 v → F 11 x = 1 ∧ F 0 x = 2) (hR9 : ∀ x, F 8 x = F 8 v → x = v ∨ x = o v b ∨ gi_NR o (gh_R F v b) x) (hK9 : ∀ e, own v e → mk v e = 1 → F 8 (o v e) = F 8 v → F 9 (o v e) = e ∨ e = b) (hph : F 13 (F 8 v) ≠ 3) (hnk : ∀ y e, own y e → F 8 y = F 8 v → ¬ gh_has 6 (c y e)) (hnc : ∀ y e, own y e → F 8 y = F 8 v → F 8 (o y e) = F 8 v → ¬ gh_has 0 (c y e)) (hnp : ∀ y e a m, own y e → F 8 y = F 8 v → m ∈ c y e → m.1 = 5 → gm_p own o w F mk c (o y e) y e a m → (mk y e = 1 ∧ F 0 y = 2 ∧ F 4 y = e ∧ m.2.1 < F 6 y ∧ F 9 y = e ∧ y ≠ v ∧ gh_R F v b 9 (o y e) ≠ e ∧ a = F 1 y ∧ (¬ gi_cur F y ∨ F 4 (o y e) ≠ gh_R F v b 9 (o y e)) ∧ 1 ≤ F 1 y)) (hob : own v b) (hph2 : F 13 (F 8 v) = 1 ∨ F 13 (F 8 v) = 2) (hg : F 8 v < 100) (h49 : F 4 v = F 9 v) (hz : F 9 (o v (F 9 v)) = F 9 v) (h9 : own v (F 9 v)) (hb1 : mk v b = 1) (hb9 : b ≠ F 9 v) (hyb : F 9 (o v b) = b ∧ F 8 (o v b) = F 8 v ∧ gi_cur F (o v b) ∧ F 4 (o v b) = b ∧ F 5 (o v b) ≠ 12)  : gi_ow own (gh_H (gh_R F v b) (F 8 v) 2 (o v b) b) := by
  clear hnk hnc hnp hK9 hR9
  dsimp only [gi_ow, gi_cur, gi_NR, gi_wt, gi_open, gh_Net] at *
  try simp (decide := true) only [gh_H, gh_R, gh_U, gh_K, gh_A_has, gh_A_cnt, gh_A_mem, false_and, true_and, and_false, or_false, if_false, if_true, and_true]
  grind (splits := 25)
theorem mv_s5 {v b : Nat} (Hs5 : gi_s5 F) (Hn : gh_Net own o w) (hcu : gi_cur F v) (hset : ∀ x, F 8 x = F 8 v → F 11 x = 1 ∧ F 0 x = 2) (hR9 : ∀ x, F 8 x = F 8 v → x = v ∨ x = o v b ∨ gi_NR o (gh_R F v b) x) (hK9 : ∀ e, own v e → mk v e = 1 → F 8 (o v e) = F 8 v → F 9 (o v e) = e ∨ e = b) (hph : F 13 (F 8 v) ≠ 3) (hnk : ∀ y e, own y e → F 8 y = F 8 v → ¬ gh_has 6 (c y e)) (hnc : ∀ y e, own y e → F 8 y = F 8 v → F 8 (o y e) = F 8 v → ¬ gh_has 0 (c y e)) (hnp : ∀ y e a m, own y e → F 8 y = F 8 v → m ∈ c y e → m.1 = 5 → gm_p own o w F mk c (o y e) y e a m → (mk y e = 1 ∧ F 0 y = 2 ∧ F 4 y = e ∧ m.2.1 < F 6 y ∧ F 9 y = e ∧ y ≠ v ∧ gh_R F v b 9 (o y e) ≠ e ∧ a = F 1 y ∧ (¬ gi_cur F y ∨ F 4 (o y e) ≠ gh_R F v b 9 (o y e)) ∧ 1 ≤ F 1 y)) (hob : own v b) (hph2 : F 13 (F 8 v) = 1 ∨ F 13 (F 8 v) = 2) (hg : F 8 v < 100) (h49 : F 4 v = F 9 v) (hz : F 9 (o v (F 9 v)) = F 9 v) (h9 : own v (F 9 v)) (hb1 : mk v b = 1) (hb9 : b ≠ F 9 v) (hyb : F 9 (o v b) = b ∧ F 8 (o v b) = F 8 v ∧ gi_cur F (o v b) ∧ F 4 (o v b) = b ∧ F 5 (o v b) ≠ 12)  : gi_s5 (gh_H (gh_R F v b) (F 8 v) 2 (o v b) b) := by
  clear hnk hnc hnp hK9 hR9
  dsimp only [gi_s5, gi_cur, gi_NR, gi_wt, gi_open, gh_Net] at *
  try simp (decide := true) only [gh_H, gh_R, gh_U, gh_K, gh_A_has, gh_A_cnt, gh_A_mem, false_and, true_and, and_false, or_false, if_false, if_true, and_true]
  grind (splits := 25)
theorem mv_s6 {v b : Nat} (Hs6 : gi_s6 own F mk) (Hn : gh_Net own o w) (hcu : gi_cur F v) (hset : ∀ x, F 8 x = F 8 v → F 11 x = 1 ∧ F 0 x = 2) (hR9 : ∀ x, F 8 x = F 8 v → x = v ∨ x = o v b ∨ gi_NR o (gh_R F v b) x) (hK9 : ∀ e, own v e → mk v e = 1 → F 8 (o v e) = F 8 v → F 9 (o v e) = e ∨ e = b) (hph : F 13 (F 8 v) ≠ 3) (hnk : ∀ y e, own y e → F 8 y = F 8 v → ¬ gh_has 6 (c y e)) (hnc : ∀ y e, own y e → F 8 y = F 8 v → F 8 (o y e) = F 8 v → ¬ gh_has 0 (c y e)) (hnp : ∀ y e a m, own y e → F 8 y = F 8 v → m ∈ c y e → m.1 = 5 → gm_p own o w F mk c (o y e) y e a m → (mk y e = 1 ∧ F 0 y = 2 ∧ F 4 y = e ∧ m.2.1 < F 6 y ∧ F 9 y = e ∧ y ≠ v ∧ gh_R F v b 9 (o y e) ≠ e ∧ a = F 1 y ∧ (¬ gi_cur F y ∨ F 4 (o y e) ≠ gh_R F v b 9 (o y e)) ∧ 1 ≤ F 1 y)) (hob : own v b) (hph2 : F 13 (F 8 v) = 1 ∨ F 13 (F 8 v) = 2) (hg : F 8 v < 100) (h49 : F 4 v = F 9 v) (hz : F 9 (o v (F 9 v)) = F 9 v) (h9 : own v (F 9 v)) (hb1 : mk v b = 1) (hb9 : b ≠ F 9 v) (hyb : F 9 (o v b) = b ∧ F 8 (o v b) = F 8 v ∧ gi_cur F (o v b) ∧ F 4 (o v b) = b ∧ F 5 (o v b) ≠ 12)  : gi_s6 own (gh_H (gh_R F v b) (F 8 v) 2 (o v b) b) mk := by
  clear hnk hnc hnp hK9 hR9
  dsimp only [gi_s6, gi_cur, gi_NR, gi_wt, gi_open, gh_Net] at *
  try simp (decide := true) only [gh_H, gh_R, gh_U, gh_K, gh_A_has, gh_A_cnt, gh_A_mem, false_and, true_and, and_false, or_false, if_false, if_true, and_true]
  grind (splits := 25)
theorem mv_ph {v b : Nat} (Hph : gi_ph F) (Hn : gh_Net own o w) (hcu : gi_cur F v) (hset : ∀ x, F 8 x = F 8 v → F 11 x = 1 ∧ F 0 x = 2) (hR9 : ∀ x, F 8 x = F 8 v → x = v ∨ x = o v b ∨ gi_NR o (gh_R F v b) x) (hK9 : ∀ e, own v e → mk v e = 1 → F 8 (o v e) = F 8 v → F 9 (o v e) = e ∨ e = b) (hph : F 13 (F 8 v) ≠ 3) (hnk : ∀ y e, own y e → F 8 y = F 8 v → ¬ gh_has 6 (c y e)) (hnc : ∀ y e, own y e → F 8 y = F 8 v → F 8 (o y e) = F 8 v → ¬ gh_has 0 (c y e)) (hnp : ∀ y e a m, own y e → F 8 y = F 8 v → m ∈ c y e → m.1 = 5 → gm_p own o w F mk c (o y e) y e a m → (mk y e = 1 ∧ F 0 y = 2 ∧ F 4 y = e ∧ m.2.1 < F 6 y ∧ F 9 y = e ∧ y ≠ v ∧ gh_R F v b 9 (o y e) ≠ e ∧ a = F 1 y ∧ (¬ gi_cur F y ∨ F 4 (o y e) ≠ gh_R F v b 9 (o y e)) ∧ 1 ≤ F 1 y)) (hob : own v b) (hph2 : F 13 (F 8 v) = 1 ∨ F 13 (F 8 v) = 2) (hg : F 8 v < 100) (h49 : F 4 v = F 9 v) (hz : F 9 (o v (F 9 v)) = F 9 v) (h9 : own v (F 9 v)) (hb1 : mk v b = 1) (hb9 : b ≠ F 9 v) (hyb : F 9 (o v b) = b ∧ F 8 (o v b) = F 8 v ∧ gi_cur F (o v b) ∧ F 4 (o v b) = b ∧ F 5 (o v b) ≠ 12)  : gi_ph (gh_H (gh_R F v b) (F 8 v) 2 (o v b) b) := by
  clear hnk hnc hnp hK9 hR9
  dsimp only [gi_ph, gi_cur, gi_NR, gi_wt, gi_open, gh_Net] at *
  try simp (decide := true) only [gh_H, gh_R, gh_U, gh_K, gh_A_has, gh_A_cnt, gh_A_mem, false_and, true_and, and_false, or_false, if_false, if_true, and_true]
  grind (splits := 25)
theorem mv_pA {v b : Nat} (HpA : gi_pA own F mk) (Hn : gh_Net own o w) (hcu : gi_cur F v) (hset : ∀ x, F 8 x = F 8 v → F 11 x = 1 ∧ F 0 x = 2) (hR9 : ∀ x, F 8 x = F 8 v → x = v ∨ x = o v b ∨ gi_NR o (gh_R F v b) x) (hK9 : ∀ e, own v e → mk v e = 1 → F 8 (o v e) = F 8 v → F 9 (o v e) = e ∨ e = b) (hph : F 13 (F 8 v) ≠ 3) (hnk : ∀ y e, own y e → F 8 y = F 8 v → ¬ gh_has 6 (c y e)) (hnc : ∀ y e, own y e → F 8 y = F 8 v → F 8 (o y e) = F 8 v → ¬ gh_has 0 (c y e)) (hnp : ∀ y e a m, own y e → F 8 y = F 8 v → m ∈ c y e → m.1 = 5 → gm_p own o w F mk c (o y e) y e a m → (mk y e = 1 ∧ F 0 y = 2 ∧ F 4 y = e ∧ m.2.1 < F 6 y ∧ F 9 y = e ∧ y ≠ v ∧ gh_R F v b 9 (o y e) ≠ e ∧ a = F 1 y ∧ (¬ gi_cur F y ∨ F 4 (o y e) ≠ gh_R F v b 9 (o y e)) ∧ 1 ≤ F 1 y)) (hob : own v b) (hph2 : F 13 (F 8 v) = 1 ∨ F 13 (F 8 v) = 2) (hg : F 8 v < 100) (h49 : F 4 v = F 9 v) (hz : F 9 (o v (F 9 v)) = F 9 v) (h9 : own v (F 9 v)) (hb1 : mk v b = 1) (hb9 : b ≠ F 9 v) (hyb : F 9 (o v b) = b ∧ F 8 (o v b) = F 8 v ∧ gi_cur F (o v b) ∧ F 4 (o v b) = b ∧ F 5 (o v b) ≠ 12)  : gi_pA own (gh_H (gh_R F v b) (F 8 v) 2 (o v b) b) mk := by
  clear hnk hnc hnp hK9 hR9
  dsimp only [gi_pA, gi_cur, gi_NR, gi_wt, gi_open, gh_Net] at *
  try simp (decide := true) only [gh_H, gh_R, gh_U, gh_K, gh_A_has, gh_A_cnt, gh_A_mem, false_and, true_and, and_false, or_false, if_false, if_true, and_true]
  grind (splits := 25)
theorem mv_sz {v b : Nat} (Hsz : gi_sz F) (hcu : gi_cur F v) (hset : ∀ x, F 8 x = F 8 v → F 11 x = 1 ∧ F 0 x = 2) (hR9 : ∀ x, F 8 x = F 8 v → x = v ∨ x = o v b ∨ gi_NR o (gh_R F v b) x) (hK9 : ∀ e, own v e → mk v e = 1 → F 8 (o v e) = F 8 v → F 9 (o v e) = e ∨ e = b) (hph : F 13 (F 8 v) ≠ 3) (hnk : ∀ y e, own y e → F 8 y = F 8 v → ¬ gh_has 6 (c y e)) (hnc : ∀ y e, own y e → F 8 y = F 8 v → F 8 (o y e) = F 8 v → ¬ gh_has 0 (c y e)) (hnp : ∀ y e a m, own y e → F 8 y = F 8 v → m ∈ c y e → m.1 = 5 → gm_p own o w F mk c (o y e) y e a m → (mk y e = 1 ∧ F 0 y = 2 ∧ F 4 y = e ∧ m.2.1 < F 6 y ∧ F 9 y = e ∧ y ≠ v ∧ gh_R F v b 9 (o y e) ≠ e ∧ a = F 1 y ∧ (¬ gi_cur F y ∨ F 4 (o y e) ≠ gh_R F v b 9 (o y e)) ∧ 1 ≤ F 1 y)) (hob : own v b) (hph2 : F 13 (F 8 v) = 1 ∨ F 13 (F 8 v) = 2) (hg : F 8 v < 100) (h49 : F 4 v = F 9 v) (hz : F 9 (o v (F 9 v)) = F 9 v) (h9 : own v (F 9 v)) (hb1 : mk v b = 1) (hb9 : b ≠ F 9 v) (hyb : F 9 (o v b) = b ∧ F 8 (o v b) = F 8 v ∧ gi_cur F (o v b) ∧ F 4 (o v b) = b ∧ F 5 (o v b) ≠ 12)  : gi_sz (gh_H (gh_R F v b) (F 8 v) 2 (o v b) b) := by
  exact Hsz
theorem mv_Sr {v b : Nat} (HSr : gi_Sr o w F c) (Hn : gh_Net own o w) (HSl : gi_Sl F) (Hs6 : gi_s6 own F mk) (hcu : gi_cur F v) (hset : ∀ x, F 8 x = F 8 v → F 11 x = 1 ∧ F 0 x = 2) (hR9 : ∀ x, F 8 x = F 8 v → x = v ∨ x = o v b ∨ gi_NR o (gh_R F v b) x) (hK9 : ∀ e, own v e → mk v e = 1 → F 8 (o v e) = F 8 v → F 9 (o v e) = e ∨ e = b) (hph : F 13 (F 8 v) ≠ 3) (hnk : ∀ y e, own y e → F 8 y = F 8 v → ¬ gh_has 6 (c y e)) (hnc : ∀ y e, own y e → F 8 y = F 8 v → F 8 (o y e) = F 8 v → ¬ gh_has 0 (c y e)) (hnp : ∀ y e a m, own y e → F 8 y = F 8 v → m ∈ c y e → m.1 = 5 → gm_p own o w F mk c (o y e) y e a m → (mk y e = 1 ∧ F 0 y = 2 ∧ F 4 y = e ∧ m.2.1 < F 6 y ∧ F 9 y = e ∧ y ≠ v ∧ gh_R F v b 9 (o y e) ≠ e ∧ a = F 1 y ∧ (¬ gi_cur F y ∨ F 4 (o y e) ≠ gh_R F v b 9 (o y e)) ∧ 1 ≤ F 1 y)) (hob : own v b) (hph2 : F 13 (F 8 v) = 1 ∨ F 13 (F 8 v) = 2) (hg : F 8 v < 100) (h49 : F 4 v = F 9 v) (hz : F 9 (o v (F 9 v)) = F 9 v) (h9 : own v (F 9 v)) (hb1 : mk v b = 1) (hb9 : b ≠ F 9 v) (hyb : F 9 (o v b) = b ∧ F 8 (o v b) = F 8 v ∧ gi_cur F (o v b) ∧ F 4 (o v b) = b ∧ F 5 (o v b) ≠ 12)  : gi_Sr o w (gh_H (gh_R F v b) (F 8 v) 2 (o v b) b) (gh_A c (o v b) b (6, 0, 0, 0)) := by
  intro x h1 h2
  have hxg : F 8 x ≠ F 8 v := by intro z; simp (decide := true) only [gh_H, gh_R, gh_U, if_true, if_false, false_and, true_and] at h1; grind
  obtain ⟨a1, a2, a3⟩ := HSr x (by simp (decide := true) only [gh_H, gh_R, gh_U, if_true, if_false, false_and, true_and] at h1; grind) (by simp (decide := true) only [gh_H, gh_R, gh_U, if_true, if_false, false_and, true_and] at h2; grind)
  have a4 : gi_cur F x ∨ (gh_has 0 (c (o x (F 9 x)) (F 9 x)) ∨ ∃ m ∈ c x (F 9 x), m.1 = 1 ∧ m.2.1 = F 12 (F 8 x)) := by
    by_cases q : gi_cur F x
    · exact Or.inl q
    · exact Or.inr (a3 q).2
  have a5 : gi_cur F x ∨ F 11 x = 0 := by
    by_cases q : gi_cur F x
    · exact Or.inl q
    · exact Or.inr (a3 q).1
  have e9 : (gh_H (gh_R F v b) (F 8 v) 2 (o v b) b) 9 x = F 9 x := by simp (decide := true) only [gh_H, gh_R, gh_U, if_true, if_false, false_and, true_and]; grind
  have e12 : (gh_H (gh_R F v b) (F 8 v) 2 (o v b) b) 12 ((gh_H (gh_R F v b) (F 8 v) 2 (o v b) b) 8 x) = F 12 (F 8 x) := by simp (decide := true) only [gh_H, gh_R, gh_U, if_true, if_false, false_and, true_and]
  have e11 : (gh_H (gh_R F v b) (F 8 v) 2 (o v b) b) 11 x = F 11 x := by simp (decide := true) only [gh_H, gh_R, gh_U, if_true, if_false, false_and, true_and]
  have ecu : gi_cur (gh_H (gh_R F v b) (F 8 v) 2 (o v b) b) x ↔ gi_cur F x := by unfold gi_cur; simp (decide := true) only [gh_H, gh_R, gh_U, if_true, if_false, false_and, true_and]
  rw [e9, e11, e12, ecu]
  refine ⟨?_, ?_, fun hc => ⟨a5.resolve_left hc, ?_⟩⟩
  · clear hnk hnc hnp hK9 hR9 hset a3 HSr
    simp (decide := true) only [gh_H, gh_R, gh_U, if_true, if_false, false_and, true_and] at *
    grind
  · clear hnk hnc hnp hK9 hR9 hset a3 HSr
    simp (decide := true) only [gh_H, gh_R, gh_U, if_true, if_false, false_and, true_and] at *
    grind
  · rcases a4.resolve_left hc with q | ⟨m, m1, m2, m3⟩
    · exact Or.inl (gh_A_has.mpr (Or.inl q))
    · exact Or.inr ⟨m, gh_A_mem.mpr (Or.inl m1), m2, m3⟩
theorem mv_Sn {v b : Nat} (HSn : gi_Sn o w F) (Hn : gh_Net own o w) (hcu : gi_cur F v) (hset : ∀ x, F 8 x = F 8 v → F 11 x = 1 ∧ F 0 x = 2) (hR9 : ∀ x, F 8 x = F 8 v → x = v ∨ x = o v b ∨ gi_NR o (gh_R F v b) x) (hK9 : ∀ e, own v e → mk v e = 1 → F 8 (o v e) = F 8 v → F 9 (o v e) = e ∨ e = b) (hph : F 13 (F 8 v) ≠ 3) (hnk : ∀ y e, own y e → F 8 y = F 8 v → ¬ gh_has 6 (c y e)) (hnc : ∀ y e, own y e → F 8 y = F 8 v → F 8 (o y e) = F 8 v → ¬ gh_has 0 (c y e)) (hnp : ∀ y e a m, own y e → F 8 y = F 8 v → m ∈ c y e → m.1 = 5 → gm_p own o w F mk c (o y e) y e a m → (mk y e = 1 ∧ F 0 y = 2 ∧ F 4 y = e ∧ m.2.1 < F 6 y ∧ F 9 y = e ∧ y ≠ v ∧ gh_R F v b 9 (o y e) ≠ e ∧ a = F 1 y ∧ (¬ gi_cur F y ∨ F 4 (o y e) ≠ gh_R F v b 9 (o y e)) ∧ 1 ≤ F 1 y)) (hob : own v b) (hph2 : F 13 (F 8 v) = 1 ∨ F 13 (F 8 v) = 2) (hg : F 8 v < 100) (h49 : F 4 v = F 9 v) (hz : F 9 (o v (F 9 v)) = F 9 v) (h9 : own v (F 9 v)) (hb1 : mk v b = 1) (hb9 : b ≠ F 9 v) (hyb : F 9 (o v b) = b ∧ F 8 (o v b) = F 8 v ∧ gi_cur F (o v b) ∧ F 4 (o v b) = b ∧ F 5 (o v b) ≠ 12)  : gi_Sn o w (gh_H (gh_R F v b) (F 8 v) 2 (o v b) b) := by
  have hNo : ∀ x, F 8 x ≠ F 8 v → gi_NR o F x → gi_NR o (gh_H (gh_R F v b) (F 8 v) 2 (o v b) b) x := by
    intro x hx1 hx
    clear hnk hnc hnp hK9 hR9 hset
    dsimp only [gi_NR] at *
    simp (decide := true) only [gh_H, gh_R, gh_U, if_true, if_false, false_and, true_and] at *
    grind
  have hNg : ∀ x, F 8 x = F 8 v → x ≠ v → x ≠ o v b → gi_NR o (gh_H (gh_R F v b) (F 8 v) 2 (o v b) b) x := by
    intro x hx1 hx2 hx3
    have hx := ((hR9 x hx1).resolve_left hx2).resolve_left hx3
    clear hnk hnc hnp hK9 hR9 hset
    dsimp only [gi_NR] at *
    simp (decide := true) only [gh_H, gh_R, gh_U, gh_R, if_true, if_false, false_and, true_and] at *
    grind
  
  intro x h1 h2
  have hxg : F 8 x ≠ F 8 v := by intro z; simp (decide := true) only [gh_H, gh_R, gh_U, if_true, if_false, false_and, true_and] at h1; grind
  refine hNo x hxg (HSn x ?_ ?_)
  · simp (decide := true) only [gh_H, gh_R, gh_U, if_true, if_false, false_and, true_and] at h1; grind
  · simp (decide := true) only [gh_H, gh_R, gh_U, if_true, if_false, false_and, true_and] at h2; grind
theorem mv_6 {v b : Nat} (H6 : gi_6 o F c) (Hn : gh_Net own o w) (Hb1 : gi_b1 F) (Hs6 : gi_s6 own F mk) (Xl : gx_l own F c) (hcu : gi_cur F v) (hset : ∀ x, F 8 x = F 8 v → F 11 x = 1 ∧ F 0 x = 2) (hR9 : ∀ x, F 8 x = F 8 v → x = v ∨ x = o v b ∨ gi_NR o (gh_R F v b) x) (hK9 : ∀ e, own v e → mk v e = 1 → F 8 (o v e) = F 8 v → F 9 (o v e) = e ∨ e = b) (hph : F 13 (F 8 v) ≠ 3) (hnk : ∀ y e, own y e → F 8 y = F 8 v → ¬ gh_has 6 (c y e)) (hnc : ∀ y e, own y e → F 8 y = F 8 v → F 8 (o y e) = F 8 v → ¬ gh_has 0 (c y e)) (hnp : ∀ y e a m, own y e → F 8 y = F 8 v → m ∈ c y e → m.1 = 5 → gm_p own o w F mk c (o y e) y e a m → (mk y e = 1 ∧ F 0 y = 2 ∧ F 4 y = e ∧ m.2.1 < F 6 y ∧ F 9 y = e ∧ y ≠ v ∧ gh_R F v b 9 (o y e) ≠ e ∧ a = F 1 y ∧ (¬ gi_cur F y ∨ F 4 (o y e) ≠ gh_R F v b 9 (o y e)) ∧ 1 ≤ F 1 y)) (hob : own v b) (hph2 : F 13 (F 8 v) = 1 ∨ F 13 (F 8 v) = 2) (hg : F 8 v < 100) (h49 : F 4 v = F 9 v) (hz : F 9 (o v (F 9 v)) = F 9 v) (h9 : own v (F 9 v)) (hb1 : mk v b = 1) (hb9 : b ≠ F 9 v) (hyb : F 9 (o v b) = b ∧ F 8 (o v b) = F 8 v ∧ gi_cur F (o v b) ∧ F 4 (o v b) = b ∧ F 5 (o v b) ≠ 12)  : gi_6 o (gh_H (gh_R F v b) (F 8 v) 2 (o v b) b) (gh_A c (o v b) b (6, 0, 0, 0)) := by
  have hRev : ∀ x, gi_NR o (gh_H (gh_R F v b) (F 8 v) 2 (o v b) b) x → (gi_NR o F x ∧ o x (F 9 x) ≠ v ∧ x ≠ v) ∨ (F 8 x = F 8 v ∧ x ≠ v ∧ o x (F 9 x) = v) := by
    intro x hx
    clear hnk hnc hnp hK9 hR9 hset
    dsimp only [gi_NR] at *
    simp (decide := true) only [gh_H, gh_R, gh_U, if_true, if_false, false_and, true_and] at *
    grind
  
  intro x hx
  have e1 : ∀ z, (gh_H (gh_R F v b) (F 8 v) 2 (o v b) b) 1 z = F 1 z := fun z => by simp (decide := true) only [gh_H, gh_R, gh_U, if_true, if_false, false_and, true_and]
  have e9 : x ≠ v → (gh_H (gh_R F v b) (F 8 v) 2 (o v b) b) 9 x = F 9 x := fun z => by simp (decide := true) only [gh_H, gh_R, gh_U, if_true, if_false, false_and, true_and]; grind
  rcases hRev x hx with ⟨z, zu, zv⟩ | ⟨z, zu, zv⟩
  · obtain ⟨a1, a2⟩ := H6 x z
    rw [e1, e1, e9 zv]
    refine ⟨a1, fun m hm hm1 => ?_⟩
    rcases gh_A_mem.mp hm with q | q
    · exact a2 m q hm1
    · rw [q.2.2] at hm1; cases hm1
  · rw [e1, e1, e9 zu, zv]
    have b1 := Hb1 x
    unfold gi_cur at hcu
    rw [z] at b1
    refine ⟨by omega, fun m hm hm1 => ?_⟩
    have h9 : own x (F 9 x) := by
      have q := hx.1
      rw [e9 zu] at q
      exact ((Hs6 x).2 q).1
    rcases gh_A_mem.mp hm with q | q
    · have := (Xl x (F 9 x) h9 m q hm1).2.2
      rw [z] at this
      omega
    · rw [q.2.2] at hm1; cases hm1
theorem mv_7 {v b : Nat} (H7 : gi_7 o F) (Hn : gh_Net own o w) (hcu : gi_cur F v) (hset : ∀ x, F 8 x = F 8 v → F 11 x = 1 ∧ F 0 x = 2) (hR9 : ∀ x, F 8 x = F 8 v → x = v ∨ x = o v b ∨ gi_NR o (gh_R F v b) x) (hK9 : ∀ e, own v e → mk v e = 1 → F 8 (o v e) = F 8 v → F 9 (o v e) = e ∨ e = b) (hph : F 13 (F 8 v) ≠ 3) (hnk : ∀ y e, own y e → F 8 y = F 8 v → ¬ gh_has 6 (c y e)) (hnc : ∀ y e, own y e → F 8 y = F 8 v → F 8 (o y e) = F 8 v → ¬ gh_has 0 (c y e)) (hnp : ∀ y e a m, own y e → F 8 y = F 8 v → m ∈ c y e → m.1 = 5 → gm_p own o w F mk c (o y e) y e a m → (mk y e = 1 ∧ F 0 y = 2 ∧ F 4 y = e ∧ m.2.1 < F 6 y ∧ F 9 y = e ∧ y ≠ v ∧ gh_R F v b 9 (o y e) ≠ e ∧ a = F 1 y ∧ (¬ gi_cur F y ∨ F 4 (o y e) ≠ gh_R F v b 9 (o y e)) ∧ 1 ≤ F 1 y)) (hob : own v b) (hph2 : F 13 (F 8 v) = 1 ∨ F 13 (F 8 v) = 2) (hg : F 8 v < 100) (h49 : F 4 v = F 9 v) (hz : F 9 (o v (F 9 v)) = F 9 v) (h9 : own v (F 9 v)) (hb1 : mk v b = 1) (hb9 : b ≠ F 9 v) (hyb : F 9 (o v b) = b ∧ F 8 (o v b) = F 8 v ∧ gi_cur F (o v b) ∧ F 4 (o v b) = b ∧ F 5 (o v b) ≠ 12)  : gi_7 o (gh_H (gh_R F v b) (F 8 v) 2 (o v b) b) := by
  have hRev : ∀ x, gi_NR o (gh_H (gh_R F v b) (F 8 v) 2 (o v b) b) x → (gi_NR o F x ∧ o x (F 9 x) ≠ v ∧ x ≠ v) ∨ (F 8 x = F 8 v ∧ x ≠ v ∧ o x (F 9 x) = v) := by
    intro x hx
    clear hnk hnc hnp hK9 hR9 hset
    dsimp only [gi_NR] at *
    simp (decide := true) only [gh_H, gh_R, gh_U, if_true, if_false, false_and, true_and] at *
    grind
  
  intro x hx
  have q1 := hset x
  have q2 := hset (o x (F 9 x))
  rcases hRev x hx with ⟨z, zu, zv⟩ | ⟨z, zu, zv⟩
  · obtain ⟨a1, a2, a3⟩ := H7 x z
    clear hnk hnc hnp hK9 hR9 hset H7 hRev hx Hn
    dsimp only [gi_NR, gi_cur] at *
    simp (decide := true) only [gh_H, gh_R, gh_U, if_true, if_false, false_and, true_and] at *
    grind
  · clear hnk hnc hnp hK9 hR9 hset H7 hRev hx Hn
    dsimp only [gi_NR, gi_cur] at *
    simp (decide := true) only [gh_H, gh_R, gh_U, if_true, if_false, false_and, true_and] at *
    grind
theorem mv_C {v b : Nat} (HC : gi_C own o F mk) (Hn : gh_Net own o w) (hcu : gi_cur F v) (hset : ∀ x, F 8 x = F 8 v → F 11 x = 1 ∧ F 0 x = 2) (hR9 : ∀ x, F 8 x = F 8 v → x = v ∨ x = o v b ∨ gi_NR o (gh_R F v b) x) (hK9 : ∀ e, own v e → mk v e = 1 → F 8 (o v e) = F 8 v → F 9 (o v e) = e ∨ e = b) (hph : F 13 (F 8 v) ≠ 3) (hnk : ∀ y e, own y e → F 8 y = F 8 v → ¬ gh_has 6 (c y e)) (hnc : ∀ y e, own y e → F 8 y = F 8 v → F 8 (o y e) = F 8 v → ¬ gh_has 0 (c y e)) (hnp : ∀ y e a m, own y e → F 8 y = F 8 v → m ∈ c y e → m.1 = 5 → gm_p own o w F mk c (o y e) y e a m → (mk y e = 1 ∧ F 0 y = 2 ∧ F 4 y = e ∧ m.2.1 < F 6 y ∧ F 9 y = e ∧ y ≠ v ∧ gh_R F v b 9 (o y e) ≠ e ∧ a = F 1 y ∧ (¬ gi_cur F y ∨ F 4 (o y e) ≠ gh_R F v b 9 (o y e)) ∧ 1 ≤ F 1 y)) (hob : own v b) (hph2 : F 13 (F 8 v) = 1 ∨ F 13 (F 8 v) = 2) (hg : F 8 v < 100) (h49 : F 4 v = F 9 v) (hz : F 9 (o v (F 9 v)) = F 9 v) (h9 : own v (F 9 v)) (hb1 : mk v b = 1) (hb9 : b ≠ F 9 v) (hyb : F 9 (o v b) = b ∧ F 8 (o v b) = F 8 v ∧ gi_cur F (o v b) ∧ F 4 (o v b) = b ∧ F 5 (o v b) ≠ 12)  : gi_C own o (gh_H (gh_R F v b) (F 8 v) 2 (o v b) b) mk := by
  have hNo : ∀ x, F 8 x ≠ F 8 v → gi_NR o F x → gi_NR o (gh_H (gh_R F v b) (F 8 v) 2 (o v b) b) x := by
    intro x hx1 hx
    clear hnk hnc hnp hK9 hR9 hset
    dsimp only [gi_NR] at *
    simp (decide := true) only [gh_H, gh_R, gh_U, if_true, if_false, false_and, true_and] at *
    grind
  have hNg : ∀ x, F 8 x = F 8 v → x ≠ v → x ≠ o v b → gi_NR o (gh_H (gh_R F v b) (F 8 v) 2 (o v b) b) x := by
    intro x hx1 hx2 hx3
    have hx := ((hR9 x hx1).resolve_left hx2).resolve_left hx3
    clear hnk hnc hnp hK9 hR9 hset
    dsimp only [gi_NR] at *
    simp (decide := true) only [gh_H, gh_R, gh_U, gh_R, if_true, if_false, false_and, true_and] at *
    grind
  
  intro x hx u e h1 h2
  have a0 := hNg x
  have a1 := HC x
  have a3 := hNo x
  have a4 := hset x
  clear hnk hnc hnp hK9 hR9 hset HC hNo hNg Hn
  dsimp only [gi_cur] at *
  simp (decide := true) only [gh_H, gh_R, gh_U, gh_K, gh_A_has, gh_A_cnt, gh_A_mem, false_and, true_and, and_false, or_false, if_false, if_true, and_true] at *
  grind (splits := 30)
theorem mv_M {v b : Nat} (HM : gi_M own o F) (Hn : gh_Net own o w) (hcu : gi_cur F v) (hset : ∀ x, F 8 x = F 8 v → F 11 x = 1 ∧ F 0 x = 2) (hR9 : ∀ x, F 8 x = F 8 v → x = v ∨ x = o v b ∨ gi_NR o (gh_R F v b) x) (hK9 : ∀ e, own v e → mk v e = 1 → F 8 (o v e) = F 8 v → F 9 (o v e) = e ∨ e = b) (hph : F 13 (F 8 v) ≠ 3) (hnk : ∀ y e, own y e → F 8 y = F 8 v → ¬ gh_has 6 (c y e)) (hnc : ∀ y e, own y e → F 8 y = F 8 v → F 8 (o y e) = F 8 v → ¬ gh_has 0 (c y e)) (hnp : ∀ y e a m, own y e → F 8 y = F 8 v → m ∈ c y e → m.1 = 5 → gm_p own o w F mk c (o y e) y e a m → (mk y e = 1 ∧ F 0 y = 2 ∧ F 4 y = e ∧ m.2.1 < F 6 y ∧ F 9 y = e ∧ y ≠ v ∧ gh_R F v b 9 (o y e) ≠ e ∧ a = F 1 y ∧ (¬ gi_cur F y ∨ F 4 (o y e) ≠ gh_R F v b 9 (o y e)) ∧ 1 ≤ F 1 y)) (hob : own v b) (hph2 : F 13 (F 8 v) = 1 ∨ F 13 (F 8 v) = 2) (hg : F 8 v < 100) (h49 : F 4 v = F 9 v) (hz : F 9 (o v (F 9 v)) = F 9 v) (h9 : own v (F 9 v)) (hb1 : mk v b = 1) (hb9 : b ≠ F 9 v) (hyb : F 9 (o v b) = b ∧ F 8 (o v b) = F 8 v ∧ gi_cur F (o v b) ∧ F 4 (o v b) = b ∧ F 5 (o v b) ≠ 12)  : gi_M own o (gh_H (gh_R F v b) (F 8 v) 2 (o v b) b) := by
  have hNo : ∀ x, F 8 x ≠ F 8 v → gi_NR o F x → gi_NR o (gh_H (gh_R F v b) (F 8 v) 2 (o v b) b) x := by
    intro x hx1 hx
    clear hnk hnc hnp hK9 hR9 hset
    dsimp only [gi_NR] at *
    simp (decide := true) only [gh_H, gh_R, gh_U, if_true, if_false, false_and, true_and] at *
    grind
  have hNg : ∀ x, F 8 x = F 8 v → x ≠ v → x ≠ o v b → gi_NR o (gh_H (gh_R F v b) (F 8 v) 2 (o v b) b) x := by
    intro x hx1 hx2 hx3
    have hx := ((hR9 x hx1).resolve_left hx2).resolve_left hx3
    clear hnk hnc hnp hK9 hR9 hset
    dsimp only [gi_NR] at *
    simp (decide := true) only [gh_H, gh_R, gh_U, gh_R, if_true, if_false, false_and, true_and] at *
    grind
  
  intro x hx y e z h1 h2 h3
  have a0 := hNg x
  have a1 := HM x
  have a3 := hNo x
  have a4 := hset x
  have a5 := Hn.1 v b hob
  clear hnk hnc hnp hK9 hR9 hset HM hNo hNg Hn
  dsimp only [gi_cur] at *
  simp (decide := true) only [gh_H, gh_R, gh_U, gh_K, gh_A_has, gh_A_cnt, gh_A_mem, false_and, true_and, and_false, or_false, if_false, if_true, and_true] at *
  grind (splits := 30)
theorem mv_an {v b : Nat} (Han : gi_an own o F mk c) (Hn : gh_Net own o w) (Hs2 : gi_s2 F) (HK : gi_K own o F mk c) (hcu : gi_cur F v) (hset : ∀ x, F 8 x = F 8 v → F 11 x = 1 ∧ F 0 x = 2) (hR9 : ∀ x, F 8 x = F 8 v → x = v ∨ x = o v b ∨ gi_NR o (gh_R F v b) x) (hK9 : ∀ e, own v e → mk v e = 1 → F 8 (o v e) = F 8 v → F 9 (o v e) = e ∨ e = b) (hph : F 13 (F 8 v) ≠ 3) (hnk : ∀ y e, own y e → F 8 y = F 8 v → ¬ gh_has 6 (c y e)) (hnc : ∀ y e, own y e → F 8 y = F 8 v → F 8 (o y e) = F 8 v → ¬ gh_has 0 (c y e)) (hnp : ∀ y e a m, own y e → F 8 y = F 8 v → m ∈ c y e → m.1 = 5 → gm_p own o w F mk c (o y e) y e a m → (mk y e = 1 ∧ F 0 y = 2 ∧ F 4 y = e ∧ m.2.1 < F 6 y ∧ F 9 y = e ∧ y ≠ v ∧ gh_R F v b 9 (o y e) ≠ e ∧ a = F 1 y ∧ (¬ gi_cur F y ∨ F 4 (o y e) ≠ gh_R F v b 9 (o y e)) ∧ 1 ≤ F 1 y)) (hob : own v b) (hph2 : F 13 (F 8 v) = 1 ∨ F 13 (F 8 v) = 2) (hg : F 8 v < 100) (h49 : F 4 v = F 9 v) (hz : F 9 (o v (F 9 v)) = F 9 v) (h9 : own v (F 9 v)) (hb1 : mk v b = 1) (hb9 : b ≠ F 9 v) (hyb : F 9 (o v b) = b ∧ F 8 (o v b) = F 8 v ∧ gi_cur F (o v b) ∧ F 4 (o v b) = b ∧ F 5 (o v b) ≠ 12)  : gi_an own o (gh_H (gh_R F v b) (F 8 v) 2 (o v b) b) mk (gh_A c (o v b) b (6, 0, 0, 0)) := by
  intro x hx
  have hx1 : F 0 x = 1 := by simp (decide := true) only [gh_H, gh_R, gh_U, if_true, if_false, false_and, true_and] at hx; grind
  have q1 := hset x
  have q2 := Hs2 x hx1
  obtain ⟨l, l1, l2, l3⟩ := Han x hx1
  refine ⟨l, l1, by simp (decide := true) only [gh_H, gh_R, gh_U, if_true, if_false, false_and, true_and]; exact l2, fun e => (l3 e).trans ?_⟩
  have a1 := HK x e (o x e)
  have a2 := Hn.1 x e
  clear hnk hnc hnp hK9 hR9 hset Han l3 Hn Hs2 HK
  dsimp only [gi_open, gi_cur] at *
  simp (decide := true) only [gh_H, gh_R, gh_U, gh_K, gh_A_has, gh_A_cnt, gh_A_mem, false_and, true_and, and_false, or_false, if_false, if_true, and_true] at *
  grind (splits := 30)
theorem mv_bc {v b : Nat} (Hbc : gi_bc o F mk c) (Hn : gh_Net own o w) (Hs2 : gi_s2 F) (How : gi_ow own F) (hcu : gi_cur F v) (hset : ∀ x, F 8 x = F 8 v → F 11 x = 1 ∧ F 0 x = 2) (hR9 : ∀ x, F 8 x = F 8 v → x = v ∨ x = o v b ∨ gi_NR o (gh_R F v b) x) (hK9 : ∀ e, own v e → mk v e = 1 → F 8 (o v e) = F 8 v → F 9 (o v e) = e ∨ e = b) (hph : F 13 (F 8 v) ≠ 3) (hnk : ∀ y e, own y e → F 8 y = F 8 v → ¬ gh_has 6 (c y e)) (hnc : ∀ y e, own y e → F 8 y = F 8 v → F 8 (o y e) = F 8 v → ¬ gh_has 0 (c y e)) (hnp : ∀ y e a m, own y e → F 8 y = F 8 v → m ∈ c y e → m.1 = 5 → gm_p own o w F mk c (o y e) y e a m → (mk y e = 1 ∧ F 0 y = 2 ∧ F 4 y = e ∧ m.2.1 < F 6 y ∧ F 9 y = e ∧ y ≠ v ∧ gh_R F v b 9 (o y e) ≠ e ∧ a = F 1 y ∧ (¬ gi_cur F y ∨ F 4 (o y e) ≠ gh_R F v b 9 (o y e)) ∧ 1 ≤ F 1 y)) (hob : own v b) (hph2 : F 13 (F 8 v) = 1 ∨ F 13 (F 8 v) = 2) (hg : F 8 v < 100) (h49 : F 4 v = F 9 v) (hz : F 9 (o v (F 9 v)) = F 9 v) (h9 : own v (F 9 v)) (hb1 : mk v b = 1) (hb9 : b ≠ F 9 v) (hyb : F 9 (o v b) = b ∧ F 8 (o v b) = F 8 v ∧ gi_cur F (o v b) ∧ F 4 (o v b) = b ∧ F 5 (o v b) ≠ 12)  : gi_bc o (gh_H (gh_R F v b) (F 8 v) 2 (o v b) b) mk (gh_A c (o v b) b (6, 0, 0, 0)) := by
  intro x b9 y hb9 hb1 hy hcu9 hph9 hw
  have b1 := Hbc x b9 y
  have b2 := Hn.1 v b hob
  have b4 := Hn.1 v (F 9 v)
  have b5 := (How x).1
  have b6 := Hn.1 x b9
  clear hnk hnc hnp hK9 hR9 hset Hbc Hn Hs2 How
  dsimp only [gi_cur] at *
  simp (decide := true) only [gh_H, gh_R, gh_U, gh_K, gh_A_has, gh_A_cnt, gh_A_mem, false_and, true_and, and_false, or_false, if_false, if_true, and_true] at *
  grind (splits := 30)
theorem mv_K {v b : Nat} (HK : gi_K own o F mk c) (Hn : gh_Net own o w) (hcu : gi_cur F v) (hset : ∀ x, F 8 x = F 8 v → F 11 x = 1 ∧ F 0 x = 2) (hR9 : ∀ x, F 8 x = F 8 v → x = v ∨ x = o v b ∨ gi_NR o (gh_R F v b) x) (hK9 : ∀ e, own v e → mk v e = 1 → F 8 (o v e) = F 8 v → F 9 (o v e) = e ∨ e = b) (hph : F 13 (F 8 v) ≠ 3) (hnk : ∀ y e, own y e → F 8 y = F 8 v → ¬ gh_has 6 (c y e)) (hnc : ∀ y e, own y e → F 8 y = F 8 v → F 8 (o y e) = F 8 v → ¬ gh_has 0 (c y e)) (hnp : ∀ y e a m, own y e → F 8 y = F 8 v → m ∈ c y e → m.1 = 5 → gm_p own o w F mk c (o y e) y e a m → (mk y e = 1 ∧ F 0 y = 2 ∧ F 4 y = e ∧ m.2.1 < F 6 y ∧ F 9 y = e ∧ y ≠ v ∧ gh_R F v b 9 (o y e) ≠ e ∧ a = F 1 y ∧ (¬ gi_cur F y ∨ F 4 (o y e) ≠ gh_R F v b 9 (o y e)) ∧ 1 ≤ F 1 y)) (hob : own v b) (hph2 : F 13 (F 8 v) = 1 ∨ F 13 (F 8 v) = 2) (hg : F 8 v < 100) (h49 : F 4 v = F 9 v) (hz : F 9 (o v (F 9 v)) = F 9 v) (h9 : own v (F 9 v)) (hb1 : mk v b = 1) (hb9 : b ≠ F 9 v) (hyb : F 9 (o v b) = b ∧ F 8 (o v b) = F 8 v ∧ gi_cur F (o v b) ∧ F 4 (o v b) = b ∧ F 5 (o v b) ≠ 12)  : gi_K own o (gh_H (gh_R F v b) (F 8 v) 2 (o v b) b) mk (gh_A c (o v b) b (6, 0, 0, 0)) := by
  intro x e y h1 h2 h3
  have b1 := HK x e y h1 h2
  have b5 := Hn.1 x e h1
  have b6 := hK9 e
  have b7 := Hn.1 v b hob
  have b8 := HK v e (o v e)
  clear hnk hnc hnp hK9 hR9 hset HK Hn
  dsimp only [gi_cur] at *
  simp (decide := true) only [gh_H, gh_R, gh_U, gh_K, gh_A_has, gh_A_cnt, gh_A_mem, false_and, true_and, and_false, or_false, if_false, if_true, and_true] at *
  grind (splits := 30)
theorem mv_tw {v b : Nat} (Htw : gi_tw own c) (Hn : gh_Net own o w) (Xk : gx_k own o w F mk c) (Xc : gx_c own o w F mk c) (hcu : gi_cur F v) (hset : ∀ x, F 8 x = F 8 v → F 11 x = 1 ∧ F 0 x = 2) (hR9 : ∀ x, F 8 x = F 8 v → x = v ∨ x = o v b ∨ gi_NR o (gh_R F v b) x) (hK9 : ∀ e, own v e → mk v e = 1 → F 8 (o v e) = F 8 v → F 9 (o v e) = e ∨ e = b) (hph : F 13 (F 8 v) ≠ 3) (hnk : ∀ y e, own y e → F 8 y = F 8 v → ¬ gh_has 6 (c y e)) (hnc : ∀ y e, own y e → F 8 y = F 8 v → F 8 (o y e) = F 8 v → ¬ gh_has 0 (c y e)) (hnp : ∀ y e a m, own y e → F 8 y = F 8 v → m ∈ c y e → m.1 = 5 → gm_p own o w F mk c (o y e) y e a m → (mk y e = 1 ∧ F 0 y = 2 ∧ F 4 y = e ∧ m.2.1 < F 6 y ∧ F 9 y = e ∧ y ≠ v ∧ gh_R F v b 9 (o y e) ≠ e ∧ a = F 1 y ∧ (¬ gi_cur F y ∨ F 4 (o y e) ≠ gh_R F v b 9 (o y e)) ∧ 1 ≤ F 1 y)) (hob : own v b) (hph2 : F 13 (F 8 v) = 1 ∨ F 13 (F 8 v) = 2) (hg : F 8 v < 100) (h49 : F 4 v = F 9 v) (hz : F 9 (o v (F 9 v)) = F 9 v) (h9 : own v (F 9 v)) (hb1 : mk v b = 1) (hb9 : b ≠ F 9 v) (hyb : F 9 (o v b) = b ∧ F 8 (o v b) = F 8 v ∧ gi_cur F (o v b) ∧ F 4 (o v b) = b ∧ F 5 (o v b) ≠ 12)  : gi_tw own (gh_A c (o v b) b (6, 0, 0, 0)) := by
  dsimp only [gi_tw, gx_k, gx_c, gi_cur, gi_NR, gi_wt, gi_open, gh_Net] at *
  try simp (decide := true) only [gh_H, gh_R, gh_U, gh_K, gh_A_has, gh_A_cnt, gh_A_mem, false_and, true_and, and_false, or_false, if_false, if_true, and_true]
  grind (splits := 25) [gh_cnt_0]
theorem mv_ts {v b : Nat} (Hts : gi_ts own o F c) (Hn : gh_Net own o w) (hcu : gi_cur F v) (hset : ∀ x, F 8 x = F 8 v → F 11 x = 1 ∧ F 0 x = 2) (hR9 : ∀ x, F 8 x = F 8 v → x = v ∨ x = o v b ∨ gi_NR o (gh_R F v b) x) (hK9 : ∀ e, own v e → mk v e = 1 → F 8 (o v e) = F 8 v → F 9 (o v e) = e ∨ e = b) (hph : F 13 (F 8 v) ≠ 3) (hnk : ∀ y e, own y e → F 8 y = F 8 v → ¬ gh_has 6 (c y e)) (hnc : ∀ y e, own y e → F 8 y = F 8 v → F 8 (o y e) = F 8 v → ¬ gh_has 0 (c y e)) (hnp : ∀ y e a m, own y e → F 8 y = F 8 v → m ∈ c y e → m.1 = 5 → gm_p own o w F mk c (o y e) y e a m → (mk y e = 1 ∧ F 0 y = 2 ∧ F 4 y = e ∧ m.2.1 < F 6 y ∧ F 9 y = e ∧ y ≠ v ∧ gh_R F v b 9 (o y e) ≠ e ∧ a = F 1 y ∧ (¬ gi_cur F y ∨ F 4 (o y e) ≠ gh_R F v b 9 (o y e)) ∧ 1 ≤ F 1 y)) (hob : own v b) (hph2 : F 13 (F 8 v) = 1 ∨ F 13 (F 8 v) = 2) (hg : F 8 v < 100) (h49 : F 4 v = F 9 v) (hz : F 9 (o v (F 9 v)) = F 9 v) (h9 : own v (F 9 v)) (hb1 : mk v b = 1) (hb9 : b ≠ F 9 v) (hyb : F 9 (o v b) = b ∧ F 8 (o v b) = F 8 v ∧ gi_cur F (o v b) ∧ F 4 (o v b) = b ∧ F 5 (o v b) ≠ 12)  : gi_ts own o (gh_H (gh_R F v b) (F 8 v) 2 (o v b) b) (gh_A c (o v b) b (6, 0, 0, 0)) := by
  clear hnk hnc hnp hK9 hR9
  dsimp only [gi_ts, gi_cur, gi_NR, gi_wt, gi_open, gh_Net] at *
  try simp (decide := true) only [gh_H, gh_R, gh_U, gh_K, gh_A_has, gh_A_cnt, gh_A_mem, false_and, true_and, and_false, or_false, if_false, if_true, and_true]
  grind (splits := 25)
theorem mv_rj {v b : Nat} (Hrj : gi_rj own o F mk) (Hn : gh_Net own o w) (hcu : gi_cur F v) (hset : ∀ x, F 8 x = F 8 v → F 11 x = 1 ∧ F 0 x = 2) (hR9 : ∀ x, F 8 x = F 8 v → x = v ∨ x = o v b ∨ gi_NR o (gh_R F v b) x) (hK9 : ∀ e, own v e → mk v e = 1 → F 8 (o v e) = F 8 v → F 9 (o v e) = e ∨ e = b) (hph : F 13 (F 8 v) ≠ 3) (hnk : ∀ y e, own y e → F 8 y = F 8 v → ¬ gh_has 6 (c y e)) (hnc : ∀ y e, own y e → F 8 y = F 8 v → F 8 (o y e) = F 8 v → ¬ gh_has 0 (c y e)) (hnp : ∀ y e a m, own y e → F 8 y = F 8 v → m ∈ c y e → m.1 = 5 → gm_p own o w F mk c (o y e) y e a m → (mk y e = 1 ∧ F 0 y = 2 ∧ F 4 y = e ∧ m.2.1 < F 6 y ∧ F 9 y = e ∧ y ≠ v ∧ gh_R F v b 9 (o y e) ≠ e ∧ a = F 1 y ∧ (¬ gi_cur F y ∨ F 4 (o y e) ≠ gh_R F v b 9 (o y e)) ∧ 1 ≤ F 1 y)) (hob : own v b) (hph2 : F 13 (F 8 v) = 1 ∨ F 13 (F 8 v) = 2) (hg : F 8 v < 100) (h49 : F 4 v = F 9 v) (hz : F 9 (o v (F 9 v)) = F 9 v) (h9 : own v (F 9 v)) (hb1 : mk v b = 1) (hb9 : b ≠ F 9 v) (hyb : F 9 (o v b) = b ∧ F 8 (o v b) = F 8 v ∧ gi_cur F (o v b) ∧ F 4 (o v b) = b ∧ F 5 (o v b) ≠ 12)  : gi_rj own o (gh_H (gh_R F v b) (F 8 v) 2 (o v b) b) mk := by
  clear hnk hnc hnp hK9 hR9
  dsimp only [gi_rj, gi_cur, gi_NR, gi_wt, gi_open, gh_Net] at *
  try simp (decide := true) only [gh_H, gh_R, gh_U, gh_K, gh_A_has, gh_A_cnt, gh_A_mem, false_and, true_and, and_false, or_false, if_false, if_true, and_true]
  grind (splits := 25)
theorem mv_mi {v b : Nat} (Hn : gh_Net own o w) (hcu : gi_cur F v) (hset : ∀ x, F 8 x = F 8 v → F 11 x = 1 ∧ F 0 x = 2) (hR9 : ∀ x, F 8 x = F 8 v → x = v ∨ x = o v b ∨ gi_NR o (gh_R F v b) x) (hK9 : ∀ e, own v e → mk v e = 1 → F 8 (o v e) = F 8 v → F 9 (o v e) = e ∨ e = b) (hph : F 13 (F 8 v) ≠ 3) (hnk : ∀ y e, own y e → F 8 y = F 8 v → ¬ gh_has 6 (c y e)) (hnc : ∀ y e, own y e → F 8 y = F 8 v → F 8 (o y e) = F 8 v → ¬ gh_has 0 (c y e)) (hnp : ∀ y e a m, own y e → F 8 y = F 8 v → m ∈ c y e → m.1 = 5 → gm_p own o w F mk c (o y e) y e a m → (mk y e = 1 ∧ F 0 y = 2 ∧ F 4 y = e ∧ m.2.1 < F 6 y ∧ F 9 y = e ∧ y ≠ v ∧ gh_R F v b 9 (o y e) ≠ e ∧ a = F 1 y ∧ (¬ gi_cur F y ∨ F 4 (o y e) ≠ gh_R F v b 9 (o y e)) ∧ 1 ≤ F 1 y)) (hob : own v b) (hph2 : F 13 (F 8 v) = 1 ∨ F 13 (F 8 v) = 2) (hg : F 8 v < 100) (h49 : F 4 v = F 9 v) (hz : F 9 (o v (F 9 v)) = F 9 v) (h9 : own v (F 9 v)) (hb1 : mk v b = 1) (hb9 : b ≠ F 9 v) (hyb : F 9 (o v b) = b ∧ F 8 (o v b) = F 8 v ∧ gi_cur F (o v b) ∧ F 4 (o v b) = b ∧ F 5 (o v b) ≠ 12)  {x y e a : Nat} {m : gh_M} (hx : o y e = x) (hy : own y e) (hm : m ∈ c y e) (ha : F 1 y ≤ a) (hb : ¬ gh_has 1 (c y e) → a = F 1 y)  (h : gm_i own o w F mk c x y e a m) : gm_i own o w (gh_H (gh_R F v b) (F 8 v) 2 (o v b) b) mk (gh_A c (o v b) b (6, 0, 0, 0)) x y e a m := by
  have hh : ∀ k, m.1 = k → gh_has k (c y e) := fun k hk => ⟨m, hm, hk⟩
  intro hm1
  have h := h hm1
  have q1 := hset y
  obtain ⟨h1, h2, h3, h4, h5, h6, h7, h8, h9', h10, h11⟩ := h
  refine ⟨h1, h2, ?_, ?_, ?_, ?_, h7, h8, ?_, ?_, h11⟩
  all_goals
    clear hnk hnc hnp hK9 hR9 hset Hn hh h11
    (try dsimp only [gi_cur, gi_NR] at *)
    (try simp (decide := true) only [gh_H, gh_R, gh_U, gh_K, gh_A_has, gh_A_cnt, gh_A_mem, false_and, true_and, and_false, or_false, if_false, if_true, and_true] at *)
    grind (splits := 30)
theorem mv_mc {v b : Nat} (Hn : gh_Net own o w) (hcu : gi_cur F v) (hset : ∀ x, F 8 x = F 8 v → F 11 x = 1 ∧ F 0 x = 2) (hR9 : ∀ x, F 8 x = F 8 v → x = v ∨ x = o v b ∨ gi_NR o (gh_R F v b) x) (hK9 : ∀ e, own v e → mk v e = 1 → F 8 (o v e) = F 8 v → F 9 (o v e) = e ∨ e = b) (hph : F 13 (F 8 v) ≠ 3) (hnk : ∀ y e, own y e → F 8 y = F 8 v → ¬ gh_has 6 (c y e)) (hnc : ∀ y e, own y e → F 8 y = F 8 v → F 8 (o y e) = F 8 v → ¬ gh_has 0 (c y e)) (hnp : ∀ y e a m, own y e → F 8 y = F 8 v → m ∈ c y e → m.1 = 5 → gm_p own o w F mk c (o y e) y e a m → (mk y e = 1 ∧ F 0 y = 2 ∧ F 4 y = e ∧ m.2.1 < F 6 y ∧ F 9 y = e ∧ y ≠ v ∧ gh_R F v b 9 (o y e) ≠ e ∧ a = F 1 y ∧ (¬ gi_cur F y ∨ F 4 (o y e) ≠ gh_R F v b 9 (o y e)) ∧ 1 ≤ F 1 y)) (hob : own v b) (hph2 : F 13 (F 8 v) = 1 ∨ F 13 (F 8 v) = 2) (hg : F 8 v < 100) (h49 : F 4 v = F 9 v) (hz : F 9 (o v (F 9 v)) = F 9 v) (h9 : own v (F 9 v)) (hb1 : mk v b = 1) (hb9 : b ≠ F 9 v) (hyb : F 9 (o v b) = b ∧ F 8 (o v b) = F 8 v ∧ gi_cur F (o v b) ∧ F 4 (o v b) = b ∧ F 5 (o v b) ≠ 12)  {x y e a : Nat} {m : gh_M} (hx : o y e = x) (hy : own y e) (hm : m ∈ c y e) (ha : F 1 y ≤ a) (hb : ¬ gh_has 1 (c y e) → a = F 1 y)  (h : gm_c own o w F mk c x y e a m) : gm_c own o w (gh_H (gh_R F v b) (F 8 v) 2 (o v b) b) mk (gh_A c (o v b) b (6, 0, 0, 0)) x y e a m := by
  have hh : ∀ k, m.1 = k → gh_has k (c y e) := fun k hk => ⟨m, hm, hk⟩
  intro hm1
  have h := h hm1
  have q1 := hnc y e hy
  have q2 := hh 0 hm1
  clear hnk hnc hnp hK9 hR9 hset Hn hh
  dsimp only [gi_cur] at *
  simp (decide := true) only [gh_H, gh_R, gh_U, gh_K, gh_A_has, gh_A_cnt, gh_A_mem, false_and, true_and, and_false, or_false, if_false, if_true, and_true] at *
  grind (splits := 30)
theorem mv_mt {v b : Nat} (Hn : gh_Net own o w) (hcu : gi_cur F v) (hset : ∀ x, F 8 x = F 8 v → F 11 x = 1 ∧ F 0 x = 2) (hR9 : ∀ x, F 8 x = F 8 v → x = v ∨ x = o v b ∨ gi_NR o (gh_R F v b) x) (hK9 : ∀ e, own v e → mk v e = 1 → F 8 (o v e) = F 8 v → F 9 (o v e) = e ∨ e = b) (hph : F 13 (F 8 v) ≠ 3) (hnk : ∀ y e, own y e → F 8 y = F 8 v → ¬ gh_has 6 (c y e)) (hnc : ∀ y e, own y e → F 8 y = F 8 v → F 8 (o y e) = F 8 v → ¬ gh_has 0 (c y e)) (hnp : ∀ y e a m, own y e → F 8 y = F 8 v → m ∈ c y e → m.1 = 5 → gm_p own o w F mk c (o y e) y e a m → (mk y e = 1 ∧ F 0 y = 2 ∧ F 4 y = e ∧ m.2.1 < F 6 y ∧ F 9 y = e ∧ y ≠ v ∧ gh_R F v b 9 (o y e) ≠ e ∧ a = F 1 y ∧ (¬ gi_cur F y ∨ F 4 (o y e) ≠ gh_R F v b 9 (o y e)) ∧ 1 ≤ F 1 y)) (hob : own v b) (hph2 : F 13 (F 8 v) = 1 ∨ F 13 (F 8 v) = 2) (hg : F 8 v < 100) (h49 : F 4 v = F 9 v) (hz : F 9 (o v (F 9 v)) = F 9 v) (h9 : own v (F 9 v)) (hb1 : mk v b = 1) (hb9 : b ≠ F 9 v) (hyb : F 9 (o v b) = b ∧ F 8 (o v b) = F 8 v ∧ gi_cur F (o v b) ∧ F 4 (o v b) = b ∧ F 5 (o v b) ≠ 12)  {x y e a : Nat} {m : gh_M} (hx : o y e = x) (hy : own y e) (hm : m ∈ c y e) (ha : F 1 y ≤ a) (hb : ¬ gh_has 1 (c y e) → a = F 1 y)  (h : gm_t own o w F mk c x y e a m) : gm_t own o w (gh_H (gh_R F v b) (F 8 v) 2 (o v b) b) mk (gh_A c (o v b) b (6, 0, 0, 0)) x y e a m := by
  have hh : ∀ k, m.1 = k → gh_has k (c y e) := fun k hk => ⟨m, hm, hk⟩
  clear hnk hnc hnp hK9 hR9
  dsimp only [gm_t, gi_cur, gi_NR, gi_wt, gi_open, gh_Net] at *
  try simp (decide := true) only [gh_H, gh_R, gh_U, gh_K, gh_A_has, gh_A_cnt, gh_A_mem, false_and, true_and, and_false, or_false, if_false, if_true, and_true]
  grind (splits := 25)
theorem mv_ma {v b : Nat} (Hn : gh_Net own o w) (hcu : gi_cur F v) (hset : ∀ x, F 8 x = F 8 v → F 11 x = 1 ∧ F 0 x = 2) (hR9 : ∀ x, F 8 x = F 8 v → x = v ∨ x = o v b ∨ gi_NR o (gh_R F v b) x) (hK9 : ∀ e, own v e → mk v e = 1 → F 8 (o v e) = F 8 v → F 9 (o v e) = e ∨ e = b) (hph : F 13 (F 8 v) ≠ 3) (hnk : ∀ y e, own y e → F 8 y = F 8 v → ¬ gh_has 6 (c y e)) (hnc : ∀ y e, own y e → F 8 y = F 8 v → F 8 (o y e) = F 8 v → ¬ gh_has 0 (c y e)) (hnp : ∀ y e a m, own y e → F 8 y = F 8 v → m ∈ c y e → m.1 = 5 → gm_p own o w F mk c (o y e) y e a m → (mk y e = 1 ∧ F 0 y = 2 ∧ F 4 y = e ∧ m.2.1 < F 6 y ∧ F 9 y = e ∧ y ≠ v ∧ gh_R F v b 9 (o y e) ≠ e ∧ a = F 1 y ∧ (¬ gi_cur F y ∨ F 4 (o y e) ≠ gh_R F v b 9 (o y e)) ∧ 1 ≤ F 1 y)) (hob : own v b) (hph2 : F 13 (F 8 v) = 1 ∨ F 13 (F 8 v) = 2) (hg : F 8 v < 100) (h49 : F 4 v = F 9 v) (hz : F 9 (o v (F 9 v)) = F 9 v) (h9 : own v (F 9 v)) (hb1 : mk v b = 1) (hb9 : b ≠ F 9 v) (hyb : F 9 (o v b) = b ∧ F 8 (o v b) = F 8 v ∧ gi_cur F (o v b) ∧ F 4 (o v b) = b ∧ F 5 (o v b) ≠ 12)  {x y e a : Nat} {m : gh_M} (hx : o y e = x) (hy : own y e) (hm : m ∈ c y e) (ha : F 1 y ≤ a) (hb : ¬ gh_has 1 (c y e) → a = F 1 y)  (h : gm_a own o w F mk c x y e a m) : gm_a own o w (gh_H (gh_R F v b) (F 8 v) 2 (o v b) b) mk (gh_A c (o v b) b (6, 0, 0, 0)) x y e a m := by
  have hh : ∀ k, m.1 = k → gh_has k (c y e) := fun k hk => ⟨m, hm, hk⟩
  clear hnk hnc hnp hK9 hR9
  dsimp only [gm_a, gi_cur, gi_NR, gi_wt, gi_open, gh_Net] at *
  try simp (decide := true) only [gh_H, gh_R, gh_U, gh_K, gh_A_has, gh_A_cnt, gh_A_mem, false_and, true_and, and_false, or_false, if_false, if_true, and_true]
  grind (splits := 25)
theorem mv_mr {v b : Nat} (Hn : gh_Net own o w) (hcu : gi_cur F v) (hset : ∀ x, F 8 x = F 8 v → F 11 x = 1 ∧ F 0 x = 2) (hR9 : ∀ x, F 8 x = F 8 v → x = v ∨ x = o v b ∨ gi_NR o (gh_R F v b) x) (hK9 : ∀ e, own v e → mk v e = 1 → F 8 (o v e) = F 8 v → F 9 (o v e) = e ∨ e = b) (hph : F 13 (F 8 v) ≠ 3) (hnk : ∀ y e, own y e → F 8 y = F 8 v → ¬ gh_has 6 (c y e)) (hnc : ∀ y e, own y e → F 8 y = F 8 v → F 8 (o y e) = F 8 v → ¬ gh_has 0 (c y e)) (hnp : ∀ y e a m, own y e → F 8 y = F 8 v → m ∈ c y e → m.1 = 5 → gm_p own o w F mk c (o y e) y e a m → (mk y e = 1 ∧ F 0 y = 2 ∧ F 4 y = e ∧ m.2.1 < F 6 y ∧ F 9 y = e ∧ y ≠ v ∧ gh_R F v b 9 (o y e) ≠ e ∧ a = F 1 y ∧ (¬ gi_cur F y ∨ F 4 (o y e) ≠ gh_R F v b 9 (o y e)) ∧ 1 ≤ F 1 y)) (hob : own v b) (hph2 : F 13 (F 8 v) = 1 ∨ F 13 (F 8 v) = 2) (hg : F 8 v < 100) (h49 : F 4 v = F 9 v) (hz : F 9 (o v (F 9 v)) = F 9 v) (h9 : own v (F 9 v)) (hb1 : mk v b = 1) (hb9 : b ≠ F 9 v) (hyb : F 9 (o v b) = b ∧ F 8 (o v b) = F 8 v ∧ gi_cur F (o v b) ∧ F 4 (o v b) = b ∧ F 5 (o v b) ≠ 12)  {x y e a : Nat} {m : gh_M} (hx : o y e = x) (hy : own y e) (hm : m ∈ c y e) (ha : F 1 y ≤ a) (hb : ¬ gh_has 1 (c y e) → a = F 1 y)  (h : gm_r own o w F mk c x y e a m) : gm_r own o w (gh_H (gh_R F v b) (F 8 v) 2 (o v b) b) mk (gh_A c (o v b) b (6, 0, 0, 0)) x y e a m := by
  have hh : ∀ k, m.1 = k → gh_has k (c y e) := fun k hk => ⟨m, hm, hk⟩
  clear hnk hnc hnp hK9 hR9
  dsimp only [gm_r, gi_cur, gi_NR, gi_wt, gi_open, gh_Net] at *
  try simp (decide := true) only [gh_H, gh_R, gh_U, gh_K, gh_A_has, gh_A_cnt, gh_A_mem, false_and, true_and, and_false, or_false, if_false, if_true, and_true]
  grind (splits := 25)
theorem mv_mk {v b : Nat} (Hn : gh_Net own o w) (hcu : gi_cur F v) (hset : ∀ x, F 8 x = F 8 v → F 11 x = 1 ∧ F 0 x = 2) (hR9 : ∀ x, F 8 x = F 8 v → x = v ∨ x = o v b ∨ gi_NR o (gh_R F v b) x) (hK9 : ∀ e, own v e → mk v e = 1 → F 8 (o v e) = F 8 v → F 9 (o v e) = e ∨ e = b) (hph : F 13 (F 8 v) ≠ 3) (hnk : ∀ y e, own y e → F 8 y = F 8 v → ¬ gh_has 6 (c y e)) (hnc : ∀ y e, own y e → F 8 y = F 8 v → F 8 (o y e) = F 8 v → ¬ gh_has 0 (c y e)) (hnp : ∀ y e a m, own y e → F 8 y = F 8 v → m ∈ c y e → m.1 = 5 → gm_p own o w F mk c (o y e) y e a m → (mk y e = 1 ∧ F 0 y = 2 ∧ F 4 y = e ∧ m.2.1 < F 6 y ∧ F 9 y = e ∧ y ≠ v ∧ gh_R F v b 9 (o y e) ≠ e ∧ a = F 1 y ∧ (¬ gi_cur F y ∨ F 4 (o y e) ≠ gh_R F v b 9 (o y e)) ∧ 1 ≤ F 1 y)) (hob : own v b) (hph2 : F 13 (F 8 v) = 1 ∨ F 13 (F 8 v) = 2) (hg : F 8 v < 100) (h49 : F 4 v = F 9 v) (hz : F 9 (o v (F 9 v)) = F 9 v) (h9 : own v (F 9 v)) (hb1 : mk v b = 1) (hb9 : b ≠ F 9 v) (hyb : F 9 (o v b) = b ∧ F 8 (o v b) = F 8 v ∧ gi_cur F (o v b) ∧ F 4 (o v b) = b ∧ F 5 (o v b) ≠ 12)  {x y e a : Nat} {m : gh_M} (hx : o y e = x) (hy : own y e) (hm : m ∈ c y e) (ha : F 1 y ≤ a) (hb : ¬ gh_has 1 (c y e) → a = F 1 y)  (h : gm_k own o w F mk c x y e a m) : gm_k own o w (gh_H (gh_R F v b) (F 8 v) 2 (o v b) b) mk (gh_A c (o v b) b (6, 0, 0, 0)) x y e a m := by
  have hh : ∀ k, m.1 = k → gh_has k (c y e) := fun k hk => ⟨m, hm, hk⟩
  intro hm1
  have h := h hm1
  have q1 := hnk y e hy
  have q2 := hh 6 hm1
  clear hnk hnc hnp hK9 hR9 hset hh
  dsimp only [gm_k, gi_cur, gi_NR, gi_wt, gi_open, gh_Net] at *
  try simp (decide := true) only [gh_H, gh_R, gh_U, gh_K, gh_A_has, gh_A_cnt, gh_A_mem, false_and, true_and, and_false, or_false, if_false, if_true, and_true]
  grind (splits := 25)
theorem mv_mp {v b : Nat} (Hn : gh_Net own o w) (hcu : gi_cur F v) (hset : ∀ x, F 8 x = F 8 v → F 11 x = 1 ∧ F 0 x = 2) (hR9 : ∀ x, F 8 x = F 8 v → x = v ∨ x = o v b ∨ gi_NR o (gh_R F v b) x) (hK9 : ∀ e, own v e → mk v e = 1 → F 8 (o v e) = F 8 v → F 9 (o v e) = e ∨ e = b) (hph : F 13 (F 8 v) ≠ 3) (hnk : ∀ y e, own y e → F 8 y = F 8 v → ¬ gh_has 6 (c y e)) (hnc : ∀ y e, own y e → F 8 y = F 8 v → F 8 (o y e) = F 8 v → ¬ gh_has 0 (c y e)) (hnp : ∀ y e a m, own y e → F 8 y = F 8 v → m ∈ c y e → m.1 = 5 → gm_p own o w F mk c (o y e) y e a m → (mk y e = 1 ∧ F 0 y = 2 ∧ F 4 y = e ∧ m.2.1 < F 6 y ∧ F 9 y = e ∧ y ≠ v ∧ gh_R F v b 9 (o y e) ≠ e ∧ a = F 1 y ∧ (¬ gi_cur F y ∨ F 4 (o y e) ≠ gh_R F v b 9 (o y e)) ∧ 1 ≤ F 1 y)) (hob : own v b) (hph2 : F 13 (F 8 v) = 1 ∨ F 13 (F 8 v) = 2) (hg : F 8 v < 100) (h49 : F 4 v = F 9 v) (hz : F 9 (o v (F 9 v)) = F 9 v) (h9 : own v (F 9 v)) (hb1 : mk v b = 1) (hb9 : b ≠ F 9 v) (hyb : F 9 (o v b) = b ∧ F 8 (o v b) = F 8 v ∧ gi_cur F (o v b) ∧ F 4 (o v b) = b ∧ F 5 (o v b) ≠ 12)  {x y e a : Nat} {m : gh_M} (hx : o y e = x) (hy : own y e) (hm : m ∈ c y e) (ha : F 1 y ≤ a) (hb : ¬ gh_has 1 (c y e) → a = F 1 y)  (h : gm_p own o w F mk c x y e a m) : gm_p own o w (gh_H (gh_R F v b) (F 8 v) 2 (o v b) b) mk (gh_A c (o v b) b (6, 0, 0, 0)) x y e a m := by
  have hh : ∀ k, m.1 = k → gh_has k (c y e) := fun k hk => ⟨m, hm, hk⟩
  intro hm1
  have q1 := hnp y e a m hy
  rw [hx] at q1
  have q2 := fun z => q1 z hm hm1 h
  have h := h hm1
  have b2 := Hn.1 y e hy
  clear hnk hnc hnp hK9 hR9 hset hh q1 Hn
  dsimp only [gi_cur] at *
  simp (decide := true) only [gh_H, gh_R, gh_R, gh_U, gh_K, if_true, if_false, false_and, true_and] at *
  grind (splits := 30)
theorem mv_new {v b : Nat} (Hn : gh_Net own o w) (hcu : gi_cur F v) (hset : ∀ x, F 8 x = F 8 v → F 11 x = 1 ∧ F 0 x = 2) (hR9 : ∀ x, F 8 x = F 8 v → x = v ∨ x = o v b ∨ gi_NR o (gh_R F v b) x) (hK9 : ∀ e, own v e → mk v e = 1 → F 8 (o v e) = F 8 v → F 9 (o v e) = e ∨ e = b) (hph : F 13 (F 8 v) ≠ 3) (hnk : ∀ y e, own y e → F 8 y = F 8 v → ¬ gh_has 6 (c y e)) (hnc : ∀ y e, own y e → F 8 y = F 8 v → F 8 (o y e) = F 8 v → ¬ gh_has 0 (c y e)) (hnp : ∀ y e a m, own y e → F 8 y = F 8 v → m ∈ c y e → m.1 = 5 → gm_p own o w F mk c (o y e) y e a m → (mk y e = 1 ∧ F 0 y = 2 ∧ F 4 y = e ∧ m.2.1 < F 6 y ∧ F 9 y = e ∧ y ≠ v ∧ gh_R F v b 9 (o y e) ≠ e ∧ a = F 1 y ∧ (¬ gi_cur F y ∨ F 4 (o y e) ≠ gh_R F v b 9 (o y e)) ∧ 1 ≤ F 1 y)) (hob : own v b) (hph2 : F 13 (F 8 v) = 1 ∨ F 13 (F 8 v) = 2) (hg : F 8 v < 100) (h49 : F 4 v = F 9 v) (hz : F 9 (o v (F 9 v)) = F 9 v) (h9 : own v (F 9 v)) (hb1 : mk v b = 1) (hb9 : b ≠ F 9 v) (hyb : F 9 (o v b) = b ∧ F 8 (o v b) = F 8 v ∧ gi_cur F (o v b) ∧ F 4 (o v b) = b ∧ F 5 (o v b) ≠ 12)   : gm_k own o w (gh_H (gh_R F v b) (F 8 v) 2 (o v b) b) mk (gh_A c (o v b) b (6, 0, 0, 0)) (o (o v b) (b)) (o v b) (b) (gh_last (F 1 (o v b)) (c (o v b) b)) (6, 0, 0, 0) := by
  intro _
  simp (decide := true) [gh_H, gh_R, hyb.2.1]
theorem mv_I {v b : Nat} (Hn : gh_Net own o w) (h : gI own o w F mk c) (hcu : gi_cur F v) (hset : ∀ x, F 8 x = F 8 v → F 11 x = 1 ∧ F 0 x = 2) (hR9 : ∀ x, F 8 x = F 8 v → x = v ∨ x = o v b ∨ gi_NR o (gh_R F v b) x) (hK9 : ∀ e, own v e → mk v e = 1 → F 8 (o v e) = F 8 v → F 9 (o v e) = e ∨ e = b) (hph : F 13 (F 8 v) ≠ 3) (hnk : ∀ y e, own y e → F 8 y = F 8 v → ¬ gh_has 6 (c y e)) (hnc : ∀ y e, own y e → F 8 y = F 8 v → F 8 (o y e) = F 8 v → ¬ gh_has 0 (c y e)) (hnp : ∀ y e a m, own y e → F 8 y = F 8 v → m ∈ c y e → m.1 = 5 → gm_p own o w F mk c (o y e) y e a m → (mk y e = 1 ∧ F 0 y = 2 ∧ F 4 y = e ∧ m.2.1 < F 6 y ∧ F 9 y = e ∧ y ≠ v ∧ gh_R F v b 9 (o y e) ≠ e ∧ a = F 1 y ∧ (¬ gi_cur F y ∨ F 4 (o y e) ≠ gh_R F v b 9 (o y e)) ∧ 1 ≤ F 1 y)) (hob : own v b) (hph2 : F 13 (F 8 v) = 1 ∨ F 13 (F 8 v) = 2) (hg : F 8 v < 100) (h49 : F 4 v = F 9 v) (hz : F 9 (o v (F 9 v)) = F 9 v) (h9 : own v (F 9 v)) (hb1 : mk v b = 1) (hb9 : b ≠ F 9 v) (hyb : F 9 (o v b) = b ∧ F 8 (o v b) = F 8 v ∧ gi_cur F (o v b) ∧ F 4 (o v b) = b ∧ F 5 (o v b) ≠ 12)  : gI own o w (gh_H (gh_R F v b) (F 8 v) 2 (o v b) b) mk (gh_A c (o v b) b (6, 0, 0, 0)) := by
  obtain ⟨Hst, Hb1, Hb2, Hb3, Hb4, Hb5, Hb6, Hs0, HpA, Hs1, Hs2, HSl, Hs3, Hs4, How, Hs5, Hs6, HSr, HSn, HM, HC, Hph, H6, H7, Hbc, HK, Hrj, Htw, Hts, Han, Hsz, Hch⟩ := h
  have Xi := gx_iI Hch
  have Xc := gx_cI Hch
  have Xt := gx_tI Hch
  have Xa := gx_aI Hch
  have Xr := gx_rI Hch
  have Xk := gx_kI Hch
  have Xp := gx_pI Hch
  have Xl := gx_lI Hch
  have Xb := gx_bI Hch
  have Xn := gx_nI Hn Hph HpA HSr HSn HM HC
  refine ⟨mv_st Hst hcu hset hR9 hK9 hph hnk hnc hnp hob hph2 hg h49 hz h9 hb1 hb9 hyb, mv_b1 Hb1 hcu hset hR9 hK9 hph hnk hnc hnp hob hph2 hg h49 hz h9 hb1 hb9 hyb, mv_b2 Hb2 hcu hset hR9 hK9 hph hnk hnc hnp hob hph2 hg h49 hz h9 hb1 hb9 hyb, mv_b3 Hb3 hcu hset hR9 hK9 hph hnk hnc hnp hob hph2 hg h49 hz h9 hb1 hb9 hyb, mv_b4 Hb4 hcu hset hR9 hK9 hph hnk hnc hnp hob hph2 hg h49 hz h9 hb1 hb9 hyb, mv_b5 Hb5 hcu hset hR9 hK9 hph hnk hnc hnp hob hph2 hg h49 hz h9 hb1 hb9 hyb, mv_b6 Hb6 hcu hset hR9 hK9 hph hnk hnc hnp hob hph2 hg h49 hz h9 hb1 hb9 hyb, mv_s0 Hs0 HpA hcu hset hR9 hK9 hph hnk hnc hnp hob hph2 hg h49 hz h9 hb1 hb9 hyb, mv_pA HpA Hn hcu hset hR9 hK9 hph hnk hnc hnp hob hph2 hg h49 hz h9 hb1 hb9 hyb, mv_s1 Hs1 Hn hcu hset hR9 hK9 hph hnk hnc hnp hob hph2 hg h49 hz h9 hb1 hb9 hyb, mv_s2 Hs2 Hn hcu hset hR9 hK9 hph hnk hnc hnp hob hph2 hg h49 hz h9 hb1 hb9 hyb, mv_Sl HSl Hn hcu hset hR9 hK9 hph hnk hnc hnp hob hph2 hg h49 hz h9 hb1 hb9 hyb, mv_s3 Hs3 Hn hcu hset hR9 hK9 hph hnk hnc hnp hob hph2 hg h49 hz h9 hb1 hb9 hyb, mv_s4 Hs4 Hn hcu hset hR9 hK9 hph hnk hnc hnp hob hph2 hg h49 hz h9 hb1 hb9 hyb, mv_ow How Hn hcu hset hR9 hK9 hph hnk hnc hnp hob hph2 hg h49 hz h9 hb1 hb9 hyb, mv_s5 Hs5 Hn hcu hset hR9 hK9 hph hnk hnc hnp hob hph2 hg h49 hz h9 hb1 hb9 hyb, mv_s6 Hs6 Hn hcu hset hR9 hK9 hph hnk hnc hnp hob hph2 hg h49 hz h9 hb1 hb9 hyb, mv_Sr HSr Hn HSl Hs6 hcu hset hR9 hK9 hph hnk hnc hnp hob hph2 hg h49 hz h9 hb1 hb9 hyb, mv_Sn HSn Hn hcu hset hR9 hK9 hph hnk hnc hnp hob hph2 hg h49 hz h9 hb1 hb9 hyb, mv_M HM Hn hcu hset hR9 hK9 hph hnk hnc hnp hob hph2 hg h49 hz h9 hb1 hb9 hyb, mv_C HC Hn hcu hset hR9 hK9 hph hnk hnc hnp hob hph2 hg h49 hz h9 hb1 hb9 hyb, mv_ph Hph Hn hcu hset hR9 hK9 hph hnk hnc hnp hob hph2 hg h49 hz h9 hb1 hb9 hyb, mv_6 H6 Hn Hb1 Hs6 Xl hcu hset hR9 hK9 hph hnk hnc hnp hob hph2 hg h49 hz h9 hb1 hb9 hyb, mv_7 H7 Hn hcu hset hR9 hK9 hph hnk hnc hnp hob hph2 hg h49 hz h9 hb1 hb9 hyb, mv_bc Hbc Hn Hs2 How hcu hset hR9 hK9 hph hnk hnc hnp hob hph2 hg h49 hz h9 hb1 hb9 hyb, mv_K HK Hn hcu hset hR9 hK9 hph hnk hnc hnp hob hph2 hg h49 hz h9 hb1 hb9 hyb, mv_rj Hrj Hn hcu hset hR9 hK9 hph hnk hnc hnp hob hph2 hg h49 hz h9 hb1 hb9 hyb, mv_tw Htw Hn Xk Xc hcu hset hR9 hK9 hph hnk hnc hnp hob hph2 hg h49 hz h9 hb1 hb9 hyb, mv_ts Hts Hn hcu hset hR9 hK9 hph hnk hnc hnp hob hph2 hg h49 hz h9 hb1 hb9 hyb, mv_an Han Hn Hs2 HK hcu hset hR9 hK9 hph hnk hnc hnp hob hph2 hg h49 hz h9 hb1 hb9 hyb, mv_sz Hsz hcu hset hR9 hK9 hph hnk hnc hnp hob hph2 hg h49 hz h9 hb1 hb9 hyb, ?_⟩
  have K1 : gi_all own (gh_H (gh_R F v b) (F 8 v) 2 (o v b) b) c (fun y e => gi_m own o w (gh_H (gh_R F v b) (F 8 v) 2 (o v b) b) mk (gh_A c (o v b) b (6, 0, 0, 0)) (o y e) y e) := gi_all_go (Hch) (fun _ _ q => q) (fun y => (by simp [gh_H, gh_R])) (fun y e a m hy hm ha hb q => ⟨q.1, mv_mi Hn hcu hset hR9 hK9 hph hnk hnc hnp hob hph2 hg h49 hz h9 hb1 hb9 hyb rfl hy hm ha hb q.2.1, mv_mc Hn hcu hset hR9 hK9 hph hnk hnc hnp hob hph2 hg h49 hz h9 hb1 hb9 hyb rfl hy hm ha hb q.2.2.1, mv_mt Hn hcu hset hR9 hK9 hph hnk hnc hnp hob hph2 hg h49 hz h9 hb1 hb9 hyb rfl hy hm ha hb q.2.2.2.1, mv_ma Hn hcu hset hR9 hK9 hph hnk hnc hnp hob hph2 hg h49 hz h9 hb1 hb9 hyb rfl hy hm ha hb q.2.2.2.2.1, mv_mr Hn hcu hset hR9 hK9 hph hnk hnc hnp hob hph2 hg h49 hz h9 hb1 hb9 hyb rfl hy hm ha hb q.2.2.2.2.2.1, mv_mk Hn hcu hset hR9 hK9 hph hnk hnc hnp hob hph2 hg h49 hz h9 hb1 hb9 hyb rfl hy hm ha hb q.2.2.2.2.2.2.1, mv_mp Hn hcu hset hR9 hK9 hph hnk hnc hnp hob hph2 hg h49 hz h9 hb1 hb9 hyb rfl hy hm ha hb q.2.2.2.2.2.2.2⟩)
  exact gi_all_appA K1 (fun hy => ⟨by simp, fun z => absurd z (by simp), fun z => absurd z (by simp), fun z => absurd z (by simp), fun z => absurd z (by simp), fun z => absurd z (by simp), mv_new Hn hcu hset hR9 hK9 hph hnk hnc hnp hob hph2 hg h49 hz h9 hb1 hb9 hyb , fun z => absurd z (by simp)⟩)
end
section
variable {own : Nat → Nat → Prop} {o : Nat → Nat → Nat} {w : Nat → Nat} {F : gh_F} {mk : Nat → Nat → Nat} {c : Nat → Nat → List gh_M}
theorem cc_st {v b : Nat} (Hst : gi_st F) (hcu : gi_cur F v) (hset : ∀ x, F 8 x = F 8 v → F 11 x = 1 ∧ F 0 x = 2) (hR9 : ∀ x, F 8 x = F 8 v → x = v ∨ gi_NR o (gh_R F v b) x) (hK9 : ∀ e, own v e → mk v e = 1 → F 8 (o v e) = F 8 v → F 9 (o v e) = e ∨ e = b) (hph : F 13 (F 8 v) ≠ 3) (hnk : ∀ y e, own y e → F 8 y = F 8 v → ¬ gh_has 6 (c y e)) (hnc : ∀ y e, own y e → F 8 y = F 8 v → F 8 (o y e) = F 8 v → ¬ gh_has 0 (c y e)) (hnp : ∀ y e a m, own y e → F 8 y = F 8 v → m ∈ c y e → m.1 = 5 → gm_p own o w F mk c (o y e) y e a m → (mk y e = 1 ∧ F 0 y = 2 ∧ F 4 y = e ∧ m.2.1 < F 6 y ∧ F 9 y = e ∧ y ≠ v ∧ gh_R F v b 9 (o y e) ≠ e ∧ a = F 1 y ∧ (¬ gi_cur F y ∨ F 4 (o y e) ≠ gh_R F v b 9 (o y e)) ∧ 1 ≤ F 1 y)) (hob : own v b) (hb0 : mk v b = 0) (hbo : F 8 (o v b) ≠ F 8 v) (hbl : F 1 v ≤ F 1 (o v b)) (hy0 : mk (o v b) b = 0)  : gi_st (gh_H (gh_R F v b) (F 8 v) 3 v b) := by
  clear hnk hnc hnp hK9 hR9
  dsimp only [gi_st, gi_cur, gi_NR, gi_wt, gi_open, gh_Net] at *
  try simp (decide := true) only [gh_H, gh_R, gh_U, gh_K, gh_A_has, gh_A_cnt, gh_A_mem, false_and, true_and, and_false, or_false, if_false, if_true, and_true]
  grind (splits := 25)
theorem cc_b1 {v b : Nat} (Hb1 : gi_b1 F) (hcu : gi_cur F v) (hset : ∀ x, F 8 x = F 8 v → F 11 x = 1 ∧ F 0 x = 2) (hR9 : ∀ x, F 8 x = F 8 v → x = v ∨ gi_NR o (gh_R F v b) x) (hK9 : ∀ e, own v e → mk v e = 1 → F 8 (o v e) = F 8 v → F 9 (o v e) = e ∨ e = b) (hph : F 13 (F 8 v) ≠ 3) (hnk : ∀ y e, own y e → F 8 y = F 8 v → ¬ gh_has 6 (c y e)) (hnc : ∀ y e, own y e → F 8 y = F 8 v → F 8 (o y e) = F 8 v → ¬ gh_has 0 (c y e)) (hnp : ∀ y e a m, own y e → F 8 y = F 8 v → m ∈ c y e → m.1 = 5 → gm_p own o w F mk c (o y e) y e a m → (mk y e = 1 ∧ F 0 y = 2 ∧ F 4 y = e ∧ m.2.1 < F 6 y ∧ F 9 y = e ∧ y ≠ v ∧ gh_R F v b 9 (o y e) ≠ e ∧ a = F 1 y ∧ (¬ gi_cur F y ∨ F 4 (o y e) ≠ gh_R F v b 9 (o y e)) ∧ 1 ≤ F 1 y)) (hob : own v b) (hb0 : mk v b = 0) (hbo : F 8 (o v b) ≠ F 8 v) (hbl : F 1 v ≤ F 1 (o v b)) (hy0 : mk (o v b) b = 0)  : gi_b1 (gh_H (gh_R F v b) (F 8 v) 3 v b) := by
  clear hnk hnc hnp hK9 hR9
  dsimp only [gi_b1, gi_cur, gi_NR, gi_wt, gi_open, gh_Net] at *
  try simp (decide := true) only [gh_H, gh_R, gh_U, gh_K, gh_A_has, gh_A_cnt, gh_A_mem, false_and, true_and, and_false, or_false, if_false, if_true, and_true]
  grind (splits := 25)
theorem cc_b2 {v b : Nat} (Hb2 : gi_b2 F) (hcu : gi_cur F v) (hset : ∀ x, F 8 x = F 8 v → F 11 x = 1 ∧ F 0 x = 2) (hR9 : ∀ x, F 8 x = F 8 v → x = v ∨ gi_NR o (gh_R F v b) x) (hK9 : ∀ e, own v e → mk v e = 1 → F 8 (o v e) = F 8 v → F 9 (o v e) = e ∨ e = b) (hph : F 13 (F 8 v) ≠ 3) (hnk : ∀ y e, own y e → F 8 y = F 8 v → ¬ gh_has 6 (c y e)) (hnc : ∀ y e, own y e → F 8 y = F 8 v → F 8 (o y e) = F 8 v → ¬ gh_has 0 (c y e)) (hnp : ∀ y e a m, own y e → F 8 y = F 8 v → m ∈ c y e → m.1 = 5 → gm_p own o w F mk c (o y e) y e a m → (mk y e = 1 ∧ F 0 y = 2 ∧ F 4 y = e ∧ m.2.1 < F 6 y ∧ F 9 y = e ∧ y ≠ v ∧ gh_R F v b 9 (o y e) ≠ e ∧ a = F 1 y ∧ (¬ gi_cur F y ∨ F 4 (o y e) ≠ gh_R F v b 9 (o y e)) ∧ 1 ≤ F 1 y)) (hob : own v b) (hb0 : mk v b = 0) (hbo : F 8 (o v b) ≠ F 8 v) (hbl : F 1 v ≤ F 1 (o v b)) (hy0 : mk (o v b) b = 0)  : gi_b2 (gh_H (gh_R F v b) (F 8 v) 3 v b) := by
  clear hnk hnc hnp hK9 hR9
  dsimp only [gi_b2, gi_cur, gi_NR, gi_wt, gi_open, gh_Net] at *
  try simp (decide := true) only [gh_H, gh_R, gh_U, gh_K, gh_A_has, gh_A_cnt, gh_A_mem, false_and, true_and, and_false, or_false, if_false, if_true, and_true]
  grind (splits := 25)
theorem cc_b3 {v b : Nat} (Hb3 : gi_b3 F) (hcu : gi_cur F v) (hset : ∀ x, F 8 x = F 8 v → F 11 x = 1 ∧ F 0 x = 2) (hR9 : ∀ x, F 8 x = F 8 v → x = v ∨ gi_NR o (gh_R F v b) x) (hK9 : ∀ e, own v e → mk v e = 1 → F 8 (o v e) = F 8 v → F 9 (o v e) = e ∨ e = b) (hph : F 13 (F 8 v) ≠ 3) (hnk : ∀ y e, own y e → F 8 y = F 8 v → ¬ gh_has 6 (c y e)) (hnc : ∀ y e, own y e → F 8 y = F 8 v → F 8 (o y e) = F 8 v → ¬ gh_has 0 (c y e)) (hnp : ∀ y e a m, own y e → F 8 y = F 8 v → m ∈ c y e → m.1 = 5 → gm_p own o w F mk c (o y e) y e a m → (mk y e = 1 ∧ F 0 y = 2 ∧ F 4 y = e ∧ m.2.1 < F 6 y ∧ F 9 y = e ∧ y ≠ v ∧ gh_R F v b 9 (o y e) ≠ e ∧ a = F 1 y ∧ (¬ gi_cur F y ∨ F 4 (o y e) ≠ gh_R F v b 9 (o y e)) ∧ 1 ≤ F 1 y)) (hob : own v b) (hb0 : mk v b = 0) (hbo : F 8 (o v b) ≠ F 8 v) (hbl : F 1 v ≤ F 1 (o v b)) (hy0 : mk (o v b) b = 0)  : gi_b3 (gh_H (gh_R F v b) (F 8 v) 3 v b) := by
  clear hnk hnc hnp hK9 hR9
  dsimp only [gi_b3, gi_cur, gi_NR, gi_wt, gi_open, gh_Net] at *
  try simp (decide := true) only [gh_H, gh_R, gh_U, gh_K, gh_A_has, gh_A_cnt, gh_A_mem, false_and, true_and, and_false, or_false, if_false, if_true, and_true]
  grind (splits := 25)
theorem cc_b4 {v b : Nat} (Hb4 : gi_b4 F) (hcu : gi_cur F v) (hset : ∀ x, F 8 x = F 8 v → F 11 x = 1 ∧ F 0 x = 2) (hR9 : ∀ x, F 8 x = F 8 v → x = v ∨ gi_NR o (gh_R F v b) x) (hK9 : ∀ e, own v e → mk v e = 1 → F 8 (o v e) = F 8 v → F 9 (o v e) = e ∨ e = b) (hph : F 13 (F 8 v) ≠ 3) (hnk : ∀ y e, own y e → F 8 y = F 8 v → ¬ gh_has 6 (c y e)) (hnc : ∀ y e, own y e → F 8 y = F 8 v → F 8 (o y e) = F 8 v → ¬ gh_has 0 (c y e)) (hnp : ∀ y e a m, own y e → F 8 y = F 8 v → m ∈ c y e → m.1 = 5 → gm_p own o w F mk c (o y e) y e a m → (mk y e = 1 ∧ F 0 y = 2 ∧ F 4 y = e ∧ m.2.1 < F 6 y ∧ F 9 y = e ∧ y ≠ v ∧ gh_R F v b 9 (o y e) ≠ e ∧ a = F 1 y ∧ (¬ gi_cur F y ∨ F 4 (o y e) ≠ gh_R F v b 9 (o y e)) ∧ 1 ≤ F 1 y)) (hob : own v b) (hb0 : mk v b = 0) (hbo : F 8 (o v b) ≠ F 8 v) (hbl : F 1 v ≤ F 1 (o v b)) (hy0 : mk (o v b) b = 0)  : gi_b4 (gh_H (gh_R F v b) (F 8 v) 3 v b) := by
  clear hnk hnc hnp hK9 hR9
  dsimp only [gi_b4, gi_cur, gi_NR, gi_wt, gi_open, gh_Net] at *
  try simp (decide := true) only [gh_H, gh_R, gh_U, gh_K, gh_A_has, gh_A_cnt, gh_A_mem, false_and, true_and, and_false, or_false, if_false, if_true, and_true]
  grind (splits := 25)
theorem cc_b6 {v b : Nat} (Hb6 : gi_b6 own o w F mk) (hcu : gi_cur F v) (hset : ∀ x, F 8 x = F 8 v → F 11 x = 1 ∧ F 0 x = 2) (hR9 : ∀ x, F 8 x = F 8 v → x = v ∨ gi_NR o (gh_R F v b) x) (hK9 : ∀ e, own v e → mk v e = 1 → F 8 (o v e) = F 8 v → F 9 (o v e) = e ∨ e = b) (hph : F 13 (F 8 v) ≠ 3) (hnk : ∀ y e, own y e → F 8 y = F 8 v → ¬ gh_has 6 (c y e)) (hnc : ∀ y e, own y e → F 8 y = F 8 v → F 8 (o y e) = F 8 v → ¬ gh_has 0 (c y e)) (hnp : ∀ y e a m, own y e → F 8 y = F 8 v → m ∈ c y e → m.1 = 5 → gm_p own o w F mk c (o y e) y e a m → (mk y e = 1 ∧ F 0 y = 2 ∧ F 4 y = e ∧ m.2.1 < F 6 y ∧ F 9 y = e ∧ y ≠ v ∧ gh_R F v b 9 (o y e) ≠ e ∧ a = F 1 y ∧ (¬ gi_cur F y ∨ F 4 (o y e) ≠ gh_R F v b 9 (o y e)) ∧ 1 ≤ F 1 y)) (hob : own v b) (hb0 : mk v b = 0) (hbo : F 8 (o v b) ≠ F 8 v) (hbl : F 1 v ≤ F 1 (o v b)) (hy0 : mk (o v b) b = 0)  : gi_b6 own o w (gh_H (gh_R F v b) (F 8 v) 3 v b) (gh_K mk v b 1) := by
  clear hnk hnc hnp hK9 hR9
  intro x hx
  obtain ⟨y, e, q1, q2, q3, q4, q5, q6⟩ := Hb6 x hx
  exact ⟨y, e, q1, q2, q3, q4, by unfold gh_K; split; rfl; exact q5, by unfold gh_K; split; rfl; exact q6⟩
theorem cc_b5 {v b : Nat} (Hb5 : gi_b5 own o w F) (hcu : gi_cur F v) (hset : ∀ x, F 8 x = F 8 v → F 11 x = 1 ∧ F 0 x = 2) (hR9 : ∀ x, F 8 x = F 8 v → x = v ∨ gi_NR o (gh_R F v b) x) (hK9 : ∀ e, own v e → mk v e = 1 → F 8 (o v e) = F 8 v → F 9 (o v e) = e ∨ e = b) (hph : F 13 (F 8 v) ≠ 3) (hnk : ∀ y e, own y e → F 8 y = F 8 v → ¬ gh_has 6 (c y e)) (hnc : ∀ y e, own y e → F 8 y = F 8 v → F 8 (o y e) = F 8 v → ¬ gh_has 0 (c y e)) (hnp : ∀ y e a m, own y e → F 8 y = F 8 v → m ∈ c y e → m.1 = 5 → gm_p own o w F mk c (o y e) y e a m → (mk y e = 1 ∧ F 0 y = 2 ∧ F 4 y = e ∧ m.2.1 < F 6 y ∧ F 9 y = e ∧ y ≠ v ∧ gh_R F v b 9 (o y e) ≠ e ∧ a = F 1 y ∧ (¬ gi_cur F y ∨ F 4 (o y e) ≠ gh_R F v b 9 (o y e)) ∧ 1 ≤ F 1 y)) (hob : own v b) (hb0 : mk v b = 0) (hbo : F 8 (o v b) ≠ F 8 v) (hbl : F 1 v ≤ F 1 (o v b)) (hy0 : mk (o v b) b = 0)  : gi_b5 own o w (gh_H (gh_R F v b) (F 8 v) 3 v b) := by
  exact Hb5
theorem cc_s0 {v b : Nat} (Hs0 : gi_s0 own F mk) (HpA : gi_pA own F mk) (hcu : gi_cur F v) (hset : ∀ x, F 8 x = F 8 v → F 11 x = 1 ∧ F 0 x = 2) (hR9 : ∀ x, F 8 x = F 8 v → x = v ∨ gi_NR o (gh_R F v b) x) (hK9 : ∀ e, own v e → mk v e = 1 → F 8 (o v e) = F 8 v → F 9 (o v e) = e ∨ e = b) (hph : F 13 (F 8 v) ≠ 3) (hnk : ∀ y e, own y e → F 8 y = F 8 v → ¬ gh_has 6 (c y e)) (hnc : ∀ y e, own y e → F 8 y = F 8 v → F 8 (o y e) = F 8 v → ¬ gh_has 0 (c y e)) (hnp : ∀ y e a m, own y e → F 8 y = F 8 v → m ∈ c y e → m.1 = 5 → gm_p own o w F mk c (o y e) y e a m → (mk y e = 1 ∧ F 0 y = 2 ∧ F 4 y = e ∧ m.2.1 < F 6 y ∧ F 9 y = e ∧ y ≠ v ∧ gh_R F v b 9 (o y e) ≠ e ∧ a = F 1 y ∧ (¬ gi_cur F y ∨ F 4 (o y e) ≠ gh_R F v b 9 (o y e)) ∧ 1 ≤ F 1 y)) (hob : own v b) (hb0 : mk v b = 0) (hbo : F 8 (o v b) ≠ F 8 v) (hbl : F 1 v ≤ F 1 (o v b)) (hy0 : mk (o v b) b = 0)  : gi_s0 own (gh_H (gh_R F v b) (F 8 v) 3 v b) (gh_K mk v b 1) := by
  clear hnk hnc hnp hK9 hR9
  dsimp only [gi_s0, gi_pA, gi_cur, gi_NR, gi_wt, gi_open, gh_Net] at *
  try simp (decide := true) only [gh_H, gh_R, gh_U, gh_K, gh_A_has, gh_A_cnt, gh_A_mem, false_and, true_and, and_false, or_false, if_false, if_true, and_true]
  grind (splits := 25)
theorem cc_s1 {v b : Nat} (Hs1 : gi_s1 F) (Hn : gh_Net own o w) (hcu : gi_cur F v) (hset : ∀ x, F 8 x = F 8 v → F 11 x = 1 ∧ F 0 x = 2) (hR9 : ∀ x, F 8 x = F 8 v → x = v ∨ gi_NR o (gh_R F v b) x) (hK9 : ∀ e, own v e → mk v e = 1 → F 8 (o v e) = F 8 v → F 9 (o v e) = e ∨ e = b) (hph : F 13 (F 8 v) ≠ 3) (hnk : ∀ y e, own y e → F 8 y = F 8 v → ¬ gh_has 6 (c y e)) (hnc : ∀ y e, own y e → F 8 y = F 8 v → F 8 (o y e) = F 8 v → ¬ gh_has 0 (c y e)) (hnp : ∀ y e a m, own y e → F 8 y = F 8 v → m ∈ c y e → m.1 = 5 → gm_p own o w F mk c (o y e) y e a m → (mk y e = 1 ∧ F 0 y = 2 ∧ F 4 y = e ∧ m.2.1 < F 6 y ∧ F 9 y = e ∧ y ≠ v ∧ gh_R F v b 9 (o y e) ≠ e ∧ a = F 1 y ∧ (¬ gi_cur F y ∨ F 4 (o y e) ≠ gh_R F v b 9 (o y e)) ∧ 1 ≤ F 1 y)) (hob : own v b) (hb0 : mk v b = 0) (hbo : F 8 (o v b) ≠ F 8 v) (hbl : F 1 v ≤ F 1 (o v b)) (hy0 : mk (o v b) b = 0)  : gi_s1 (gh_H (gh_R F v b) (F 8 v) 3 v b) := by
  clear hnk hnc hnp hK9 hR9
  dsimp only [gi_s1, gi_cur, gi_NR, gi_wt, gi_open, gh_Net] at *
  try simp (decide := true) only [gh_H, gh_R, gh_U, gh_K, gh_A_has, gh_A_cnt, gh_A_mem, false_and, true_and, and_false, or_false, if_false, if_true, and_true]
  grind (splits := 25)
theorem cc_s2 {v b : Nat} (Hs2 : gi_s2 F) (Hn : gh_Net own o w) (hcu : gi_cur F v) (hset : ∀ x, F 8 x = F 8 v → F 11 x = 1 ∧ F 0 x = 2) (hR9 : ∀ x, F 8 x = F 8 v → x = v ∨ gi_NR o (gh_R F v b) x) (hK9 : ∀ e, own v e → mk v e = 1 → F 8 (o v e) = F 8 v → F 9 (o v e) = e ∨ e = b) (hph : F 13 (F 8 v) ≠ 3) (hnk : ∀ y e, own y e → F 8 y = F 8 v → ¬ gh_has 6 (c y e)) (hnc : ∀ y e, own y e → F 8 y = F 8 v → F 8 (o y e) = F 8 v → ¬ gh_has 0 (c y e)) (hnp : ∀ y e a m, own y e → F 8 y = F 8 v → m ∈ c y e → m.1 = 5 → gm_p own o w F mk c (o y e) y e a m → (mk y e = 1 ∧ F 0 y = 2 ∧ F 4 y = e ∧ m.2.1 < F 6 y ∧ F 9 y = e ∧ y ≠ v ∧ gh_R F v b 9 (o y e) ≠ e ∧ a = F 1 y ∧ (¬ gi_cur F y ∨ F 4 (o y e) ≠ gh_R F v b 9 (o y e)) ∧ 1 ≤ F 1 y)) (hob : own v b) (hb0 : mk v b = 0) (hbo : F 8 (o v b) ≠ F 8 v) (hbl : F 1 v ≤ F 1 (o v b)) (hy0 : mk (o v b) b = 0)  : gi_s2 (gh_H (gh_R F v b) (F 8 v) 3 v b) := by
  clear hnk hnc hnp hK9 hR9
  dsimp only [gi_s2, gi_cur, gi_NR, gi_wt, gi_open, gh_Net] at *
  try simp (decide := true) only [gh_H, gh_R, gh_U, gh_K, gh_A_has, gh_A_cnt, gh_A_mem, false_and, true_and, and_false, or_false, if_false, if_true, and_true]
  grind (splits := 25)
theorem cc_Sl {v b : Nat} (HSl : gi_Sl F) (Hn : gh_Net own o w) (hcu : gi_cur F v) (hset : ∀ x, F 8 x = F 8 v → F 11 x = 1 ∧ F 0 x = 2) (hR9 : ∀ x, F 8 x = F 8 v → x = v ∨ gi_NR o (gh_R F v b) x) (hK9 : ∀ e, own v e → mk v e = 1 → F 8 (o v e) = F 8 v → F 9 (o v e) = e ∨ e = b) (hph : F 13 (F 8 v) ≠ 3) (hnk : ∀ y e, own y e → F 8 y = F 8 v → ¬ gh_has 6 (c y e)) (hnc : ∀ y e, own y e → F 8 y = F 8 v → F 8 (o y e) = F 8 v → ¬ gh_has 0 (c y e)) (hnp : ∀ y e a m, own y e → F 8 y = F 8 v → m ∈ c y e → m.1 = 5 → gm_p own o w F mk c (o y e) y e a m → (mk y e = 1 ∧ F 0 y = 2 ∧ F 4 y = e ∧ m.2.1 < F 6 y ∧ F 9 y = e ∧ y ≠ v ∧ gh_R F v b 9 (o y e) ≠ e ∧ a = F 1 y ∧ (¬ gi_cur F y ∨ F 4 (o y e) ≠ gh_R F v b 9 (o y e)) ∧ 1 ≤ F 1 y)) (hob : own v b) (hb0 : mk v b = 0) (hbo : F 8 (o v b) ≠ F 8 v) (hbl : F 1 v ≤ F 1 (o v b)) (hy0 : mk (o v b) b = 0)  : gi_Sl (gh_H (gh_R F v b) (F 8 v) 3 v b) := by
  clear hnk hnc hnp hK9 hR9
  dsimp only [gi_Sl, gi_cur, gi_NR, gi_wt, gi_open, gh_Net] at *
  try simp (decide := true) only [gh_H, gh_R, gh_U, gh_K, gh_A_has, gh_A_cnt, gh_A_mem, false_and, true_and, and_false, or_false, if_false, if_true, and_true]
  grind (splits := 25)
theorem cc_s3 {v b : Nat} (Hs3 : gi_s3 F) (Hn : gh_Net own o w) (hcu : gi_cur F v) (hset : ∀ x, F 8 x = F 8 v → F 11 x = 1 ∧ F 0 x = 2) (hR9 : ∀ x, F 8 x = F 8 v → x = v ∨ gi_NR o (gh_R F v b) x) (hK9 : ∀ e, own v e → mk v e = 1 → F 8 (o v e) = F 8 v → F 9 (o v e) = e ∨ e = b) (hph : F 13 (F 8 v) ≠ 3) (hnk : ∀ y e, own y e → F 8 y = F 8 v → ¬ gh_has 6 (c y e)) (hnc : ∀ y e, own y e → F 8 y = F 8 v → F 8 (o y e) = F 8 v → ¬ gh_has 0 (c y e)) (hnp : ∀ y e a m, own y e → F 8 y = F 8 v → m ∈ c y e → m.1 = 5 → gm_p own o w F mk c (o y e) y e a m → (mk y e = 1 ∧ F 0 y = 2 ∧ F 4 y = e ∧ m.2.1 < F 6 y ∧ F 9 y = e ∧ y ≠ v ∧ gh_R F v b 9 (o y e) ≠ e ∧ a = F 1 y ∧ (¬ gi_cur F y ∨ F 4 (o y e) ≠ gh_R F v b 9 (o y e)) ∧ 1 ≤ F 1 y)) (hob : own v b) (hb0 : mk v b = 0) (hbo : F 8 (o v b) ≠ F 8 v) (hbl : F 1 v ≤ F 1 (o v b)) (hy0 : mk (o v b) b = 0)  : gi_s3 (gh_H (gh_R F v b) (F 8 v) 3 v b) := by
  clear hnk hnc hnp hK9 hR9
  dsimp only [gi_s3, gi_cur, gi_NR, gi_wt, gi_open, gh_Net] at *
  try simp (decide := true) only [gh_H, gh_R, gh_U, gh_K, gh_A_has, gh_A_cnt, gh_A_mem, false_and, true_and, and_false, or_false, if_false, if_true, and_true]
  grind (splits := 25)
theorem cc_s4 {v b : Nat} (Hs4 : gi_s4 F) (Hn : gh_Net own o w) (hcu : gi_cur F v) (hset : ∀ x, F 8 x = F 8 v → F 11 x = 1 ∧ F 0 x = 2) (hR9 : ∀ x, F 8 x = F 8 v → x = v ∨ gi_NR o (gh_R F v b) x) (hK9 : ∀ e, own v e → mk v e = 1 → F 8 (o v e) = F 8 v → F 9 (o v e) = e ∨ e = b) (hph : F 13 (F 8 v) ≠ 3) (hnk : ∀ y e, own y e → F 8 y = F 8 v → ¬ gh_has 6 (c y e)) (hnc : ∀ y e, own y e → F 8 y = F 8 v → F 8 (o y e) = F 8 v → ¬ gh_has 0 (c y e)) (hnp : ∀ y e a m, own y e → F 8 y = F 8 v → m ∈ c y e → m.1 = 5 → gm_p own o w F mk c (o y e) y e a m → (mk y e = 1 ∧ F 0 y = 2 ∧ F 4 y = e ∧ m.2.1 < F 6 y ∧ F 9 y = e ∧ y ≠ v ∧ gh_R F v b 9 (o y e) ≠ e ∧ a = F 1 y ∧ (¬ gi_cur F y ∨ F 4 (o y e) ≠ gh_R F v b 9 (o y e)) ∧ 1 ≤ F 1 y)) (hob : own v b) (hb0 : mk v b = 0) (hbo : F 8 (o v b) ≠ F 8 v) (hbl : F 1 v ≤ F 1 (o v b)) (hy0 : mk (o v b) b = 0)  : gi_s4 (gh_H (gh_R F v b) (F 8 v) 3 v b) := by
  clear hnk hnc hnp hK9 hR9
  dsimp only [gi_s4, gi_cur, gi_NR, gi_wt, gi_open, gh_Net] at *
  try simp (decide := true) only [gh_H, gh_R, gh_U, gh_K, gh_A_has, gh_A_cnt, gh_A_mem, false_and, true_and, and_false, or_false, if_false, if_true, and_true]
  grind (splits := 25)
theorem cc_ow {v b : Nat} (How : gi_ow own F) (Hn : gh_Net own o w) (hcu : gi_cur F v) (hset : ∀ x, F 8 x = F 8 v → F 11 x = 1 ∧ F 0 x = 2) (hR9 : ∀ x, F 8 x = F 8 v → x = v ∨ gi_NR o (gh_R F v b) x) (hK9 : ∀ e, own v e → mk v e = 1 → F 8 (o v e) = F 8 v → F 9 (o v e) = e ∨ e = b) (hph : F 13 (F 8 v) ≠ 3) (hnk : ∀ y e, own y e → F 8 y = F 8 v → ¬ gh_has 6 (c y e)) (hnc : ∀ y e, own y e → F 8 y = F 8 v → F 8 (o y e) = F 8 v → ¬ gh_has 0 (c y e)) (hnp : ∀ y e a m, own y e → F 8 y = F 8 v → m ∈ c y e → m.1 = 5 → gm_p own o w F mk c (o y e) y e a m → (mk y e = 1 ∧ F 0 y = 2 ∧ F 4 y = e ∧ m.2.1 < F 6 y ∧ F 9 y = e ∧ y ≠ v ∧ gh_R F v b 9 (o y e) ≠ e ∧ a = F 1 y ∧ (¬ gi_cur F y ∨ F 4 (o y e) ≠ gh_R F v b 9 (o y e)) ∧ 1 ≤ F 1 y)) (hob : own v b) (hb0 : mk v b = 0) (hbo : F 8 (o v b) ≠ F 8 v) (hbl : F 1 v ≤ F 1 (o v b)) (hy0 : mk (o v b) b = 0)  : gi_ow own (gh_H (gh_R F v b) (F 8 v) 3 v b) := by
  clear hnk hnc hnp hK9 hR9
  dsimp only [gi_ow, gi_cur, gi_NR, gi_wt, gi_open, gh_Net] at *
  try simp (decide := true) only [gh_H, gh_R, gh_U, gh_K, gh_A_has, gh_A_cnt, gh_A_mem, false_and, true_and, and_false, or_false, if_false, if_true, and_true]
  grind (splits := 25)
theorem cc_s5 {v b : Nat} (Hs5 : gi_s5 F) (Hn : gh_Net own o w) (hcu : gi_cur F v) (hset : ∀ x, F 8 x = F 8 v → F 11 x = 1 ∧ F 0 x = 2) (hR9 : ∀ x, F 8 x = F 8 v → x = v ∨ gi_NR o (gh_R F v b) x) (hK9 : ∀ e, own v e → mk v e = 1 → F 8 (o v e) = F 8 v → F 9 (o v e) = e ∨ e = b) (hph : F 13 (F 8 v) ≠ 3) (hnk : ∀ y e, own y e → F 8 y = F 8 v → ¬ gh_has 6 (c y e)) (hnc : ∀ y e, own y e → F 8 y = F 8 v → F 8 (o y e) = F 8 v → ¬ gh_has 0 (c y e)) (hnp : ∀ y e a m, own y e → F 8 y = F 8 v → m ∈ c y e → m.1 = 5 → gm_p own o w F mk c (o y e) y e a m → (mk y e = 1 ∧ F 0 y = 2 ∧ F 4 y = e ∧ m.2.1 < F 6 y ∧ F 9 y = e ∧ y ≠ v ∧ gh_R F v b 9 (o y e) ≠ e ∧ a = F 1 y ∧ (¬ gi_cur F y ∨ F 4 (o y e) ≠ gh_R F v b 9 (o y e)) ∧ 1 ≤ F 1 y)) (hob : own v b) (hb0 : mk v b = 0) (hbo : F 8 (o v b) ≠ F 8 v) (hbl : F 1 v ≤ F 1 (o v b)) (hy0 : mk (o v b) b = 0)  : gi_s5 (gh_H (gh_R F v b) (F 8 v) 3 v b) := by
  clear hnk hnc hnp hK9 hR9
  dsimp only [gi_s5, gi_cur, gi_NR, gi_wt, gi_open, gh_Net] at *
  try simp (decide := true) only [gh_H, gh_R, gh_U, gh_K, gh_A_has, gh_A_cnt, gh_A_mem, false_and, true_and, and_false, or_false, if_false, if_true, and_true]
  grind (splits := 25)
theorem cc_s6 {v b : Nat} (Hs6 : gi_s6 own F mk) (Hn : gh_Net own o w) (hcu : gi_cur F v) (hset : ∀ x, F 8 x = F 8 v → F 11 x = 1 ∧ F 0 x = 2) (hR9 : ∀ x, F 8 x = F 8 v → x = v ∨ gi_NR o (gh_R F v b) x) (hK9 : ∀ e, own v e → mk v e = 1 → F 8 (o v e) = F 8 v → F 9 (o v e) = e ∨ e = b) (hph : F 13 (F 8 v) ≠ 3) (hnk : ∀ y e, own y e → F 8 y = F 8 v → ¬ gh_has 6 (c y e)) (hnc : ∀ y e, own y e → F 8 y = F 8 v → F 8 (o y e) = F 8 v → ¬ gh_has 0 (c y e)) (hnp : ∀ y e a m, own y e → F 8 y = F 8 v → m ∈ c y e → m.1 = 5 → gm_p own o w F mk c (o y e) y e a m → (mk y e = 1 ∧ F 0 y = 2 ∧ F 4 y = e ∧ m.2.1 < F 6 y ∧ F 9 y = e ∧ y ≠ v ∧ gh_R F v b 9 (o y e) ≠ e ∧ a = F 1 y ∧ (¬ gi_cur F y ∨ F 4 (o y e) ≠ gh_R F v b 9 (o y e)) ∧ 1 ≤ F 1 y)) (hob : own v b) (hb0 : mk v b = 0) (hbo : F 8 (o v b) ≠ F 8 v) (hbl : F 1 v ≤ F 1 (o v b)) (hy0 : mk (o v b) b = 0)  : gi_s6 own (gh_H (gh_R F v b) (F 8 v) 3 v b) (gh_K mk v b 1) := by
  clear hnk hnc hnp hK9 hR9
  dsimp only [gi_s6, gi_cur, gi_NR, gi_wt, gi_open, gh_Net] at *
  try simp (decide := true) only [gh_H, gh_R, gh_U, gh_K, gh_A_has, gh_A_cnt, gh_A_mem, false_and, true_and, and_false, or_false, if_false, if_true, and_true]
  grind (splits := 25)
theorem cc_ph {v b : Nat} (Hph : gi_ph F) (Hn : gh_Net own o w) (hcu : gi_cur F v) (hset : ∀ x, F 8 x = F 8 v → F 11 x = 1 ∧ F 0 x = 2) (hR9 : ∀ x, F 8 x = F 8 v → x = v ∨ gi_NR o (gh_R F v b) x) (hK9 : ∀ e, own v e → mk v e = 1 → F 8 (o v e) = F 8 v → F 9 (o v e) = e ∨ e = b) (hph : F 13 (F 8 v) ≠ 3) (hnk : ∀ y e, own y e → F 8 y = F 8 v → ¬ gh_has 6 (c y e)) (hnc : ∀ y e, own y e → F 8 y = F 8 v → F 8 (o y e) = F 8 v → ¬ gh_has 0 (c y e)) (hnp : ∀ y e a m, own y e → F 8 y = F 8 v → m ∈ c y e → m.1 = 5 → gm_p own o w F mk c (o y e) y e a m → (mk y e = 1 ∧ F 0 y = 2 ∧ F 4 y = e ∧ m.2.1 < F 6 y ∧ F 9 y = e ∧ y ≠ v ∧ gh_R F v b 9 (o y e) ≠ e ∧ a = F 1 y ∧ (¬ gi_cur F y ∨ F 4 (o y e) ≠ gh_R F v b 9 (o y e)) ∧ 1 ≤ F 1 y)) (hob : own v b) (hb0 : mk v b = 0) (hbo : F 8 (o v b) ≠ F 8 v) (hbl : F 1 v ≤ F 1 (o v b)) (hy0 : mk (o v b) b = 0)  : gi_ph (gh_H (gh_R F v b) (F 8 v) 3 v b) := by
  clear hnk hnc hnp hK9 hR9
  dsimp only [gi_ph, gi_cur, gi_NR, gi_wt, gi_open, gh_Net] at *
  try simp (decide := true) only [gh_H, gh_R, gh_U, gh_K, gh_A_has, gh_A_cnt, gh_A_mem, false_and, true_and, and_false, or_false, if_false, if_true, and_true]
  grind (splits := 25)
theorem cc_pA {v b : Nat} (HpA : gi_pA own F mk) (Hn : gh_Net own o w) (hcu : gi_cur F v) (hset : ∀ x, F 8 x = F 8 v → F 11 x = 1 ∧ F 0 x = 2) (hR9 : ∀ x, F 8 x = F 8 v → x = v ∨ gi_NR o (gh_R F v b) x) (hK9 : ∀ e, own v e → mk v e = 1 → F 8 (o v e) = F 8 v → F 9 (o v e) = e ∨ e = b) (hph : F 13 (F 8 v) ≠ 3) (hnk : ∀ y e, own y e → F 8 y = F 8 v → ¬ gh_has 6 (c y e)) (hnc : ∀ y e, own y e → F 8 y = F 8 v → F 8 (o y e) = F 8 v → ¬ gh_has 0 (c y e)) (hnp : ∀ y e a m, own y e → F 8 y = F 8 v → m ∈ c y e → m.1 = 5 → gm_p own o w F mk c (o y e) y e a m → (mk y e = 1 ∧ F 0 y = 2 ∧ F 4 y = e ∧ m.2.1 < F 6 y ∧ F 9 y = e ∧ y ≠ v ∧ gh_R F v b 9 (o y e) ≠ e ∧ a = F 1 y ∧ (¬ gi_cur F y ∨ F 4 (o y e) ≠ gh_R F v b 9 (o y e)) ∧ 1 ≤ F 1 y)) (hob : own v b) (hb0 : mk v b = 0) (hbo : F 8 (o v b) ≠ F 8 v) (hbl : F 1 v ≤ F 1 (o v b)) (hy0 : mk (o v b) b = 0)  : gi_pA own (gh_H (gh_R F v b) (F 8 v) 3 v b) (gh_K mk v b 1) := by
  clear hnk hnc hnp hK9 hR9
  dsimp only [gi_pA, gi_cur, gi_NR, gi_wt, gi_open, gh_Net] at *
  try simp (decide := true) only [gh_H, gh_R, gh_U, gh_K, gh_A_has, gh_A_cnt, gh_A_mem, false_and, true_and, and_false, or_false, if_false, if_true, and_true]
  grind (splits := 25)
theorem cc_sz {v b : Nat} (Hsz : gi_sz F) (hcu : gi_cur F v) (hset : ∀ x, F 8 x = F 8 v → F 11 x = 1 ∧ F 0 x = 2) (hR9 : ∀ x, F 8 x = F 8 v → x = v ∨ gi_NR o (gh_R F v b) x) (hK9 : ∀ e, own v e → mk v e = 1 → F 8 (o v e) = F 8 v → F 9 (o v e) = e ∨ e = b) (hph : F 13 (F 8 v) ≠ 3) (hnk : ∀ y e, own y e → F 8 y = F 8 v → ¬ gh_has 6 (c y e)) (hnc : ∀ y e, own y e → F 8 y = F 8 v → F 8 (o y e) = F 8 v → ¬ gh_has 0 (c y e)) (hnp : ∀ y e a m, own y e → F 8 y = F 8 v → m ∈ c y e → m.1 = 5 → gm_p own o w F mk c (o y e) y e a m → (mk y e = 1 ∧ F 0 y = 2 ∧ F 4 y = e ∧ m.2.1 < F 6 y ∧ F 9 y = e ∧ y ≠ v ∧ gh_R F v b 9 (o y e) ≠ e ∧ a = F 1 y ∧ (¬ gi_cur F y ∨ F 4 (o y e) ≠ gh_R F v b 9 (o y e)) ∧ 1 ≤ F 1 y)) (hob : own v b) (hb0 : mk v b = 0) (hbo : F 8 (o v b) ≠ F 8 v) (hbl : F 1 v ≤ F 1 (o v b)) (hy0 : mk (o v b) b = 0)  : gi_sz (gh_H (gh_R F v b) (F 8 v) 3 v b) := by
  exact Hsz
theorem cc_Sr {v b : Nat} (HSr : gi_Sr o w F c) (Hn : gh_Net own o w) (HSl : gi_Sl F) (Hs6 : gi_s6 own F mk) (hcu : gi_cur F v) (hset : ∀ x, F 8 x = F 8 v → F 11 x = 1 ∧ F 0 x = 2) (hR9 : ∀ x, F 8 x = F 8 v → x = v ∨ gi_NR o (gh_R F v b) x) (hK9 : ∀ e, own v e → mk v e = 1 → F 8 (o v e) = F 8 v → F 9 (o v e) = e ∨ e = b) (hph : F 13 (F 8 v) ≠ 3) (hnk : ∀ y e, own y e → F 8 y = F 8 v → ¬ gh_has 6 (c y e)) (hnc : ∀ y e, own y e → F 8 y = F 8 v → F 8 (o y e) = F 8 v → ¬ gh_has 0 (c y e)) (hnp : ∀ y e a m, own y e → F 8 y = F 8 v → m ∈ c y e → m.1 = 5 → gm_p own o w F mk c (o y e) y e a m → (mk y e = 1 ∧ F 0 y = 2 ∧ F 4 y = e ∧ m.2.1 < F 6 y ∧ F 9 y = e ∧ y ≠ v ∧ gh_R F v b 9 (o y e) ≠ e ∧ a = F 1 y ∧ (¬ gi_cur F y ∨ F 4 (o y e) ≠ gh_R F v b 9 (o y e)) ∧ 1 ≤ F 1 y)) (hob : own v b) (hb0 : mk v b = 0) (hbo : F 8 (o v b) ≠ F 8 v) (hbl : F 1 v ≤ F 1 (o v b)) (hy0 : mk (o v b) b = 0)  : gi_Sr o w (gh_H (gh_R F v b) (F 8 v) 3 v b) (gh_A c (o v b) b (0, F 1 v, 0, 0)) := by
  intro x h1 h2
  have hxg : F 8 x ≠ F 8 v := by intro z; simp (decide := true) only [gh_H, gh_R, gh_U, if_true, if_false, false_and, true_and] at h1; grind
  obtain ⟨a1, a2, a3⟩ := HSr x (by simp (decide := true) only [gh_H, gh_R, gh_U, if_true, if_false, false_and, true_and] at h1; grind) (by simp (decide := true) only [gh_H, gh_R, gh_U, if_true, if_false, false_and, true_and] at h2; grind)
  have a4 : gi_cur F x ∨ (gh_has 0 (c (o x (F 9 x)) (F 9 x)) ∨ ∃ m ∈ c x (F 9 x), m.1 = 1 ∧ m.2.1 = F 12 (F 8 x)) := by
    by_cases q : gi_cur F x
    · exact Or.inl q
    · exact Or.inr (a3 q).2
  have a5 : gi_cur F x ∨ F 11 x = 0 := by
    by_cases q : gi_cur F x
    · exact Or.inl q
    · exact Or.inr (a3 q).1
  have e9 : (gh_H (gh_R F v b) (F 8 v) 3 v b) 9 x = F 9 x := by simp (decide := true) only [gh_H, gh_R, gh_U, if_true, if_false, false_and, true_and]; grind
  have e12 : (gh_H (gh_R F v b) (F 8 v) 3 v b) 12 ((gh_H (gh_R F v b) (F 8 v) 3 v b) 8 x) = F 12 (F 8 x) := by simp (decide := true) only [gh_H, gh_R, gh_U, if_true, if_false, false_and, true_and]
  have e11 : (gh_H (gh_R F v b) (F 8 v) 3 v b) 11 x = F 11 x := by simp (decide := true) only [gh_H, gh_R, gh_U, if_true, if_false, false_and, true_and]
  have ecu : gi_cur (gh_H (gh_R F v b) (F 8 v) 3 v b) x ↔ gi_cur F x := by unfold gi_cur; simp (decide := true) only [gh_H, gh_R, gh_U, if_true, if_false, false_and, true_and]
  rw [e9, e11, e12, ecu]
  refine ⟨?_, ?_, fun hc => ⟨a5.resolve_left hc, ?_⟩⟩
  · clear hnk hnc hnp hK9 hR9 hset a3 HSr
    simp (decide := true) only [gh_H, gh_R, gh_U, if_true, if_false, false_and, true_and] at *
    grind
  · clear hnk hnc hnp hK9 hR9 hset a3 HSr
    simp (decide := true) only [gh_H, gh_R, gh_U, if_true, if_false, false_and, true_and] at *
    grind
  · rcases a4.resolve_left hc with q | ⟨m, m1, m2, m3⟩
    · exact Or.inl (gh_A_has.mpr (Or.inl q))
    · exact Or.inr ⟨m, gh_A_mem.mpr (Or.inl m1), m2, m3⟩
theorem cc_Sn {v b : Nat} (HSn : gi_Sn o w F) (Hn : gh_Net own o w) (hcu : gi_cur F v) (hset : ∀ x, F 8 x = F 8 v → F 11 x = 1 ∧ F 0 x = 2) (hR9 : ∀ x, F 8 x = F 8 v → x = v ∨ gi_NR o (gh_R F v b) x) (hK9 : ∀ e, own v e → mk v e = 1 → F 8 (o v e) = F 8 v → F 9 (o v e) = e ∨ e = b) (hph : F 13 (F 8 v) ≠ 3) (hnk : ∀ y e, own y e → F 8 y = F 8 v → ¬ gh_has 6 (c y e)) (hnc : ∀ y e, own y e → F 8 y = F 8 v → F 8 (o y e) = F 8 v → ¬ gh_has 0 (c y e)) (hnp : ∀ y e a m, own y e → F 8 y = F 8 v → m ∈ c y e → m.1 = 5 → gm_p own o w F mk c (o y e) y e a m → (mk y e = 1 ∧ F 0 y = 2 ∧ F 4 y = e ∧ m.2.1 < F 6 y ∧ F 9 y = e ∧ y ≠ v ∧ gh_R F v b 9 (o y e) ≠ e ∧ a = F 1 y ∧ (¬ gi_cur F y ∨ F 4 (o y e) ≠ gh_R F v b 9 (o y e)) ∧ 1 ≤ F 1 y)) (hob : own v b) (hb0 : mk v b = 0) (hbo : F 8 (o v b) ≠ F 8 v) (hbl : F 1 v ≤ F 1 (o v b)) (hy0 : mk (o v b) b = 0)  : gi_Sn o w (gh_H (gh_R F v b) (F 8 v) 3 v b) := by
  have hNo : ∀ x, F 8 x ≠ F 8 v → gi_NR o F x → gi_NR o (gh_H (gh_R F v b) (F 8 v) 3 v b) x := by
    intro x hx1 hx
    clear hnk hnc hnp hK9 hR9 hset
    dsimp only [gi_NR] at *
    simp (decide := true) only [gh_H, gh_R, gh_U, if_true, if_false, false_and, true_and] at *
    grind
  have hNg : ∀ x, F 8 x = F 8 v → x ≠ v → gi_NR o (gh_H (gh_R F v b) (F 8 v) 3 v b) x := by
    intro x hx1 hx2
    have hx := (hR9 x hx1).resolve_left hx2
    clear hnk hnc hnp hK9 hR9 hset
    dsimp only [gi_NR] at *
    simp (decide := true) only [gh_H, gh_R, gh_U, gh_R, if_true, if_false, false_and, true_and] at *
    grind
  
  intro x h1 h2
  have hxg : F 8 x ≠ F 8 v := by intro z; simp (decide := true) only [gh_H, gh_R, gh_U, if_true, if_false, false_and, true_and] at h1; grind
  refine hNo x hxg (HSn x ?_ ?_)
  · simp (decide := true) only [gh_H, gh_R, gh_U, if_true, if_false, false_and, true_and] at h1; grind
  · simp (decide := true) only [gh_H, gh_R, gh_U, if_true, if_false, false_and, true_and] at h2; grind
theorem cc_6 {v b : Nat} (H6 : gi_6 o F c) (Hn : gh_Net own o w) (Hb1 : gi_b1 F) (Hs6 : gi_s6 own F mk) (Xl : gx_l own F c) (hcu : gi_cur F v) (hset : ∀ x, F 8 x = F 8 v → F 11 x = 1 ∧ F 0 x = 2) (hR9 : ∀ x, F 8 x = F 8 v → x = v ∨ gi_NR o (gh_R F v b) x) (hK9 : ∀ e, own v e → mk v e = 1 → F 8 (o v e) = F 8 v → F 9 (o v e) = e ∨ e = b) (hph : F 13 (F 8 v) ≠ 3) (hnk : ∀ y e, own y e → F 8 y = F 8 v → ¬ gh_has 6 (c y e)) (hnc : ∀ y e, own y e → F 8 y = F 8 v → F 8 (o y e) = F 8 v → ¬ gh_has 0 (c y e)) (hnp : ∀ y e a m, own y e → F 8 y = F 8 v → m ∈ c y e → m.1 = 5 → gm_p own o w F mk c (o y e) y e a m → (mk y e = 1 ∧ F 0 y = 2 ∧ F 4 y = e ∧ m.2.1 < F 6 y ∧ F 9 y = e ∧ y ≠ v ∧ gh_R F v b 9 (o y e) ≠ e ∧ a = F 1 y ∧ (¬ gi_cur F y ∨ F 4 (o y e) ≠ gh_R F v b 9 (o y e)) ∧ 1 ≤ F 1 y)) (hob : own v b) (hb0 : mk v b = 0) (hbo : F 8 (o v b) ≠ F 8 v) (hbl : F 1 v ≤ F 1 (o v b)) (hy0 : mk (o v b) b = 0)  : gi_6 o (gh_H (gh_R F v b) (F 8 v) 3 v b) (gh_A c (o v b) b (0, F 1 v, 0, 0)) := by
  have hRev : ∀ x, gi_NR o (gh_H (gh_R F v b) (F 8 v) 3 v b) x → (gi_NR o F x ∧ o x (F 9 x) ≠ v ∧ x ≠ v) ∨ (F 8 x = F 8 v ∧ x ≠ v ∧ o x (F 9 x) = v) := by
    intro x hx
    clear hnk hnc hnp hK9 hR9 hset
    dsimp only [gi_NR] at *
    simp (decide := true) only [gh_H, gh_R, gh_U, if_true, if_false, false_and, true_and] at *
    grind
  
  intro x hx
  have e1 : ∀ z, (gh_H (gh_R F v b) (F 8 v) 3 v b) 1 z = F 1 z := fun z => by simp (decide := true) only [gh_H, gh_R, gh_U, if_true, if_false, false_and, true_and]
  have e9 : x ≠ v → (gh_H (gh_R F v b) (F 8 v) 3 v b) 9 x = F 9 x := fun z => by simp (decide := true) only [gh_H, gh_R, gh_U, if_true, if_false, false_and, true_and]; grind
  rcases hRev x hx with ⟨z, zu, zv⟩ | ⟨z, zu, zv⟩
  · obtain ⟨a1, a2⟩ := H6 x z
    rw [e1, e1, e9 zv]
    refine ⟨a1, fun m hm hm1 => ?_⟩
    rcases gh_A_mem.mp hm with q | q
    · exact a2 m q hm1
    · rw [q.2.2] at hm1; cases hm1
  · rw [e1, e1, e9 zu, zv]
    have b1 := Hb1 x
    unfold gi_cur at hcu
    rw [z] at b1
    refine ⟨by omega, fun m hm hm1 => ?_⟩
    have h9 : own x (F 9 x) := by
      have q := hx.1
      rw [e9 zu] at q
      exact ((Hs6 x).2 q).1
    rcases gh_A_mem.mp hm with q | q
    · have := (Xl x (F 9 x) h9 m q hm1).2.2
      rw [z] at this
      omega
    · rw [q.2.2] at hm1; cases hm1
theorem cc_7 {v b : Nat} (H7 : gi_7 o F) (Hn : gh_Net own o w) (hcu : gi_cur F v) (hset : ∀ x, F 8 x = F 8 v → F 11 x = 1 ∧ F 0 x = 2) (hR9 : ∀ x, F 8 x = F 8 v → x = v ∨ gi_NR o (gh_R F v b) x) (hK9 : ∀ e, own v e → mk v e = 1 → F 8 (o v e) = F 8 v → F 9 (o v e) = e ∨ e = b) (hph : F 13 (F 8 v) ≠ 3) (hnk : ∀ y e, own y e → F 8 y = F 8 v → ¬ gh_has 6 (c y e)) (hnc : ∀ y e, own y e → F 8 y = F 8 v → F 8 (o y e) = F 8 v → ¬ gh_has 0 (c y e)) (hnp : ∀ y e a m, own y e → F 8 y = F 8 v → m ∈ c y e → m.1 = 5 → gm_p own o w F mk c (o y e) y e a m → (mk y e = 1 ∧ F 0 y = 2 ∧ F 4 y = e ∧ m.2.1 < F 6 y ∧ F 9 y = e ∧ y ≠ v ∧ gh_R F v b 9 (o y e) ≠ e ∧ a = F 1 y ∧ (¬ gi_cur F y ∨ F 4 (o y e) ≠ gh_R F v b 9 (o y e)) ∧ 1 ≤ F 1 y)) (hob : own v b) (hb0 : mk v b = 0) (hbo : F 8 (o v b) ≠ F 8 v) (hbl : F 1 v ≤ F 1 (o v b)) (hy0 : mk (o v b) b = 0)  : gi_7 o (gh_H (gh_R F v b) (F 8 v) 3 v b) := by
  have hRev : ∀ x, gi_NR o (gh_H (gh_R F v b) (F 8 v) 3 v b) x → (gi_NR o F x ∧ o x (F 9 x) ≠ v ∧ x ≠ v) ∨ (F 8 x = F 8 v ∧ x ≠ v ∧ o x (F 9 x) = v) := by
    intro x hx
    clear hnk hnc hnp hK9 hR9 hset
    dsimp only [gi_NR] at *
    simp (decide := true) only [gh_H, gh_R, gh_U, if_true, if_false, false_and, true_and] at *
    grind
  
  intro x hx
  have q1 := hset x
  have q2 := hset (o x (F 9 x))
  rcases hRev x hx with ⟨z, zu, zv⟩ | ⟨z, zu, zv⟩
  · obtain ⟨a1, a2, a3⟩ := H7 x z
    clear hnk hnc hnp hK9 hR9 hset H7 hRev hx Hn
    dsimp only [gi_NR, gi_cur] at *
    simp (decide := true) only [gh_H, gh_R, gh_U, if_true, if_false, false_and, true_and] at *
    grind
  · clear hnk hnc hnp hK9 hR9 hset H7 hRev hx Hn
    dsimp only [gi_NR, gi_cur] at *
    simp (decide := true) only [gh_H, gh_R, gh_U, if_true, if_false, false_and, true_and] at *
    grind
theorem cc_C {v b : Nat} (HC : gi_C own o F mk) (Hn : gh_Net own o w) (hcu : gi_cur F v) (hset : ∀ x, F 8 x = F 8 v → F 11 x = 1 ∧ F 0 x = 2) (hR9 : ∀ x, F 8 x = F 8 v → x = v ∨ gi_NR o (gh_R F v b) x) (hK9 : ∀ e, own v e → mk v e = 1 → F 8 (o v e) = F 8 v → F 9 (o v e) = e ∨ e = b) (hph : F 13 (F 8 v) ≠ 3) (hnk : ∀ y e, own y e → F 8 y = F 8 v → ¬ gh_has 6 (c y e)) (hnc : ∀ y e, own y e → F 8 y = F 8 v → F 8 (o y e) = F 8 v → ¬ gh_has 0 (c y e)) (hnp : ∀ y e a m, own y e → F 8 y = F 8 v → m ∈ c y e → m.1 = 5 → gm_p own o w F mk c (o y e) y e a m → (mk y e = 1 ∧ F 0 y = 2 ∧ F 4 y = e ∧ m.2.1 < F 6 y ∧ F 9 y = e ∧ y ≠ v ∧ gh_R F v b 9 (o y e) ≠ e ∧ a = F 1 y ∧ (¬ gi_cur F y ∨ F 4 (o y e) ≠ gh_R F v b 9 (o y e)) ∧ 1 ≤ F 1 y)) (hob : own v b) (hb0 : mk v b = 0) (hbo : F 8 (o v b) ≠ F 8 v) (hbl : F 1 v ≤ F 1 (o v b)) (hy0 : mk (o v b) b = 0)  : gi_C own o (gh_H (gh_R F v b) (F 8 v) 3 v b) (gh_K mk v b 1) := by
  have hNo : ∀ x, F 8 x ≠ F 8 v → gi_NR o F x → gi_NR o (gh_H (gh_R F v b) (F 8 v) 3 v b) x := by
    intro x hx1 hx
    clear hnk hnc hnp hK9 hR9 hset
    dsimp only [gi_NR] at *
    simp (decide := true) only [gh_H, gh_R, gh_U, if_true, if_false, false_and, true_and] at *
    grind
  have hNg : ∀ x, F 8 x = F 8 v → x ≠ v → gi_NR o (gh_H (gh_R F v b) (F 8 v) 3 v b) x := by
    intro x hx1 hx2
    have hx := (hR9 x hx1).resolve_left hx2
    clear hnk hnc hnp hK9 hR9 hset
    dsimp only [gi_NR] at *
    simp (decide := true) only [gh_H, gh_R, gh_U, gh_R, if_true, if_false, false_and, true_and] at *
    grind
  
  intro x hx u e h1 h2
  have a0 := hNg x
  have a1 := HC x
  have a3 := hNo x
  have a4 := hset x
  clear hnk hnc hnp hK9 hR9 hset HC hNo hNg Hn
  dsimp only [gi_cur] at *
  simp (decide := true) only [gh_H, gh_R, gh_U, gh_K, gh_A_has, gh_A_cnt, gh_A_mem, false_and, true_and, and_false, or_false, if_false, if_true, and_true] at *
  grind (splits := 30)
theorem cc_M {v b : Nat} (HM : gi_M own o F) (Hn : gh_Net own o w) (hcu : gi_cur F v) (hset : ∀ x, F 8 x = F 8 v → F 11 x = 1 ∧ F 0 x = 2) (hR9 : ∀ x, F 8 x = F 8 v → x = v ∨ gi_NR o (gh_R F v b) x) (hK9 : ∀ e, own v e → mk v e = 1 → F 8 (o v e) = F 8 v → F 9 (o v e) = e ∨ e = b) (hph : F 13 (F 8 v) ≠ 3) (hnk : ∀ y e, own y e → F 8 y = F 8 v → ¬ gh_has 6 (c y e)) (hnc : ∀ y e, own y e → F 8 y = F 8 v → F 8 (o y e) = F 8 v → ¬ gh_has 0 (c y e)) (hnp : ∀ y e a m, own y e → F 8 y = F 8 v → m ∈ c y e → m.1 = 5 → gm_p own o w F mk c (o y e) y e a m → (mk y e = 1 ∧ F 0 y = 2 ∧ F 4 y = e ∧ m.2.1 < F 6 y ∧ F 9 y = e ∧ y ≠ v ∧ gh_R F v b 9 (o y e) ≠ e ∧ a = F 1 y ∧ (¬ gi_cur F y ∨ F 4 (o y e) ≠ gh_R F v b 9 (o y e)) ∧ 1 ≤ F 1 y)) (hob : own v b) (hb0 : mk v b = 0) (hbo : F 8 (o v b) ≠ F 8 v) (hbl : F 1 v ≤ F 1 (o v b)) (hy0 : mk (o v b) b = 0)  : gi_M own o (gh_H (gh_R F v b) (F 8 v) 3 v b) := by
  have hNo : ∀ x, F 8 x ≠ F 8 v → gi_NR o F x → gi_NR o (gh_H (gh_R F v b) (F 8 v) 3 v b) x := by
    intro x hx1 hx
    clear hnk hnc hnp hK9 hR9 hset
    dsimp only [gi_NR] at *
    simp (decide := true) only [gh_H, gh_R, gh_U, if_true, if_false, false_and, true_and] at *
    grind
  have hNg : ∀ x, F 8 x = F 8 v → x ≠ v → gi_NR o (gh_H (gh_R F v b) (F 8 v) 3 v b) x := by
    intro x hx1 hx2
    have hx := (hR9 x hx1).resolve_left hx2
    clear hnk hnc hnp hK9 hR9 hset
    dsimp only [gi_NR] at *
    simp (decide := true) only [gh_H, gh_R, gh_U, gh_R, if_true, if_false, false_and, true_and] at *
    grind
  
  intro x hx y e z h1 h2 h3
  have a0 := hNg x
  have a1 := HM x
  have a3 := hNo x
  have a4 := hset x
  have a5 := Hn.1 v b hob
  clear hnk hnc hnp hK9 hR9 hset HM hNo hNg Hn
  dsimp only [gi_cur] at *
  simp (decide := true) only [gh_H, gh_R, gh_U, gh_K, gh_A_has, gh_A_cnt, gh_A_mem, false_and, true_and, and_false, or_false, if_false, if_true, and_true] at *
  grind (splits := 30)
theorem cc_an {v b : Nat} (Han : gi_an own o F mk c) (Hn : gh_Net own o w) (Hs2 : gi_s2 F) (HK : gi_K own o F mk c) (hcu : gi_cur F v) (hset : ∀ x, F 8 x = F 8 v → F 11 x = 1 ∧ F 0 x = 2) (hR9 : ∀ x, F 8 x = F 8 v → x = v ∨ gi_NR o (gh_R F v b) x) (hK9 : ∀ e, own v e → mk v e = 1 → F 8 (o v e) = F 8 v → F 9 (o v e) = e ∨ e = b) (hph : F 13 (F 8 v) ≠ 3) (hnk : ∀ y e, own y e → F 8 y = F 8 v → ¬ gh_has 6 (c y e)) (hnc : ∀ y e, own y e → F 8 y = F 8 v → F 8 (o y e) = F 8 v → ¬ gh_has 0 (c y e)) (hnp : ∀ y e a m, own y e → F 8 y = F 8 v → m ∈ c y e → m.1 = 5 → gm_p own o w F mk c (o y e) y e a m → (mk y e = 1 ∧ F 0 y = 2 ∧ F 4 y = e ∧ m.2.1 < F 6 y ∧ F 9 y = e ∧ y ≠ v ∧ gh_R F v b 9 (o y e) ≠ e ∧ a = F 1 y ∧ (¬ gi_cur F y ∨ F 4 (o y e) ≠ gh_R F v b 9 (o y e)) ∧ 1 ≤ F 1 y)) (hob : own v b) (hb0 : mk v b = 0) (hbo : F 8 (o v b) ≠ F 8 v) (hbl : F 1 v ≤ F 1 (o v b)) (hy0 : mk (o v b) b = 0)  : gi_an own o (gh_H (gh_R F v b) (F 8 v) 3 v b) (gh_K mk v b 1) (gh_A c (o v b) b (0, F 1 v, 0, 0)) := by
  intro x hx
  have hx1 : F 0 x = 1 := by simp (decide := true) only [gh_H, gh_R, gh_U, if_true, if_false, false_and, true_and] at hx; grind
  have q1 := hset x
  have q2 := Hs2 x hx1
  obtain ⟨l, l1, l2, l3⟩ := Han x hx1
  refine ⟨l, l1, by simp (decide := true) only [gh_H, gh_R, gh_U, if_true, if_false, false_and, true_and]; exact l2, fun e => (l3 e).trans ?_⟩
  have a1 := HK x e (o x e)
  have a2 := Hn.1 x e
  clear hnk hnc hnp hK9 hR9 hset Han l3 Hn Hs2 HK
  dsimp only [gi_open, gi_cur] at *
  simp (decide := true) only [gh_H, gh_R, gh_U, gh_K, gh_A_has, gh_A_cnt, gh_A_mem, false_and, true_and, and_false, or_false, if_false, if_true, and_true] at *
  grind (splits := 30)
theorem cc_bc {v b : Nat} (Hbc : gi_bc o F mk c) (Hn : gh_Net own o w) (Hs2 : gi_s2 F) (How : gi_ow own F) (hcu : gi_cur F v) (hset : ∀ x, F 8 x = F 8 v → F 11 x = 1 ∧ F 0 x = 2) (hR9 : ∀ x, F 8 x = F 8 v → x = v ∨ gi_NR o (gh_R F v b) x) (hK9 : ∀ e, own v e → mk v e = 1 → F 8 (o v e) = F 8 v → F 9 (o v e) = e ∨ e = b) (hph : F 13 (F 8 v) ≠ 3) (hnk : ∀ y e, own y e → F 8 y = F 8 v → ¬ gh_has 6 (c y e)) (hnc : ∀ y e, own y e → F 8 y = F 8 v → F 8 (o y e) = F 8 v → ¬ gh_has 0 (c y e)) (hnp : ∀ y e a m, own y e → F 8 y = F 8 v → m ∈ c y e → m.1 = 5 → gm_p own o w F mk c (o y e) y e a m → (mk y e = 1 ∧ F 0 y = 2 ∧ F 4 y = e ∧ m.2.1 < F 6 y ∧ F 9 y = e ∧ y ≠ v ∧ gh_R F v b 9 (o y e) ≠ e ∧ a = F 1 y ∧ (¬ gi_cur F y ∨ F 4 (o y e) ≠ gh_R F v b 9 (o y e)) ∧ 1 ≤ F 1 y)) (hob : own v b) (hb0 : mk v b = 0) (hbo : F 8 (o v b) ≠ F 8 v) (hbl : F 1 v ≤ F 1 (o v b)) (hy0 : mk (o v b) b = 0)  : gi_bc o (gh_H (gh_R F v b) (F 8 v) 3 v b) (gh_K mk v b 1) (gh_A c (o v b) b (0, F 1 v, 0, 0)) := by
  intro x b9 y hb9 hb1 hy hcu9 hph9 hw
  have b1 := Hbc x b9 y
  have b2 := Hn.1 v b hob
  have b4 := Hn.1 v (F 9 v)
  have b5 := (How x).1
  have b6 := Hn.1 x b9
  clear hnk hnc hnp hK9 hR9 hset Hbc Hn Hs2 How
  dsimp only [gi_cur] at *
  simp (decide := true) only [gh_H, gh_R, gh_U, gh_K, gh_A_has, gh_A_cnt, gh_A_mem, false_and, true_and, and_false, or_false, if_false, if_true, and_true] at *
  grind (splits := 30)
theorem cc_K {v b : Nat} (HK : gi_K own o F mk c) (Hn : gh_Net own o w) (hcu : gi_cur F v) (hset : ∀ x, F 8 x = F 8 v → F 11 x = 1 ∧ F 0 x = 2) (hR9 : ∀ x, F 8 x = F 8 v → x = v ∨ gi_NR o (gh_R F v b) x) (hK9 : ∀ e, own v e → mk v e = 1 → F 8 (o v e) = F 8 v → F 9 (o v e) = e ∨ e = b) (hph : F 13 (F 8 v) ≠ 3) (hnk : ∀ y e, own y e → F 8 y = F 8 v → ¬ gh_has 6 (c y e)) (hnc : ∀ y e, own y e → F 8 y = F 8 v → F 8 (o y e) = F 8 v → ¬ gh_has 0 (c y e)) (hnp : ∀ y e a m, own y e → F 8 y = F 8 v → m ∈ c y e → m.1 = 5 → gm_p own o w F mk c (o y e) y e a m → (mk y e = 1 ∧ F 0 y = 2 ∧ F 4 y = e ∧ m.2.1 < F 6 y ∧ F 9 y = e ∧ y ≠ v ∧ gh_R F v b 9 (o y e) ≠ e ∧ a = F 1 y ∧ (¬ gi_cur F y ∨ F 4 (o y e) ≠ gh_R F v b 9 (o y e)) ∧ 1 ≤ F 1 y)) (hob : own v b) (hb0 : mk v b = 0) (hbo : F 8 (o v b) ≠ F 8 v) (hbl : F 1 v ≤ F 1 (o v b)) (hy0 : mk (o v b) b = 0)  : gi_K own o (gh_H (gh_R F v b) (F 8 v) 3 v b) (gh_K mk v b 1) (gh_A c (o v b) b (0, F 1 v, 0, 0)) := by
  intro x e y h1 h2 h3
  have b1 := HK x e y h1 h2
  have b5 := Hn.1 x e h1
  have b6 := hK9 e
  have b7 := Hn.1 v b hob
  have b8 := HK v e (o v e)
  clear hnk hnc hnp hK9 hR9 hset HK Hn
  dsimp only [gi_cur] at *
  simp (decide := true) only [gh_H, gh_R, gh_U, gh_K, gh_A_has, gh_A_cnt, gh_A_mem, false_and, true_and, and_false, or_false, if_false, if_true, and_true] at *
  grind (splits := 30)
theorem cc_tw {v b : Nat} (Htw : gi_tw own c) (Hn : gh_Net own o w) (Xk : gx_k own o w F mk c) (Xc : gx_c own o w F mk c) (hcu : gi_cur F v) (hset : ∀ x, F 8 x = F 8 v → F 11 x = 1 ∧ F 0 x = 2) (hR9 : ∀ x, F 8 x = F 8 v → x = v ∨ gi_NR o (gh_R F v b) x) (hK9 : ∀ e, own v e → mk v e = 1 → F 8 (o v e) = F 8 v → F 9 (o v e) = e ∨ e = b) (hph : F 13 (F 8 v) ≠ 3) (hnk : ∀ y e, own y e → F 8 y = F 8 v → ¬ gh_has 6 (c y e)) (hnc : ∀ y e, own y e → F 8 y = F 8 v → F 8 (o y e) = F 8 v → ¬ gh_has 0 (c y e)) (hnp : ∀ y e a m, own y e → F 8 y = F 8 v → m ∈ c y e → m.1 = 5 → gm_p own o w F mk c (o y e) y e a m → (mk y e = 1 ∧ F 0 y = 2 ∧ F 4 y = e ∧ m.2.1 < F 6 y ∧ F 9 y = e ∧ y ≠ v ∧ gh_R F v b 9 (o y e) ≠ e ∧ a = F 1 y ∧ (¬ gi_cur F y ∨ F 4 (o y e) ≠ gh_R F v b 9 (o y e)) ∧ 1 ≤ F 1 y)) (hob : own v b) (hb0 : mk v b = 0) (hbo : F 8 (o v b) ≠ F 8 v) (hbl : F 1 v ≤ F 1 (o v b)) (hy0 : mk (o v b) b = 0)  : gi_tw own (gh_A c (o v b) b (0, F 1 v, 0, 0)) := by
  dsimp only [gi_tw, gx_k, gx_c, gi_cur, gi_NR, gi_wt, gi_open, gh_Net] at *
  try simp (decide := true) only [gh_H, gh_R, gh_U, gh_K, gh_A_has, gh_A_cnt, gh_A_mem, false_and, true_and, and_false, or_false, if_false, if_true, and_true]
  grind (splits := 25) [gh_cnt_0]
theorem cc_ts {v b : Nat} (Hts : gi_ts own o F c) (Hn : gh_Net own o w) (hcu : gi_cur F v) (hset : ∀ x, F 8 x = F 8 v → F 11 x = 1 ∧ F 0 x = 2) (hR9 : ∀ x, F 8 x = F 8 v → x = v ∨ gi_NR o (gh_R F v b) x) (hK9 : ∀ e, own v e → mk v e = 1 → F 8 (o v e) = F 8 v → F 9 (o v e) = e ∨ e = b) (hph : F 13 (F 8 v) ≠ 3) (hnk : ∀ y e, own y e → F 8 y = F 8 v → ¬ gh_has 6 (c y e)) (hnc : ∀ y e, own y e → F 8 y = F 8 v → F 8 (o y e) = F 8 v → ¬ gh_has 0 (c y e)) (hnp : ∀ y e a m, own y e → F 8 y = F 8 v → m ∈ c y e → m.1 = 5 → gm_p own o w F mk c (o y e) y e a m → (mk y e = 1 ∧ F 0 y = 2 ∧ F 4 y = e ∧ m.2.1 < F 6 y ∧ F 9 y = e ∧ y ≠ v ∧ gh_R F v b 9 (o y e) ≠ e ∧ a = F 1 y ∧ (¬ gi_cur F y ∨ F 4 (o y e) ≠ gh_R F v b 9 (o y e)) ∧ 1 ≤ F 1 y)) (hob : own v b) (hb0 : mk v b = 0) (hbo : F 8 (o v b) ≠ F 8 v) (hbl : F 1 v ≤ F 1 (o v b)) (hy0 : mk (o v b) b = 0)  : gi_ts own o (gh_H (gh_R F v b) (F 8 v) 3 v b) (gh_A c (o v b) b (0, F 1 v, 0, 0)) := by
  clear hnk hnc hnp hK9 hR9
  dsimp only [gi_ts, gi_cur, gi_NR, gi_wt, gi_open, gh_Net] at *
  try simp (decide := true) only [gh_H, gh_R, gh_U, gh_K, gh_A_has, gh_A_cnt, gh_A_mem, false_and, true_and, and_false, or_false, if_false, if_true, and_true]
  grind (splits := 25)
theorem cc_rj {v b : Nat} (Hrj : gi_rj own o F mk) (Hn : gh_Net own o w) (hcu : gi_cur F v) (hset : ∀ x, F 8 x = F 8 v → F 11 x = 1 ∧ F 0 x = 2) (hR9 : ∀ x, F 8 x = F 8 v → x = v ∨ gi_NR o (gh_R F v b) x) (hK9 : ∀ e, own v e → mk v e = 1 → F 8 (o v e) = F 8 v → F 9 (o v e) = e ∨ e = b) (hph : F 13 (F 8 v) ≠ 3) (hnk : ∀ y e, own y e → F 8 y = F 8 v → ¬ gh_has 6 (c y e)) (hnc : ∀ y e, own y e → F 8 y = F 8 v → F 8 (o y e) = F 8 v → ¬ gh_has 0 (c y e)) (hnp : ∀ y e a m, own y e → F 8 y = F 8 v → m ∈ c y e → m.1 = 5 → gm_p own o w F mk c (o y e) y e a m → (mk y e = 1 ∧ F 0 y = 2 ∧ F 4 y = e ∧ m.2.1 < F 6 y ∧ F 9 y = e ∧ y ≠ v ∧ gh_R F v b 9 (o y e) ≠ e ∧ a = F 1 y ∧ (¬ gi_cur F y ∨ F 4 (o y e) ≠ gh_R F v b 9 (o y e)) ∧ 1 ≤ F 1 y)) (hob : own v b) (hb0 : mk v b = 0) (hbo : F 8 (o v b) ≠ F 8 v) (hbl : F 1 v ≤ F 1 (o v b)) (hy0 : mk (o v b) b = 0)  : gi_rj own o (gh_H (gh_R F v b) (F 8 v) 3 v b) (gh_K mk v b 1) := by
  clear hnk hnc hnp hK9 hR9
  dsimp only [gi_rj, gi_cur, gi_NR, gi_wt, gi_open, gh_Net] at *
  try simp (decide := true) only [gh_H, gh_R, gh_U, gh_K, gh_A_has, gh_A_cnt, gh_A_mem, false_and, true_and, and_false, or_false, if_false, if_true, and_true]
  grind (splits := 25)
theorem cc_mi {v b : Nat} (Hn : gh_Net own o w) (hcu : gi_cur F v) (hset : ∀ x, F 8 x = F 8 v → F 11 x = 1 ∧ F 0 x = 2) (hR9 : ∀ x, F 8 x = F 8 v → x = v ∨ gi_NR o (gh_R F v b) x) (hK9 : ∀ e, own v e → mk v e = 1 → F 8 (o v e) = F 8 v → F 9 (o v e) = e ∨ e = b) (hph : F 13 (F 8 v) ≠ 3) (hnk : ∀ y e, own y e → F 8 y = F 8 v → ¬ gh_has 6 (c y e)) (hnc : ∀ y e, own y e → F 8 y = F 8 v → F 8 (o y e) = F 8 v → ¬ gh_has 0 (c y e)) (hnp : ∀ y e a m, own y e → F 8 y = F 8 v → m ∈ c y e → m.1 = 5 → gm_p own o w F mk c (o y e) y e a m → (mk y e = 1 ∧ F 0 y = 2 ∧ F 4 y = e ∧ m.2.1 < F 6 y ∧ F 9 y = e ∧ y ≠ v ∧ gh_R F v b 9 (o y e) ≠ e ∧ a = F 1 y ∧ (¬ gi_cur F y ∨ F 4 (o y e) ≠ gh_R F v b 9 (o y e)) ∧ 1 ≤ F 1 y)) (hob : own v b) (hb0 : mk v b = 0) (hbo : F 8 (o v b) ≠ F 8 v) (hbl : F 1 v ≤ F 1 (o v b)) (hy0 : mk (o v b) b = 0)  {x y e a : Nat} {m : gh_M} (hx : o y e = x) (hy : own y e) (hm : m ∈ c y e) (ha : F 1 y ≤ a) (hb : ¬ gh_has 1 (c y e) → a = F 1 y)  (h : gm_i own o w F mk c x y e a m) : gm_i own o w (gh_H (gh_R F v b) (F 8 v) 3 v b) (gh_K mk v b 1) (gh_A c (o v b) b (0, F 1 v, 0, 0)) x y e a m := by
  have hh : ∀ k, m.1 = k → gh_has k (c y e) := fun k hk => ⟨m, hm, hk⟩
  intro hm1
  have h := h hm1
  have q1 := hset y
  obtain ⟨h1, h2, h3, h4, h5, h6, h7, h8, h9', h10, h11⟩ := h
  refine ⟨h1, h2, ?_, ?_, ?_, ?_, h7, h8, ?_, ?_, h11⟩
  all_goals
    clear hnk hnc hnp hK9 hR9 hset Hn hh h11
    (try dsimp only [gi_cur, gi_NR] at *)
    (try simp (decide := true) only [gh_H, gh_R, gh_U, gh_K, gh_A_has, gh_A_cnt, gh_A_mem, false_and, true_and, and_false, or_false, if_false, if_true, and_true] at *)
    grind (splits := 30)
theorem cc_mc {v b : Nat} (Hn : gh_Net own o w) (hcu : gi_cur F v) (hset : ∀ x, F 8 x = F 8 v → F 11 x = 1 ∧ F 0 x = 2) (hR9 : ∀ x, F 8 x = F 8 v → x = v ∨ gi_NR o (gh_R F v b) x) (hK9 : ∀ e, own v e → mk v e = 1 → F 8 (o v e) = F 8 v → F 9 (o v e) = e ∨ e = b) (hph : F 13 (F 8 v) ≠ 3) (hnk : ∀ y e, own y e → F 8 y = F 8 v → ¬ gh_has 6 (c y e)) (hnc : ∀ y e, own y e → F 8 y = F 8 v → F 8 (o y e) = F 8 v → ¬ gh_has 0 (c y e)) (hnp : ∀ y e a m, own y e → F 8 y = F 8 v → m ∈ c y e → m.1 = 5 → gm_p own o w F mk c (o y e) y e a m → (mk y e = 1 ∧ F 0 y = 2 ∧ F 4 y = e ∧ m.2.1 < F 6 y ∧ F 9 y = e ∧ y ≠ v ∧ gh_R F v b 9 (o y e) ≠ e ∧ a = F 1 y ∧ (¬ gi_cur F y ∨ F 4 (o y e) ≠ gh_R F v b 9 (o y e)) ∧ 1 ≤ F 1 y)) (hob : own v b) (hb0 : mk v b = 0) (hbo : F 8 (o v b) ≠ F 8 v) (hbl : F 1 v ≤ F 1 (o v b)) (hy0 : mk (o v b) b = 0)  {x y e a : Nat} {m : gh_M} (hx : o y e = x) (hy : own y e) (hm : m ∈ c y e) (ha : F 1 y ≤ a) (hb : ¬ gh_has 1 (c y e) → a = F 1 y)  (h : gm_c own o w F mk c x y e a m) : gm_c own o w (gh_H (gh_R F v b) (F 8 v) 3 v b) (gh_K mk v b 1) (gh_A c (o v b) b (0, F 1 v, 0, 0)) x y e a m := by
  have hh : ∀ k, m.1 = k → gh_has k (c y e) := fun k hk => ⟨m, hm, hk⟩
  intro hm1
  have h := h hm1
  have q1 := hnc y e hy
  have q2 := hh 0 hm1
  clear hnk hnc hnp hK9 hR9 hset Hn hh
  dsimp only [gi_cur] at *
  simp (decide := true) only [gh_H, gh_R, gh_U, gh_K, gh_A_has, gh_A_cnt, gh_A_mem, false_and, true_and, and_false, or_false, if_false, if_true, and_true] at *
  grind (splits := 30)
theorem cc_mt {v b : Nat} (Hn : gh_Net own o w) (hcu : gi_cur F v) (hset : ∀ x, F 8 x = F 8 v → F 11 x = 1 ∧ F 0 x = 2) (hR9 : ∀ x, F 8 x = F 8 v → x = v ∨ gi_NR o (gh_R F v b) x) (hK9 : ∀ e, own v e → mk v e = 1 → F 8 (o v e) = F 8 v → F 9 (o v e) = e ∨ e = b) (hph : F 13 (F 8 v) ≠ 3) (hnk : ∀ y e, own y e → F 8 y = F 8 v → ¬ gh_has 6 (c y e)) (hnc : ∀ y e, own y e → F 8 y = F 8 v → F 8 (o y e) = F 8 v → ¬ gh_has 0 (c y e)) (hnp : ∀ y e a m, own y e → F 8 y = F 8 v → m ∈ c y e → m.1 = 5 → gm_p own o w F mk c (o y e) y e a m → (mk y e = 1 ∧ F 0 y = 2 ∧ F 4 y = e ∧ m.2.1 < F 6 y ∧ F 9 y = e ∧ y ≠ v ∧ gh_R F v b 9 (o y e) ≠ e ∧ a = F 1 y ∧ (¬ gi_cur F y ∨ F 4 (o y e) ≠ gh_R F v b 9 (o y e)) ∧ 1 ≤ F 1 y)) (hob : own v b) (hb0 : mk v b = 0) (hbo : F 8 (o v b) ≠ F 8 v) (hbl : F 1 v ≤ F 1 (o v b)) (hy0 : mk (o v b) b = 0)  {x y e a : Nat} {m : gh_M} (hx : o y e = x) (hy : own y e) (hm : m ∈ c y e) (ha : F 1 y ≤ a) (hb : ¬ gh_has 1 (c y e) → a = F 1 y)  (h : gm_t own o w F mk c x y e a m) : gm_t own o w (gh_H (gh_R F v b) (F 8 v) 3 v b) (gh_K mk v b 1) (gh_A c (o v b) b (0, F 1 v, 0, 0)) x y e a m := by
  have hh : ∀ k, m.1 = k → gh_has k (c y e) := fun k hk => ⟨m, hm, hk⟩
  clear hnk hnc hnp hK9 hR9
  dsimp only [gm_t, gi_cur, gi_NR, gi_wt, gi_open, gh_Net] at *
  try simp (decide := true) only [gh_H, gh_R, gh_U, gh_K, gh_A_has, gh_A_cnt, gh_A_mem, false_and, true_and, and_false, or_false, if_false, if_true, and_true]
  grind (splits := 25)
theorem cc_ma {v b : Nat} (Hn : gh_Net own o w) (hcu : gi_cur F v) (hset : ∀ x, F 8 x = F 8 v → F 11 x = 1 ∧ F 0 x = 2) (hR9 : ∀ x, F 8 x = F 8 v → x = v ∨ gi_NR o (gh_R F v b) x) (hK9 : ∀ e, own v e → mk v e = 1 → F 8 (o v e) = F 8 v → F 9 (o v e) = e ∨ e = b) (hph : F 13 (F 8 v) ≠ 3) (hnk : ∀ y e, own y e → F 8 y = F 8 v → ¬ gh_has 6 (c y e)) (hnc : ∀ y e, own y e → F 8 y = F 8 v → F 8 (o y e) = F 8 v → ¬ gh_has 0 (c y e)) (hnp : ∀ y e a m, own y e → F 8 y = F 8 v → m ∈ c y e → m.1 = 5 → gm_p own o w F mk c (o y e) y e a m → (mk y e = 1 ∧ F 0 y = 2 ∧ F 4 y = e ∧ m.2.1 < F 6 y ∧ F 9 y = e ∧ y ≠ v ∧ gh_R F v b 9 (o y e) ≠ e ∧ a = F 1 y ∧ (¬ gi_cur F y ∨ F 4 (o y e) ≠ gh_R F v b 9 (o y e)) ∧ 1 ≤ F 1 y)) (hob : own v b) (hb0 : mk v b = 0) (hbo : F 8 (o v b) ≠ F 8 v) (hbl : F 1 v ≤ F 1 (o v b)) (hy0 : mk (o v b) b = 0)  {x y e a : Nat} {m : gh_M} (hx : o y e = x) (hy : own y e) (hm : m ∈ c y e) (ha : F 1 y ≤ a) (hb : ¬ gh_has 1 (c y e) → a = F 1 y)  (h : gm_a own o w F mk c x y e a m) : gm_a own o w (gh_H (gh_R F v b) (F 8 v) 3 v b) (gh_K mk v b 1) (gh_A c (o v b) b (0, F 1 v, 0, 0)) x y e a m := by
  have hh : ∀ k, m.1 = k → gh_has k (c y e) := fun k hk => ⟨m, hm, hk⟩
  clear hnk hnc hnp hK9 hR9
  dsimp only [gm_a, gi_cur, gi_NR, gi_wt, gi_open, gh_Net] at *
  try simp (decide := true) only [gh_H, gh_R, gh_U, gh_K, gh_A_has, gh_A_cnt, gh_A_mem, false_and, true_and, and_false, or_false, if_false, if_true, and_true]
  grind (splits := 25)
theorem cc_mr {v b : Nat} (Hn : gh_Net own o w) (hcu : gi_cur F v) (hset : ∀ x, F 8 x = F 8 v → F 11 x = 1 ∧ F 0 x = 2) (hR9 : ∀ x, F 8 x = F 8 v → x = v ∨ gi_NR o (gh_R F v b) x) (hK9 : ∀ e, own v e → mk v e = 1 → F 8 (o v e) = F 8 v → F 9 (o v e) = e ∨ e = b) (hph : F 13 (F 8 v) ≠ 3) (hnk : ∀ y e, own y e → F 8 y = F 8 v → ¬ gh_has 6 (c y e)) (hnc : ∀ y e, own y e → F 8 y = F 8 v → F 8 (o y e) = F 8 v → ¬ gh_has 0 (c y e)) (hnp : ∀ y e a m, own y e → F 8 y = F 8 v → m ∈ c y e → m.1 = 5 → gm_p own o w F mk c (o y e) y e a m → (mk y e = 1 ∧ F 0 y = 2 ∧ F 4 y = e ∧ m.2.1 < F 6 y ∧ F 9 y = e ∧ y ≠ v ∧ gh_R F v b 9 (o y e) ≠ e ∧ a = F 1 y ∧ (¬ gi_cur F y ∨ F 4 (o y e) ≠ gh_R F v b 9 (o y e)) ∧ 1 ≤ F 1 y)) (hob : own v b) (hb0 : mk v b = 0) (hbo : F 8 (o v b) ≠ F 8 v) (hbl : F 1 v ≤ F 1 (o v b)) (hy0 : mk (o v b) b = 0)  {x y e a : Nat} {m : gh_M} (hx : o y e = x) (hy : own y e) (hm : m ∈ c y e) (ha : F 1 y ≤ a) (hb : ¬ gh_has 1 (c y e) → a = F 1 y)  (h : gm_r own o w F mk c x y e a m) : gm_r own o w (gh_H (gh_R F v b) (F 8 v) 3 v b) (gh_K mk v b 1) (gh_A c (o v b) b (0, F 1 v, 0, 0)) x y e a m := by
  have hh : ∀ k, m.1 = k → gh_has k (c y e) := fun k hk => ⟨m, hm, hk⟩
  clear hnk hnc hnp hK9 hR9
  dsimp only [gm_r, gi_cur, gi_NR, gi_wt, gi_open, gh_Net] at *
  try simp (decide := true) only [gh_H, gh_R, gh_U, gh_K, gh_A_has, gh_A_cnt, gh_A_mem, false_and, true_and, and_false, or_false, if_false, if_true, and_true]
  grind (splits := 25)
theorem cc_mk {v b : Nat} (Hn : gh_Net own o w) (hcu : gi_cur F v) (hset : ∀ x, F 8 x = F 8 v → F 11 x = 1 ∧ F 0 x = 2) (hR9 : ∀ x, F 8 x = F 8 v → x = v ∨ gi_NR o (gh_R F v b) x) (hK9 : ∀ e, own v e → mk v e = 1 → F 8 (o v e) = F 8 v → F 9 (o v e) = e ∨ e = b) (hph : F 13 (F 8 v) ≠ 3) (hnk : ∀ y e, own y e → F 8 y = F 8 v → ¬ gh_has 6 (c y e)) (hnc : ∀ y e, own y e → F 8 y = F 8 v → F 8 (o y e) = F 8 v → ¬ gh_has 0 (c y e)) (hnp : ∀ y e a m, own y e → F 8 y = F 8 v → m ∈ c y e → m.1 = 5 → gm_p own o w F mk c (o y e) y e a m → (mk y e = 1 ∧ F 0 y = 2 ∧ F 4 y = e ∧ m.2.1 < F 6 y ∧ F 9 y = e ∧ y ≠ v ∧ gh_R F v b 9 (o y e) ≠ e ∧ a = F 1 y ∧ (¬ gi_cur F y ∨ F 4 (o y e) ≠ gh_R F v b 9 (o y e)) ∧ 1 ≤ F 1 y)) (hob : own v b) (hb0 : mk v b = 0) (hbo : F 8 (o v b) ≠ F 8 v) (hbl : F 1 v ≤ F 1 (o v b)) (hy0 : mk (o v b) b = 0)  {x y e a : Nat} {m : gh_M} (hx : o y e = x) (hy : own y e) (hm : m ∈ c y e) (ha : F 1 y ≤ a) (hb : ¬ gh_has 1 (c y e) → a = F 1 y)  (h : gm_k own o w F mk c x y e a m) : gm_k own o w (gh_H (gh_R F v b) (F 8 v) 3 v b) (gh_K mk v b 1) (gh_A c (o v b) b (0, F 1 v, 0, 0)) x y e a m := by
  have hh : ∀ k, m.1 = k → gh_has k (c y e) := fun k hk => ⟨m, hm, hk⟩
  intro hm1
  have h := h hm1
  have q1 := hnk y e hy
  have q2 := hh 6 hm1
  clear hnk hnc hnp hK9 hR9 hset hh
  dsimp only [gm_k, gi_cur, gi_NR, gi_wt, gi_open, gh_Net] at *
  try simp (decide := true) only [gh_H, gh_R, gh_U, gh_K, gh_A_has, gh_A_cnt, gh_A_mem, false_and, true_and, and_false, or_false, if_false, if_true, and_true]
  grind (splits := 25)
theorem cc_mp {v b : Nat} (Hn : gh_Net own o w) (hcu : gi_cur F v) (hset : ∀ x, F 8 x = F 8 v → F 11 x = 1 ∧ F 0 x = 2) (hR9 : ∀ x, F 8 x = F 8 v → x = v ∨ gi_NR o (gh_R F v b) x) (hK9 : ∀ e, own v e → mk v e = 1 → F 8 (o v e) = F 8 v → F 9 (o v e) = e ∨ e = b) (hph : F 13 (F 8 v) ≠ 3) (hnk : ∀ y e, own y e → F 8 y = F 8 v → ¬ gh_has 6 (c y e)) (hnc : ∀ y e, own y e → F 8 y = F 8 v → F 8 (o y e) = F 8 v → ¬ gh_has 0 (c y e)) (hnp : ∀ y e a m, own y e → F 8 y = F 8 v → m ∈ c y e → m.1 = 5 → gm_p own o w F mk c (o y e) y e a m → (mk y e = 1 ∧ F 0 y = 2 ∧ F 4 y = e ∧ m.2.1 < F 6 y ∧ F 9 y = e ∧ y ≠ v ∧ gh_R F v b 9 (o y e) ≠ e ∧ a = F 1 y ∧ (¬ gi_cur F y ∨ F 4 (o y e) ≠ gh_R F v b 9 (o y e)) ∧ 1 ≤ F 1 y)) (hob : own v b) (hb0 : mk v b = 0) (hbo : F 8 (o v b) ≠ F 8 v) (hbl : F 1 v ≤ F 1 (o v b)) (hy0 : mk (o v b) b = 0)  {x y e a : Nat} {m : gh_M} (hx : o y e = x) (hy : own y e) (hm : m ∈ c y e) (ha : F 1 y ≤ a) (hb : ¬ gh_has 1 (c y e) → a = F 1 y)  (h : gm_p own o w F mk c x y e a m) : gm_p own o w (gh_H (gh_R F v b) (F 8 v) 3 v b) (gh_K mk v b 1) (gh_A c (o v b) b (0, F 1 v, 0, 0)) x y e a m := by
  have hh : ∀ k, m.1 = k → gh_has k (c y e) := fun k hk => ⟨m, hm, hk⟩
  intro hm1
  have q1 := hnp y e a m hy
  rw [hx] at q1
  have q2 := fun z => q1 z hm hm1 h
  have h := h hm1
  have b2 := Hn.1 y e hy
  clear hnk hnc hnp hK9 hR9 hset hh q1 Hn
  dsimp only [gi_cur] at *
  simp (decide := true) only [gh_H, gh_R, gh_R, gh_U, gh_K, if_true, if_false, false_and, true_and] at *
  grind (splits := 30)
theorem cc_new {v b : Nat} (Hn : gh_Net own o w) (hcu : gi_cur F v) (hset : ∀ x, F 8 x = F 8 v → F 11 x = 1 ∧ F 0 x = 2) (hR9 : ∀ x, F 8 x = F 8 v → x = v ∨ gi_NR o (gh_R F v b) x) (hK9 : ∀ e, own v e → mk v e = 1 → F 8 (o v e) = F 8 v → F 9 (o v e) = e ∨ e = b) (hph : F 13 (F 8 v) ≠ 3) (hnk : ∀ y e, own y e → F 8 y = F 8 v → ¬ gh_has 6 (c y e)) (hnc : ∀ y e, own y e → F 8 y = F 8 v → F 8 (o y e) = F 8 v → ¬ gh_has 0 (c y e)) (hnp : ∀ y e a m, own y e → F 8 y = F 8 v → m ∈ c y e → m.1 = 5 → gm_p own o w F mk c (o y e) y e a m → (mk y e = 1 ∧ F 0 y = 2 ∧ F 4 y = e ∧ m.2.1 < F 6 y ∧ F 9 y = e ∧ y ≠ v ∧ gh_R F v b 9 (o y e) ≠ e ∧ a = F 1 y ∧ (¬ gi_cur F y ∨ F 4 (o y e) ≠ gh_R F v b 9 (o y e)) ∧ 1 ≤ F 1 y)) (hob : own v b) (hb0 : mk v b = 0) (hbo : F 8 (o v b) ≠ F 8 v) (hbl : F 1 v ≤ F 1 (o v b)) (hy0 : mk (o v b) b = 0)   : gm_c own o w (gh_H (gh_R F v b) (F 8 v) 3 v b) (gh_K mk v b 1) (gh_A c (o v b) b (0, F 1 v, 0, 0)) (o (o v b) (b)) (o v b) (b) (gh_last (F 1 (o v b)) (c (o v b) b)) (0, F 1 v, 0, 0) := by
  intro _
  have a11 := Hn.1 v b hob
  rw [a11.2.1]
  simp (decide := true) only [gh_H, gh_R, gh_K, if_true, if_false, false_and, true_and]
  grind
theorem cc_I {v b : Nat} (Hn : gh_Net own o w) (h : gI own o w F mk c) (hcu : gi_cur F v) (hset : ∀ x, F 8 x = F 8 v → F 11 x = 1 ∧ F 0 x = 2) (hR9 : ∀ x, F 8 x = F 8 v → x = v ∨ gi_NR o (gh_R F v b) x) (hK9 : ∀ e, own v e → mk v e = 1 → F 8 (o v e) = F 8 v → F 9 (o v e) = e ∨ e = b) (hph : F 13 (F 8 v) ≠ 3) (hnk : ∀ y e, own y e → F 8 y = F 8 v → ¬ gh_has 6 (c y e)) (hnc : ∀ y e, own y e → F 8 y = F 8 v → F 8 (o y e) = F 8 v → ¬ gh_has 0 (c y e)) (hnp : ∀ y e a m, own y e → F 8 y = F 8 v → m ∈ c y e → m.1 = 5 → gm_p own o w F mk c (o y e) y e a m → (mk y e = 1 ∧ F 0 y = 2 ∧ F 4 y = e ∧ m.2.1 < F 6 y ∧ F 9 y = e ∧ y ≠ v ∧ gh_R F v b 9 (o y e) ≠ e ∧ a = F 1 y ∧ (¬ gi_cur F y ∨ F 4 (o y e) ≠ gh_R F v b 9 (o y e)) ∧ 1 ≤ F 1 y)) (hob : own v b) (hb0 : mk v b = 0) (hbo : F 8 (o v b) ≠ F 8 v) (hbl : F 1 v ≤ F 1 (o v b)) (hy0 : mk (o v b) b = 0)  : gI own o w (gh_H (gh_R F v b) (F 8 v) 3 v b) (gh_K mk v b 1) (gh_A c (o v b) b (0, F 1 v, 0, 0)) := by
  obtain ⟨Hst, Hb1, Hb2, Hb3, Hb4, Hb5, Hb6, Hs0, HpA, Hs1, Hs2, HSl, Hs3, Hs4, How, Hs5, Hs6, HSr, HSn, HM, HC, Hph, H6, H7, Hbc, HK, Hrj, Htw, Hts, Han, Hsz, Hch⟩ := h
  have Xi := gx_iI Hch
  have Xc := gx_cI Hch
  have Xt := gx_tI Hch
  have Xa := gx_aI Hch
  have Xr := gx_rI Hch
  have Xk := gx_kI Hch
  have Xp := gx_pI Hch
  have Xl := gx_lI Hch
  have Xb := gx_bI Hch
  have Xn := gx_nI Hn Hph HpA HSr HSn HM HC
  refine ⟨cc_st Hst hcu hset hR9 hK9 hph hnk hnc hnp hob hb0 hbo hbl hy0, cc_b1 Hb1 hcu hset hR9 hK9 hph hnk hnc hnp hob hb0 hbo hbl hy0, cc_b2 Hb2 hcu hset hR9 hK9 hph hnk hnc hnp hob hb0 hbo hbl hy0, cc_b3 Hb3 hcu hset hR9 hK9 hph hnk hnc hnp hob hb0 hbo hbl hy0, cc_b4 Hb4 hcu hset hR9 hK9 hph hnk hnc hnp hob hb0 hbo hbl hy0, cc_b5 Hb5 hcu hset hR9 hK9 hph hnk hnc hnp hob hb0 hbo hbl hy0, cc_b6 Hb6 hcu hset hR9 hK9 hph hnk hnc hnp hob hb0 hbo hbl hy0, cc_s0 Hs0 HpA hcu hset hR9 hK9 hph hnk hnc hnp hob hb0 hbo hbl hy0, cc_pA HpA Hn hcu hset hR9 hK9 hph hnk hnc hnp hob hb0 hbo hbl hy0, cc_s1 Hs1 Hn hcu hset hR9 hK9 hph hnk hnc hnp hob hb0 hbo hbl hy0, cc_s2 Hs2 Hn hcu hset hR9 hK9 hph hnk hnc hnp hob hb0 hbo hbl hy0, cc_Sl HSl Hn hcu hset hR9 hK9 hph hnk hnc hnp hob hb0 hbo hbl hy0, cc_s3 Hs3 Hn hcu hset hR9 hK9 hph hnk hnc hnp hob hb0 hbo hbl hy0, cc_s4 Hs4 Hn hcu hset hR9 hK9 hph hnk hnc hnp hob hb0 hbo hbl hy0, cc_ow How Hn hcu hset hR9 hK9 hph hnk hnc hnp hob hb0 hbo hbl hy0, cc_s5 Hs5 Hn hcu hset hR9 hK9 hph hnk hnc hnp hob hb0 hbo hbl hy0, cc_s6 Hs6 Hn hcu hset hR9 hK9 hph hnk hnc hnp hob hb0 hbo hbl hy0, cc_Sr HSr Hn HSl Hs6 hcu hset hR9 hK9 hph hnk hnc hnp hob hb0 hbo hbl hy0, cc_Sn HSn Hn hcu hset hR9 hK9 hph hnk hnc hnp hob hb0 hbo hbl hy0, cc_M HM Hn hcu hset hR9 hK9 hph hnk hnc hnp hob hb0 hbo hbl hy0, cc_C HC Hn hcu hset hR9 hK9 hph hnk hnc hnp hob hb0 hbo hbl hy0, cc_ph Hph Hn hcu hset hR9 hK9 hph hnk hnc hnp hob hb0 hbo hbl hy0, cc_6 H6 Hn Hb1 Hs6 Xl hcu hset hR9 hK9 hph hnk hnc hnp hob hb0 hbo hbl hy0, cc_7 H7 Hn hcu hset hR9 hK9 hph hnk hnc hnp hob hb0 hbo hbl hy0, cc_bc Hbc Hn Hs2 How hcu hset hR9 hK9 hph hnk hnc hnp hob hb0 hbo hbl hy0, cc_K HK Hn hcu hset hR9 hK9 hph hnk hnc hnp hob hb0 hbo hbl hy0, cc_rj Hrj Hn hcu hset hR9 hK9 hph hnk hnc hnp hob hb0 hbo hbl hy0, cc_tw Htw Hn Xk Xc hcu hset hR9 hK9 hph hnk hnc hnp hob hb0 hbo hbl hy0, cc_ts Hts Hn hcu hset hR9 hK9 hph hnk hnc hnp hob hb0 hbo hbl hy0, cc_an Han Hn Hs2 HK hcu hset hR9 hK9 hph hnk hnc hnp hob hb0 hbo hbl hy0, cc_sz Hsz hcu hset hR9 hK9 hph hnk hnc hnp hob hb0 hbo hbl hy0, ?_⟩
  have K1 : gi_all own (gh_H (gh_R F v b) (F 8 v) 3 v b) c (fun y e => gi_m own o w (gh_H (gh_R F v b) (F 8 v) 3 v b) (gh_K mk v b 1) (gh_A c (o v b) b (0, F 1 v, 0, 0)) (o y e) y e) := gi_all_go (Hch) (fun _ _ q => q) (fun y => (by simp [gh_H, gh_R])) (fun y e a m hy hm ha hb q => ⟨q.1, cc_mi Hn hcu hset hR9 hK9 hph hnk hnc hnp hob hb0 hbo hbl hy0 rfl hy hm ha hb q.2.1, cc_mc Hn hcu hset hR9 hK9 hph hnk hnc hnp hob hb0 hbo hbl hy0 rfl hy hm ha hb q.2.2.1, cc_mt Hn hcu hset hR9 hK9 hph hnk hnc hnp hob hb0 hbo hbl hy0 rfl hy hm ha hb q.2.2.2.1, cc_ma Hn hcu hset hR9 hK9 hph hnk hnc hnp hob hb0 hbo hbl hy0 rfl hy hm ha hb q.2.2.2.2.1, cc_mr Hn hcu hset hR9 hK9 hph hnk hnc hnp hob hb0 hbo hbl hy0 rfl hy hm ha hb q.2.2.2.2.2.1, cc_mk Hn hcu hset hR9 hK9 hph hnk hnc hnp hob hb0 hbo hbl hy0 rfl hy hm ha hb q.2.2.2.2.2.2.1, cc_mp Hn hcu hset hR9 hK9 hph hnk hnc hnp hob hb0 hbo hbl hy0 rfl hy hm ha hb q.2.2.2.2.2.2.2⟩)
  exact gi_all_appA K1 (fun hy => ⟨by simp, fun z => absurd z (by simp), cc_new Hn hcu hset hR9 hK9 hph hnk hnc hnp hob hb0 hbo hbl hy0 , fun z => absurd z (by simp), fun z => absurd z (by simp), fun z => absurd z (by simp), fun z => absurd z (by simp), fun z => absurd z (by simp)⟩)
end
section
variable {own : Nat → Nat → Prop} {o : Nat → Nat → Nat} {w : Nat → Nat} {F : gh_F} {mk : Nat → Nat → Nat} {c : Nat → Nat → List gh_M}
theorem ck_st {v b : Nat} (Hst : gi_st F) (hcu : gi_cur F v) (hset : ∀ x, F 8 x = F 8 v → F 11 x = 1 ∧ F 0 x = 2) (hR9 : ∀ x, F 8 x = F 8 v → x = v ∨ gi_NR o (gh_R F v b) x) (hK9 : ∀ e, own v e → mk v e = 1 → F 8 (o v e) = F 8 v → F 9 (o v e) = e ∨ e = b) (hph : F 13 (F 8 v) ≠ 3) (hnk : ∀ y e, own y e → F 8 y = F 8 v → ¬ gh_has 6 (c y e)) (hnc : ∀ y e, own y e → F 8 y = F 8 v → F 8 (o y e) = F 8 v → ¬ gh_has 0 (c y e)) (hnp : ∀ y e a m, own y e → F 8 y = F 8 v → m ∈ c y e → m.1 = 5 → gm_p own o w F mk c (o y e) y e a m → (mk y e = 1 ∧ F 0 y = 2 ∧ F 4 y = e ∧ m.2.1 < F 6 y ∧ F 9 y = e ∧ y ≠ v ∧ gh_R F v b 9 (o y e) ≠ e ∧ a = F 1 y ∧ (¬ gi_cur F y ∨ F 4 (o y e) ≠ gh_R F v b 9 (o y e)) ∧ 1 ≤ F 1 y)) (hob : own v b) (hb0 : mk v b = 0) (hbo : F 8 (o v b) ≠ F 8 v) (hbl : F 1 v = F 1 (o v b)) (hy1 : mk (o v b) b = 1) (hpu : F 13 (F 8 (o v b)) = 3) (hcu2 : gi_cur F (o v b)) (h0v : gh_has 0 (c v b)) (hCu : ∀ x, F 8 x = F 8 (o v b) → F 11 x = 1 ∧ F 0 x = 2 ∧ (x = o v b ∨ gi_NR o F x)) (h9u : F 9 (o v b) = b) (hfr : ∀ x, F 8 x ≠ w b) (hX1 : ∀ x e, own x e → mk x e = 1 → F 8 x = F 8 v → F 8 (o x e) = F 8 v) (hX2 : ∀ x e, own x e → mk x e = 1 → F 8 x = F 8 (o v b) → F 8 (o x e) ≠ F 8 (o v b) → x = o v b ∧ e = b) (hX4 : ∀ y e, own y e → w e = w b → e = b ∧ (y = v ∨ y = o v b)) (hX5 : ∀ x, (F 8 x = F 8 v ∨ F 8 x = F 8 (o v b)) → F 1 x ≤ F 1 v) (hX6 : ∀ x, F 2 x ≠ w b) (hW : 1 ≤ w b ∧ w b < 100)  : gi_st (ga_mg F v (o v b) (w b) b) := by
  clear hnk hnc hnp hK9 hR9 hX1 hX2 hX4 hCu hset
  dsimp only [gi_st, gi_cur, gi_NR, gi_wt, gi_open, gh_Net] at *
  try simp (decide := true) only [ga_mg, gh_U, gh_K, gh_A_has, gh_A_cnt, gh_A_mem, false_and, true_and, and_false, or_false, if_false, if_true, and_true]
  grind (splits := 25)
theorem ck_b1 {v b : Nat} (Hb1 : gi_b1 F) (hcu : gi_cur F v) (hset : ∀ x, F 8 x = F 8 v → F 11 x = 1 ∧ F 0 x = 2) (hR9 : ∀ x, F 8 x = F 8 v → x = v ∨ gi_NR o (gh_R F v b) x) (hK9 : ∀ e, own v e → mk v e = 1 → F 8 (o v e) = F 8 v → F 9 (o v e) = e ∨ e = b) (hph : F 13 (F 8 v) ≠ 3) (hnk : ∀ y e, own y e → F 8 y = F 8 v → ¬ gh_has 6 (c y e)) (hnc : ∀ y e, own y e → F 8 y = F 8 v → F 8 (o y e) = F 8 v → ¬ gh_has 0 (c y e)) (hnp : ∀ y e a m, own y e → F 8 y = F 8 v → m ∈ c y e → m.1 = 5 → gm_p own o w F mk c (o y e) y e a m → (mk y e = 1 ∧ F 0 y = 2 ∧ F 4 y = e ∧ m.2.1 < F 6 y ∧ F 9 y = e ∧ y ≠ v ∧ gh_R F v b 9 (o y e) ≠ e ∧ a = F 1 y ∧ (¬ gi_cur F y ∨ F 4 (o y e) ≠ gh_R F v b 9 (o y e)) ∧ 1 ≤ F 1 y)) (hob : own v b) (hb0 : mk v b = 0) (hbo : F 8 (o v b) ≠ F 8 v) (hbl : F 1 v = F 1 (o v b)) (hy1 : mk (o v b) b = 1) (hpu : F 13 (F 8 (o v b)) = 3) (hcu2 : gi_cur F (o v b)) (h0v : gh_has 0 (c v b)) (hCu : ∀ x, F 8 x = F 8 (o v b) → F 11 x = 1 ∧ F 0 x = 2 ∧ (x = o v b ∨ gi_NR o F x)) (h9u : F 9 (o v b) = b) (hfr : ∀ x, F 8 x ≠ w b) (hX1 : ∀ x e, own x e → mk x e = 1 → F 8 x = F 8 v → F 8 (o x e) = F 8 v) (hX2 : ∀ x e, own x e → mk x e = 1 → F 8 x = F 8 (o v b) → F 8 (o x e) ≠ F 8 (o v b) → x = o v b ∧ e = b) (hX4 : ∀ y e, own y e → w e = w b → e = b ∧ (y = v ∨ y = o v b)) (hX5 : ∀ x, (F 8 x = F 8 v ∨ F 8 x = F 8 (o v b)) → F 1 x ≤ F 1 v) (hX6 : ∀ x, F 2 x ≠ w b) (hW : 1 ≤ w b ∧ w b < 100)  : gi_b1 (ga_mg F v (o v b) (w b) b) := by
  clear hnk hnc hnp hK9 hR9 hX1 hX2 hX4 hCu hset
  dsimp only [gi_b1, gi_cur, gi_NR, gi_wt, gi_open, gh_Net] at *
  try simp (decide := true) only [ga_mg, gh_U, gh_K, gh_A_has, gh_A_cnt, gh_A_mem, false_and, true_and, and_false, or_false, if_false, if_true, and_true]
  grind (splits := 25)
theorem ck_b2 {v b : Nat} (Hb2 : gi_b2 F) (hcu : gi_cur F v) (hset : ∀ x, F 8 x = F 8 v → F 11 x = 1 ∧ F 0 x = 2) (hR9 : ∀ x, F 8 x = F 8 v → x = v ∨ gi_NR o (gh_R F v b) x) (hK9 : ∀ e, own v e → mk v e = 1 → F 8 (o v e) = F 8 v → F 9 (o v e) = e ∨ e = b) (hph : F 13 (F 8 v) ≠ 3) (hnk : ∀ y e, own y e → F 8 y = F 8 v → ¬ gh_has 6 (c y e)) (hnc : ∀ y e, own y e → F 8 y = F 8 v → F 8 (o y e) = F 8 v → ¬ gh_has 0 (c y e)) (hnp : ∀ y e a m, own y e → F 8 y = F 8 v → m ∈ c y e → m.1 = 5 → gm_p own o w F mk c (o y e) y e a m → (mk y e = 1 ∧ F 0 y = 2 ∧ F 4 y = e ∧ m.2.1 < F 6 y ∧ F 9 y = e ∧ y ≠ v ∧ gh_R F v b 9 (o y e) ≠ e ∧ a = F 1 y ∧ (¬ gi_cur F y ∨ F 4 (o y e) ≠ gh_R F v b 9 (o y e)) ∧ 1 ≤ F 1 y)) (hob : own v b) (hb0 : mk v b = 0) (hbo : F 8 (o v b) ≠ F 8 v) (hbl : F 1 v = F 1 (o v b)) (hy1 : mk (o v b) b = 1) (hpu : F 13 (F 8 (o v b)) = 3) (hcu2 : gi_cur F (o v b)) (h0v : gh_has 0 (c v b)) (hCu : ∀ x, F 8 x = F 8 (o v b) → F 11 x = 1 ∧ F 0 x = 2 ∧ (x = o v b ∨ gi_NR o F x)) (h9u : F 9 (o v b) = b) (hfr : ∀ x, F 8 x ≠ w b) (hX1 : ∀ x e, own x e → mk x e = 1 → F 8 x = F 8 v → F 8 (o x e) = F 8 v) (hX2 : ∀ x e, own x e → mk x e = 1 → F 8 x = F 8 (o v b) → F 8 (o x e) ≠ F 8 (o v b) → x = o v b ∧ e = b) (hX4 : ∀ y e, own y e → w e = w b → e = b ∧ (y = v ∨ y = o v b)) (hX5 : ∀ x, (F 8 x = F 8 v ∨ F 8 x = F 8 (o v b)) → F 1 x ≤ F 1 v) (hX6 : ∀ x, F 2 x ≠ w b) (hW : 1 ≤ w b ∧ w b < 100)  : gi_b2 (ga_mg F v (o v b) (w b) b) := by
  clear hnk hnc hnp hK9 hR9 hX1 hX2 hX4 hCu hset
  dsimp only [gi_b2, gi_cur, gi_NR, gi_wt, gi_open, gh_Net] at *
  try simp (decide := true) only [ga_mg, gh_U, gh_K, gh_A_has, gh_A_cnt, gh_A_mem, false_and, true_and, and_false, or_false, if_false, if_true, and_true]
  grind (splits := 25)
theorem ck_b3 {v b : Nat} (Hb3 : gi_b3 F) (hcu : gi_cur F v) (hset : ∀ x, F 8 x = F 8 v → F 11 x = 1 ∧ F 0 x = 2) (hR9 : ∀ x, F 8 x = F 8 v → x = v ∨ gi_NR o (gh_R F v b) x) (hK9 : ∀ e, own v e → mk v e = 1 → F 8 (o v e) = F 8 v → F 9 (o v e) = e ∨ e = b) (hph : F 13 (F 8 v) ≠ 3) (hnk : ∀ y e, own y e → F 8 y = F 8 v → ¬ gh_has 6 (c y e)) (hnc : ∀ y e, own y e → F 8 y = F 8 v → F 8 (o y e) = F 8 v → ¬ gh_has 0 (c y e)) (hnp : ∀ y e a m, own y e → F 8 y = F 8 v → m ∈ c y e → m.1 = 5 → gm_p own o w F mk c (o y e) y e a m → (mk y e = 1 ∧ F 0 y = 2 ∧ F 4 y = e ∧ m.2.1 < F 6 y ∧ F 9 y = e ∧ y ≠ v ∧ gh_R F v b 9 (o y e) ≠ e ∧ a = F 1 y ∧ (¬ gi_cur F y ∨ F 4 (o y e) ≠ gh_R F v b 9 (o y e)) ∧ 1 ≤ F 1 y)) (hob : own v b) (hb0 : mk v b = 0) (hbo : F 8 (o v b) ≠ F 8 v) (hbl : F 1 v = F 1 (o v b)) (hy1 : mk (o v b) b = 1) (hpu : F 13 (F 8 (o v b)) = 3) (hcu2 : gi_cur F (o v b)) (h0v : gh_has 0 (c v b)) (hCu : ∀ x, F 8 x = F 8 (o v b) → F 11 x = 1 ∧ F 0 x = 2 ∧ (x = o v b ∨ gi_NR o F x)) (h9u : F 9 (o v b) = b) (hfr : ∀ x, F 8 x ≠ w b) (hX1 : ∀ x e, own x e → mk x e = 1 → F 8 x = F 8 v → F 8 (o x e) = F 8 v) (hX2 : ∀ x e, own x e → mk x e = 1 → F 8 x = F 8 (o v b) → F 8 (o x e) ≠ F 8 (o v b) → x = o v b ∧ e = b) (hX4 : ∀ y e, own y e → w e = w b → e = b ∧ (y = v ∨ y = o v b)) (hX5 : ∀ x, (F 8 x = F 8 v ∨ F 8 x = F 8 (o v b)) → F 1 x ≤ F 1 v) (hX6 : ∀ x, F 2 x ≠ w b) (hW : 1 ≤ w b ∧ w b < 100)  : gi_b3 (ga_mg F v (o v b) (w b) b) := by
  clear hnk hnc hnp hK9 hR9 hX1 hX2 hX4 hCu hset
  dsimp only [gi_b3, gi_cur, gi_NR, gi_wt, gi_open, gh_Net] at *
  try simp (decide := true) only [ga_mg, gh_U, gh_K, gh_A_has, gh_A_cnt, gh_A_mem, false_and, true_and, and_false, or_false, if_false, if_true, and_true]
  grind (splits := 25)
theorem ck_b4 {v b : Nat} (Hb4 : gi_b4 F) (hcu : gi_cur F v) (hset : ∀ x, F 8 x = F 8 v → F 11 x = 1 ∧ F 0 x = 2) (hR9 : ∀ x, F 8 x = F 8 v → x = v ∨ gi_NR o (gh_R F v b) x) (hK9 : ∀ e, own v e → mk v e = 1 → F 8 (o v e) = F 8 v → F 9 (o v e) = e ∨ e = b) (hph : F 13 (F 8 v) ≠ 3) (hnk : ∀ y e, own y e → F 8 y = F 8 v → ¬ gh_has 6 (c y e)) (hnc : ∀ y e, own y e → F 8 y = F 8 v → F 8 (o y e) = F 8 v → ¬ gh_has 0 (c y e)) (hnp : ∀ y e a m, own y e → F 8 y = F 8 v → m ∈ c y e → m.1 = 5 → gm_p own o w F mk c (o y e) y e a m → (mk y e = 1 ∧ F 0 y = 2 ∧ F 4 y = e ∧ m.2.1 < F 6 y ∧ F 9 y = e ∧ y ≠ v ∧ gh_R F v b 9 (o y e) ≠ e ∧ a = F 1 y ∧ (¬ gi_cur F y ∨ F 4 (o y e) ≠ gh_R F v b 9 (o y e)) ∧ 1 ≤ F 1 y)) (hob : own v b) (hb0 : mk v b = 0) (hbo : F 8 (o v b) ≠ F 8 v) (hbl : F 1 v = F 1 (o v b)) (hy1 : mk (o v b) b = 1) (hpu : F 13 (F 8 (o v b)) = 3) (hcu2 : gi_cur F (o v b)) (h0v : gh_has 0 (c v b)) (hCu : ∀ x, F 8 x = F 8 (o v b) → F 11 x = 1 ∧ F 0 x = 2 ∧ (x = o v b ∨ gi_NR o F x)) (h9u : F 9 (o v b) = b) (hfr : ∀ x, F 8 x ≠ w b) (hX1 : ∀ x e, own x e → mk x e = 1 → F 8 x = F 8 v → F 8 (o x e) = F 8 v) (hX2 : ∀ x e, own x e → mk x e = 1 → F 8 x = F 8 (o v b) → F 8 (o x e) ≠ F 8 (o v b) → x = o v b ∧ e = b) (hX4 : ∀ y e, own y e → w e = w b → e = b ∧ (y = v ∨ y = o v b)) (hX5 : ∀ x, (F 8 x = F 8 v ∨ F 8 x = F 8 (o v b)) → F 1 x ≤ F 1 v) (hX6 : ∀ x, F 2 x ≠ w b) (hW : 1 ≤ w b ∧ w b < 100)  : gi_b4 (ga_mg F v (o v b) (w b) b) := by
  clear hnk hnc hnp hK9 hR9 hX1 hX2 hX4 hCu hset
  dsimp only [gi_b4, gi_cur, gi_NR, gi_wt, gi_open, gh_Net] at *
  try simp (decide := true) only [ga_mg, gh_U, gh_K, gh_A_has, gh_A_cnt, gh_A_mem, false_and, true_and, and_false, or_false, if_false, if_true, and_true]
  grind (splits := 25)
theorem ck_b5 {v b : Nat} (Hb5 : gi_b5 own o w F) (hcu : gi_cur F v) (hset : ∀ x, F 8 x = F 8 v → F 11 x = 1 ∧ F 0 x = 2) (hR9 : ∀ x, F 8 x = F 8 v → x = v ∨ gi_NR o (gh_R F v b) x) (hK9 : ∀ e, own v e → mk v e = 1 → F 8 (o v e) = F 8 v → F 9 (o v e) = e ∨ e = b) (hph : F 13 (F 8 v) ≠ 3) (hnk : ∀ y e, own y e → F 8 y = F 8 v → ¬ gh_has 6 (c y e)) (hnc : ∀ y e, own y e → F 8 y = F 8 v → F 8 (o y e) = F 8 v → ¬ gh_has 0 (c y e)) (hnp : ∀ y e a m, own y e → F 8 y = F 8 v → m ∈ c y e → m.1 = 5 → gm_p own o w F mk c (o y e) y e a m → (mk y e = 1 ∧ F 0 y = 2 ∧ F 4 y = e ∧ m.2.1 < F 6 y ∧ F 9 y = e ∧ y ≠ v ∧ gh_R F v b 9 (o y e) ≠ e ∧ a = F 1 y ∧ (¬ gi_cur F y ∨ F 4 (o y e) ≠ gh_R F v b 9 (o y e)) ∧ 1 ≤ F 1 y)) (hob : own v b) (hb0 : mk v b = 0) (hbo : F 8 (o v b) ≠ F 8 v) (hbl : F 1 v = F 1 (o v b)) (hy1 : mk (o v b) b = 1) (hpu : F 13 (F 8 (o v b)) = 3) (hcu2 : gi_cur F (o v b)) (h0v : gh_has 0 (c v b)) (hCu : ∀ x, F 8 x = F 8 (o v b) → F 11 x = 1 ∧ F 0 x = 2 ∧ (x = o v b ∨ gi_NR o F x)) (h9u : F 9 (o v b) = b) (hfr : ∀ x, F 8 x ≠ w b) (hX1 : ∀ x e, own x e → mk x e = 1 → F 8 x = F 8 v → F 8 (o x e) = F 8 v) (hX2 : ∀ x e, own x e → mk x e = 1 → F 8 x = F 8 (o v b) → F 8 (o x e) ≠ F 8 (o v b) → x = o v b ∧ e = b) (hX4 : ∀ y e, own y e → w e = w b → e = b ∧ (y = v ∨ y = o v b)) (hX5 : ∀ x, (F 8 x = F 8 v ∨ F 8 x = F 8 (o v b)) → F 1 x ≤ F 1 v) (hX6 : ∀ x, F 2 x ≠ w b) (hW : 1 ≤ w b ∧ w b < 100)  : gi_b5 own o w (ga_mg F v (o v b) (w b) b) := by
  have e8 : ∀ z, ga_mg F v (o v b) (w b) b 8 z = if F 8 z = F 8 v ∨ F 8 z = F 8 (o v b) then w b else F 8 z := fun z => by simp [ga_mg]
  
  intro x hx
  obtain ⟨y, e, q1, q2, q3, q4⟩ := Hb5 x (by simpa (decide := true) [ga_mg] using hx)
  refine ⟨y, e, q1, by simpa (decide := true) [ga_mg] using q2, ?_, ?_⟩
  · rw [e8, e8, q3]
  · rw [e8, e8, q4]
theorem ck_b6 {v b : Nat} (Hb6 : gi_b6 own o w F mk) (Hn : gh_Net own o w) (hcu : gi_cur F v) (hset : ∀ x, F 8 x = F 8 v → F 11 x = 1 ∧ F 0 x = 2) (hR9 : ∀ x, F 8 x = F 8 v → x = v ∨ gi_NR o (gh_R F v b) x) (hK9 : ∀ e, own v e → mk v e = 1 → F 8 (o v e) = F 8 v → F 9 (o v e) = e ∨ e = b) (hph : F 13 (F 8 v) ≠ 3) (hnk : ∀ y e, own y e → F 8 y = F 8 v → ¬ gh_has 6 (c y e)) (hnc : ∀ y e, own y e → F 8 y = F 8 v → F 8 (o y e) = F 8 v → ¬ gh_has 0 (c y e)) (hnp : ∀ y e a m, own y e → F 8 y = F 8 v → m ∈ c y e → m.1 = 5 → gm_p own o w F mk c (o y e) y e a m → (mk y e = 1 ∧ F 0 y = 2 ∧ F 4 y = e ∧ m.2.1 < F 6 y ∧ F 9 y = e ∧ y ≠ v ∧ gh_R F v b 9 (o y e) ≠ e ∧ a = F 1 y ∧ (¬ gi_cur F y ∨ F 4 (o y e) ≠ gh_R F v b 9 (o y e)) ∧ 1 ≤ F 1 y)) (hob : own v b) (hb0 : mk v b = 0) (hbo : F 8 (o v b) ≠ F 8 v) (hbl : F 1 v = F 1 (o v b)) (hy1 : mk (o v b) b = 1) (hpu : F 13 (F 8 (o v b)) = 3) (hcu2 : gi_cur F (o v b)) (h0v : gh_has 0 (c v b)) (hCu : ∀ x, F 8 x = F 8 (o v b) → F 11 x = 1 ∧ F 0 x = 2 ∧ (x = o v b ∨ gi_NR o F x)) (h9u : F 9 (o v b) = b) (hfr : ∀ x, F 8 x ≠ w b) (hX1 : ∀ x e, own x e → mk x e = 1 → F 8 x = F 8 v → F 8 (o x e) = F 8 v) (hX2 : ∀ x e, own x e → mk x e = 1 → F 8 x = F 8 (o v b) → F 8 (o x e) ≠ F 8 (o v b) → x = o v b ∧ e = b) (hX4 : ∀ y e, own y e → w e = w b → e = b ∧ (y = v ∨ y = o v b)) (hX5 : ∀ x, (F 8 x = F 8 v ∨ F 8 x = F 8 (o v b)) → F 1 x ≤ F 1 v) (hX6 : ∀ x, F 2 x ≠ w b) (hW : 1 ≤ w b ∧ w b < 100)  : gi_b6 own o w (ga_mg F v (o v b) (w b) b) (gh_K mk v b 1) := by
  have e8 : ∀ z, ga_mg F v (o v b) (w b) b 8 z = if F 8 z = F 8 v ∨ F 8 z = F 8 (o v b) then w b else F 8 z := fun z => by simp [ga_mg]
  
  intro x hx
  by_cases hxg : F 8 x = F 8 v ∨ F 8 x = F 8 (o v b)
  · refine ⟨v, b, hob, by rw [e8, if_pos hxg], by rw [e8, e8, if_pos hxg, if_pos (Or.inl rfl)], by rw [e8, e8, if_pos hxg, if_pos (Or.inr rfl)], by simp [gh_K], ?_⟩
    unfold gh_K; split; rfl; exact hy1
  · rw [e8, if_neg hxg] at hx
    obtain ⟨y, e, q1, q2, q3, q4, q5, q6⟩ := Hb6 x hx
    refine ⟨y, e, q1, by rw [e8, if_neg hxg]; exact q2, by rw [e8, e8, q3], by rw [e8, e8, q4], ?_, ?_⟩
    · unfold gh_K; split; rfl; exact q5
    · unfold gh_K; split; rfl; exact q6
theorem ck_s0 {v b : Nat} (Hs0 : gi_s0 own F mk) (HpA : gi_pA own F mk) (hcu : gi_cur F v) (hset : ∀ x, F 8 x = F 8 v → F 11 x = 1 ∧ F 0 x = 2) (hR9 : ∀ x, F 8 x = F 8 v → x = v ∨ gi_NR o (gh_R F v b) x) (hK9 : ∀ e, own v e → mk v e = 1 → F 8 (o v e) = F 8 v → F 9 (o v e) = e ∨ e = b) (hph : F 13 (F 8 v) ≠ 3) (hnk : ∀ y e, own y e → F 8 y = F 8 v → ¬ gh_has 6 (c y e)) (hnc : ∀ y e, own y e → F 8 y = F 8 v → F 8 (o y e) = F 8 v → ¬ gh_has 0 (c y e)) (hnp : ∀ y e a m, own y e → F 8 y = F 8 v → m ∈ c y e → m.1 = 5 → gm_p own o w F mk c (o y e) y e a m → (mk y e = 1 ∧ F 0 y = 2 ∧ F 4 y = e ∧ m.2.1 < F 6 y ∧ F 9 y = e ∧ y ≠ v ∧ gh_R F v b 9 (o y e) ≠ e ∧ a = F 1 y ∧ (¬ gi_cur F y ∨ F 4 (o y e) ≠ gh_R F v b 9 (o y e)) ∧ 1 ≤ F 1 y)) (hob : own v b) (hb0 : mk v b = 0) (hbo : F 8 (o v b) ≠ F 8 v) (hbl : F 1 v = F 1 (o v b)) (hy1 : mk (o v b) b = 1) (hpu : F 13 (F 8 (o v b)) = 3) (hcu2 : gi_cur F (o v b)) (h0v : gh_has 0 (c v b)) (hCu : ∀ x, F 8 x = F 8 (o v b) → F 11 x = 1 ∧ F 0 x = 2 ∧ (x = o v b ∨ gi_NR o F x)) (h9u : F 9 (o v b) = b) (hfr : ∀ x, F 8 x ≠ w b) (hX1 : ∀ x e, own x e → mk x e = 1 → F 8 x = F 8 v → F 8 (o x e) = F 8 v) (hX2 : ∀ x e, own x e → mk x e = 1 → F 8 x = F 8 (o v b) → F 8 (o x e) ≠ F 8 (o v b) → x = o v b ∧ e = b) (hX4 : ∀ y e, own y e → w e = w b → e = b ∧ (y = v ∨ y = o v b)) (hX5 : ∀ x, (F 8 x = F 8 v ∨ F 8 x = F 8 (o v b)) → F 1 x ≤ F 1 v) (hX6 : ∀ x, F 2 x ≠ w b) (hW : 1 ≤ w b ∧ w b < 100)  : gi_s0 own (ga_mg F v (o v b) (w b) b) (gh_K mk v b 1) := by
  clear hnk hnc hnp hK9 hR9 hX1 hX2 hX4
  dsimp only [gi_s0, gi_pA, gi_cur, gi_NR, gi_wt, gi_open, gh_Net] at *
  try simp (decide := true) only [ga_mg, gh_U, gh_K, gh_A_has, gh_A_cnt, gh_A_mem, false_and, true_and, and_false, or_false, if_false, if_true, and_true]
  grind (splits := 25)
theorem ck_pA {v b : Nat} (HpA : gi_pA own F mk) (Hn : gh_Net own o w) (hcu : gi_cur F v) (hset : ∀ x, F 8 x = F 8 v → F 11 x = 1 ∧ F 0 x = 2) (hR9 : ∀ x, F 8 x = F 8 v → x = v ∨ gi_NR o (gh_R F v b) x) (hK9 : ∀ e, own v e → mk v e = 1 → F 8 (o v e) = F 8 v → F 9 (o v e) = e ∨ e = b) (hph : F 13 (F 8 v) ≠ 3) (hnk : ∀ y e, own y e → F 8 y = F 8 v → ¬ gh_has 6 (c y e)) (hnc : ∀ y e, own y e → F 8 y = F 8 v → F 8 (o y e) = F 8 v → ¬ gh_has 0 (c y e)) (hnp : ∀ y e a m, own y e → F 8 y = F 8 v → m ∈ c y e → m.1 = 5 → gm_p own o w F mk c (o y e) y e a m → (mk y e = 1 ∧ F 0 y = 2 ∧ F 4 y = e ∧ m.2.1 < F 6 y ∧ F 9 y = e ∧ y ≠ v ∧ gh_R F v b 9 (o y e) ≠ e ∧ a = F 1 y ∧ (¬ gi_cur F y ∨ F 4 (o y e) ≠ gh_R F v b 9 (o y e)) ∧ 1 ≤ F 1 y)) (hob : own v b) (hb0 : mk v b = 0) (hbo : F 8 (o v b) ≠ F 8 v) (hbl : F 1 v = F 1 (o v b)) (hy1 : mk (o v b) b = 1) (hpu : F 13 (F 8 (o v b)) = 3) (hcu2 : gi_cur F (o v b)) (h0v : gh_has 0 (c v b)) (hCu : ∀ x, F 8 x = F 8 (o v b) → F 11 x = 1 ∧ F 0 x = 2 ∧ (x = o v b ∨ gi_NR o F x)) (h9u : F 9 (o v b) = b) (hfr : ∀ x, F 8 x ≠ w b) (hX1 : ∀ x e, own x e → mk x e = 1 → F 8 x = F 8 v → F 8 (o x e) = F 8 v) (hX2 : ∀ x e, own x e → mk x e = 1 → F 8 x = F 8 (o v b) → F 8 (o x e) ≠ F 8 (o v b) → x = o v b ∧ e = b) (hX4 : ∀ y e, own y e → w e = w b → e = b ∧ (y = v ∨ y = o v b)) (hX5 : ∀ x, (F 8 x = F 8 v ∨ F 8 x = F 8 (o v b)) → F 1 x ≤ F 1 v) (hX6 : ∀ x, F 2 x ≠ w b) (hW : 1 ≤ w b ∧ w b < 100)  : gi_pA own (ga_mg F v (o v b) (w b) b) (gh_K mk v b 1) := by
  intro x hx
  have a1 := HpA x
  have a2 := hfr x
  clear hnk hnc hnp hK9 hR9 hset HpA hX1 hX2 hX4 hCu hX5 hX6 hfr
  simp (decide := true) only [ga_mg, gh_U, gh_K, gh_A_has, gh_A_cnt, gh_A_mem, false_and, true_and, and_false, or_false, if_false, if_true, and_true] at *
  grind (splits := 30)
theorem ck_s1 {v b : Nat} (Hs1 : gi_s1 F) (Hn : gh_Net own o w) (hcu : gi_cur F v) (hset : ∀ x, F 8 x = F 8 v → F 11 x = 1 ∧ F 0 x = 2) (hR9 : ∀ x, F 8 x = F 8 v → x = v ∨ gi_NR o (gh_R F v b) x) (hK9 : ∀ e, own v e → mk v e = 1 → F 8 (o v e) = F 8 v → F 9 (o v e) = e ∨ e = b) (hph : F 13 (F 8 v) ≠ 3) (hnk : ∀ y e, own y e → F 8 y = F 8 v → ¬ gh_has 6 (c y e)) (hnc : ∀ y e, own y e → F 8 y = F 8 v → F 8 (o y e) = F 8 v → ¬ gh_has 0 (c y e)) (hnp : ∀ y e a m, own y e → F 8 y = F 8 v → m ∈ c y e → m.1 = 5 → gm_p own o w F mk c (o y e) y e a m → (mk y e = 1 ∧ F 0 y = 2 ∧ F 4 y = e ∧ m.2.1 < F 6 y ∧ F 9 y = e ∧ y ≠ v ∧ gh_R F v b 9 (o y e) ≠ e ∧ a = F 1 y ∧ (¬ gi_cur F y ∨ F 4 (o y e) ≠ gh_R F v b 9 (o y e)) ∧ 1 ≤ F 1 y)) (hob : own v b) (hb0 : mk v b = 0) (hbo : F 8 (o v b) ≠ F 8 v) (hbl : F 1 v = F 1 (o v b)) (hy1 : mk (o v b) b = 1) (hpu : F 13 (F 8 (o v b)) = 3) (hcu2 : gi_cur F (o v b)) (h0v : gh_has 0 (c v b)) (hCu : ∀ x, F 8 x = F 8 (o v b) → F 11 x = 1 ∧ F 0 x = 2 ∧ (x = o v b ∨ gi_NR o F x)) (h9u : F 9 (o v b) = b) (hfr : ∀ x, F 8 x ≠ w b) (hX1 : ∀ x e, own x e → mk x e = 1 → F 8 x = F 8 v → F 8 (o x e) = F 8 v) (hX2 : ∀ x e, own x e → mk x e = 1 → F 8 x = F 8 (o v b) → F 8 (o x e) ≠ F 8 (o v b) → x = o v b ∧ e = b) (hX4 : ∀ y e, own y e → w e = w b → e = b ∧ (y = v ∨ y = o v b)) (hX5 : ∀ x, (F 8 x = F 8 v ∨ F 8 x = F 8 (o v b)) → F 1 x ≤ F 1 v) (hX6 : ∀ x, F 2 x ≠ w b) (hW : 1 ≤ w b ∧ w b < 100)  : gi_s1 (ga_mg F v (o v b) (w b) b) := by
  clear hnk hnc hnp hK9 hR9 hX1 hX2 hX4
  dsimp only [gi_s1, gi_cur, gi_NR, gi_wt, gi_open, gh_Net] at *
  try simp (decide := true) only [ga_mg, gh_U, gh_K, gh_A_has, gh_A_cnt, gh_A_mem, false_and, true_and, and_false, or_false, if_false, if_true, and_true]
  grind (splits := 25)
theorem ck_s2 {v b : Nat} (Hs2 : gi_s2 F) (Hn : gh_Net own o w) (hcu : gi_cur F v) (hset : ∀ x, F 8 x = F 8 v → F 11 x = 1 ∧ F 0 x = 2) (hR9 : ∀ x, F 8 x = F 8 v → x = v ∨ gi_NR o (gh_R F v b) x) (hK9 : ∀ e, own v e → mk v e = 1 → F 8 (o v e) = F 8 v → F 9 (o v e) = e ∨ e = b) (hph : F 13 (F 8 v) ≠ 3) (hnk : ∀ y e, own y e → F 8 y = F 8 v → ¬ gh_has 6 (c y e)) (hnc : ∀ y e, own y e → F 8 y = F 8 v → F 8 (o y e) = F 8 v → ¬ gh_has 0 (c y e)) (hnp : ∀ y e a m, own y e → F 8 y = F 8 v → m ∈ c y e → m.1 = 5 → gm_p own o w F mk c (o y e) y e a m → (mk y e = 1 ∧ F 0 y = 2 ∧ F 4 y = e ∧ m.2.1 < F 6 y ∧ F 9 y = e ∧ y ≠ v ∧ gh_R F v b 9 (o y e) ≠ e ∧ a = F 1 y ∧ (¬ gi_cur F y ∨ F 4 (o y e) ≠ gh_R F v b 9 (o y e)) ∧ 1 ≤ F 1 y)) (hob : own v b) (hb0 : mk v b = 0) (hbo : F 8 (o v b) ≠ F 8 v) (hbl : F 1 v = F 1 (o v b)) (hy1 : mk (o v b) b = 1) (hpu : F 13 (F 8 (o v b)) = 3) (hcu2 : gi_cur F (o v b)) (h0v : gh_has 0 (c v b)) (hCu : ∀ x, F 8 x = F 8 (o v b) → F 11 x = 1 ∧ F 0 x = 2 ∧ (x = o v b ∨ gi_NR o F x)) (h9u : F 9 (o v b) = b) (hfr : ∀ x, F 8 x ≠ w b) (hX1 : ∀ x e, own x e → mk x e = 1 → F 8 x = F 8 v → F 8 (o x e) = F 8 v) (hX2 : ∀ x e, own x e → mk x e = 1 → F 8 x = F 8 (o v b) → F 8 (o x e) ≠ F 8 (o v b) → x = o v b ∧ e = b) (hX4 : ∀ y e, own y e → w e = w b → e = b ∧ (y = v ∨ y = o v b)) (hX5 : ∀ x, (F 8 x = F 8 v ∨ F 8 x = F 8 (o v b)) → F 1 x ≤ F 1 v) (hX6 : ∀ x, F 2 x ≠ w b) (hW : 1 ≤ w b ∧ w b < 100)  : gi_s2 (ga_mg F v (o v b) (w b) b) := by
  clear hnk hnc hnp hK9 hR9 hX1 hX2 hX4
  dsimp only [gi_s2, gi_cur, gi_NR, gi_wt, gi_open, gh_Net] at *
  try simp (decide := true) only [ga_mg, gh_U, gh_K, gh_A_has, gh_A_cnt, gh_A_mem, false_and, true_and, and_false, or_false, if_false, if_true, and_true]
  grind (splits := 25)
theorem ck_Sl {v b : Nat} (HSl : gi_Sl F) (Hn : gh_Net own o w) (hcu : gi_cur F v) (hset : ∀ x, F 8 x = F 8 v → F 11 x = 1 ∧ F 0 x = 2) (hR9 : ∀ x, F 8 x = F 8 v → x = v ∨ gi_NR o (gh_R F v b) x) (hK9 : ∀ e, own v e → mk v e = 1 → F 8 (o v e) = F 8 v → F 9 (o v e) = e ∨ e = b) (hph : F 13 (F 8 v) ≠ 3) (hnk : ∀ y e, own y e → F 8 y = F 8 v → ¬ gh_has 6 (c y e)) (hnc : ∀ y e, own y e → F 8 y = F 8 v → F 8 (o y e) = F 8 v → ¬ gh_has 0 (c y e)) (hnp : ∀ y e a m, own y e → F 8 y = F 8 v → m ∈ c y e → m.1 = 5 → gm_p own o w F mk c (o y e) y e a m → (mk y e = 1 ∧ F 0 y = 2 ∧ F 4 y = e ∧ m.2.1 < F 6 y ∧ F 9 y = e ∧ y ≠ v ∧ gh_R F v b 9 (o y e) ≠ e ∧ a = F 1 y ∧ (¬ gi_cur F y ∨ F 4 (o y e) ≠ gh_R F v b 9 (o y e)) ∧ 1 ≤ F 1 y)) (hob : own v b) (hb0 : mk v b = 0) (hbo : F 8 (o v b) ≠ F 8 v) (hbl : F 1 v = F 1 (o v b)) (hy1 : mk (o v b) b = 1) (hpu : F 13 (F 8 (o v b)) = 3) (hcu2 : gi_cur F (o v b)) (h0v : gh_has 0 (c v b)) (hCu : ∀ x, F 8 x = F 8 (o v b) → F 11 x = 1 ∧ F 0 x = 2 ∧ (x = o v b ∨ gi_NR o F x)) (h9u : F 9 (o v b) = b) (hfr : ∀ x, F 8 x ≠ w b) (hX1 : ∀ x e, own x e → mk x e = 1 → F 8 x = F 8 v → F 8 (o x e) = F 8 v) (hX2 : ∀ x e, own x e → mk x e = 1 → F 8 x = F 8 (o v b) → F 8 (o x e) ≠ F 8 (o v b) → x = o v b ∧ e = b) (hX4 : ∀ y e, own y e → w e = w b → e = b ∧ (y = v ∨ y = o v b)) (hX5 : ∀ x, (F 8 x = F 8 v ∨ F 8 x = F 8 (o v b)) → F 1 x ≤ F 1 v) (hX6 : ∀ x, F 2 x ≠ w b) (hW : 1 ≤ w b ∧ w b < 100)  : gi_Sl (ga_mg F v (o v b) (w b) b) := by
  clear hnk hnc hnp hK9 hR9 hX1 hX2 hX4
  dsimp only [gi_Sl, gi_cur, gi_NR, gi_wt, gi_open, gh_Net] at *
  try simp (decide := true) only [ga_mg, gh_U, gh_K, gh_A_has, gh_A_cnt, gh_A_mem, false_and, true_and, and_false, or_false, if_false, if_true, and_true]
  grind (splits := 25)
theorem ck_s3 {v b : Nat} (Hs3 : gi_s3 F) (Hn : gh_Net own o w) (hcu : gi_cur F v) (hset : ∀ x, F 8 x = F 8 v → F 11 x = 1 ∧ F 0 x = 2) (hR9 : ∀ x, F 8 x = F 8 v → x = v ∨ gi_NR o (gh_R F v b) x) (hK9 : ∀ e, own v e → mk v e = 1 → F 8 (o v e) = F 8 v → F 9 (o v e) = e ∨ e = b) (hph : F 13 (F 8 v) ≠ 3) (hnk : ∀ y e, own y e → F 8 y = F 8 v → ¬ gh_has 6 (c y e)) (hnc : ∀ y e, own y e → F 8 y = F 8 v → F 8 (o y e) = F 8 v → ¬ gh_has 0 (c y e)) (hnp : ∀ y e a m, own y e → F 8 y = F 8 v → m ∈ c y e → m.1 = 5 → gm_p own o w F mk c (o y e) y e a m → (mk y e = 1 ∧ F 0 y = 2 ∧ F 4 y = e ∧ m.2.1 < F 6 y ∧ F 9 y = e ∧ y ≠ v ∧ gh_R F v b 9 (o y e) ≠ e ∧ a = F 1 y ∧ (¬ gi_cur F y ∨ F 4 (o y e) ≠ gh_R F v b 9 (o y e)) ∧ 1 ≤ F 1 y)) (hob : own v b) (hb0 : mk v b = 0) (hbo : F 8 (o v b) ≠ F 8 v) (hbl : F 1 v = F 1 (o v b)) (hy1 : mk (o v b) b = 1) (hpu : F 13 (F 8 (o v b)) = 3) (hcu2 : gi_cur F (o v b)) (h0v : gh_has 0 (c v b)) (hCu : ∀ x, F 8 x = F 8 (o v b) → F 11 x = 1 ∧ F 0 x = 2 ∧ (x = o v b ∨ gi_NR o F x)) (h9u : F 9 (o v b) = b) (hfr : ∀ x, F 8 x ≠ w b) (hX1 : ∀ x e, own x e → mk x e = 1 → F 8 x = F 8 v → F 8 (o x e) = F 8 v) (hX2 : ∀ x e, own x e → mk x e = 1 → F 8 x = F 8 (o v b) → F 8 (o x e) ≠ F 8 (o v b) → x = o v b ∧ e = b) (hX4 : ∀ y e, own y e → w e = w b → e = b ∧ (y = v ∨ y = o v b)) (hX5 : ∀ x, (F 8 x = F 8 v ∨ F 8 x = F 8 (o v b)) → F 1 x ≤ F 1 v) (hX6 : ∀ x, F 2 x ≠ w b) (hW : 1 ≤ w b ∧ w b < 100)  : gi_s3 (ga_mg F v (o v b) (w b) b) := by
  clear hnk hnc hnp hK9 hR9 hX1 hX2 hX4
  dsimp only [gi_s3, gi_cur, gi_NR, gi_wt, gi_open, gh_Net] at *
  try simp (decide := true) only [ga_mg, gh_U, gh_K, gh_A_has, gh_A_cnt, gh_A_mem, false_and, true_and, and_false, or_false, if_false, if_true, and_true]
  grind (splits := 25)
theorem ck_s4 {v b : Nat} (Hs4 : gi_s4 F) (Hn : gh_Net own o w) (hcu : gi_cur F v) (hset : ∀ x, F 8 x = F 8 v → F 11 x = 1 ∧ F 0 x = 2) (hR9 : ∀ x, F 8 x = F 8 v → x = v ∨ gi_NR o (gh_R F v b) x) (hK9 : ∀ e, own v e → mk v e = 1 → F 8 (o v e) = F 8 v → F 9 (o v e) = e ∨ e = b) (hph : F 13 (F 8 v) ≠ 3) (hnk : ∀ y e, own y e → F 8 y = F 8 v → ¬ gh_has 6 (c y e)) (hnc : ∀ y e, own y e → F 8 y = F 8 v → F 8 (o y e) = F 8 v → ¬ gh_has 0 (c y e)) (hnp : ∀ y e a m, own y e → F 8 y = F 8 v → m ∈ c y e → m.1 = 5 → gm_p own o w F mk c (o y e) y e a m → (mk y e = 1 ∧ F 0 y = 2 ∧ F 4 y = e ∧ m.2.1 < F 6 y ∧ F 9 y = e ∧ y ≠ v ∧ gh_R F v b 9 (o y e) ≠ e ∧ a = F 1 y ∧ (¬ gi_cur F y ∨ F 4 (o y e) ≠ gh_R F v b 9 (o y e)) ∧ 1 ≤ F 1 y)) (hob : own v b) (hb0 : mk v b = 0) (hbo : F 8 (o v b) ≠ F 8 v) (hbl : F 1 v = F 1 (o v b)) (hy1 : mk (o v b) b = 1) (hpu : F 13 (F 8 (o v b)) = 3) (hcu2 : gi_cur F (o v b)) (h0v : gh_has 0 (c v b)) (hCu : ∀ x, F 8 x = F 8 (o v b) → F 11 x = 1 ∧ F 0 x = 2 ∧ (x = o v b ∨ gi_NR o F x)) (h9u : F 9 (o v b) = b) (hfr : ∀ x, F 8 x ≠ w b) (hX1 : ∀ x e, own x e → mk x e = 1 → F 8 x = F 8 v → F 8 (o x e) = F 8 v) (hX2 : ∀ x e, own x e → mk x e = 1 → F 8 x = F 8 (o v b) → F 8 (o x e) ≠ F 8 (o v b) → x = o v b ∧ e = b) (hX4 : ∀ y e, own y e → w e = w b → e = b ∧ (y = v ∨ y = o v b)) (hX5 : ∀ x, (F 8 x = F 8 v ∨ F 8 x = F 8 (o v b)) → F 1 x ≤ F 1 v) (hX6 : ∀ x, F 2 x ≠ w b) (hW : 1 ≤ w b ∧ w b < 100)  : gi_s4 (ga_mg F v (o v b) (w b) b) := by
  clear hnk hnc hnp hK9 hR9 hX1 hX2 hX4
  dsimp only [gi_s4, gi_cur, gi_NR, gi_wt, gi_open, gh_Net] at *
  try simp (decide := true) only [ga_mg, gh_U, gh_K, gh_A_has, gh_A_cnt, gh_A_mem, false_and, true_and, and_false, or_false, if_false, if_true, and_true]
  grind (splits := 25)
theorem ck_ow {v b : Nat} (How : gi_ow own F) (Hn : gh_Net own o w) (hcu : gi_cur F v) (hset : ∀ x, F 8 x = F 8 v → F 11 x = 1 ∧ F 0 x = 2) (hR9 : ∀ x, F 8 x = F 8 v → x = v ∨ gi_NR o (gh_R F v b) x) (hK9 : ∀ e, own v e → mk v e = 1 → F 8 (o v e) = F 8 v → F 9 (o v e) = e ∨ e = b) (hph : F 13 (F 8 v) ≠ 3) (hnk : ∀ y e, own y e → F 8 y = F 8 v → ¬ gh_has 6 (c y e)) (hnc : ∀ y e, own y e → F 8 y = F 8 v → F 8 (o y e) = F 8 v → ¬ gh_has 0 (c y e)) (hnp : ∀ y e a m, own y e → F 8 y = F 8 v → m ∈ c y e → m.1 = 5 → gm_p own o w F mk c (o y e) y e a m → (mk y e = 1 ∧ F 0 y = 2 ∧ F 4 y = e ∧ m.2.1 < F 6 y ∧ F 9 y = e ∧ y ≠ v ∧ gh_R F v b 9 (o y e) ≠ e ∧ a = F 1 y ∧ (¬ gi_cur F y ∨ F 4 (o y e) ≠ gh_R F v b 9 (o y e)) ∧ 1 ≤ F 1 y)) (hob : own v b) (hb0 : mk v b = 0) (hbo : F 8 (o v b) ≠ F 8 v) (hbl : F 1 v = F 1 (o v b)) (hy1 : mk (o v b) b = 1) (hpu : F 13 (F 8 (o v b)) = 3) (hcu2 : gi_cur F (o v b)) (h0v : gh_has 0 (c v b)) (hCu : ∀ x, F 8 x = F 8 (o v b) → F 11 x = 1 ∧ F 0 x = 2 ∧ (x = o v b ∨ gi_NR o F x)) (h9u : F 9 (o v b) = b) (hfr : ∀ x, F 8 x ≠ w b) (hX1 : ∀ x e, own x e → mk x e = 1 → F 8 x = F 8 v → F 8 (o x e) = F 8 v) (hX2 : ∀ x e, own x e → mk x e = 1 → F 8 x = F 8 (o v b) → F 8 (o x e) ≠ F 8 (o v b) → x = o v b ∧ e = b) (hX4 : ∀ y e, own y e → w e = w b → e = b ∧ (y = v ∨ y = o v b)) (hX5 : ∀ x, (F 8 x = F 8 v ∨ F 8 x = F 8 (o v b)) → F 1 x ≤ F 1 v) (hX6 : ∀ x, F 2 x ≠ w b) (hW : 1 ≤ w b ∧ w b < 100)  : gi_ow own (ga_mg F v (o v b) (w b) b) := by
  clear hnk hnc hnp hK9 hR9 hX1 hX2 hX4
  dsimp only [gi_ow, gi_cur, gi_NR, gi_wt, gi_open, gh_Net] at *
  try simp (decide := true) only [ga_mg, gh_U, gh_K, gh_A_has, gh_A_cnt, gh_A_mem, false_and, true_and, and_false, or_false, if_false, if_true, and_true]
  grind (splits := 25)
theorem ck_s5 {v b : Nat} (Hs5 : gi_s5 F) (Hn : gh_Net own o w) (hcu : gi_cur F v) (hset : ∀ x, F 8 x = F 8 v → F 11 x = 1 ∧ F 0 x = 2) (hR9 : ∀ x, F 8 x = F 8 v → x = v ∨ gi_NR o (gh_R F v b) x) (hK9 : ∀ e, own v e → mk v e = 1 → F 8 (o v e) = F 8 v → F 9 (o v e) = e ∨ e = b) (hph : F 13 (F 8 v) ≠ 3) (hnk : ∀ y e, own y e → F 8 y = F 8 v → ¬ gh_has 6 (c y e)) (hnc : ∀ y e, own y e → F 8 y = F 8 v → F 8 (o y e) = F 8 v → ¬ gh_has 0 (c y e)) (hnp : ∀ y e a m, own y e → F 8 y = F 8 v → m ∈ c y e → m.1 = 5 → gm_p own o w F mk c (o y e) y e a m → (mk y e = 1 ∧ F 0 y = 2 ∧ F 4 y = e ∧ m.2.1 < F 6 y ∧ F 9 y = e ∧ y ≠ v ∧ gh_R F v b 9 (o y e) ≠ e ∧ a = F 1 y ∧ (¬ gi_cur F y ∨ F 4 (o y e) ≠ gh_R F v b 9 (o y e)) ∧ 1 ≤ F 1 y)) (hob : own v b) (hb0 : mk v b = 0) (hbo : F 8 (o v b) ≠ F 8 v) (hbl : F 1 v = F 1 (o v b)) (hy1 : mk (o v b) b = 1) (hpu : F 13 (F 8 (o v b)) = 3) (hcu2 : gi_cur F (o v b)) (h0v : gh_has 0 (c v b)) (hCu : ∀ x, F 8 x = F 8 (o v b) → F 11 x = 1 ∧ F 0 x = 2 ∧ (x = o v b ∨ gi_NR o F x)) (h9u : F 9 (o v b) = b) (hfr : ∀ x, F 8 x ≠ w b) (hX1 : ∀ x e, own x e → mk x e = 1 → F 8 x = F 8 v → F 8 (o x e) = F 8 v) (hX2 : ∀ x e, own x e → mk x e = 1 → F 8 x = F 8 (o v b) → F 8 (o x e) ≠ F 8 (o v b) → x = o v b ∧ e = b) (hX4 : ∀ y e, own y e → w e = w b → e = b ∧ (y = v ∨ y = o v b)) (hX5 : ∀ x, (F 8 x = F 8 v ∨ F 8 x = F 8 (o v b)) → F 1 x ≤ F 1 v) (hX6 : ∀ x, F 2 x ≠ w b) (hW : 1 ≤ w b ∧ w b < 100)  : gi_s5 (ga_mg F v (o v b) (w b) b) := by
  clear hnk hnc hnp hK9 hR9 hX1 hX2 hX4
  dsimp only [gi_s5, gi_cur, gi_NR, gi_wt, gi_open, gh_Net] at *
  try simp (decide := true) only [ga_mg, gh_U, gh_K, gh_A_has, gh_A_cnt, gh_A_mem, false_and, true_and, and_false, or_false, if_false, if_true, and_true]
  grind (splits := 25)
theorem ck_ph {v b : Nat} (Hph : gi_ph F) (Hn : gh_Net own o w) (hcu : gi_cur F v) (hset : ∀ x, F 8 x = F 8 v → F 11 x = 1 ∧ F 0 x = 2) (hR9 : ∀ x, F 8 x = F 8 v → x = v ∨ gi_NR o (gh_R F v b) x) (hK9 : ∀ e, own v e → mk v e = 1 → F 8 (o v e) = F 8 v → F 9 (o v e) = e ∨ e = b) (hph : F 13 (F 8 v) ≠ 3) (hnk : ∀ y e, own y e → F 8 y = F 8 v → ¬ gh_has 6 (c y e)) (hnc : ∀ y e, own y e → F 8 y = F 8 v → F 8 (o y e) = F 8 v → ¬ gh_has 0 (c y e)) (hnp : ∀ y e a m, own y e → F 8 y = F 8 v → m ∈ c y e → m.1 = 5 → gm_p own o w F mk c (o y e) y e a m → (mk y e = 1 ∧ F 0 y = 2 ∧ F 4 y = e ∧ m.2.1 < F 6 y ∧ F 9 y = e ∧ y ≠ v ∧ gh_R F v b 9 (o y e) ≠ e ∧ a = F 1 y ∧ (¬ gi_cur F y ∨ F 4 (o y e) ≠ gh_R F v b 9 (o y e)) ∧ 1 ≤ F 1 y)) (hob : own v b) (hb0 : mk v b = 0) (hbo : F 8 (o v b) ≠ F 8 v) (hbl : F 1 v = F 1 (o v b)) (hy1 : mk (o v b) b = 1) (hpu : F 13 (F 8 (o v b)) = 3) (hcu2 : gi_cur F (o v b)) (h0v : gh_has 0 (c v b)) (hCu : ∀ x, F 8 x = F 8 (o v b) → F 11 x = 1 ∧ F 0 x = 2 ∧ (x = o v b ∨ gi_NR o F x)) (h9u : F 9 (o v b) = b) (hfr : ∀ x, F 8 x ≠ w b) (hX1 : ∀ x e, own x e → mk x e = 1 → F 8 x = F 8 v → F 8 (o x e) = F 8 v) (hX2 : ∀ x e, own x e → mk x e = 1 → F 8 x = F 8 (o v b) → F 8 (o x e) ≠ F 8 (o v b) → x = o v b ∧ e = b) (hX4 : ∀ y e, own y e → w e = w b → e = b ∧ (y = v ∨ y = o v b)) (hX5 : ∀ x, (F 8 x = F 8 v ∨ F 8 x = F 8 (o v b)) → F 1 x ≤ F 1 v) (hX6 : ∀ x, F 2 x ≠ w b) (hW : 1 ≤ w b ∧ w b < 100)  : gi_ph (ga_mg F v (o v b) (w b) b) := by
  clear hnk hnc hnp hK9 hR9 hX1 hX2 hX4
  dsimp only [gi_ph, gi_cur, gi_NR, gi_wt, gi_open, gh_Net] at *
  try simp (decide := true) only [ga_mg, gh_U, gh_K, gh_A_has, gh_A_cnt, gh_A_mem, false_and, true_and, and_false, or_false, if_false, if_true, and_true]
  grind (splits := 25)
theorem ck_s6 {v b : Nat} (Hs6 : gi_s6 own F mk) (Hn : gh_Net own o w) (hcu : gi_cur F v) (hset : ∀ x, F 8 x = F 8 v → F 11 x = 1 ∧ F 0 x = 2) (hR9 : ∀ x, F 8 x = F 8 v → x = v ∨ gi_NR o (gh_R F v b) x) (hK9 : ∀ e, own v e → mk v e = 1 → F 8 (o v e) = F 8 v → F 9 (o v e) = e ∨ e = b) (hph : F 13 (F 8 v) ≠ 3) (hnk : ∀ y e, own y e → F 8 y = F 8 v → ¬ gh_has 6 (c y e)) (hnc : ∀ y e, own y e → F 8 y = F 8 v → F 8 (o y e) = F 8 v → ¬ gh_has 0 (c y e)) (hnp : ∀ y e a m, own y e → F 8 y = F 8 v → m ∈ c y e → m.1 = 5 → gm_p own o w F mk c (o y e) y e a m → (mk y e = 1 ∧ F 0 y = 2 ∧ F 4 y = e ∧ m.2.1 < F 6 y ∧ F 9 y = e ∧ y ≠ v ∧ gh_R F v b 9 (o y e) ≠ e ∧ a = F 1 y ∧ (¬ gi_cur F y ∨ F 4 (o y e) ≠ gh_R F v b 9 (o y e)) ∧ 1 ≤ F 1 y)) (hob : own v b) (hb0 : mk v b = 0) (hbo : F 8 (o v b) ≠ F 8 v) (hbl : F 1 v = F 1 (o v b)) (hy1 : mk (o v b) b = 1) (hpu : F 13 (F 8 (o v b)) = 3) (hcu2 : gi_cur F (o v b)) (h0v : gh_has 0 (c v b)) (hCu : ∀ x, F 8 x = F 8 (o v b) → F 11 x = 1 ∧ F 0 x = 2 ∧ (x = o v b ∨ gi_NR o F x)) (h9u : F 9 (o v b) = b) (hfr : ∀ x, F 8 x ≠ w b) (hX1 : ∀ x e, own x e → mk x e = 1 → F 8 x = F 8 v → F 8 (o x e) = F 8 v) (hX2 : ∀ x e, own x e → mk x e = 1 → F 8 x = F 8 (o v b) → F 8 (o x e) ≠ F 8 (o v b) → x = o v b ∧ e = b) (hX4 : ∀ y e, own y e → w e = w b → e = b ∧ (y = v ∨ y = o v b)) (hX5 : ∀ x, (F 8 x = F 8 v ∨ F 8 x = F 8 (o v b)) → F 1 x ≤ F 1 v) (hX6 : ∀ x, F 2 x ≠ w b) (hW : 1 ≤ w b ∧ w b < 100)  : gi_s6 own (ga_mg F v (o v b) (w b) b) (gh_K mk v b 1) := by
  intro x
  have a1 := Hs6 x
  have a2 := hfr x
  have a3 := hR9 x
  have a4 := hCu x
  have a5 := Hn.1 v b hob
  clear hnk hnc hnp hK9 hR9 hset Hs6 hX1 hX2 hX4 hCu hX5 hX6 hfr Hn
  dsimp only [gi_NR] at *
  simp (decide := true) only [ga_mg, gh_R, gh_U, gh_K, if_true, if_false, false_and, true_and] at *
  grind (splits := 30)
theorem ck_Sr {v b : Nat} (HSr : gi_Sr o w F c) (Hn : gh_Net own o w) (HSl : gi_Sl F) (Hs6 : gi_s6 own F mk) (hcu : gi_cur F v) (hset : ∀ x, F 8 x = F 8 v → F 11 x = 1 ∧ F 0 x = 2) (hR9 : ∀ x, F 8 x = F 8 v → x = v ∨ gi_NR o (gh_R F v b) x) (hK9 : ∀ e, own v e → mk v e = 1 → F 8 (o v e) = F 8 v → F 9 (o v e) = e ∨ e = b) (hph : F 13 (F 8 v) ≠ 3) (hnk : ∀ y e, own y e → F 8 y = F 8 v → ¬ gh_has 6 (c y e)) (hnc : ∀ y e, own y e → F 8 y = F 8 v → F 8 (o y e) = F 8 v → ¬ gh_has 0 (c y e)) (hnp : ∀ y e a m, own y e → F 8 y = F 8 v → m ∈ c y e → m.1 = 5 → gm_p own o w F mk c (o y e) y e a m → (mk y e = 1 ∧ F 0 y = 2 ∧ F 4 y = e ∧ m.2.1 < F 6 y ∧ F 9 y = e ∧ y ≠ v ∧ gh_R F v b 9 (o y e) ≠ e ∧ a = F 1 y ∧ (¬ gi_cur F y ∨ F 4 (o y e) ≠ gh_R F v b 9 (o y e)) ∧ 1 ≤ F 1 y)) (hob : own v b) (hb0 : mk v b = 0) (hbo : F 8 (o v b) ≠ F 8 v) (hbl : F 1 v = F 1 (o v b)) (hy1 : mk (o v b) b = 1) (hpu : F 13 (F 8 (o v b)) = 3) (hcu2 : gi_cur F (o v b)) (h0v : gh_has 0 (c v b)) (hCu : ∀ x, F 8 x = F 8 (o v b) → F 11 x = 1 ∧ F 0 x = 2 ∧ (x = o v b ∨ gi_NR o F x)) (h9u : F 9 (o v b) = b) (hfr : ∀ x, F 8 x ≠ w b) (hX1 : ∀ x e, own x e → mk x e = 1 → F 8 x = F 8 v → F 8 (o x e) = F 8 v) (hX2 : ∀ x e, own x e → mk x e = 1 → F 8 x = F 8 (o v b) → F 8 (o x e) ≠ F 8 (o v b) → x = o v b ∧ e = b) (hX4 : ∀ y e, own y e → w e = w b → e = b ∧ (y = v ∨ y = o v b)) (hX5 : ∀ x, (F 8 x = F 8 v ∨ F 8 x = F 8 (o v b)) → F 1 x ≤ F 1 v) (hX6 : ∀ x, F 2 x ≠ w b) (hW : 1 ≤ w b ∧ w b < 100)  : gi_Sr o w (ga_mg F v (o v b) (w b) b) (gh_A c (o v b) b (0, F 1 v, 0, 0)) := by
  have hbn := Hn.1 v b hob
  have hNo : ∀ x, F 8 x ≠ F 8 v → gi_NR o F x → gi_NR o (ga_mg F v (o v b) (w b) b) x := by
    intro x hx1 hx
    clear hnk hnc hnp hK9 hR9 hX1 hX2 hX4 hCu hset
    dsimp only [gi_NR] at *
    simp (decide := true) only [ga_mg, gh_U, if_true, if_false, false_and, true_and] at *
    grind
  have hNg : ∀ x, F 8 x = F 8 v → x ≠ v → gi_NR o (ga_mg F v (o v b) (w b) b) x := by
    intro x hx1 hx2
    have hx := (hR9 x hx1).resolve_left hx2
    clear hnk hnc hnp hK9 hR9 hX1 hX2 hX4 hCu hset
    dsimp only [gi_NR] at *
    simp (decide := true) only [ga_mg, gh_U, gh_R, if_true, if_false, false_and, true_and] at *
    grind
  have hNu : ∀ x, F 8 x = F 8 (o v b) → x ≠ o v b → gi_NR o (ga_mg F v (o v b) (w b) b) x := by
    intro x hx1 hx2
    refine hNo x (by rw [hx1]; exact hbo) ((hCu x hx1).2.2.resolve_left hx2)
  
  have e8 : ∀ z, ga_mg F v (o v b) (w b) b 8 z = if F 8 z = F 8 v ∨ F 8 z = F 8 (o v b) then w b else F 8 z := fun z => by simp [ga_mg]
  
  intro x h1 h2
  have e9 : ∀ z, ga_mg F v (o v b) (w b) b 9 z = if z = v then b else F 9 z := fun z => by simp [ga_mg]
  have e13 : ∀ z, ga_mg F v (o v b) (w b) b 13 z = if z = w b then 1 else F 13 z := fun z => by simp [ga_mg]
  have e12 : ∀ z, ga_mg F v (o v b) (w b) b 12 z = if z = w b then F 1 v + 1 else F 12 z := fun z => by simp [ga_mg]
  have e11 : ∀ z, ga_mg F v (o v b) (w b) b 11 z = if F 8 z = F 8 v ∨ F 8 z = F 8 (o v b) then 0 else F 11 z := fun z => by simp [ga_mg]
  have e1 : ∀ z, ga_mg F v (o v b) (w b) b 1 z = F 1 z := fun z => by simp [ga_mg]
  have hvu : o v b ≠ v := hbn.2.2.1
  by_cases hxg : F 8 x = F 8 v ∨ F 8 x = F 8 (o v b)
  · have hx9 : own x (if x = v then b else F 9 x) := by
      split
      · rename_i z; rw [z]; exact hob
      · rename_i z
        rcases hxg with q | q
        · have := (hR9 x q).resolve_left z
          unfold gi_NR at this
          simp (decide := true) only [gh_R, if_true, if_false] at this
          rw [if_neg z] at this
          exact ((Hs6 x).2 this.1).1
        · by_cases z2 : x = o v b
          · rw [z2, h9u]; exact hbn.1
          · exact ((Hs6 x).2 ((hCu x q).2.2.resolve_left z2).1).1
    rw [e8, if_pos hxg, e9] at h2
    obtain ⟨q1, q2⟩ := hX4 _ _ hx9 h2
    have f9 : ga_mg F v (o v b) (w b) b 9 x = b := by rw [e9, q1]
    have f8 : ga_mg F v (o v b) (w b) b 8 x = w b := by rw [e8, if_pos hxg]
    have f11 : ga_mg F v (o v b) (w b) b 11 x = 0 := by rw [e11, if_pos hxg]
    rw [f9, f8, f11]
    rcases q2 with q | q
    · rw [q]
      refine ⟨by rw [e9, if_neg hvu, h9u], by rw [e8, if_pos (Or.inr rfl)], fun _ => ⟨rfl, Or.inl (gh_A_has.mpr (Or.inr ⟨rfl, rfl, rfl⟩))⟩⟩
    · rw [q, hbn.2.1]
      refine ⟨by rw [e9, if_pos rfl], by rw [e8, if_pos (Or.inl rfl)], fun _ => ⟨rfl, Or.inl (gh_A_has.mpr (Or.inl h0v))⟩⟩
  · have hxv : x ≠ v := fun z => hxg (Or.inl (by rw [z]))
    rw [e8, if_neg hxg, e13, if_neg (hfr x)] at h1
    rw [e8, if_neg hxg, e9, if_neg hxv] at h2
    obtain ⟨a1, a2, a3⟩ := HSr x h1 h2
    have hov : o x (F 9 x) ≠ v := fun z => hxg (Or.inl (by rw [← a2, z]))
    have f9 : ga_mg F v (o v b) (w b) b 9 x = F 9 x := by rw [e9, if_neg hxv]
    have f8 : ga_mg F v (o v b) (w b) b 8 x = F 8 x := by rw [e8, if_neg hxg]
    have f11 : ga_mg F v (o v b) (w b) b 11 x = F 11 x := by rw [e11, if_neg hxg]
    have f12 : ga_mg F v (o v b) (w b) b 12 (F 8 x) = F 12 (F 8 x) := by rw [e12, if_neg (hfr x)]
    rw [f9, f8, f11, f12]
    refine ⟨by rw [e9, if_neg hov]; exact a1, by rw [e8, a2, if_neg hxg], fun hc => ?_⟩
    have hc2 : ¬ gi_cur F x := fun z => hc (by unfold gi_cur at z ⊢; rw [e1, e12, e8, if_neg hxg, if_neg (hfr x)]; exact z)
    refine ⟨(a3 hc2).1, ?_⟩
    rcases (a3 hc2).2 with q | ⟨m, m1, m2, m3⟩
    · exact Or.inl (gh_A_has.mpr (Or.inl q))
    · exact Or.inr ⟨m, gh_A_mem.mpr (Or.inl m1), m2, m3⟩
theorem ck_Sn {v b : Nat} (HSn : gi_Sn o w F) (Hn : gh_Net own o w) (hcu : gi_cur F v) (hset : ∀ x, F 8 x = F 8 v → F 11 x = 1 ∧ F 0 x = 2) (hR9 : ∀ x, F 8 x = F 8 v → x = v ∨ gi_NR o (gh_R F v b) x) (hK9 : ∀ e, own v e → mk v e = 1 → F 8 (o v e) = F 8 v → F 9 (o v e) = e ∨ e = b) (hph : F 13 (F 8 v) ≠ 3) (hnk : ∀ y e, own y e → F 8 y = F 8 v → ¬ gh_has 6 (c y e)) (hnc : ∀ y e, own y e → F 8 y = F 8 v → F 8 (o y e) = F 8 v → ¬ gh_has 0 (c y e)) (hnp : ∀ y e a m, own y e → F 8 y = F 8 v → m ∈ c y e → m.1 = 5 → gm_p own o w F mk c (o y e) y e a m → (mk y e = 1 ∧ F 0 y = 2 ∧ F 4 y = e ∧ m.2.1 < F 6 y ∧ F 9 y = e ∧ y ≠ v ∧ gh_R F v b 9 (o y e) ≠ e ∧ a = F 1 y ∧ (¬ gi_cur F y ∨ F 4 (o y e) ≠ gh_R F v b 9 (o y e)) ∧ 1 ≤ F 1 y)) (hob : own v b) (hb0 : mk v b = 0) (hbo : F 8 (o v b) ≠ F 8 v) (hbl : F 1 v = F 1 (o v b)) (hy1 : mk (o v b) b = 1) (hpu : F 13 (F 8 (o v b)) = 3) (hcu2 : gi_cur F (o v b)) (h0v : gh_has 0 (c v b)) (hCu : ∀ x, F 8 x = F 8 (o v b) → F 11 x = 1 ∧ F 0 x = 2 ∧ (x = o v b ∨ gi_NR o F x)) (h9u : F 9 (o v b) = b) (hfr : ∀ x, F 8 x ≠ w b) (hX1 : ∀ x e, own x e → mk x e = 1 → F 8 x = F 8 v → F 8 (o x e) = F 8 v) (hX2 : ∀ x e, own x e → mk x e = 1 → F 8 x = F 8 (o v b) → F 8 (o x e) ≠ F 8 (o v b) → x = o v b ∧ e = b) (hX4 : ∀ y e, own y e → w e = w b → e = b ∧ (y = v ∨ y = o v b)) (hX5 : ∀ x, (F 8 x = F 8 v ∨ F 8 x = F 8 (o v b)) → F 1 x ≤ F 1 v) (hX6 : ∀ x, F 2 x ≠ w b) (hW : 1 ≤ w b ∧ w b < 100)  : gi_Sn o w (ga_mg F v (o v b) (w b) b) := by
  have hbn := Hn.1 v b hob
  have hNo : ∀ x, F 8 x ≠ F 8 v → gi_NR o F x → gi_NR o (ga_mg F v (o v b) (w b) b) x := by
    intro x hx1 hx
    clear hnk hnc hnp hK9 hR9 hX1 hX2 hX4 hCu hset
    dsimp only [gi_NR] at *
    simp (decide := true) only [ga_mg, gh_U, if_true, if_false, false_and, true_and] at *
    grind
  have hNg : ∀ x, F 8 x = F 8 v → x ≠ v → gi_NR o (ga_mg F v (o v b) (w b) b) x := by
    intro x hx1 hx2
    have hx := (hR9 x hx1).resolve_left hx2
    clear hnk hnc hnp hK9 hR9 hX1 hX2 hX4 hCu hset
    dsimp only [gi_NR] at *
    simp (decide := true) only [ga_mg, gh_U, gh_R, if_true, if_false, false_and, true_and] at *
    grind
  have hNu : ∀ x, F 8 x = F 8 (o v b) → x ≠ o v b → gi_NR o (ga_mg F v (o v b) (w b) b) x := by
    intro x hx1 hx2
    refine hNo x (by rw [hx1]; exact hbo) ((hCu x hx1).2.2.resolve_left hx2)
  
  intro x h1 h2
  by_cases hxg : F 8 x = F 8 v
  · by_cases hxv : x = v
    · subst hxv; exfalso; apply h2; simp [ga_mg]
    · exact hNg x hxg hxv
  · by_cases hxu : F 8 x = F 8 (o v b)
    · by_cases hxv : x = o v b
      · subst hxv; exfalso; apply h2; simp [ga_mg, hbn.2.2.1, h9u]
      · exact hNu x hxu hxv
    · refine hNo x hxg (HSn x ?_ ?_)
      · have := hfr x; simp (decide := true) only [ga_mg, if_true, if_false] at h1; grind
      · have := hfr x; simp (decide := true) only [ga_mg, if_true, if_false] at h2; grind
theorem ck_M {v b : Nat} (HM : gi_M own o F) (Hn : gh_Net own o w) (hcu : gi_cur F v) (hset : ∀ x, F 8 x = F 8 v → F 11 x = 1 ∧ F 0 x = 2) (hR9 : ∀ x, F 8 x = F 8 v → x = v ∨ gi_NR o (gh_R F v b) x) (hK9 : ∀ e, own v e → mk v e = 1 → F 8 (o v e) = F 8 v → F 9 (o v e) = e ∨ e = b) (hph : F 13 (F 8 v) ≠ 3) (hnk : ∀ y e, own y e → F 8 y = F 8 v → ¬ gh_has 6 (c y e)) (hnc : ∀ y e, own y e → F 8 y = F 8 v → F 8 (o y e) = F 8 v → ¬ gh_has 0 (c y e)) (hnp : ∀ y e a m, own y e → F 8 y = F 8 v → m ∈ c y e → m.1 = 5 → gm_p own o w F mk c (o y e) y e a m → (mk y e = 1 ∧ F 0 y = 2 ∧ F 4 y = e ∧ m.2.1 < F 6 y ∧ F 9 y = e ∧ y ≠ v ∧ gh_R F v b 9 (o y e) ≠ e ∧ a = F 1 y ∧ (¬ gi_cur F y ∨ F 4 (o y e) ≠ gh_R F v b 9 (o y e)) ∧ 1 ≤ F 1 y)) (hob : own v b) (hb0 : mk v b = 0) (hbo : F 8 (o v b) ≠ F 8 v) (hbl : F 1 v = F 1 (o v b)) (hy1 : mk (o v b) b = 1) (hpu : F 13 (F 8 (o v b)) = 3) (hcu2 : gi_cur F (o v b)) (h0v : gh_has 0 (c v b)) (hCu : ∀ x, F 8 x = F 8 (o v b) → F 11 x = 1 ∧ F 0 x = 2 ∧ (x = o v b ∨ gi_NR o F x)) (h9u : F 9 (o v b) = b) (hfr : ∀ x, F 8 x ≠ w b) (hX1 : ∀ x e, own x e → mk x e = 1 → F 8 x = F 8 v → F 8 (o x e) = F 8 v) (hX2 : ∀ x e, own x e → mk x e = 1 → F 8 x = F 8 (o v b) → F 8 (o x e) ≠ F 8 (o v b) → x = o v b ∧ e = b) (hX4 : ∀ y e, own y e → w e = w b → e = b ∧ (y = v ∨ y = o v b)) (hX5 : ∀ x, (F 8 x = F 8 v ∨ F 8 x = F 8 (o v b)) → F 1 x ≤ F 1 v) (hX6 : ∀ x, F 2 x ≠ w b) (hW : 1 ≤ w b ∧ w b < 100)  : gi_M own o (ga_mg F v (o v b) (w b) b) := by
  have hbn := Hn.1 v b hob
  have hNo : ∀ x, F 8 x ≠ F 8 v → gi_NR o F x → gi_NR o (ga_mg F v (o v b) (w b) b) x := by
    intro x hx1 hx
    clear hnk hnc hnp hK9 hR9 hX1 hX2 hX4 hCu hset
    dsimp only [gi_NR] at *
    simp (decide := true) only [ga_mg, gh_U, if_true, if_false, false_and, true_and] at *
    grind
  have hNg : ∀ x, F 8 x = F 8 v → x ≠ v → gi_NR o (ga_mg F v (o v b) (w b) b) x := by
    intro x hx1 hx2
    have hx := (hR9 x hx1).resolve_left hx2
    clear hnk hnc hnp hK9 hR9 hX1 hX2 hX4 hCu hset
    dsimp only [gi_NR] at *
    simp (decide := true) only [ga_mg, gh_U, gh_R, if_true, if_false, false_and, true_and] at *
    grind
  have hNu : ∀ x, F 8 x = F 8 (o v b) → x ≠ o v b → gi_NR o (ga_mg F v (o v b) (w b) b) x := by
    intro x hx1 hx2
    refine hNo x (by rw [hx1]; exact hbo) ((hCu x hx1).2.2.resolve_left hx2)
  
  intro x hx y e z h1 h2 h3
  have a1 := HM x
  have a3 := hNo x
  have a4 := hset x
  have a5 := hfr x
  clear hnk hnc hnp hK9 hR9 hset HM hNo hNg Hn hX1 hX2 hX4 hCu hfr hX5 hX6 hNu
  dsimp only [gi_cur] at *
  simp (decide := true) only [ga_mg, gh_U, gh_K, gh_A_has, gh_A_cnt, gh_A_mem, false_and, true_and, and_false, or_false, if_false, if_true, and_true] at *
  grind (splits := 30)
theorem ck_C {v b : Nat} (HC : gi_C own o F mk) (Hn : gh_Net own o w) (hcu : gi_cur F v) (hset : ∀ x, F 8 x = F 8 v → F 11 x = 1 ∧ F 0 x = 2) (hR9 : ∀ x, F 8 x = F 8 v → x = v ∨ gi_NR o (gh_R F v b) x) (hK9 : ∀ e, own v e → mk v e = 1 → F 8 (o v e) = F 8 v → F 9 (o v e) = e ∨ e = b) (hph : F 13 (F 8 v) ≠ 3) (hnk : ∀ y e, own y e → F 8 y = F 8 v → ¬ gh_has 6 (c y e)) (hnc : ∀ y e, own y e → F 8 y = F 8 v → F 8 (o y e) = F 8 v → ¬ gh_has 0 (c y e)) (hnp : ∀ y e a m, own y e → F 8 y = F 8 v → m ∈ c y e → m.1 = 5 → gm_p own o w F mk c (o y e) y e a m → (mk y e = 1 ∧ F 0 y = 2 ∧ F 4 y = e ∧ m.2.1 < F 6 y ∧ F 9 y = e ∧ y ≠ v ∧ gh_R F v b 9 (o y e) ≠ e ∧ a = F 1 y ∧ (¬ gi_cur F y ∨ F 4 (o y e) ≠ gh_R F v b 9 (o y e)) ∧ 1 ≤ F 1 y)) (hob : own v b) (hb0 : mk v b = 0) (hbo : F 8 (o v b) ≠ F 8 v) (hbl : F 1 v = F 1 (o v b)) (hy1 : mk (o v b) b = 1) (hpu : F 13 (F 8 (o v b)) = 3) (hcu2 : gi_cur F (o v b)) (h0v : gh_has 0 (c v b)) (hCu : ∀ x, F 8 x = F 8 (o v b) → F 11 x = 1 ∧ F 0 x = 2 ∧ (x = o v b ∨ gi_NR o F x)) (h9u : F 9 (o v b) = b) (hfr : ∀ x, F 8 x ≠ w b) (hX1 : ∀ x e, own x e → mk x e = 1 → F 8 x = F 8 v → F 8 (o x e) = F 8 v) (hX2 : ∀ x e, own x e → mk x e = 1 → F 8 x = F 8 (o v b) → F 8 (o x e) ≠ F 8 (o v b) → x = o v b ∧ e = b) (hX4 : ∀ y e, own y e → w e = w b → e = b ∧ (y = v ∨ y = o v b)) (hX5 : ∀ x, (F 8 x = F 8 v ∨ F 8 x = F 8 (o v b)) → F 1 x ≤ F 1 v) (hX6 : ∀ x, F 2 x ≠ w b) (hW : 1 ≤ w b ∧ w b < 100)  : gi_C own o (ga_mg F v (o v b) (w b) b) (gh_K mk v b 1) := by
  have hbn := Hn.1 v b hob
  have hNo : ∀ x, F 8 x ≠ F 8 v → gi_NR o F x → gi_NR o (ga_mg F v (o v b) (w b) b) x := by
    intro x hx1 hx
    clear hnk hnc hnp hK9 hR9 hX1 hX2 hX4 hCu hset
    dsimp only [gi_NR] at *
    simp (decide := true) only [ga_mg, gh_U, if_true, if_false, false_and, true_and] at *
    grind
  have hNg : ∀ x, F 8 x = F 8 v → x ≠ v → gi_NR o (ga_mg F v (o v b) (w b) b) x := by
    intro x hx1 hx2
    have hx := (hR9 x hx1).resolve_left hx2
    clear hnk hnc hnp hK9 hR9 hX1 hX2 hX4 hCu hset
    dsimp only [gi_NR] at *
    simp (decide := true) only [ga_mg, gh_U, gh_R, if_true, if_false, false_and, true_and] at *
    grind
  have hNu : ∀ x, F 8 x = F 8 (o v b) → x ≠ o v b → gi_NR o (ga_mg F v (o v b) (w b) b) x := by
    intro x hx1 hx2
    refine hNo x (by rw [hx1]; exact hbo) ((hCu x hx1).2.2.resolve_left hx2)
  
  intro x hx u e h1 h2
  have a1 := HC x
  have a3 := hNo x
  have a4 := hset x
  have a5 := hfr x
  clear hnk hnc hnp hK9 hR9 hset HC hNo hNg Hn hX1 hX2 hX4 hCu hfr hX5 hX6 hNu
  dsimp only [gi_cur] at *
  simp (decide := true) only [ga_mg, gh_U, gh_K, gh_A_has, gh_A_cnt, gh_A_mem, false_and, true_and, and_false, or_false, if_false, if_true, and_true] at *
  grind (splits := 30)
theorem ck_6 {v b : Nat} (H6 : gi_6 o F c) (Hn : gh_Net own o w) (Hb1 : gi_b1 F) (Hs6 : gi_s6 own F mk) (Xl : gx_l own F c) (hcu : gi_cur F v) (hset : ∀ x, F 8 x = F 8 v → F 11 x = 1 ∧ F 0 x = 2) (hR9 : ∀ x, F 8 x = F 8 v → x = v ∨ gi_NR o (gh_R F v b) x) (hK9 : ∀ e, own v e → mk v e = 1 → F 8 (o v e) = F 8 v → F 9 (o v e) = e ∨ e = b) (hph : F 13 (F 8 v) ≠ 3) (hnk : ∀ y e, own y e → F 8 y = F 8 v → ¬ gh_has 6 (c y e)) (hnc : ∀ y e, own y e → F 8 y = F 8 v → F 8 (o y e) = F 8 v → ¬ gh_has 0 (c y e)) (hnp : ∀ y e a m, own y e → F 8 y = F 8 v → m ∈ c y e → m.1 = 5 → gm_p own o w F mk c (o y e) y e a m → (mk y e = 1 ∧ F 0 y = 2 ∧ F 4 y = e ∧ m.2.1 < F 6 y ∧ F 9 y = e ∧ y ≠ v ∧ gh_R F v b 9 (o y e) ≠ e ∧ a = F 1 y ∧ (¬ gi_cur F y ∨ F 4 (o y e) ≠ gh_R F v b 9 (o y e)) ∧ 1 ≤ F 1 y)) (hob : own v b) (hb0 : mk v b = 0) (hbo : F 8 (o v b) ≠ F 8 v) (hbl : F 1 v = F 1 (o v b)) (hy1 : mk (o v b) b = 1) (hpu : F 13 (F 8 (o v b)) = 3) (hcu2 : gi_cur F (o v b)) (h0v : gh_has 0 (c v b)) (hCu : ∀ x, F 8 x = F 8 (o v b) → F 11 x = 1 ∧ F 0 x = 2 ∧ (x = o v b ∨ gi_NR o F x)) (h9u : F 9 (o v b) = b) (hfr : ∀ x, F 8 x ≠ w b) (hX1 : ∀ x e, own x e → mk x e = 1 → F 8 x = F 8 v → F 8 (o x e) = F 8 v) (hX2 : ∀ x e, own x e → mk x e = 1 → F 8 x = F 8 (o v b) → F 8 (o x e) ≠ F 8 (o v b) → x = o v b ∧ e = b) (hX4 : ∀ y e, own y e → w e = w b → e = b ∧ (y = v ∨ y = o v b)) (hX5 : ∀ x, (F 8 x = F 8 v ∨ F 8 x = F 8 (o v b)) → F 1 x ≤ F 1 v) (hX6 : ∀ x, F 2 x ≠ w b) (hW : 1 ≤ w b ∧ w b < 100)  : gi_6 o (ga_mg F v (o v b) (w b) b) (gh_A c (o v b) b (0, F 1 v, 0, 0)) := by
  have hbn := Hn.1 v b hob
  have hRev : ∀ x, gi_NR o (ga_mg F v (o v b) (w b) b) x → (gi_NR o F x ∧ o x (F 9 x) ≠ v ∧ x ≠ v) ∨ (F 8 x = F 8 v ∧ x ≠ v ∧ o x (F 9 x) = v) := by
    intro x hx
    have q1 := hX1 x (F 9 x)
    have q2 := hX2 x (F 9 x)
    have q3 := Hs6 x
    clear hnk hnc hnp hK9 hR9 hset hX1 hX2 hX4 hCu hX5 hX6 Hs6 Hn
    have q4 := hfr x
    have q5 := hfr (o x (F 9 x))
    dsimp only [gi_NR] at *
    simp (decide := true) only [ga_mg, if_true, if_false, false_and, true_and] at *
    grind (splits := 30)
  
  intro x hx
  have e1 : ∀ z, ga_mg F v (o v b) (w b) b 1 z = F 1 z := fun z => by simp [ga_mg]
  have e9 : x ≠ v → ga_mg F v (o v b) (w b) b 9 x = F 9 x := fun z => by simp [ga_mg, z]
  rcases hRev x hx with ⟨z, zu, zv⟩ | ⟨z, zu, zv⟩
  · obtain ⟨a1, a2⟩ := H6 x z
    rw [e1, e1, e9 zv]
    refine ⟨a1, fun m hm hm1 => ?_⟩
    rcases gh_A_mem.mp hm with q | q
    · exact a2 m q hm1
    · rw [q.2.2] at hm1; cases hm1
  · rw [e1, e1, e9 zu, zv]
    have b1 := Hb1 x
    unfold gi_cur at hcu
    rw [z] at b1
    refine ⟨by omega, fun m hm hm1 => ?_⟩
    have h9 : own x (F 9 x) := by
      have q := hx.1
      rw [e9 zu] at q
      exact ((Hs6 x).2 q).1
    rcases gh_A_mem.mp hm with q | q
    · have := (Xl x (F 9 x) h9 m q hm1).2.2
      rw [z] at this
      omega
    · rw [q.2.2] at hm1; cases hm1
theorem ck_7 {v b : Nat} (H7 : gi_7 o F) (Hn : gh_Net own o w) (Hs6 : gi_s6 own F mk) (hcu : gi_cur F v) (hset : ∀ x, F 8 x = F 8 v → F 11 x = 1 ∧ F 0 x = 2) (hR9 : ∀ x, F 8 x = F 8 v → x = v ∨ gi_NR o (gh_R F v b) x) (hK9 : ∀ e, own v e → mk v e = 1 → F 8 (o v e) = F 8 v → F 9 (o v e) = e ∨ e = b) (hph : F 13 (F 8 v) ≠ 3) (hnk : ∀ y e, own y e → F 8 y = F 8 v → ¬ gh_has 6 (c y e)) (hnc : ∀ y e, own y e → F 8 y = F 8 v → F 8 (o y e) = F 8 v → ¬ gh_has 0 (c y e)) (hnp : ∀ y e a m, own y e → F 8 y = F 8 v → m ∈ c y e → m.1 = 5 → gm_p own o w F mk c (o y e) y e a m → (mk y e = 1 ∧ F 0 y = 2 ∧ F 4 y = e ∧ m.2.1 < F 6 y ∧ F 9 y = e ∧ y ≠ v ∧ gh_R F v b 9 (o y e) ≠ e ∧ a = F 1 y ∧ (¬ gi_cur F y ∨ F 4 (o y e) ≠ gh_R F v b 9 (o y e)) ∧ 1 ≤ F 1 y)) (hob : own v b) (hb0 : mk v b = 0) (hbo : F 8 (o v b) ≠ F 8 v) (hbl : F 1 v = F 1 (o v b)) (hy1 : mk (o v b) b = 1) (hpu : F 13 (F 8 (o v b)) = 3) (hcu2 : gi_cur F (o v b)) (h0v : gh_has 0 (c v b)) (hCu : ∀ x, F 8 x = F 8 (o v b) → F 11 x = 1 ∧ F 0 x = 2 ∧ (x = o v b ∨ gi_NR o F x)) (h9u : F 9 (o v b) = b) (hfr : ∀ x, F 8 x ≠ w b) (hX1 : ∀ x e, own x e → mk x e = 1 → F 8 x = F 8 v → F 8 (o x e) = F 8 v) (hX2 : ∀ x e, own x e → mk x e = 1 → F 8 x = F 8 (o v b) → F 8 (o x e) ≠ F 8 (o v b) → x = o v b ∧ e = b) (hX4 : ∀ y e, own y e → w e = w b → e = b ∧ (y = v ∨ y = o v b)) (hX5 : ∀ x, (F 8 x = F 8 v ∨ F 8 x = F 8 (o v b)) → F 1 x ≤ F 1 v) (hX6 : ∀ x, F 2 x ≠ w b) (hW : 1 ≤ w b ∧ w b < 100)  : gi_7 o (ga_mg F v (o v b) (w b) b) := by
  have hbn := Hn.1 v b hob
  have hRev : ∀ x, gi_NR o (ga_mg F v (o v b) (w b) b) x → (gi_NR o F x ∧ o x (F 9 x) ≠ v ∧ x ≠ v) ∨ (F 8 x = F 8 v ∧ x ≠ v ∧ o x (F 9 x) = v) := by
    intro x hx
    have q1 := hX1 x (F 9 x)
    have q2 := hX2 x (F 9 x)
    have q3 := Hs6 x
    clear hnk hnc hnp hK9 hR9 hset hX1 hX2 hX4 hCu hX5 hX6 Hs6 Hn
    have q4 := hfr x
    have q5 := hfr (o x (F 9 x))
    dsimp only [gi_NR] at *
    simp (decide := true) only [ga_mg, if_true, if_false, false_and, true_and] at *
    grind (splits := 30)
  
  intro x hx
  have q1 := hset x
  have q2 := hset (o x (F 9 x))
  have q3 := hCu (o x (F 9 x))
  have q4 := hfr x
  have q5 := hfr (o x (F 9 x))
  rcases hRev x hx with ⟨z, zu, zv⟩ | ⟨z, zu, zv⟩
  · obtain ⟨a1, a2, a3⟩ := H7 x z
    clear hnk hnc hnp hK9 hR9 hset H7 hRev hx Hn hX1 hX2 hX4 hCu hX5 hX6 Hs6 hfr
    dsimp only [gi_NR, gi_cur] at *
    simp (decide := true) only [ga_mg, gh_U, if_true, if_false, false_and, true_and] at *
    grind (splits := 30)
  · clear hnk hnc hnp hK9 hR9 hset H7 hRev hx Hn hX1 hX2 hX4 hCu hX5 hX6 Hs6 hfr
    dsimp only [gi_NR, gi_cur] at *
    simp (decide := true) only [ga_mg, gh_U, if_true, if_false, false_and, true_and] at *
    grind (splits := 30)
theorem ck_an {v b : Nat} (Han : gi_an own o F mk c) (Hn : gh_Net own o w) (Hs2 : gi_s2 F) (HK : gi_K own o F mk c) (hcu : gi_cur F v) (hset : ∀ x, F 8 x = F 8 v → F 11 x = 1 ∧ F 0 x = 2) (hR9 : ∀ x, F 8 x = F 8 v → x = v ∨ gi_NR o (gh_R F v b) x) (hK9 : ∀ e, own v e → mk v e = 1 → F 8 (o v e) = F 8 v → F 9 (o v e) = e ∨ e = b) (hph : F 13 (F 8 v) ≠ 3) (hnk : ∀ y e, own y e → F 8 y = F 8 v → ¬ gh_has 6 (c y e)) (hnc : ∀ y e, own y e → F 8 y = F 8 v → F 8 (o y e) = F 8 v → ¬ gh_has 0 (c y e)) (hnp : ∀ y e a m, own y e → F 8 y = F 8 v → m ∈ c y e → m.1 = 5 → gm_p own o w F mk c (o y e) y e a m → (mk y e = 1 ∧ F 0 y = 2 ∧ F 4 y = e ∧ m.2.1 < F 6 y ∧ F 9 y = e ∧ y ≠ v ∧ gh_R F v b 9 (o y e) ≠ e ∧ a = F 1 y ∧ (¬ gi_cur F y ∨ F 4 (o y e) ≠ gh_R F v b 9 (o y e)) ∧ 1 ≤ F 1 y)) (hob : own v b) (hb0 : mk v b = 0) (hbo : F 8 (o v b) ≠ F 8 v) (hbl : F 1 v = F 1 (o v b)) (hy1 : mk (o v b) b = 1) (hpu : F 13 (F 8 (o v b)) = 3) (hcu2 : gi_cur F (o v b)) (h0v : gh_has 0 (c v b)) (hCu : ∀ x, F 8 x = F 8 (o v b) → F 11 x = 1 ∧ F 0 x = 2 ∧ (x = o v b ∨ gi_NR o F x)) (h9u : F 9 (o v b) = b) (hfr : ∀ x, F 8 x ≠ w b) (hX1 : ∀ x e, own x e → mk x e = 1 → F 8 x = F 8 v → F 8 (o x e) = F 8 v) (hX2 : ∀ x e, own x e → mk x e = 1 → F 8 x = F 8 (o v b) → F 8 (o x e) ≠ F 8 (o v b) → x = o v b ∧ e = b) (hX4 : ∀ y e, own y e → w e = w b → e = b ∧ (y = v ∨ y = o v b)) (hX5 : ∀ x, (F 8 x = F 8 v ∨ F 8 x = F 8 (o v b)) → F 1 x ≤ F 1 v) (hX6 : ∀ x, F 2 x ≠ w b) (hW : 1 ≤ w b ∧ w b < 100)  : gi_an own o (ga_mg F v (o v b) (w b) b) (gh_K mk v b 1) (gh_A c (o v b) b (0, F 1 v, 0, 0)) := by
  intro x hx
  have hx1 : F 0 x = 1 := by simpa (decide := true) [ga_mg] using hx
  have q1 := hset x
  have q2 := Hs2 x hx1
  have q3 := hCu x
  have q4 := hfr x
  obtain ⟨l, l1, l2, l3⟩ := Han x hx1
  refine ⟨l, l1, by simpa (decide := true) [ga_mg] using l2, fun e => (l3 e).trans ?_⟩
  have a1 := HK x e (o x e)
  have a2 := Hn.1 x e
  clear hnk hnc hnp hK9 hR9 hset Han l3 Hn Hs2 HK hX1 hX2 hX4 hCu hX5 hX6 hfr
  dsimp only [gi_open, gi_cur] at *
  simp (decide := true) only [ga_mg, gh_U, gh_K, gh_A_has, gh_A_cnt, gh_A_mem, false_and, true_and, and_false, or_false, if_false, if_true, and_true] at *
  grind (splits := 30)
theorem ck_bc {v b : Nat} (Hbc : gi_bc o F mk c) (Hn : gh_Net own o w) (hcu : gi_cur F v) (hset : ∀ x, F 8 x = F 8 v → F 11 x = 1 ∧ F 0 x = 2) (hR9 : ∀ x, F 8 x = F 8 v → x = v ∨ gi_NR o (gh_R F v b) x) (hK9 : ∀ e, own v e → mk v e = 1 → F 8 (o v e) = F 8 v → F 9 (o v e) = e ∨ e = b) (hph : F 13 (F 8 v) ≠ 3) (hnk : ∀ y e, own y e → F 8 y = F 8 v → ¬ gh_has 6 (c y e)) (hnc : ∀ y e, own y e → F 8 y = F 8 v → F 8 (o y e) = F 8 v → ¬ gh_has 0 (c y e)) (hnp : ∀ y e a m, own y e → F 8 y = F 8 v → m ∈ c y e → m.1 = 5 → gm_p own o w F mk c (o y e) y e a m → (mk y e = 1 ∧ F 0 y = 2 ∧ F 4 y = e ∧ m.2.1 < F 6 y ∧ F 9 y = e ∧ y ≠ v ∧ gh_R F v b 9 (o y e) ≠ e ∧ a = F 1 y ∧ (¬ gi_cur F y ∨ F 4 (o y e) ≠ gh_R F v b 9 (o y e)) ∧ 1 ≤ F 1 y)) (hob : own v b) (hb0 : mk v b = 0) (hbo : F 8 (o v b) ≠ F 8 v) (hbl : F 1 v = F 1 (o v b)) (hy1 : mk (o v b) b = 1) (hpu : F 13 (F 8 (o v b)) = 3) (hcu2 : gi_cur F (o v b)) (h0v : gh_has 0 (c v b)) (hCu : ∀ x, F 8 x = F 8 (o v b) → F 11 x = 1 ∧ F 0 x = 2 ∧ (x = o v b ∨ gi_NR o F x)) (h9u : F 9 (o v b) = b) (hfr : ∀ x, F 8 x ≠ w b) (hX1 : ∀ x e, own x e → mk x e = 1 → F 8 x = F 8 v → F 8 (o x e) = F 8 v) (hX2 : ∀ x e, own x e → mk x e = 1 → F 8 x = F 8 (o v b) → F 8 (o x e) ≠ F 8 (o v b) → x = o v b ∧ e = b) (hX4 : ∀ y e, own y e → w e = w b → e = b ∧ (y = v ∨ y = o v b)) (hX5 : ∀ x, (F 8 x = F 8 v ∨ F 8 x = F 8 (o v b)) → F 1 x ≤ F 1 v) (hX6 : ∀ x, F 2 x ≠ w b) (hW : 1 ≤ w b ∧ w b < 100)  : gi_bc o (ga_mg F v (o v b) (w b) b) (gh_K mk v b 1) (gh_A c (o v b) b (0, F 1 v, 0, 0)) := by
  intro x b9 y hb9 hb1 hy hcu9 hph9 hw
  have b1 := Hbc x b9 y
  have b2 := Hn.1 v b hob
  have b3 := hX5 x
  have b4 := hfr x
  have b5 := hfr y
  clear hnk hnc hnp hK9 hR9 hset Hbc Hn hX1 hX2 hX4 hCu hX5 hX6 hfr
  dsimp only [gi_cur] at *
  simp (decide := true) only [ga_mg, gh_U, gh_K, gh_A_has, gh_A_cnt, gh_A_mem, false_and, true_and, and_false, or_false, if_false, if_true, and_true] at *
  grind (splits := 30)
theorem ck_K {v b : Nat} (HK : gi_K own o F mk c) (Hn : gh_Net own o w) (hcu : gi_cur F v) (hset : ∀ x, F 8 x = F 8 v → F 11 x = 1 ∧ F 0 x = 2) (hR9 : ∀ x, F 8 x = F 8 v → x = v ∨ gi_NR o (gh_R F v b) x) (hK9 : ∀ e, own v e → mk v e = 1 → F 8 (o v e) = F 8 v → F 9 (o v e) = e ∨ e = b) (hph : F 13 (F 8 v) ≠ 3) (hnk : ∀ y e, own y e → F 8 y = F 8 v → ¬ gh_has 6 (c y e)) (hnc : ∀ y e, own y e → F 8 y = F 8 v → F 8 (o y e) = F 8 v → ¬ gh_has 0 (c y e)) (hnp : ∀ y e a m, own y e → F 8 y = F 8 v → m ∈ c y e → m.1 = 5 → gm_p own o w F mk c (o y e) y e a m → (mk y e = 1 ∧ F 0 y = 2 ∧ F 4 y = e ∧ m.2.1 < F 6 y ∧ F 9 y = e ∧ y ≠ v ∧ gh_R F v b 9 (o y e) ≠ e ∧ a = F 1 y ∧ (¬ gi_cur F y ∨ F 4 (o y e) ≠ gh_R F v b 9 (o y e)) ∧ 1 ≤ F 1 y)) (hob : own v b) (hb0 : mk v b = 0) (hbo : F 8 (o v b) ≠ F 8 v) (hbl : F 1 v = F 1 (o v b)) (hy1 : mk (o v b) b = 1) (hpu : F 13 (F 8 (o v b)) = 3) (hcu2 : gi_cur F (o v b)) (h0v : gh_has 0 (c v b)) (hCu : ∀ x, F 8 x = F 8 (o v b) → F 11 x = 1 ∧ F 0 x = 2 ∧ (x = o v b ∨ gi_NR o F x)) (h9u : F 9 (o v b) = b) (hfr : ∀ x, F 8 x ≠ w b) (hX1 : ∀ x e, own x e → mk x e = 1 → F 8 x = F 8 v → F 8 (o x e) = F 8 v) (hX2 : ∀ x e, own x e → mk x e = 1 → F 8 x = F 8 (o v b) → F 8 (o x e) ≠ F 8 (o v b) → x = o v b ∧ e = b) (hX4 : ∀ y e, own y e → w e = w b → e = b ∧ (y = v ∨ y = o v b)) (hX5 : ∀ x, (F 8 x = F 8 v ∨ F 8 x = F 8 (o v b)) → F 1 x ≤ F 1 v) (hX6 : ∀ x, F 2 x ≠ w b) (hW : 1 ≤ w b ∧ w b < 100)  : gi_K own o (ga_mg F v (o v b) (w b) b) (gh_K mk v b 1) (gh_A c (o v b) b (0, F 1 v, 0, 0)) := by
  intro x e y h1 h2 h3
  have b1 := HK x e y h1 h2
  have b5 := Hn.1 x e h1
  have b6 := hK9 e
  have b7 := Hn.1 v b hob
  have b8 := HK v e (o v e)
  have b9 := hX1 x e h1
  have b10 := hX2 x e h1
  have b11 := hfr x
  have b12 := hfr y
  clear hnk hnc hnp hK9 hR9 hset HK Hn hX1 hX2 hX4 hCu hX5 hX6 hfr
  dsimp only [gi_cur] at *
  simp (decide := true) only [ga_mg, gh_U, gh_K, gh_A_has, gh_A_cnt, gh_A_mem, false_and, true_and, and_false, or_false, if_false, if_true, and_true] at *
  grind (splits := 30)
theorem ck_rj {v b : Nat} (Hrj : gi_rj own o F mk) (Hn : gh_Net own o w) (hcu : gi_cur F v) (hset : ∀ x, F 8 x = F 8 v → F 11 x = 1 ∧ F 0 x = 2) (hR9 : ∀ x, F 8 x = F 8 v → x = v ∨ gi_NR o (gh_R F v b) x) (hK9 : ∀ e, own v e → mk v e = 1 → F 8 (o v e) = F 8 v → F 9 (o v e) = e ∨ e = b) (hph : F 13 (F 8 v) ≠ 3) (hnk : ∀ y e, own y e → F 8 y = F 8 v → ¬ gh_has 6 (c y e)) (hnc : ∀ y e, own y e → F 8 y = F 8 v → F 8 (o y e) = F 8 v → ¬ gh_has 0 (c y e)) (hnp : ∀ y e a m, own y e → F 8 y = F 8 v → m ∈ c y e → m.1 = 5 → gm_p own o w F mk c (o y e) y e a m → (mk y e = 1 ∧ F 0 y = 2 ∧ F 4 y = e ∧ m.2.1 < F 6 y ∧ F 9 y = e ∧ y ≠ v ∧ gh_R F v b 9 (o y e) ≠ e ∧ a = F 1 y ∧ (¬ gi_cur F y ∨ F 4 (o y e) ≠ gh_R F v b 9 (o y e)) ∧ 1 ≤ F 1 y)) (hob : own v b) (hb0 : mk v b = 0) (hbo : F 8 (o v b) ≠ F 8 v) (hbl : F 1 v = F 1 (o v b)) (hy1 : mk (o v b) b = 1) (hpu : F 13 (F 8 (o v b)) = 3) (hcu2 : gi_cur F (o v b)) (h0v : gh_has 0 (c v b)) (hCu : ∀ x, F 8 x = F 8 (o v b) → F 11 x = 1 ∧ F 0 x = 2 ∧ (x = o v b ∨ gi_NR o F x)) (h9u : F 9 (o v b) = b) (hfr : ∀ x, F 8 x ≠ w b) (hX1 : ∀ x e, own x e → mk x e = 1 → F 8 x = F 8 v → F 8 (o x e) = F 8 v) (hX2 : ∀ x e, own x e → mk x e = 1 → F 8 x = F 8 (o v b) → F 8 (o x e) ≠ F 8 (o v b) → x = o v b ∧ e = b) (hX4 : ∀ y e, own y e → w e = w b → e = b ∧ (y = v ∨ y = o v b)) (hX5 : ∀ x, (F 8 x = F 8 v ∨ F 8 x = F 8 (o v b)) → F 1 x ≤ F 1 v) (hX6 : ∀ x, F 2 x ≠ w b) (hW : 1 ≤ w b ∧ w b < 100)  : gi_rj own o (ga_mg F v (o v b) (w b) b) (gh_K mk v b 1) := by
  clear hnk hnc hnp hK9 hR9 hX1 hX2 hX4
  dsimp only [gi_rj, gi_cur, gi_NR, gi_wt, gi_open, gh_Net] at *
  try simp (decide := true) only [ga_mg, gh_U, gh_K, gh_A_has, gh_A_cnt, gh_A_mem, false_and, true_and, and_false, or_false, if_false, if_true, and_true]
  grind (splits := 25)
theorem ck_tw {v b : Nat} (Htw : gi_tw own c) (Hn : gh_Net own o w) (Xc : gx_c own o w F mk c) (hcu : gi_cur F v) (hset : ∀ x, F 8 x = F 8 v → F 11 x = 1 ∧ F 0 x = 2) (hR9 : ∀ x, F 8 x = F 8 v → x = v ∨ gi_NR o (gh_R F v b) x) (hK9 : ∀ e, own v e → mk v e = 1 → F 8 (o v e) = F 8 v → F 9 (o v e) = e ∨ e = b) (hph : F 13 (F 8 v) ≠ 3) (hnk : ∀ y e, own y e → F 8 y = F 8 v → ¬ gh_has 6 (c y e)) (hnc : ∀ y e, own y e → F 8 y = F 8 v → F 8 (o y e) = F 8 v → ¬ gh_has 0 (c y e)) (hnp : ∀ y e a m, own y e → F 8 y = F 8 v → m ∈ c y e → m.1 = 5 → gm_p own o w F mk c (o y e) y e a m → (mk y e = 1 ∧ F 0 y = 2 ∧ F 4 y = e ∧ m.2.1 < F 6 y ∧ F 9 y = e ∧ y ≠ v ∧ gh_R F v b 9 (o y e) ≠ e ∧ a = F 1 y ∧ (¬ gi_cur F y ∨ F 4 (o y e) ≠ gh_R F v b 9 (o y e)) ∧ 1 ≤ F 1 y)) (hob : own v b) (hb0 : mk v b = 0) (hbo : F 8 (o v b) ≠ F 8 v) (hbl : F 1 v = F 1 (o v b)) (hy1 : mk (o v b) b = 1) (hpu : F 13 (F 8 (o v b)) = 3) (hcu2 : gi_cur F (o v b)) (h0v : gh_has 0 (c v b)) (hCu : ∀ x, F 8 x = F 8 (o v b) → F 11 x = 1 ∧ F 0 x = 2 ∧ (x = o v b ∨ gi_NR o F x)) (h9u : F 9 (o v b) = b) (hfr : ∀ x, F 8 x ≠ w b) (hX1 : ∀ x e, own x e → mk x e = 1 → F 8 x = F 8 v → F 8 (o x e) = F 8 v) (hX2 : ∀ x e, own x e → mk x e = 1 → F 8 x = F 8 (o v b) → F 8 (o x e) ≠ F 8 (o v b) → x = o v b ∧ e = b) (hX4 : ∀ y e, own y e → w e = w b → e = b ∧ (y = v ∨ y = o v b)) (hX5 : ∀ x, (F 8 x = F 8 v ∨ F 8 x = F 8 (o v b)) → F 1 x ≤ F 1 v) (hX6 : ∀ x, F 2 x ≠ w b) (hW : 1 ≤ w b ∧ w b < 100)  : gi_tw own (gh_A c (o v b) b (0, F 1 v, 0, 0)) := by
  clear hnk hnc hnp hK9 hR9 hX1 hX2 hX4
  dsimp only [gi_tw, gx_c, gi_cur, gi_NR, gi_wt, gi_open, gh_Net] at *
  try simp (decide := true) only [ga_mg, gh_U, gh_K, gh_A_has, gh_A_cnt, gh_A_mem, false_and, true_and, and_false, or_false, if_false, if_true, and_true]
  grind (splits := 25) [gh_cnt_0]
theorem ck_ts {v b : Nat} (Hts : gi_ts own o F c) (Hn : gh_Net own o w) (hcu : gi_cur F v) (hset : ∀ x, F 8 x = F 8 v → F 11 x = 1 ∧ F 0 x = 2) (hR9 : ∀ x, F 8 x = F 8 v → x = v ∨ gi_NR o (gh_R F v b) x) (hK9 : ∀ e, own v e → mk v e = 1 → F 8 (o v e) = F 8 v → F 9 (o v e) = e ∨ e = b) (hph : F 13 (F 8 v) ≠ 3) (hnk : ∀ y e, own y e → F 8 y = F 8 v → ¬ gh_has 6 (c y e)) (hnc : ∀ y e, own y e → F 8 y = F 8 v → F 8 (o y e) = F 8 v → ¬ gh_has 0 (c y e)) (hnp : ∀ y e a m, own y e → F 8 y = F 8 v → m ∈ c y e → m.1 = 5 → gm_p own o w F mk c (o y e) y e a m → (mk y e = 1 ∧ F 0 y = 2 ∧ F 4 y = e ∧ m.2.1 < F 6 y ∧ F 9 y = e ∧ y ≠ v ∧ gh_R F v b 9 (o y e) ≠ e ∧ a = F 1 y ∧ (¬ gi_cur F y ∨ F 4 (o y e) ≠ gh_R F v b 9 (o y e)) ∧ 1 ≤ F 1 y)) (hob : own v b) (hb0 : mk v b = 0) (hbo : F 8 (o v b) ≠ F 8 v) (hbl : F 1 v = F 1 (o v b)) (hy1 : mk (o v b) b = 1) (hpu : F 13 (F 8 (o v b)) = 3) (hcu2 : gi_cur F (o v b)) (h0v : gh_has 0 (c v b)) (hCu : ∀ x, F 8 x = F 8 (o v b) → F 11 x = 1 ∧ F 0 x = 2 ∧ (x = o v b ∨ gi_NR o F x)) (h9u : F 9 (o v b) = b) (hfr : ∀ x, F 8 x ≠ w b) (hX1 : ∀ x e, own x e → mk x e = 1 → F 8 x = F 8 v → F 8 (o x e) = F 8 v) (hX2 : ∀ x e, own x e → mk x e = 1 → F 8 x = F 8 (o v b) → F 8 (o x e) ≠ F 8 (o v b) → x = o v b ∧ e = b) (hX4 : ∀ y e, own y e → w e = w b → e = b ∧ (y = v ∨ y = o v b)) (hX5 : ∀ x, (F 8 x = F 8 v ∨ F 8 x = F 8 (o v b)) → F 1 x ≤ F 1 v) (hX6 : ∀ x, F 2 x ≠ w b) (hW : 1 ≤ w b ∧ w b < 100)  : gi_ts own o (ga_mg F v (o v b) (w b) b) (gh_A c (o v b) b (0, F 1 v, 0, 0)) := by
  clear hnk hnc hnp hK9 hR9 hX1 hX2 hX4
  dsimp only [gi_ts, gi_cur, gi_NR, gi_wt, gi_open, gh_Net] at *
  try simp (decide := true) only [ga_mg, gh_U, gh_K, gh_A_has, gh_A_cnt, gh_A_mem, false_and, true_and, and_false, or_false, if_false, if_true, and_true]
  grind (splits := 25)
theorem ck_sz {v b : Nat} (Hsz : gi_sz F) (Hn : gh_Net own o w) (hcu : gi_cur F v) (hset : ∀ x, F 8 x = F 8 v → F 11 x = 1 ∧ F 0 x = 2) (hR9 : ∀ x, F 8 x = F 8 v → x = v ∨ gi_NR o (gh_R F v b) x) (hK9 : ∀ e, own v e → mk v e = 1 → F 8 (o v e) = F 8 v → F 9 (o v e) = e ∨ e = b) (hph : F 13 (F 8 v) ≠ 3) (hnk : ∀ y e, own y e → F 8 y = F 8 v → ¬ gh_has 6 (c y e)) (hnc : ∀ y e, own y e → F 8 y = F 8 v → F 8 (o y e) = F 8 v → ¬ gh_has 0 (c y e)) (hnp : ∀ y e a m, own y e → F 8 y = F 8 v → m ∈ c y e → m.1 = 5 → gm_p own o w F mk c (o y e) y e a m → (mk y e = 1 ∧ F 0 y = 2 ∧ F 4 y = e ∧ m.2.1 < F 6 y ∧ F 9 y = e ∧ y ≠ v ∧ gh_R F v b 9 (o y e) ≠ e ∧ a = F 1 y ∧ (¬ gi_cur F y ∨ F 4 (o y e) ≠ gh_R F v b 9 (o y e)) ∧ 1 ≤ F 1 y)) (hob : own v b) (hb0 : mk v b = 0) (hbo : F 8 (o v b) ≠ F 8 v) (hbl : F 1 v = F 1 (o v b)) (hy1 : mk (o v b) b = 1) (hpu : F 13 (F 8 (o v b)) = 3) (hcu2 : gi_cur F (o v b)) (h0v : gh_has 0 (c v b)) (hCu : ∀ x, F 8 x = F 8 (o v b) → F 11 x = 1 ∧ F 0 x = 2 ∧ (x = o v b ∨ gi_NR o F x)) (h9u : F 9 (o v b) = b) (hfr : ∀ x, F 8 x ≠ w b) (hX1 : ∀ x e, own x e → mk x e = 1 → F 8 x = F 8 v → F 8 (o x e) = F 8 v) (hX2 : ∀ x e, own x e → mk x e = 1 → F 8 x = F 8 (o v b) → F 8 (o x e) ≠ F 8 (o v b) → x = o v b ∧ e = b) (hX4 : ∀ y e, own y e → w e = w b → e = b ∧ (y = v ∨ y = o v b)) (hX5 : ∀ x, (F 8 x = F 8 v ∨ F 8 x = F 8 (o v b)) → F 1 x ≤ F 1 v) (hX6 : ∀ x, F 2 x ≠ w b) (hW : 1 ≤ w b ∧ w b < 100)  : gi_sz (ga_mg F v (o v b) (w b) b) := by
  have e8 : ∀ z, ga_mg F v (o v b) (w b) b 8 z = if F 8 z = F 8 v ∨ F 8 z = F 8 (o v b) then w b else F 8 z := fun z => by simp [ga_mg]
  
  intro x hx
  have hbn := Hn.1 v b hob
  have hbm := Hn.1 (o v b) b hbn.1
  have e12 : ∀ z, ga_mg F v (o v b) (w b) b 12 z = if z = w b then F 1 v + 1 else F 12 z := fun z => by simp [ga_mg]
  unfold gi_cur at hcu hcu2
  by_cases hxg : F 8 x = F 8 v ∨ F 8 x = F 8 (o v b)
  · obtain ⟨l, l1, l2, l3⟩ := Hsz v (by omega)
    obtain ⟨k, k1, k2, k3⟩ := Hsz (o v b) (by omega)
    refine ⟨l ++ k, List.nodup_append.mpr ⟨l1, k1, fun a ha a2 ha2 => ?_⟩, ?_, fun y hy => ?_⟩
    · intro z
      exact hbo ((k3 a2 ha2).2.symm.trans (by rw [← z]; exact (l3 a ha).2))
    · rw [e8, if_pos hxg, e12, if_pos rfl, List.length_append]; omega
    · rcases List.mem_append.mp hy with q | q
      · exact ⟨(l3 y q).1, by rw [e8, e8, if_pos hxg, if_pos (Or.inl (l3 y q).2)]⟩
      · exact ⟨(k3 y q).1, by rw [e8, e8, if_pos hxg, if_pos (Or.inr (k3 y q).2)]⟩
  · obtain ⟨l, l1, l2, l3⟩ := Hsz x hx
    refine ⟨l, l1, by rw [e8, if_neg hxg, e12, if_neg (hfr x)]; exact l2, fun y hy => ⟨(l3 y hy).1, by rw [e8, e8, (l3 y hy).2]⟩⟩
theorem ck_mi {v b : Nat} (Hn : gh_Net own o w) (hcu : gi_cur F v) (hset : ∀ x, F 8 x = F 8 v → F 11 x = 1 ∧ F 0 x = 2) (hR9 : ∀ x, F 8 x = F 8 v → x = v ∨ gi_NR o (gh_R F v b) x) (hK9 : ∀ e, own v e → mk v e = 1 → F 8 (o v e) = F 8 v → F 9 (o v e) = e ∨ e = b) (hph : F 13 (F 8 v) ≠ 3) (hnk : ∀ y e, own y e → F 8 y = F 8 v → ¬ gh_has 6 (c y e)) (hnc : ∀ y e, own y e → F 8 y = F 8 v → F 8 (o y e) = F 8 v → ¬ gh_has 0 (c y e)) (hnp : ∀ y e a m, own y e → F 8 y = F 8 v → m ∈ c y e → m.1 = 5 → gm_p own o w F mk c (o y e) y e a m → (mk y e = 1 ∧ F 0 y = 2 ∧ F 4 y = e ∧ m.2.1 < F 6 y ∧ F 9 y = e ∧ y ≠ v ∧ gh_R F v b 9 (o y e) ≠ e ∧ a = F 1 y ∧ (¬ gi_cur F y ∨ F 4 (o y e) ≠ gh_R F v b 9 (o y e)) ∧ 1 ≤ F 1 y)) (hob : own v b) (hb0 : mk v b = 0) (hbo : F 8 (o v b) ≠ F 8 v) (hbl : F 1 v = F 1 (o v b)) (hy1 : mk (o v b) b = 1) (hpu : F 13 (F 8 (o v b)) = 3) (hcu2 : gi_cur F (o v b)) (h0v : gh_has 0 (c v b)) (hCu : ∀ x, F 8 x = F 8 (o v b) → F 11 x = 1 ∧ F 0 x = 2 ∧ (x = o v b ∨ gi_NR o F x)) (h9u : F 9 (o v b) = b) (hfr : ∀ x, F 8 x ≠ w b) (hX1 : ∀ x e, own x e → mk x e = 1 → F 8 x = F 8 v → F 8 (o x e) = F 8 v) (hX2 : ∀ x e, own x e → mk x e = 1 → F 8 x = F 8 (o v b) → F 8 (o x e) ≠ F 8 (o v b) → x = o v b ∧ e = b) (hX4 : ∀ y e, own y e → w e = w b → e = b ∧ (y = v ∨ y = o v b)) (hX5 : ∀ x, (F 8 x = F 8 v ∨ F 8 x = F 8 (o v b)) → F 1 x ≤ F 1 v) (hX6 : ∀ x, F 2 x ≠ w b) (hW : 1 ≤ w b ∧ w b < 100)  {x y e a : Nat} {m : gh_M} (hx : o y e = x) (hy : own y e) (hm : m ∈ c y e) (ha : F 1 y ≤ a) (hb : ¬ gh_has 1 (c y e) → a = F 1 y)  (h : gm_i own o w F mk c x y e a m) : gm_i own o w (ga_mg F v (o v b) (w b) b) (gh_K mk v b 1) (gh_A c (o v b) b (0, F 1 v, 0, 0)) x y e a m := by
  have hh : ∀ k, m.1 = k → gh_has k (c y e) := fun k hk => ⟨m, hm, hk⟩
  have e8 : ∀ z, ga_mg F v (o v b) (w b) b 8 z = if F 8 z = F 8 v ∨ F 8 z = F 8 (o v b) then w b else F 8 z := fun z => by simp [ga_mg]
  
  intro hm1
  have h := h hm1
  have q1 := hset y
  have q2 := hCu y
  have q3 := hX5 y
  have q4 := hX4 y e hy
  have q5 := hfr y
  have q6 := hX6 y
  have q7 := Hn.1 y e hy
  have b5 : (F 8 y = F 8 v ∨ F 8 y = F 8 (o v b)) → m.2.2.1 ≠ w b := by
    intro z1 z2
    obtain ⟨y', f, r1, r2, r3, r4⟩ := h.2.2.2.2.2.2.2.2.2.2
    have := hX4 y' f r1 (r2.trans z2)
    have := Hn.1 v b hob
    grind
  have b6 : ∃ y' f, own y' f ∧ w f = m.2.2.1 ∧ ga_mg F v (o v b) (w b) b 8 y' = ga_mg F v (o v b) (w b) b 8 x ∧ ga_mg F v (o v b) (w b) b 8 (o y' f) = ga_mg F v (o v b) (w b) b 8 x := by
    obtain ⟨y', f, r1, r2, r3, r4⟩ := h.2.2.2.2.2.2.2.2.2.2
    exact ⟨y', f, r1, r2, by rw [e8, e8, r3], by rw [e8, e8, r4]⟩
  obtain ⟨h1, h2, h3, h4, h5, h6, h7, h8, h9', h10, h11⟩ := h
  refine ⟨h1, ?_, ?_, ?_, ?_, ?_, h7, h8, ?_, ?_, b6⟩
  all_goals
    clear hnk hnc hnp hK9 hR9 hset Hn hh h11 b6 hX1 hX2 hX4 hCu hX5 hX6 hfr e8
    dsimp only [gi_cur, gi_NR] at *
    (try simp (decide := true) only [ga_mg, gh_U, gh_K, gh_A_has, gh_A_cnt, gh_A_mem, false_and, true_and, and_false, or_false, if_false, if_true, and_true] at *)
    grind (splits := 30)
theorem ck_mc {v b : Nat} (Hn : gh_Net own o w) (Xi : gx_i own o w F mk c) (hcu : gi_cur F v) (hset : ∀ x, F 8 x = F 8 v → F 11 x = 1 ∧ F 0 x = 2) (hR9 : ∀ x, F 8 x = F 8 v → x = v ∨ gi_NR o (gh_R F v b) x) (hK9 : ∀ e, own v e → mk v e = 1 → F 8 (o v e) = F 8 v → F 9 (o v e) = e ∨ e = b) (hph : F 13 (F 8 v) ≠ 3) (hnk : ∀ y e, own y e → F 8 y = F 8 v → ¬ gh_has 6 (c y e)) (hnc : ∀ y e, own y e → F 8 y = F 8 v → F 8 (o y e) = F 8 v → ¬ gh_has 0 (c y e)) (hnp : ∀ y e a m, own y e → F 8 y = F 8 v → m ∈ c y e → m.1 = 5 → gm_p own o w F mk c (o y e) y e a m → (mk y e = 1 ∧ F 0 y = 2 ∧ F 4 y = e ∧ m.2.1 < F 6 y ∧ F 9 y = e ∧ y ≠ v ∧ gh_R F v b 9 (o y e) ≠ e ∧ a = F 1 y ∧ (¬ gi_cur F y ∨ F 4 (o y e) ≠ gh_R F v b 9 (o y e)) ∧ 1 ≤ F 1 y)) (hob : own v b) (hb0 : mk v b = 0) (hbo : F 8 (o v b) ≠ F 8 v) (hbl : F 1 v = F 1 (o v b)) (hy1 : mk (o v b) b = 1) (hpu : F 13 (F 8 (o v b)) = 3) (hcu2 : gi_cur F (o v b)) (h0v : gh_has 0 (c v b)) (hCu : ∀ x, F 8 x = F 8 (o v b) → F 11 x = 1 ∧ F 0 x = 2 ∧ (x = o v b ∨ gi_NR o F x)) (h9u : F 9 (o v b) = b) (hfr : ∀ x, F 8 x ≠ w b) (hX1 : ∀ x e, own x e → mk x e = 1 → F 8 x = F 8 v → F 8 (o x e) = F 8 v) (hX2 : ∀ x e, own x e → mk x e = 1 → F 8 x = F 8 (o v b) → F 8 (o x e) ≠ F 8 (o v b) → x = o v b ∧ e = b) (hX4 : ∀ y e, own y e → w e = w b → e = b ∧ (y = v ∨ y = o v b)) (hX5 : ∀ x, (F 8 x = F 8 v ∨ F 8 x = F 8 (o v b)) → F 1 x ≤ F 1 v) (hX6 : ∀ x, F 2 x ≠ w b) (hW : 1 ≤ w b ∧ w b < 100)  {x y e a : Nat} {m : gh_M} (hx : o y e = x) (hy : own y e) (hm : m ∈ c y e) (ha : F 1 y ≤ a) (hb : ¬ gh_has 1 (c y e) → a = F 1 y)  (h : gm_c own o w F mk c x y e a m) : gm_c own o w (ga_mg F v (o v b) (w b) b) (gh_K mk v b 1) (gh_A c (o v b) b (0, F 1 v, 0, 0)) x y e a m := by
  have hh : ∀ k, m.1 = k → gh_has k (c y e) := fun k hk => ⟨m, hm, hk⟩
  intro hm1
  have h := h hm1
  have q1 := hnc y e hy
  have q2 := hh 0 hm1
  have q3 := Hn.1 y e hy
  have q4 := hX1 x e
  have q5 := hX2 x e
  have q6 := Hn.1 v b hob
  have q7 := Xi v b hob
  have q8 := Xi (o v b) b
  have q9 := hfr x
  have q10 := hfr y
  clear hnk hnc hnp hK9 hR9 hset Hn hh hX1 hX2 hX4 hCu hX5 hX6 hfr Xi
  dsimp only [gi_cur] at *
  simp (decide := true) only [ga_mg, gh_U, gh_K, gh_A_has, gh_A_cnt, gh_A_mem, false_and, true_and, and_false, or_false, if_false, if_true, and_true] at *
  grind (splits := 30)
theorem ck_mt {v b : Nat} (Hn : gh_Net own o w) (hcu : gi_cur F v) (hset : ∀ x, F 8 x = F 8 v → F 11 x = 1 ∧ F 0 x = 2) (hR9 : ∀ x, F 8 x = F 8 v → x = v ∨ gi_NR o (gh_R F v b) x) (hK9 : ∀ e, own v e → mk v e = 1 → F 8 (o v e) = F 8 v → F 9 (o v e) = e ∨ e = b) (hph : F 13 (F 8 v) ≠ 3) (hnk : ∀ y e, own y e → F 8 y = F 8 v → ¬ gh_has 6 (c y e)) (hnc : ∀ y e, own y e → F 8 y = F 8 v → F 8 (o y e) = F 8 v → ¬ gh_has 0 (c y e)) (hnp : ∀ y e a m, own y e → F 8 y = F 8 v → m ∈ c y e → m.1 = 5 → gm_p own o w F mk c (o y e) y e a m → (mk y e = 1 ∧ F 0 y = 2 ∧ F 4 y = e ∧ m.2.1 < F 6 y ∧ F 9 y = e ∧ y ≠ v ∧ gh_R F v b 9 (o y e) ≠ e ∧ a = F 1 y ∧ (¬ gi_cur F y ∨ F 4 (o y e) ≠ gh_R F v b 9 (o y e)) ∧ 1 ≤ F 1 y)) (hob : own v b) (hb0 : mk v b = 0) (hbo : F 8 (o v b) ≠ F 8 v) (hbl : F 1 v = F 1 (o v b)) (hy1 : mk (o v b) b = 1) (hpu : F 13 (F 8 (o v b)) = 3) (hcu2 : gi_cur F (o v b)) (h0v : gh_has 0 (c v b)) (hCu : ∀ x, F 8 x = F 8 (o v b) → F 11 x = 1 ∧ F 0 x = 2 ∧ (x = o v b ∨ gi_NR o F x)) (h9u : F 9 (o v b) = b) (hfr : ∀ x, F 8 x ≠ w b) (hX1 : ∀ x e, own x e → mk x e = 1 → F 8 x = F 8 v → F 8 (o x e) = F 8 v) (hX2 : ∀ x e, own x e → mk x e = 1 → F 8 x = F 8 (o v b) → F 8 (o x e) ≠ F 8 (o v b) → x = o v b ∧ e = b) (hX4 : ∀ y e, own y e → w e = w b → e = b ∧ (y = v ∨ y = o v b)) (hX5 : ∀ x, (F 8 x = F 8 v ∨ F 8 x = F 8 (o v b)) → F 1 x ≤ F 1 v) (hX6 : ∀ x, F 2 x ≠ w b) (hW : 1 ≤ w b ∧ w b < 100)  {x y e a : Nat} {m : gh_M} (hx : o y e = x) (hy : own y e) (hm : m ∈ c y e) (ha : F 1 y ≤ a) (hb : ¬ gh_has 1 (c y e) → a = F 1 y)  (h : gm_t own o w F mk c x y e a m) : gm_t own o w (ga_mg F v (o v b) (w b) b) (gh_K mk v b 1) (gh_A c (o v b) b (0, F 1 v, 0, 0)) x y e a m := by
  have hh : ∀ k, m.1 = k → gh_has k (c y e) := fun k hk => ⟨m, hm, hk⟩
  clear hnk hnc hnp hK9 hR9 hX1 hX2 hX4
  clear hset hCu
  dsimp only [gm_t, gi_cur, gi_NR, gi_wt, gi_open, gh_Net] at *
  try simp (decide := true) only [ga_mg, gh_U, gh_K, gh_A_has, gh_A_cnt, gh_A_mem, false_and, true_and, and_false, or_false, if_false, if_true, and_true]
  grind (splits := 25)
theorem ck_ma {v b : Nat} (Hn : gh_Net own o w) (hcu : gi_cur F v) (hset : ∀ x, F 8 x = F 8 v → F 11 x = 1 ∧ F 0 x = 2) (hR9 : ∀ x, F 8 x = F 8 v → x = v ∨ gi_NR o (gh_R F v b) x) (hK9 : ∀ e, own v e → mk v e = 1 → F 8 (o v e) = F 8 v → F 9 (o v e) = e ∨ e = b) (hph : F 13 (F 8 v) ≠ 3) (hnk : ∀ y e, own y e → F 8 y = F 8 v → ¬ gh_has 6 (c y e)) (hnc : ∀ y e, own y e → F 8 y = F 8 v → F 8 (o y e) = F 8 v → ¬ gh_has 0 (c y e)) (hnp : ∀ y e a m, own y e → F 8 y = F 8 v → m ∈ c y e → m.1 = 5 → gm_p own o w F mk c (o y e) y e a m → (mk y e = 1 ∧ F 0 y = 2 ∧ F 4 y = e ∧ m.2.1 < F 6 y ∧ F 9 y = e ∧ y ≠ v ∧ gh_R F v b 9 (o y e) ≠ e ∧ a = F 1 y ∧ (¬ gi_cur F y ∨ F 4 (o y e) ≠ gh_R F v b 9 (o y e)) ∧ 1 ≤ F 1 y)) (hob : own v b) (hb0 : mk v b = 0) (hbo : F 8 (o v b) ≠ F 8 v) (hbl : F 1 v = F 1 (o v b)) (hy1 : mk (o v b) b = 1) (hpu : F 13 (F 8 (o v b)) = 3) (hcu2 : gi_cur F (o v b)) (h0v : gh_has 0 (c v b)) (hCu : ∀ x, F 8 x = F 8 (o v b) → F 11 x = 1 ∧ F 0 x = 2 ∧ (x = o v b ∨ gi_NR o F x)) (h9u : F 9 (o v b) = b) (hfr : ∀ x, F 8 x ≠ w b) (hX1 : ∀ x e, own x e → mk x e = 1 → F 8 x = F 8 v → F 8 (o x e) = F 8 v) (hX2 : ∀ x e, own x e → mk x e = 1 → F 8 x = F 8 (o v b) → F 8 (o x e) ≠ F 8 (o v b) → x = o v b ∧ e = b) (hX4 : ∀ y e, own y e → w e = w b → e = b ∧ (y = v ∨ y = o v b)) (hX5 : ∀ x, (F 8 x = F 8 v ∨ F 8 x = F 8 (o v b)) → F 1 x ≤ F 1 v) (hX6 : ∀ x, F 2 x ≠ w b) (hW : 1 ≤ w b ∧ w b < 100)  {x y e a : Nat} {m : gh_M} (hx : o y e = x) (hy : own y e) (hm : m ∈ c y e) (ha : F 1 y ≤ a) (hb : ¬ gh_has 1 (c y e) → a = F 1 y)  (h : gm_a own o w F mk c x y e a m) : gm_a own o w (ga_mg F v (o v b) (w b) b) (gh_K mk v b 1) (gh_A c (o v b) b (0, F 1 v, 0, 0)) x y e a m := by
  have hh : ∀ k, m.1 = k → gh_has k (c y e) := fun k hk => ⟨m, hm, hk⟩
  intro hm1
  have h := h hm1
  have q1 := hset y
  have q2 := hCu y
  have q3 := hfr x
  have q4 := hfr y
  clear hnk hnc hnp hK9 hR9 hset Hn hh hX1 hX2 hX4 hCu hX5 hX6 hfr
  dsimp only [gi_cur, gi_wt] at *
  simp (decide := true) only [ga_mg, gh_U, gh_K, gh_A_has, gh_A_cnt, gh_A_mem, false_and, true_and, and_false, or_false, if_false, if_true, and_true] at *
  grind (splits := 30)
theorem ck_mr {v b : Nat} (Hn : gh_Net own o w) (hcu : gi_cur F v) (hset : ∀ x, F 8 x = F 8 v → F 11 x = 1 ∧ F 0 x = 2) (hR9 : ∀ x, F 8 x = F 8 v → x = v ∨ gi_NR o (gh_R F v b) x) (hK9 : ∀ e, own v e → mk v e = 1 → F 8 (o v e) = F 8 v → F 9 (o v e) = e ∨ e = b) (hph : F 13 (F 8 v) ≠ 3) (hnk : ∀ y e, own y e → F 8 y = F 8 v → ¬ gh_has 6 (c y e)) (hnc : ∀ y e, own y e → F 8 y = F 8 v → F 8 (o y e) = F 8 v → ¬ gh_has 0 (c y e)) (hnp : ∀ y e a m, own y e → F 8 y = F 8 v → m ∈ c y e → m.1 = 5 → gm_p own o w F mk c (o y e) y e a m → (mk y e = 1 ∧ F 0 y = 2 ∧ F 4 y = e ∧ m.2.1 < F 6 y ∧ F 9 y = e ∧ y ≠ v ∧ gh_R F v b 9 (o y e) ≠ e ∧ a = F 1 y ∧ (¬ gi_cur F y ∨ F 4 (o y e) ≠ gh_R F v b 9 (o y e)) ∧ 1 ≤ F 1 y)) (hob : own v b) (hb0 : mk v b = 0) (hbo : F 8 (o v b) ≠ F 8 v) (hbl : F 1 v = F 1 (o v b)) (hy1 : mk (o v b) b = 1) (hpu : F 13 (F 8 (o v b)) = 3) (hcu2 : gi_cur F (o v b)) (h0v : gh_has 0 (c v b)) (hCu : ∀ x, F 8 x = F 8 (o v b) → F 11 x = 1 ∧ F 0 x = 2 ∧ (x = o v b ∨ gi_NR o F x)) (h9u : F 9 (o v b) = b) (hfr : ∀ x, F 8 x ≠ w b) (hX1 : ∀ x e, own x e → mk x e = 1 → F 8 x = F 8 v → F 8 (o x e) = F 8 v) (hX2 : ∀ x e, own x e → mk x e = 1 → F 8 x = F 8 (o v b) → F 8 (o x e) ≠ F 8 (o v b) → x = o v b ∧ e = b) (hX4 : ∀ y e, own y e → w e = w b → e = b ∧ (y = v ∨ y = o v b)) (hX5 : ∀ x, (F 8 x = F 8 v ∨ F 8 x = F 8 (o v b)) → F 1 x ≤ F 1 v) (hX6 : ∀ x, F 2 x ≠ w b) (hW : 1 ≤ w b ∧ w b < 100)  {x y e a : Nat} {m : gh_M} (hx : o y e = x) (hy : own y e) (hm : m ∈ c y e) (ha : F 1 y ≤ a) (hb : ¬ gh_has 1 (c y e) → a = F 1 y)  (h : gm_r own o w F mk c x y e a m) : gm_r own o w (ga_mg F v (o v b) (w b) b) (gh_K mk v b 1) (gh_A c (o v b) b (0, F 1 v, 0, 0)) x y e a m := by
  have hh : ∀ k, m.1 = k → gh_has k (c y e) := fun k hk => ⟨m, hm, hk⟩
  clear hnk hnc hnp hK9 hR9 hX1 hX2 hX4
  clear hset hCu
  dsimp only [gm_r, gi_cur, gi_NR, gi_wt, gi_open, gh_Net] at *
  try simp (decide := true) only [ga_mg, gh_U, gh_K, gh_A_has, gh_A_cnt, gh_A_mem, false_and, true_and, and_false, or_false, if_false, if_true, and_true]
  grind (splits := 25)
theorem ck_mk {v b : Nat} (Hn : gh_Net own o w) (hcu : gi_cur F v) (hset : ∀ x, F 8 x = F 8 v → F 11 x = 1 ∧ F 0 x = 2) (hR9 : ∀ x, F 8 x = F 8 v → x = v ∨ gi_NR o (gh_R F v b) x) (hK9 : ∀ e, own v e → mk v e = 1 → F 8 (o v e) = F 8 v → F 9 (o v e) = e ∨ e = b) (hph : F 13 (F 8 v) ≠ 3) (hnk : ∀ y e, own y e → F 8 y = F 8 v → ¬ gh_has 6 (c y e)) (hnc : ∀ y e, own y e → F 8 y = F 8 v → F 8 (o y e) = F 8 v → ¬ gh_has 0 (c y e)) (hnp : ∀ y e a m, own y e → F 8 y = F 8 v → m ∈ c y e → m.1 = 5 → gm_p own o w F mk c (o y e) y e a m → (mk y e = 1 ∧ F 0 y = 2 ∧ F 4 y = e ∧ m.2.1 < F 6 y ∧ F 9 y = e ∧ y ≠ v ∧ gh_R F v b 9 (o y e) ≠ e ∧ a = F 1 y ∧ (¬ gi_cur F y ∨ F 4 (o y e) ≠ gh_R F v b 9 (o y e)) ∧ 1 ≤ F 1 y)) (hob : own v b) (hb0 : mk v b = 0) (hbo : F 8 (o v b) ≠ F 8 v) (hbl : F 1 v = F 1 (o v b)) (hy1 : mk (o v b) b = 1) (hpu : F 13 (F 8 (o v b)) = 3) (hcu2 : gi_cur F (o v b)) (h0v : gh_has 0 (c v b)) (hCu : ∀ x, F 8 x = F 8 (o v b) → F 11 x = 1 ∧ F 0 x = 2 ∧ (x = o v b ∨ gi_NR o F x)) (h9u : F 9 (o v b) = b) (hfr : ∀ x, F 8 x ≠ w b) (hX1 : ∀ x e, own x e → mk x e = 1 → F 8 x = F 8 v → F 8 (o x e) = F 8 v) (hX2 : ∀ x e, own x e → mk x e = 1 → F 8 x = F 8 (o v b) → F 8 (o x e) ≠ F 8 (o v b) → x = o v b ∧ e = b) (hX4 : ∀ y e, own y e → w e = w b → e = b ∧ (y = v ∨ y = o v b)) (hX5 : ∀ x, (F 8 x = F 8 v ∨ F 8 x = F 8 (o v b)) → F 1 x ≤ F 1 v) (hX6 : ∀ x, F 2 x ≠ w b) (hW : 1 ≤ w b ∧ w b < 100)  {x y e a : Nat} {m : gh_M} (hx : o y e = x) (hy : own y e) (hm : m ∈ c y e) (ha : F 1 y ≤ a) (hb : ¬ gh_has 1 (c y e) → a = F 1 y)  (h : gm_k own o w F mk c x y e a m) : gm_k own o w (ga_mg F v (o v b) (w b) b) (gh_K mk v b 1) (gh_A c (o v b) b (0, F 1 v, 0, 0)) x y e a m := by
  have hh : ∀ k, m.1 = k → gh_has k (c y e) := fun k hk => ⟨m, hm, hk⟩
  intro hm1
  have h := h hm1
  have q1 := hnk y e hy
  have q2 := hh 6 hm1
  have q3 := hfr y
  clear hnk hnc hnp hK9 hR9 hset Hn hh hX1 hX2 hX4 hCu hX5 hX6 hfr
  dsimp only [gi_cur, gi_wt] at *
  simp (decide := true) only [ga_mg, gh_U, gh_K, gh_A_has, gh_A_cnt, gh_A_mem, false_and, true_and, and_false, or_false, if_false, if_true, and_true] at *
  grind (splits := 30)
theorem ck_mp {v b : Nat} (Hn : gh_Net own o w) (hcu : gi_cur F v) (hset : ∀ x, F 8 x = F 8 v → F 11 x = 1 ∧ F 0 x = 2) (hR9 : ∀ x, F 8 x = F 8 v → x = v ∨ gi_NR o (gh_R F v b) x) (hK9 : ∀ e, own v e → mk v e = 1 → F 8 (o v e) = F 8 v → F 9 (o v e) = e ∨ e = b) (hph : F 13 (F 8 v) ≠ 3) (hnk : ∀ y e, own y e → F 8 y = F 8 v → ¬ gh_has 6 (c y e)) (hnc : ∀ y e, own y e → F 8 y = F 8 v → F 8 (o y e) = F 8 v → ¬ gh_has 0 (c y e)) (hnp : ∀ y e a m, own y e → F 8 y = F 8 v → m ∈ c y e → m.1 = 5 → gm_p own o w F mk c (o y e) y e a m → (mk y e = 1 ∧ F 0 y = 2 ∧ F 4 y = e ∧ m.2.1 < F 6 y ∧ F 9 y = e ∧ y ≠ v ∧ gh_R F v b 9 (o y e) ≠ e ∧ a = F 1 y ∧ (¬ gi_cur F y ∨ F 4 (o y e) ≠ gh_R F v b 9 (o y e)) ∧ 1 ≤ F 1 y)) (hob : own v b) (hb0 : mk v b = 0) (hbo : F 8 (o v b) ≠ F 8 v) (hbl : F 1 v = F 1 (o v b)) (hy1 : mk (o v b) b = 1) (hpu : F 13 (F 8 (o v b)) = 3) (hcu2 : gi_cur F (o v b)) (h0v : gh_has 0 (c v b)) (hCu : ∀ x, F 8 x = F 8 (o v b) → F 11 x = 1 ∧ F 0 x = 2 ∧ (x = o v b ∨ gi_NR o F x)) (h9u : F 9 (o v b) = b) (hfr : ∀ x, F 8 x ≠ w b) (hX1 : ∀ x e, own x e → mk x e = 1 → F 8 x = F 8 v → F 8 (o x e) = F 8 v) (hX2 : ∀ x e, own x e → mk x e = 1 → F 8 x = F 8 (o v b) → F 8 (o x e) ≠ F 8 (o v b) → x = o v b ∧ e = b) (hX4 : ∀ y e, own y e → w e = w b → e = b ∧ (y = v ∨ y = o v b)) (hX5 : ∀ x, (F 8 x = F 8 v ∨ F 8 x = F 8 (o v b)) → F 1 x ≤ F 1 v) (hX6 : ∀ x, F 2 x ≠ w b) (hW : 1 ≤ w b ∧ w b < 100)  {x y e a : Nat} {m : gh_M} (hx : o y e = x) (hy : own y e) (hm : m ∈ c y e) (ha : F 1 y ≤ a) (hb : ¬ gh_has 1 (c y e) → a = F 1 y)  (h : gm_p own o w F mk c x y e a m) : gm_p own o w (ga_mg F v (o v b) (w b) b) (gh_K mk v b 1) (gh_A c (o v b) b (0, F 1 v, 0, 0)) x y e a m := by
  have hh : ∀ k, m.1 = k → gh_has k (c y e) := fun k hk => ⟨m, hm, hk⟩
  intro hm1
  have q1 := hnp y e a m hy
  rw [hx] at q1
  have q2 := fun z => q1 z hm hm1 h
  have h := h hm1
  have b2 := Hn.1 y e hy
  have b3 := hX5 y
  have b4 := hfr y
  clear hnk hnc hnp hK9 hR9 hset hh q1 Hn hX1 hX2 hX4 hCu hX5 hX6 hfr
  dsimp only [gi_cur] at *
  simp (decide := true) only [ga_mg, gh_R, gh_U, gh_K, if_true, if_false, false_and, true_and] at *
  grind (splits := 30)
theorem ck_new {v b : Nat} (Hn : gh_Net own o w) (Xi : gx_i own o w F mk c) (hcu : gi_cur F v) (hset : ∀ x, F 8 x = F 8 v → F 11 x = 1 ∧ F 0 x = 2) (hR9 : ∀ x, F 8 x = F 8 v → x = v ∨ gi_NR o (gh_R F v b) x) (hK9 : ∀ e, own v e → mk v e = 1 → F 8 (o v e) = F 8 v → F 9 (o v e) = e ∨ e = b) (hph : F 13 (F 8 v) ≠ 3) (hnk : ∀ y e, own y e → F 8 y = F 8 v → ¬ gh_has 6 (c y e)) (hnc : ∀ y e, own y e → F 8 y = F 8 v → F 8 (o y e) = F 8 v → ¬ gh_has 0 (c y e)) (hnp : ∀ y e a m, own y e → F 8 y = F 8 v → m ∈ c y e → m.1 = 5 → gm_p own o w F mk c (o y e) y e a m → (mk y e = 1 ∧ F 0 y = 2 ∧ F 4 y = e ∧ m.2.1 < F 6 y ∧ F 9 y = e ∧ y ≠ v ∧ gh_R F v b 9 (o y e) ≠ e ∧ a = F 1 y ∧ (¬ gi_cur F y ∨ F 4 (o y e) ≠ gh_R F v b 9 (o y e)) ∧ 1 ≤ F 1 y)) (hob : own v b) (hb0 : mk v b = 0) (hbo : F 8 (o v b) ≠ F 8 v) (hbl : F 1 v = F 1 (o v b)) (hy1 : mk (o v b) b = 1) (hpu : F 13 (F 8 (o v b)) = 3) (hcu2 : gi_cur F (o v b)) (h0v : gh_has 0 (c v b)) (hCu : ∀ x, F 8 x = F 8 (o v b) → F 11 x = 1 ∧ F 0 x = 2 ∧ (x = o v b ∨ gi_NR o F x)) (h9u : F 9 (o v b) = b) (hfr : ∀ x, F 8 x ≠ w b) (hX1 : ∀ x e, own x e → mk x e = 1 → F 8 x = F 8 v → F 8 (o x e) = F 8 v) (hX2 : ∀ x e, own x e → mk x e = 1 → F 8 x = F 8 (o v b) → F 8 (o x e) ≠ F 8 (o v b) → x = o v b ∧ e = b) (hX4 : ∀ y e, own y e → w e = w b → e = b ∧ (y = v ∨ y = o v b)) (hX5 : ∀ x, (F 8 x = F 8 v ∨ F 8 x = F 8 (o v b)) → F 1 x ≤ F 1 v) (hX6 : ∀ x, F 2 x ≠ w b) (hW : 1 ≤ w b ∧ w b < 100)   : gm_c own o w (ga_mg F v (o v b) (w b) b) (gh_K mk v b 1) (gh_A c (o v b) b (0, F 1 v, 0, 0)) (o (o v b) (b)) (o v b) (b) (gh_last (F 1 (o v b)) (c (o v b) b)) (0, F 1 v, 0, 0) := by
  intro _
  have a11 := Hn.1 v b hob
  rw [a11.2.1]
  have n1 : ¬ gh_has 1 (c (o v b) b) := fun z => by
    have := (Xi (o v b) b a11.1 z).1
    rw [a11.2.1] at this
    exact hbo this.symm
  have n2 : ¬ gh_has 1 (c v b) := fun z => hbo (Xi v b hob z).1
  rw [gh_last_no _ _ n1]
  have n3 : ¬ gh_has 1 (gh_A c (o v b) b (0, F 1 v, 0, 0) v b) := fun z => by
    rcases gh_A_has.mp z with q | q
    · exact n2 q
    · exact absurd q.2.2 (by simp)
  refine ⟨by simp [gh_K], fun _ => ⟨by simp [ga_mg], by simp [ga_mg], by simp [ga_mg], ?_, by simp [ga_mg], n3, by simp [ga_mg]⟩, fun z => absurd (by simp [ga_mg]) z⟩
  simp (decide := true) [ga_mg]
  exact hbl.symm
theorem ck_I {v b : Nat} (Hn : gh_Net own o w) (h : gI own o w F mk c) (hcu : gi_cur F v) (hset : ∀ x, F 8 x = F 8 v → F 11 x = 1 ∧ F 0 x = 2) (hR9 : ∀ x, F 8 x = F 8 v → x = v ∨ gi_NR o (gh_R F v b) x) (hK9 : ∀ e, own v e → mk v e = 1 → F 8 (o v e) = F 8 v → F 9 (o v e) = e ∨ e = b) (hph : F 13 (F 8 v) ≠ 3) (hnk : ∀ y e, own y e → F 8 y = F 8 v → ¬ gh_has 6 (c y e)) (hnc : ∀ y e, own y e → F 8 y = F 8 v → F 8 (o y e) = F 8 v → ¬ gh_has 0 (c y e)) (hnp : ∀ y e a m, own y e → F 8 y = F 8 v → m ∈ c y e → m.1 = 5 → gm_p own o w F mk c (o y e) y e a m → (mk y e = 1 ∧ F 0 y = 2 ∧ F 4 y = e ∧ m.2.1 < F 6 y ∧ F 9 y = e ∧ y ≠ v ∧ gh_R F v b 9 (o y e) ≠ e ∧ a = F 1 y ∧ (¬ gi_cur F y ∨ F 4 (o y e) ≠ gh_R F v b 9 (o y e)) ∧ 1 ≤ F 1 y)) (hob : own v b) (hb0 : mk v b = 0) (hbo : F 8 (o v b) ≠ F 8 v) (hbl0 : F 1 v ≤ F 1 (o v b)) (hy1 : mk (o v b) b = 1)  : gI own o w (ga_mg F v (o v b) (w b) b) (gh_K mk v b 1) (gh_A c (o v b) b (0, F 1 v, 0, 0)) := by
  obtain ⟨Hst, Hb1, Hb2, Hb3, Hb4, Hb5, Hb6, Hs0, HpA, Hs1, Hs2, HSl, Hs3, Hs4, How, Hs5, Hs6, HSr, HSn, HM, HC, Hph, H6, H7, Hbc, HK, Hrj, Htw, Hts, Han, Hsz, Hch⟩ := h
  have Xi := gx_iI Hch
  have Xc := gx_cI Hch
  have Xt := gx_tI Hch
  have Xa := gx_aI Hch
  have Xr := gx_rI Hch
  have Xk := gx_kI Hch
  have Xp := gx_pI Hch
  have Xl := gx_lI Hch
  have Xb := gx_bI Hch
  have Xn := gx_nI Hn Hph HpA HSr HSn HM HC
  have q0 := Hn.1 v b hob
  have q2 := (HK (o v b) b v q0.1 q0.2.1 hy1).2 hbo
  have hbl : F 1 v = F 1 (o v b) := by omega
  have hpu := q2.1
  have hcu2 := q2.2.2.2.2.1
  have h0v := q2.2.2.2.2.2.2
  have hCu : ∀ x, F 8 x = F 8 (o v b) → F 11 x = 1 ∧ F 0 x = 2 ∧ (x = o v b ∨ gi_NR o F x) := fun x hx => by
    have a1 := HC x (by rw [hx]; exact hpu) _ _ rfl rfl
    rw [hx, q2.2.1] at a1
    have a2 := Hst x
    have a3 := Hs2 x
    have a4 := Hs0 x
    rw [hx, hpu] at a3 a4
    refine ⟨a1.2.2.2.2.2.1, ?_, a1.2.2.2.2.2.2⟩
    have : F 0 x ≠ 0 := fun z => by have := a4 z; omega
    have : F 0 x ≠ 1 := fun z => by have := (a3 z).2.1; omega
    omega
  have q3 := HC (o v b) hpu _ _ rfl rfl
  rw [q2.2.1, q2.2.2.1] at q3
  have h9u := q3.2.2.2.2.1
  have hW : 1 ≤ w b ∧ w b < 100 := ⟨q0.2.2.2.2.2.1, q0.2.2.2.2.2.2⟩
  have hX4 : ∀ y e, own y e → w e = w b → e = b ∧ (y = v ∨ y = o v b) := fun y e e1 e2 => by
    have b1 := Hn.2.2 y v e b e1 hob e2
    subst b1
    exact ⟨rfl, Hn.2.1 v y e hob e1⟩
  have hfr : ∀ x, F 8 x ≠ w b := fun x hx => by
    obtain ⟨y', e', r1, r2, r3, r4, -⟩ := Hb6 x (by omega)
    obtain ⟨b1, b2⟩ := hX4 y' e' r1 (by omega)
    subst b1
    rcases b2 with z | z
    · rw [z] at r3 r4; exact hbo (r4.trans r3.symm)
    · rw [z, q0.2.1] at r4; rw [z] at r3; exact hbo (r3.trans r4.symm)
  have hX6 : ∀ x, F 2 x ≠ w b := fun x hx => by
    obtain ⟨y', e', r1, r2, r3, r4⟩ := Hb5 x (by omega)
    obtain ⟨b1, b2⟩ := hX4 y' e' r1 (by omega)
    subst b1
    rcases b2 with z | z
    · rw [z] at r3 r4; exact hbo (r4.trans r3.symm)
    · rw [z, q0.2.1] at r4; rw [z] at r3; exact hbo (r3.trans r4.symm)
  have hX1 : ∀ x e, own x e → mk x e = 1 → F 8 x = F 8 v → F 8 (o x e) = F 8 v := fun x e e1 e2 e3 => by
    by_cases z : F 8 x = F 8 (o x e)
    · rw [← z]; exact e3
    · have := ((HK x e (o x e) e1 rfl e2).2 z).1
      rw [e3] at this
      exact absurd this hph
  have hX2 : ∀ x e, own x e → mk x e = 1 → F 8 x = F 8 (o v b) → F 8 (o x e) ≠ F 8 (o v b) → x = o v b ∧ e = b := fun x e e1 e2 e3 e4 => by
    have a1 := (HK x e (o x e) e1 rfl e2).2 (fun z => e4 (z.symm.trans e3))
    rw [e3] at a1
    exact ⟨a1.2.1.symm.trans q2.2.1, a1.2.2.1.symm.trans q2.2.2.1⟩
  have hX5 : ∀ x, (F 8 x = F 8 v ∨ F 8 x = F 8 (o v b)) → F 1 x ≤ F 1 v := fun x hx => by
    have a1 := Hb1 x
    unfold gi_cur at hcu hcu2
    rcases hx with z | z
    · rw [z] at a1; omega
    · rw [z] at a1; omega
  refine ⟨ck_st Hst hcu hset hR9 hK9 hph hnk hnc hnp hob hb0 hbo hbl hy1 hpu hcu2 h0v hCu h9u hfr hX1 hX2 hX4 hX5 hX6 hW, ck_b1 Hb1 hcu hset hR9 hK9 hph hnk hnc hnp hob hb0 hbo hbl hy1 hpu hcu2 h0v hCu h9u hfr hX1 hX2 hX4 hX5 hX6 hW, ck_b2 Hb2 hcu hset hR9 hK9 hph hnk hnc hnp hob hb0 hbo hbl hy1 hpu hcu2 h0v hCu h9u hfr hX1 hX2 hX4 hX5 hX6 hW, ck_b3 Hb3 hcu hset hR9 hK9 hph hnk hnc hnp hob hb0 hbo hbl hy1 hpu hcu2 h0v hCu h9u hfr hX1 hX2 hX4 hX5 hX6 hW, ck_b4 Hb4 hcu hset hR9 hK9 hph hnk hnc hnp hob hb0 hbo hbl hy1 hpu hcu2 h0v hCu h9u hfr hX1 hX2 hX4 hX5 hX6 hW, ck_b5 Hb5 hcu hset hR9 hK9 hph hnk hnc hnp hob hb0 hbo hbl hy1 hpu hcu2 h0v hCu h9u hfr hX1 hX2 hX4 hX5 hX6 hW, ck_b6 Hb6 Hn hcu hset hR9 hK9 hph hnk hnc hnp hob hb0 hbo hbl hy1 hpu hcu2 h0v hCu h9u hfr hX1 hX2 hX4 hX5 hX6 hW, ck_s0 Hs0 HpA hcu hset hR9 hK9 hph hnk hnc hnp hob hb0 hbo hbl hy1 hpu hcu2 h0v hCu h9u hfr hX1 hX2 hX4 hX5 hX6 hW, ck_pA HpA Hn hcu hset hR9 hK9 hph hnk hnc hnp hob hb0 hbo hbl hy1 hpu hcu2 h0v hCu h9u hfr hX1 hX2 hX4 hX5 hX6 hW, ck_s1 Hs1 Hn hcu hset hR9 hK9 hph hnk hnc hnp hob hb0 hbo hbl hy1 hpu hcu2 h0v hCu h9u hfr hX1 hX2 hX4 hX5 hX6 hW, ck_s2 Hs2 Hn hcu hset hR9 hK9 hph hnk hnc hnp hob hb0 hbo hbl hy1 hpu hcu2 h0v hCu h9u hfr hX1 hX2 hX4 hX5 hX6 hW, ck_Sl HSl Hn hcu hset hR9 hK9 hph hnk hnc hnp hob hb0 hbo hbl hy1 hpu hcu2 h0v hCu h9u hfr hX1 hX2 hX4 hX5 hX6 hW, ck_s3 Hs3 Hn hcu hset hR9 hK9 hph hnk hnc hnp hob hb0 hbo hbl hy1 hpu hcu2 h0v hCu h9u hfr hX1 hX2 hX4 hX5 hX6 hW, ck_s4 Hs4 Hn hcu hset hR9 hK9 hph hnk hnc hnp hob hb0 hbo hbl hy1 hpu hcu2 h0v hCu h9u hfr hX1 hX2 hX4 hX5 hX6 hW, ck_ow How Hn hcu hset hR9 hK9 hph hnk hnc hnp hob hb0 hbo hbl hy1 hpu hcu2 h0v hCu h9u hfr hX1 hX2 hX4 hX5 hX6 hW, ck_s5 Hs5 Hn hcu hset hR9 hK9 hph hnk hnc hnp hob hb0 hbo hbl hy1 hpu hcu2 h0v hCu h9u hfr hX1 hX2 hX4 hX5 hX6 hW, ck_s6 Hs6 Hn hcu hset hR9 hK9 hph hnk hnc hnp hob hb0 hbo hbl hy1 hpu hcu2 h0v hCu h9u hfr hX1 hX2 hX4 hX5 hX6 hW, ck_Sr HSr Hn HSl Hs6 hcu hset hR9 hK9 hph hnk hnc hnp hob hb0 hbo hbl hy1 hpu hcu2 h0v hCu h9u hfr hX1 hX2 hX4 hX5 hX6 hW, ck_Sn HSn Hn hcu hset hR9 hK9 hph hnk hnc hnp hob hb0 hbo hbl hy1 hpu hcu2 h0v hCu h9u hfr hX1 hX2 hX4 hX5 hX6 hW, ck_M HM Hn hcu hset hR9 hK9 hph hnk hnc hnp hob hb0 hbo hbl hy1 hpu hcu2 h0v hCu h9u hfr hX1 hX2 hX4 hX5 hX6 hW, ck_C HC Hn hcu hset hR9 hK9 hph hnk hnc hnp hob hb0 hbo hbl hy1 hpu hcu2 h0v hCu h9u hfr hX1 hX2 hX4 hX5 hX6 hW, ck_ph Hph Hn hcu hset hR9 hK9 hph hnk hnc hnp hob hb0 hbo hbl hy1 hpu hcu2 h0v hCu h9u hfr hX1 hX2 hX4 hX5 hX6 hW, ck_6 H6 Hn Hb1 Hs6 Xl hcu hset hR9 hK9 hph hnk hnc hnp hob hb0 hbo hbl hy1 hpu hcu2 h0v hCu h9u hfr hX1 hX2 hX4 hX5 hX6 hW, ck_7 H7 Hn Hs6 hcu hset hR9 hK9 hph hnk hnc hnp hob hb0 hbo hbl hy1 hpu hcu2 h0v hCu h9u hfr hX1 hX2 hX4 hX5 hX6 hW, ck_bc Hbc Hn hcu hset hR9 hK9 hph hnk hnc hnp hob hb0 hbo hbl hy1 hpu hcu2 h0v hCu h9u hfr hX1 hX2 hX4 hX5 hX6 hW, ck_K HK Hn hcu hset hR9 hK9 hph hnk hnc hnp hob hb0 hbo hbl hy1 hpu hcu2 h0v hCu h9u hfr hX1 hX2 hX4 hX5 hX6 hW, ck_rj Hrj Hn hcu hset hR9 hK9 hph hnk hnc hnp hob hb0 hbo hbl hy1 hpu hcu2 h0v hCu h9u hfr hX1 hX2 hX4 hX5 hX6 hW, ck_tw Htw Hn Xc hcu hset hR9 hK9 hph hnk hnc hnp hob hb0 hbo hbl hy1 hpu hcu2 h0v hCu h9u hfr hX1 hX2 hX4 hX5 hX6 hW, ck_ts Hts Hn hcu hset hR9 hK9 hph hnk hnc hnp hob hb0 hbo hbl hy1 hpu hcu2 h0v hCu h9u hfr hX1 hX2 hX4 hX5 hX6 hW, ck_an Han Hn Hs2 HK hcu hset hR9 hK9 hph hnk hnc hnp hob hb0 hbo hbl hy1 hpu hcu2 h0v hCu h9u hfr hX1 hX2 hX4 hX5 hX6 hW, ck_sz Hsz Hn hcu hset hR9 hK9 hph hnk hnc hnp hob hb0 hbo hbl hy1 hpu hcu2 h0v hCu h9u hfr hX1 hX2 hX4 hX5 hX6 hW, ?_⟩
  have K1 : gi_all own (ga_mg F v (o v b) (w b) b) c (fun y e => gi_m own o w (ga_mg F v (o v b) (w b) b) (gh_K mk v b 1) (gh_A c (o v b) b (0, F 1 v, 0, 0)) (o y e) y e) := gi_all_go (Hch) (fun _ _ q => q) (fun y => (by simp [ga_mg])) (fun y e a m hy hm ha hb q => ⟨q.1, ck_mi Hn hcu hset hR9 hK9 hph hnk hnc hnp hob hb0 hbo hbl hy1 hpu hcu2 h0v hCu h9u hfr hX1 hX2 hX4 hX5 hX6 hW rfl hy hm ha hb q.2.1, ck_mc Hn Xi hcu hset hR9 hK9 hph hnk hnc hnp hob hb0 hbo hbl hy1 hpu hcu2 h0v hCu h9u hfr hX1 hX2 hX4 hX5 hX6 hW rfl hy hm ha hb q.2.2.1, ck_mt Hn hcu hset hR9 hK9 hph hnk hnc hnp hob hb0 hbo hbl hy1 hpu hcu2 h0v hCu h9u hfr hX1 hX2 hX4 hX5 hX6 hW rfl hy hm ha hb q.2.2.2.1, ck_ma Hn hcu hset hR9 hK9 hph hnk hnc hnp hob hb0 hbo hbl hy1 hpu hcu2 h0v hCu h9u hfr hX1 hX2 hX4 hX5 hX6 hW rfl hy hm ha hb q.2.2.2.2.1, ck_mr Hn hcu hset hR9 hK9 hph hnk hnc hnp hob hb0 hbo hbl hy1 hpu hcu2 h0v hCu h9u hfr hX1 hX2 hX4 hX5 hX6 hW rfl hy hm ha hb q.2.2.2.2.2.1, ck_mk Hn hcu hset hR9 hK9 hph hnk hnc hnp hob hb0 hbo hbl hy1 hpu hcu2 h0v hCu h9u hfr hX1 hX2 hX4 hX5 hX6 hW rfl hy hm ha hb q.2.2.2.2.2.2.1, ck_mp Hn hcu hset hR9 hK9 hph hnk hnc hnp hob hb0 hbo hbl hy1 hpu hcu2 h0v hCu h9u hfr hX1 hX2 hX4 hX5 hX6 hW rfl hy hm ha hb q.2.2.2.2.2.2.2⟩)
  exact gi_all_appA K1 (fun hy => ⟨by simp, fun z => absurd z (by simp), ck_new Hn Xi hcu hset hR9 hK9 hph hnk hnc hnp hob hb0 hbo hbl hy1 hpu hcu2 h0v hCu h9u hfr hX1 hX2 hX4 hX5 hX6 hW , fun z => absurd z (by simp), fun z => absurd z (by simp), fun z => absurd z (by simp), fun z => absurd z (by simp), fun z => absurd z (by simp)⟩)
end
