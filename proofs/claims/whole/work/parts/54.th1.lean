/-! The network: report, test, accept keep the invariants, by program (wip/th). -/
section
variable {own : Nat → Nat → Prop} {o : Nat → Nat → Nat} {w : Nat → Nat} {F : gh_F} {mk : Nat → Nat → Nat} {c : Nat → Nat → List gh_M}
theorem rp_Sr {v : Nat} (HSr : gi_Sr o w F c) (Hs2 : gi_s2 F) (h0 : F 0 v = 1) (h3 : F 3 v = 0) (h7 : F 7 v = 12) : gi_Sr o w (gh_U (gh_U F 0 v 2) 11 v 1) (gh_A c (o v (F 9 v)) (F 9 v) (5, F 6 v, 0, 0)) := by
  dsimp only [gi_Sr, gi_s2, gi_cur, gi_NR, gi_wt, gi_open, gh_Net] at *
  try simp (decide := true) only [gh_U, gh_K, gh_A_has, gh_A_cnt, gh_A_mem, false_and, true_and, and_false, or_false, if_false, if_true, and_true]
  grind (splits := 25)
theorem rp_6 {v : Nat} (H6 : gi_6 o F c) (Hn : gh_Net own o w) (h0 : F 0 v = 1) (h3 : F 3 v = 0) (h7 : F 7 v = 12) : gi_6 o (gh_U (gh_U F 0 v 2) 11 v 1) (gh_A c (o v (F 9 v)) (F 9 v) (5, F 6 v, 0, 0)) := by
  dsimp only [gi_6, gi_cur, gi_NR, gi_wt, gi_open, gh_Net] at *
  try simp (decide := true) only [gh_U, gh_K, gh_A_has, gh_A_cnt, gh_A_mem, false_and, true_and, and_false, or_false, if_false, if_true, and_true]
  grind (splits := 25)
theorem rp_7 {v : Nat} (H7 : gi_7 o F) (Hn : gh_Net own o w) (Hb1 : gi_b1 F) (Hs2 : gi_s2 F) (Hs3 : gi_s3 F) (H6 : gi_6 o F c) (Hs6 : gi_s6 own F mk) (HK : gi_K own o F mk c) (Han : gi_an own o F mk c) (HSl : gi_Sl F) (h0 : F 0 v = 1) (h3 : F 3 v = 0) (h7 : F 7 v = 12) : gi_7 o (gh_U (gh_U F 0 v 2) 11 v 1) := by
  have hch : ∀ e, own v e → mk v e = 1 → e ≠ F 9 v → gi_cur F (o v e) ∧ F 0 (o v e) = 2 ∧ ¬ gh_has 5 (c v e) := by
    obtain ⟨l, l1, l2, l3⟩ := Han v h0
    have hl : l = [] := List.length_eq_zero_iff.mp (l2.trans h3)
    subst hl
    intro e e1 e2 e3
    have := (l3 e)
    unfold gi_open at this
    grind
  have hk : ∀ x, gi_NR o F x → o x (F 9 x) = v → gi_cur F x ∧ F 0 x = 2 ∧ F 11 x = 1 := by
    intro x hx hp
    have a1 := Hs6 x
    have a2 := Hn.1 x (F 9 x)
    have a3 := HK x (F 9 x) v
    have a4 := hch (F 9 x)
    have a5 := Hs3 x
    have a6 := Hs2 v h0
    have a7 := HSl v
    clear Hs6 Hn HK hch Hs3 Hs2 HSl
    unfold gi_NR at hx
    grind
  clear Hn Hs6 HK Han hch HSl Hs3
  dsimp only [gi_7, gi_b1, gi_s2, gi_s3, gi_6, gi_s6, gi_K, gi_an, gi_Sl, gi_cur, gi_NR, gi_wt, gi_open, gh_Net] at *
  try simp (decide := true) only [gh_U, gh_K, gh_A_has, gh_A_cnt, gh_A_mem, false_and, true_and, and_false, or_false, if_false, if_true, and_true]
  grind (splits := 25)
theorem rp_an {v : Nat} (Han : gi_an own o F mk c) (Hn : gh_Net own o w) (Hs2 : gi_s2 F) (Hs6 : gi_s6 own F mk) (HK : gi_K own o F mk c) (HSl : gi_Sl F) (h0 : F 0 v = 1) (h3 : F 3 v = 0) (h7 : F 7 v = 12) : gi_an own o (gh_U (gh_U F 0 v 2) 11 v 1) mk (gh_A c (o v (F 9 v)) (F 9 v) (5, F 6 v, 0, 0)) := by
  intro x hx
  have hxv : x ≠ v := by unfold gh_U at hx; grind
  obtain ⟨l, l1, l2, l3⟩ := Han x (by unfold gh_U at hx; grind)
  refine ⟨l, l1, by unfold gh_U; grind, fun e => (l3 e).trans ?_⟩
  dsimp only [gi_open, gi_cur, gi_s2, gi_s6, gi_K, gh_Net, gi_Sl] at *
  have hx1 : F 0 x = 1 := by unfold gh_U at hx; grind
  have a1 := Hn.1 x e
  have a2 := HK x e (o x e)
  have a3 := Hs6 v
  have a4 := Hs2 v h0
  have a5 := HSl v
  have a6 := Hs2 x
  have a7 := Hn.1 v (F 9 v)
  clear HK Hs6 Hs2 Han l3 Hn HSl
  try simp (decide := true) only [gh_U, gh_K, gh_A_has, gh_A_cnt, gh_A_mem, false_and, true_and, and_false, or_false, if_false, if_true, and_true]
  grind
theorem rp_bc {v : Nat} (Hbc : gi_bc o F mk c) (Hn : gh_Net own o w) (Hs2 : gi_s2 F) (Hs6 : gi_s6 own F mk) (HSl : gi_Sl F) (h0 : F 0 v = 1) (h3 : F 3 v = 0) (h7 : F 7 v = 12) : gi_bc o (gh_U (gh_U F 0 v 2) 11 v 1) mk (gh_A c (o v (F 9 v)) (F 9 v) (5, F 6 v, 0, 0)) := by
  dsimp only [gi_bc, gi_s2, gi_s6, gi_Sl, gi_cur, gi_NR, gi_wt, gi_open, gh_Net] at *
  try simp (decide := true) only [gh_U, gh_K, gh_A_has, gh_A_cnt, gh_A_mem, false_and, true_and, and_false, or_false, if_false, if_true, and_true]
  grind (splits := 25)
theorem rp_K {v : Nat} (HK : gi_K own o F mk c) (Hn : gh_Net own o w) (h0 : F 0 v = 1) (h3 : F 3 v = 0) (h7 : F 7 v = 12) : gi_K own o (gh_U (gh_U F 0 v 2) 11 v 1) mk (gh_A c (o v (F 9 v)) (F 9 v) (5, F 6 v, 0, 0)) := by
  dsimp only [gi_K, gi_cur, gi_NR, gi_wt, gi_open, gh_Net] at *
  try simp (decide := true) only [gh_U, gh_K, gh_A_has, gh_A_cnt, gh_A_mem, false_and, true_and, and_false, or_false, if_false, if_true, and_true]
  grind (splits := 25)
theorem rp_tw {v : Nat} (Htw : gi_tw own c) (Hn : gh_Net own o w) (Xp : gx_p own o w F mk c) (Hs2 : gi_s2 F) (Hs6 : gi_s6 own F mk) (HSl : gi_Sl F) (h0 : F 0 v = 1) (h3 : F 3 v = 0) (h7 : F 7 v = 12) : gi_tw own (gh_A c (o v (F 9 v)) (F 9 v) (5, F 6 v, 0, 0)) := by
  dsimp only [gi_tw, gx_p, gi_s2, gi_s6, gi_Sl, gi_cur, gi_NR, gi_wt, gi_open, gh_Net] at *
  try simp (decide := true) only [gh_U, gh_K, gh_A_has, gh_A_cnt, gh_A_mem, false_and, true_and, and_false, or_false, if_false, if_true, and_true]
  grind (splits := 25) [gh_cnt_0]
theorem rp_ts {v : Nat} (Hts : gi_ts own o F c) (Hn : gh_Net own o w) (h0 : F 0 v = 1) (h3 : F 3 v = 0) (h7 : F 7 v = 12) : gi_ts own o (gh_U (gh_U F 0 v 2) 11 v 1) (gh_A c (o v (F 9 v)) (F 9 v) (5, F 6 v, 0, 0)) := by
  dsimp only [gi_ts, gi_cur, gi_NR, gi_wt, gi_open, gh_Net] at *
  try simp (decide := true) only [gh_U, gh_K, gh_A_has, gh_A_cnt, gh_A_mem, false_and, true_and, and_false, or_false, if_false, if_true, and_true]
  grind (splits := 25)
theorem rp_st {v : Nat} (Hst : gi_st F) (h0 : F 0 v = 1) (h3 : F 3 v = 0) (h7 : F 7 v = 12) : gi_st (gh_U (gh_U F 0 v 2) 11 v 1) := by
  dsimp only [gi_st, gi_cur, gi_NR, gi_wt, gi_open, gh_Net] at *
  try simp (decide := true) only [gh_U, gh_K, gh_A_has, gh_A_cnt, gh_A_mem, false_and, true_and, and_false, or_false, if_false, if_true, and_true]
  grind (splits := 25)
theorem rp_b1 {v : Nat} (Hb1 : gi_b1 F) (h0 : F 0 v = 1) (h3 : F 3 v = 0) (h7 : F 7 v = 12) : gi_b1 (gh_U (gh_U F 0 v 2) 11 v 1) := by
  dsimp only [gi_b1, gi_cur, gi_NR, gi_wt, gi_open, gh_Net] at *
  try simp (decide := true) only [gh_U, gh_K, gh_A_has, gh_A_cnt, gh_A_mem, false_and, true_and, and_false, or_false, if_false, if_true, and_true]
  grind (splits := 25)
theorem rp_b2 {v : Nat} (Hb2 : gi_b2 F) (h0 : F 0 v = 1) (h3 : F 3 v = 0) (h7 : F 7 v = 12) : gi_b2 (gh_U (gh_U F 0 v 2) 11 v 1) := by
  dsimp only [gi_b2, gi_cur, gi_NR, gi_wt, gi_open, gh_Net] at *
  try simp (decide := true) only [gh_U, gh_K, gh_A_has, gh_A_cnt, gh_A_mem, false_and, true_and, and_false, or_false, if_false, if_true, and_true]
  grind (splits := 25)
theorem rp_b3 {v : Nat} (Hb3 : gi_b3 F) (h0 : F 0 v = 1) (h3 : F 3 v = 0) (h7 : F 7 v = 12) : gi_b3 (gh_U (gh_U F 0 v 2) 11 v 1) := by
  dsimp only [gi_b3, gi_cur, gi_NR, gi_wt, gi_open, gh_Net] at *
  try simp (decide := true) only [gh_U, gh_K, gh_A_has, gh_A_cnt, gh_A_mem, false_and, true_and, and_false, or_false, if_false, if_true, and_true]
  grind (splits := 25)
theorem rp_b4 {v : Nat} (Hb4 : gi_b4 F) (h0 : F 0 v = 1) (h3 : F 3 v = 0) (h7 : F 7 v = 12) : gi_b4 (gh_U (gh_U F 0 v 2) 11 v 1) := by
  dsimp only [gi_b4, gi_cur, gi_NR, gi_wt, gi_open, gh_Net] at *
  try simp (decide := true) only [gh_U, gh_K, gh_A_has, gh_A_cnt, gh_A_mem, false_and, true_and, and_false, or_false, if_false, if_true, and_true]
  grind (splits := 25)
theorem rp_b5 {v : Nat} (Hb5 : gi_b5 own o w F) (h0 : F 0 v = 1) (h3 : F 3 v = 0) (h7 : F 7 v = 12) : gi_b5 own o w (gh_U (gh_U F 0 v 2) 11 v 1) := by
  dsimp only [gi_b5, gi_cur, gi_NR, gi_wt, gi_open, gh_Net] at *
  try simp (decide := true) only [gh_U, gh_K, gh_A_has, gh_A_cnt, gh_A_mem, false_and, true_and, and_false, or_false, if_false, if_true, and_true]
  grind (splits := 25)
theorem rp_b6 {v : Nat} (Hb6 : gi_b6 own o w F mk) (h0 : F 0 v = 1) (h3 : F 3 v = 0) (h7 : F 7 v = 12) : gi_b6 own o w (gh_U (gh_U F 0 v 2) 11 v 1) mk := by
  dsimp only [gi_b6, gi_cur, gi_NR, gi_wt, gi_open, gh_Net] at *
  try simp (decide := true) only [gh_U, gh_K, gh_A_has, gh_A_cnt, gh_A_mem, false_and, true_and, and_false, or_false, if_false, if_true, and_true]
  grind (splits := 25)
theorem rp_s0 {v : Nat} (Hs0 : gi_s0 own F mk) (h0 : F 0 v = 1) (h3 : F 3 v = 0) (h7 : F 7 v = 12) : gi_s0 own (gh_U (gh_U F 0 v 2) 11 v 1) mk := by
  dsimp only [gi_s0, gi_cur, gi_NR, gi_wt, gi_open, gh_Net] at *
  try simp (decide := true) only [gh_U, gh_K, gh_A_has, gh_A_cnt, gh_A_mem, false_and, true_and, and_false, or_false, if_false, if_true, and_true]
  grind (splits := 25)
theorem rp_pA {v : Nat} (HpA : gi_pA own F mk) (h0 : F 0 v = 1) (h3 : F 3 v = 0) (h7 : F 7 v = 12) : gi_pA own (gh_U (gh_U F 0 v 2) 11 v 1) mk := by
  dsimp only [gi_pA, gi_cur, gi_NR, gi_wt, gi_open, gh_Net] at *
  try simp (decide := true) only [gh_U, gh_K, gh_A_has, gh_A_cnt, gh_A_mem, false_and, true_and, and_false, or_false, if_false, if_true, and_true]
  grind (splits := 25)
theorem rp_s1 {v : Nat} (Hs1 : gi_s1 F) (h0 : F 0 v = 1) (h3 : F 3 v = 0) (h7 : F 7 v = 12) : gi_s1 (gh_U (gh_U F 0 v 2) 11 v 1) := by
  dsimp only [gi_s1, gi_cur, gi_NR, gi_wt, gi_open, gh_Net] at *
  try simp (decide := true) only [gh_U, gh_K, gh_A_has, gh_A_cnt, gh_A_mem, false_and, true_and, and_false, or_false, if_false, if_true, and_true]
  grind (splits := 25)
theorem rp_s2 {v : Nat} (Hs2 : gi_s2 F) (h0 : F 0 v = 1) (h3 : F 3 v = 0) (h7 : F 7 v = 12) : gi_s2 (gh_U (gh_U F 0 v 2) 11 v 1) := by
  dsimp only [gi_s2, gi_cur, gi_NR, gi_wt, gi_open, gh_Net] at *
  try simp (decide := true) only [gh_U, gh_K, gh_A_has, gh_A_cnt, gh_A_mem, false_and, true_and, and_false, or_false, if_false, if_true, and_true]
  grind (splits := 25)
theorem rp_Sl {v : Nat} (HSl : gi_Sl F) (h0 : F 0 v = 1) (h3 : F 3 v = 0) (h7 : F 7 v = 12) : gi_Sl (gh_U (gh_U F 0 v 2) 11 v 1) := by
  dsimp only [gi_Sl, gi_cur, gi_NR, gi_wt, gi_open, gh_Net] at *
  try simp (decide := true) only [gh_U, gh_K, gh_A_has, gh_A_cnt, gh_A_mem, false_and, true_and, and_false, or_false, if_false, if_true, and_true]
  grind (splits := 25)
theorem rp_s3 {v : Nat} (Hs3 : gi_s3 F) (h0 : F 0 v = 1) (h3 : F 3 v = 0) (h7 : F 7 v = 12) : gi_s3 (gh_U (gh_U F 0 v 2) 11 v 1) := by
  dsimp only [gi_s3, gi_cur, gi_NR, gi_wt, gi_open, gh_Net] at *
  try simp (decide := true) only [gh_U, gh_K, gh_A_has, gh_A_cnt, gh_A_mem, false_and, true_and, and_false, or_false, if_false, if_true, and_true]
  grind (splits := 25)
theorem rp_s4 {v : Nat} (Hs4 : gi_s4 F) (h0 : F 0 v = 1) (h3 : F 3 v = 0) (h7 : F 7 v = 12) : gi_s4 (gh_U (gh_U F 0 v 2) 11 v 1) := by
  dsimp only [gi_s4, gi_cur, gi_NR, gi_wt, gi_open, gh_Net] at *
  try simp (decide := true) only [gh_U, gh_K, gh_A_has, gh_A_cnt, gh_A_mem, false_and, true_and, and_false, or_false, if_false, if_true, and_true]
  grind (splits := 25)
theorem rp_ow {v : Nat} (How : gi_ow own F) (h0 : F 0 v = 1) (h3 : F 3 v = 0) (h7 : F 7 v = 12) : gi_ow own (gh_U (gh_U F 0 v 2) 11 v 1) := by
  dsimp only [gi_ow, gi_cur, gi_NR, gi_wt, gi_open, gh_Net] at *
  try simp (decide := true) only [gh_U, gh_K, gh_A_has, gh_A_cnt, gh_A_mem, false_and, true_and, and_false, or_false, if_false, if_true, and_true]
  grind (splits := 25)
theorem rp_s5 {v : Nat} (Hs5 : gi_s5 F) (h0 : F 0 v = 1) (h3 : F 3 v = 0) (h7 : F 7 v = 12) : gi_s5 (gh_U (gh_U F 0 v 2) 11 v 1) := by
  dsimp only [gi_s5, gi_cur, gi_NR, gi_wt, gi_open, gh_Net] at *
  try simp (decide := true) only [gh_U, gh_K, gh_A_has, gh_A_cnt, gh_A_mem, false_and, true_and, and_false, or_false, if_false, if_true, and_true]
  grind (splits := 25)
theorem rp_s6 {v : Nat} (Hs6 : gi_s6 own F mk) (h0 : F 0 v = 1) (h3 : F 3 v = 0) (h7 : F 7 v = 12) : gi_s6 own (gh_U (gh_U F 0 v 2) 11 v 1) mk := by
  dsimp only [gi_s6, gi_cur, gi_NR, gi_wt, gi_open, gh_Net] at *
  try simp (decide := true) only [gh_U, gh_K, gh_A_has, gh_A_cnt, gh_A_mem, false_and, true_and, and_false, or_false, if_false, if_true, and_true]
  grind (splits := 25)
theorem rp_Sn {v : Nat} (HSn : gi_Sn o w F) (h0 : F 0 v = 1) (h3 : F 3 v = 0) (h7 : F 7 v = 12) : gi_Sn o w (gh_U (gh_U F 0 v 2) 11 v 1) := by
  dsimp only [gi_Sn, gi_cur, gi_NR, gi_wt, gi_open, gh_Net] at *
  try simp (decide := true) only [gh_U, gh_K, gh_A_has, gh_A_cnt, gh_A_mem, false_and, true_and, and_false, or_false, if_false, if_true, and_true]
  grind (splits := 25)
theorem rp_M {v : Nat} (HM : gi_M own o F) (h0 : F 0 v = 1) (h3 : F 3 v = 0) (h7 : F 7 v = 12) : gi_M own o (gh_U (gh_U F 0 v 2) 11 v 1) := by
  dsimp only [gi_M, gi_cur, gi_NR, gi_wt, gi_open, gh_Net] at *
  try simp (decide := true) only [gh_U, gh_K, gh_A_has, gh_A_cnt, gh_A_mem, false_and, true_and, and_false, or_false, if_false, if_true, and_true]
  grind (splits := 25)
theorem rp_C {v : Nat} (HC : gi_C own o F mk) (h0 : F 0 v = 1) (h3 : F 3 v = 0) (h7 : F 7 v = 12) : gi_C own o (gh_U (gh_U F 0 v 2) 11 v 1) mk := by
  dsimp only [gi_C, gi_cur, gi_NR, gi_wt, gi_open, gh_Net] at *
  try simp (decide := true) only [gh_U, gh_K, gh_A_has, gh_A_cnt, gh_A_mem, false_and, true_and, and_false, or_false, if_false, if_true, and_true]
  grind (splits := 25)
theorem rp_ph {v : Nat} (Hph : gi_ph F) (h0 : F 0 v = 1) (h3 : F 3 v = 0) (h7 : F 7 v = 12) : gi_ph (gh_U (gh_U F 0 v 2) 11 v 1) := by
  dsimp only [gi_ph, gi_cur, gi_NR, gi_wt, gi_open, gh_Net] at *
  try simp (decide := true) only [gh_U, gh_K, gh_A_has, gh_A_cnt, gh_A_mem, false_and, true_and, and_false, or_false, if_false, if_true, and_true]
  grind (splits := 25)
theorem rp_rj {v : Nat} (Hrj : gi_rj own o F mk) (h0 : F 0 v = 1) (h3 : F 3 v = 0) (h7 : F 7 v = 12) : gi_rj own o (gh_U (gh_U F 0 v 2) 11 v 1) mk := by
  dsimp only [gi_rj, gi_cur, gi_NR, gi_wt, gi_open, gh_Net] at *
  try simp (decide := true) only [gh_U, gh_K, gh_A_has, gh_A_cnt, gh_A_mem, false_and, true_and, and_false, or_false, if_false, if_true, and_true]
  grind (splits := 25)
theorem rp_sz {v : Nat} (Hsz : gi_sz F) (h0 : F 0 v = 1) (h3 : F 3 v = 0) (h7 : F 7 v = 12) : gi_sz (gh_U (gh_U F 0 v 2) 11 v 1) := by
  dsimp only [gi_sz, gi_cur, gi_NR, gi_wt, gi_open, gh_Net] at *
  try simp (decide := true) only [gh_U, gh_K, gh_A_has, gh_A_cnt, gh_A_mem, false_and, true_and, and_false, or_false, if_false, if_true, and_true]
  grind (splits := 25)
theorem rp_mi {v : Nat} (Xl : gx_l own F c) (Hb1 : gi_b1 F) (Hs2 : gi_s2 F) (h0 : F 0 v = 1) (h3 : F 3 v = 0) (h7 : F 7 v = 12) {x y e a : Nat} {m : gh_M} (hx : o y e = x) (hy : own y e) (hm : m ∈ c y e) (ha : F 1 y ≤ a) (hb : ¬ gh_has 1 (c y e) → a = F 1 y)  (h : gm_i own o w F mk c x y e a m) : gm_i own o w (gh_U (gh_U F 0 v 2) 11 v 1) mk (gh_A c (o v (F 9 v)) (F 9 v) (5, F 6 v, 0, 0)) x y e a m := by
  have hh : ∀ k, m.1 = k → gh_has k (c y e) := fun k hk => ⟨m, hm, hk⟩
  dsimp only [gx_l, gi_b1, gi_s2, gm_i, gi_cur, gi_NR, gi_wt, gi_open, gh_Net] at *
  try simp (decide := true) only [gh_U, gh_K, gh_A_has, gh_A_cnt, gh_A_mem, false_and, true_and, and_false, or_false, if_false, if_true, and_true]
  grind (splits := 25)
theorem rp_mc {v : Nat}  (h0 : F 0 v = 1) (h3 : F 3 v = 0) (h7 : F 7 v = 12) {x y e a : Nat} {m : gh_M} (hx : o y e = x) (hy : own y e) (hm : m ∈ c y e) (ha : F 1 y ≤ a) (hb : ¬ gh_has 1 (c y e) → a = F 1 y)  (h : gm_c own o w F mk c x y e a m) : gm_c own o w (gh_U (gh_U F 0 v 2) 11 v 1) mk (gh_A c (o v (F 9 v)) (F 9 v) (5, F 6 v, 0, 0)) x y e a m := by
  have hh : ∀ k, m.1 = k → gh_has k (c y e) := fun k hk => ⟨m, hm, hk⟩
  dsimp only [gm_c, gi_cur, gi_NR, gi_wt, gi_open, gh_Net] at *
  try simp (decide := true) only [gh_U, gh_K, gh_A_has, gh_A_cnt, gh_A_mem, false_and, true_and, and_false, or_false, if_false, if_true, and_true]
  grind (splits := 25)
theorem rp_mt {v : Nat} (Hn : gh_Net own o w) (h0 : F 0 v = 1) (h3 : F 3 v = 0) (h7 : F 7 v = 12) {x y e a : Nat} {m : gh_M} (hx : o y e = x) (hy : own y e) (hm : m ∈ c y e) (ha : F 1 y ≤ a) (hb : ¬ gh_has 1 (c y e) → a = F 1 y)  (h : gm_t own o w F mk c x y e a m) : gm_t own o w (gh_U (gh_U F 0 v 2) 11 v 1) mk (gh_A c (o v (F 9 v)) (F 9 v) (5, F 6 v, 0, 0)) x y e a m := by
  have hh : ∀ k, m.1 = k → gh_has k (c y e) := fun k hk => ⟨m, hm, hk⟩
  dsimp only [gm_t, gi_cur, gi_NR, gi_wt, gi_open, gh_Net] at *
  try simp (decide := true) only [gh_U, gh_K, gh_A_has, gh_A_cnt, gh_A_mem, false_and, true_and, and_false, or_false, if_false, if_true, and_true]
  grind (splits := 25)
theorem rp_ma {v : Nat} (Hn : gh_Net own o w) (h0 : F 0 v = 1) (h3 : F 3 v = 0) (h7 : F 7 v = 12) {x y e a : Nat} {m : gh_M} (hx : o y e = x) (hy : own y e) (hm : m ∈ c y e) (ha : F 1 y ≤ a) (hb : ¬ gh_has 1 (c y e) → a = F 1 y)  (h : gm_a own o w F mk c x y e a m) : gm_a own o w (gh_U (gh_U F 0 v 2) 11 v 1) mk (gh_A c (o v (F 9 v)) (F 9 v) (5, F 6 v, 0, 0)) x y e a m := by
  have hh : ∀ k, m.1 = k → gh_has k (c y e) := fun k hk => ⟨m, hm, hk⟩
  dsimp only [gm_a, gi_cur, gi_NR, gi_wt, gi_open, gh_Net] at *
  try simp (decide := true) only [gh_U, gh_K, gh_A_has, gh_A_cnt, gh_A_mem, false_and, true_and, and_false, or_false, if_false, if_true, and_true]
  grind (splits := 25)
theorem rp_mr {v : Nat} (Hn : gh_Net own o w) (h0 : F 0 v = 1) (h3 : F 3 v = 0) (h7 : F 7 v = 12) {x y e a : Nat} {m : gh_M} (hx : o y e = x) (hy : own y e) (hm : m ∈ c y e) (ha : F 1 y ≤ a) (hb : ¬ gh_has 1 (c y e) → a = F 1 y)  (h : gm_r own o w F mk c x y e a m) : gm_r own o w (gh_U (gh_U F 0 v 2) 11 v 1) mk (gh_A c (o v (F 9 v)) (F 9 v) (5, F 6 v, 0, 0)) x y e a m := by
  have hh : ∀ k, m.1 = k → gh_has k (c y e) := fun k hk => ⟨m, hm, hk⟩
  dsimp only [gm_r, gi_cur, gi_NR, gi_wt, gi_open, gh_Net] at *
  try simp (decide := true) only [gh_U, gh_K, gh_A_has, gh_A_cnt, gh_A_mem, false_and, true_and, and_false, or_false, if_false, if_true, and_true]
  grind (splits := 25)
theorem rp_mk {v : Nat}  (h0 : F 0 v = 1) (h3 : F 3 v = 0) (h7 : F 7 v = 12) {x y e a : Nat} {m : gh_M} (hx : o y e = x) (hy : own y e) (hm : m ∈ c y e) (ha : F 1 y ≤ a) (hb : ¬ gh_has 1 (c y e) → a = F 1 y)  (h : gm_k own o w F mk c x y e a m) : gm_k own o w (gh_U (gh_U F 0 v 2) 11 v 1) mk (gh_A c (o v (F 9 v)) (F 9 v) (5, F 6 v, 0, 0)) x y e a m := by
  have hh : ∀ k, m.1 = k → gh_has k (c y e) := fun k hk => ⟨m, hm, hk⟩
  dsimp only [gm_k, gi_cur, gi_NR, gi_wt, gi_open, gh_Net] at *
  try simp (decide := true) only [gh_U, gh_K, gh_A_has, gh_A_cnt, gh_A_mem, false_and, true_and, and_false, or_false, if_false, if_true, and_true]
  grind (splits := 25)
theorem rp_mp {v : Nat} (Han : gi_an own o F mk c) (h0 : F 0 v = 1) (h3 : F 3 v = 0) (h7 : F 7 v = 12) {x y e a : Nat} {m : gh_M} (hx : o y e = x) (hy : own y e) (hm : m ∈ c y e) (ha : F 1 y ≤ a) (hb : ¬ gh_has 1 (c y e) → a = F 1 y)  (h : gm_p own o w F mk c x y e a m) : gm_p own o w (gh_U (gh_U F 0 v 2) 11 v 1) mk (gh_A c (o v (F 9 v)) (F 9 v) (5, F 6 v, 0, 0)) x y e a m := by
  have hh : ∀ k, m.1 = k → gh_has k (c y e) := fun k hk => ⟨m, hm, hk⟩
  have hch : ∀ e, own v e → mk v e = 1 → e ≠ F 9 v → gi_cur F (o v e) ∧ F 0 (o v e) = 2 ∧ ¬ gh_has 5 (c v e) := by
    obtain ⟨l, l1, l2, l3⟩ := Han v h0
    have hl : l = [] := List.length_eq_zero_iff.mp (l2.trans h3)
    subst hl
    intro e e1 e2 e3
    have := (l3 e)
    unfold gi_open at this
    grind
  intro h5
  have hh : gh_has 5 (c y e) := ⟨m, hm, h5⟩
  have h := h h5
  have a1 := hch e
  clear Han hch
  dsimp only [gi_an, gm_p, gi_cur, gi_NR, gi_wt, gi_open, gh_Net] at *
  try simp (decide := true) only [gh_U, gh_K, gh_A_has, gh_A_cnt, gh_A_mem, false_and, true_and, and_false, or_false, if_false, if_true, and_true]
  grind (splits := 25)
theorem rp_new {v : Nat} (Hn : gh_Net own o w) (Hs2 : gi_s2 F) (HSl : gi_Sl F) (Hs6 : gi_s6 own F mk) (HK : gi_K own o F mk c) (HSr : gi_Sr o w F c) (HSn : gi_Sn o w F) (H6 : gi_6 o F c) (Hb1 : gi_b1 F) (Hst : gi_st F) (Hs0 : gi_s0 own F mk) (HpA : gi_pA own F mk) (Hs3 : gi_s3 F) (H7 : gi_7 o F) (Xc : gx_c own o w F mk c) (Xl : gx_l own F c) (Xb : gx_b own F c) (h0 : F 0 v = 1) (h3 : F 3 v = 0) (h7 : F 7 v = 12)  : gm_p own o w (gh_U (gh_U F 0 v 2) 11 v 1) mk (gh_A c (o v (F 9 v)) (F 9 v) (5, F 6 v, 0, 0)) (o (o v (F 9 v)) (F 9 v)) (o v (F 9 v)) (F 9 v) (gh_last (F 1 (o v (F 9 v))) (c (o v (F 9 v)) (F 9 v))) (5, F 6 v, 0, 0) := by
  intro _
  have a1 := Hs2 v h0
  have a2 := HSl v a1.2.1
  have a3 := (Hs6 v).2 ((Hs6 v).1 a2)
  have a4 := Hn.1 v (F 9 v) a3.1
  have a5 := HK v (F 9 v) (o v (F 9 v)) a3.1 rfl a3.2
  have hK9 := HK (o v (F 9 v)) (F 9 v) v a4.1 a4.2.1
  rw [a4.2.1]
  by_cases hw : w (F 9 v) = F 8 v
  · obtain ⟨b1, b2, -⟩ := HSr v a1.2.1 hw
    have b3 := HSr (o v (F 9 v)) (by rw [b2]; exact a1.2.1) (by rw [b1, b2]; exact hw)
    rw [b1, a4.2.1] at b3
    have b4 := Xc v (F 9 v) a3.1
    have b5 := Xb (o v (F 9 v)) (F 9 v) a4.1
    have b6 := Xl (o v (F 9 v)) (F 9 v) a4.1
    have b7 := Hb1 (o v (F 9 v))
    have b8 : gh_last (F 1 (o v (F 9 v))) (c (o v (F 9 v)) (F 9 v)) = F 12 (F 8 v) := by
      by_cases q : gi_cur F (o v (F 9 v))
      · unfold gi_cur at q a1
        rw [b2] at b5 b7 q
        have := b5.2.1 b7
        omega
      · rcases (b3.2.2 q).2 with z | ⟨m, m1, m2, m3⟩
        · have := (b4 z).2 b2
          unfold gi_cur at a1
          omega
        · have := b6 m m1 m2
          rw [b2] at b5 b7 m3
          have := b5.2.1 b7
          omega
    refine ⟨by simp [gh_U, b2], Or.inr (Or.inl ?_)⟩
    rw [b8]
    unfold gi_cur at *
    simp (decide := true) [gh_U]
    exact ⟨a1.2.1, hw, a1.1⟩
  · have b1 := HSn v a1.2.1 hw
    have b2 := (H6 v b1).1
    have b3 := Hb1 (o v (F 9 v))
    have b4 := H7 v b1
    have b5 := Hs3 (o v (F 9 v))
    have b6 := Hst (o v (F 9 v))
    have b7 := Hs0 (o v (F 9 v))
    unfold gi_NR at b1
    refine ⟨by simp [gh_U]; grind, Or.inl ?_⟩
    clear HSn H6 Hb1 H7 Hs3 Hst Hs0 HSr Xc Xb Xl HK Hs6 Hs2 HSl HpA Hn
    unfold gi_cur at *
    simp (decide := true) [gh_U]
    grind
theorem rp_I {v : Nat} (Hn : gh_Net own o w) (h : gI own o w F mk c) (h0 : F 0 v = 1) (h3 : F 3 v = 0) (h7 : F 7 v = 12) : gI own o w (gh_U (gh_U F 0 v 2) 11 v 1) mk (gh_A c (o v (F 9 v)) (F 9 v) (5, F 6 v, 0, 0)) := by
  obtain ⟨Hst, Hb1, Hb2, Hb3, Hb4, Hb5, Hb6, Hs0, HpA, Hs1, Hs2, HSl, Hs3, Hs4, How, Hs5, Hs6, HSr, HSn, HM, HC, Hph, H6, H7, Hbc, HK, Hrj, Htw, Hts, Han, Hsz, Hch⟩ := h
  have Xi := gx_iI Hch
  have Xc := gx_cI Hch
  have Xt := gx_tI Hch
  have Xa := gx_aI Hch
  have Xr := gx_rI Hch
  have Xk := gx_kI Hch
  have Xp := gx_pI Hch
  have Xl := gx_lI Hch
  have Xb := gx_bI Hch
  have Xn := gx_nI Hn Hph HpA HSr HSn HM HC
  refine ⟨rp_st Hst h0 h3 h7, rp_b1 Hb1 h0 h3 h7, rp_b2 Hb2 h0 h3 h7, rp_b3 Hb3 h0 h3 h7, rp_b4 Hb4 h0 h3 h7, rp_b5 Hb5 h0 h3 h7, rp_b6 Hb6 h0 h3 h7, rp_s0 Hs0 h0 h3 h7, rp_pA HpA h0 h3 h7, rp_s1 Hs1 h0 h3 h7, rp_s2 Hs2 h0 h3 h7, rp_Sl HSl h0 h3 h7, rp_s3 Hs3 h0 h3 h7, rp_s4 Hs4 h0 h3 h7, rp_ow How h0 h3 h7, rp_s5 Hs5 h0 h3 h7, rp_s6 Hs6 h0 h3 h7, rp_Sr HSr Hs2 h0 h3 h7, rp_Sn HSn h0 h3 h7, rp_M HM h0 h3 h7, rp_C HC h0 h3 h7, rp_ph Hph h0 h3 h7, rp_6 H6 Hn h0 h3 h7, rp_7 H7 Hn Hb1 Hs2 Hs3 H6 Hs6 HK Han HSl h0 h3 h7, rp_bc Hbc Hn Hs2 Hs6 HSl h0 h3 h7, rp_K HK Hn h0 h3 h7, rp_rj Hrj h0 h3 h7, rp_tw Htw Hn Xp Hs2 Hs6 HSl h0 h3 h7, rp_ts Hts Hn h0 h3 h7, rp_an Han Hn Hs2 Hs6 HK HSl h0 h3 h7, rp_sz Hsz h0 h3 h7, ?_⟩
  have K1 : gi_all own (gh_U (gh_U F 0 v 2) 11 v 1) c (fun y e => gi_m own o w (gh_U (gh_U F 0 v 2) 11 v 1) mk (gh_A c (o v (F 9 v)) (F 9 v) (5, F 6 v, 0, 0)) (o y e) y e) := gi_all_go (Hch) (fun _ _ q => q) (fun y => (by simp [gh_U])) (fun y e a m hy hm ha hb q => ⟨q.1, rp_mi Xl Hb1 Hs2 h0 h3 h7 rfl hy hm ha hb q.2.1, rp_mc  h0 h3 h7 rfl hy hm ha hb q.2.2.1, rp_mt Hn h0 h3 h7 rfl hy hm ha hb q.2.2.2.1, rp_ma Hn h0 h3 h7 rfl hy hm ha hb q.2.2.2.2.1, rp_mr Hn h0 h3 h7 rfl hy hm ha hb q.2.2.2.2.2.1, rp_mk  h0 h3 h7 rfl hy hm ha hb q.2.2.2.2.2.2.1, rp_mp Han h0 h3 h7 rfl hy hm ha hb q.2.2.2.2.2.2.2⟩)
  exact gi_all_appA K1 (fun hy => ⟨by simp, fun z => absurd z (by simp), fun z => absurd z (by simp), fun z => absurd z (by simp), fun z => absurd z (by simp), fun z => absurd z (by simp), fun z => absurd z (by simp), rp_new Hn Hs2 HSl Hs6 HK HSr HSn H6 Hb1 Hst Hs0 HpA Hs3 H7 Xc Xl Xb h0 h3 h7 ⟩)
end
section
variable {own : Nat → Nat → Prop} {o : Nat → Nat → Nat} {w : Nat → Nat} {F : gh_F} {mk : Nat → Nat → Nat} {c : Nat → Nat → List gh_M}
theorem tt_tw {v j : Nat} (Htw : gi_tw own c) (Hn : gh_Net own o w) (Xt : gx_t own o w F mk c) (hj : own v j) (h0 : F 0 v = 1) (h7 : F 7 v = 12) (hm0 : mk v j = 0) : gi_tw own (gh_A c (o v j) j (2, F 1 v, F 2 v, 0)) := by
  dsimp only [gi_tw, gx_t, gi_cur, gi_NR, gi_wt, gi_open, gh_Net] at *
  try simp (decide := true) only [gh_U, gh_K, gh_A_has, gh_A_cnt, gh_A_mem, false_and, true_and, and_false, or_false, if_false, if_true, and_true]
  grind (splits := 25) [gh_cnt_0]
theorem tt_ts {v j : Nat} (Hts : gi_ts own o F c) (Hn : gh_Net own o w) (Xt : gx_t own o w F mk c) (hj : own v j) (h0 : F 0 v = 1) (h7 : F 7 v = 12) (hm0 : mk v j = 0) : gi_ts own o (gh_U F 7 v j) (gh_A c (o v j) j (2, F 1 v, F 2 v, 0)) := by
  dsimp only [gi_ts, gx_t, gi_cur, gi_NR, gi_wt, gi_open, gh_Net] at *
  try simp (decide := true) only [gh_U, gh_K, gh_A_has, gh_A_cnt, gh_A_mem, false_and, true_and, and_false, or_false, if_false, if_true, and_true]
  grind (splits := 25)
theorem tt_ow {v j : Nat} (How : gi_ow own F) (hj : own v j) (h0 : F 0 v = 1) (h7 : F 7 v = 12) (hm0 : mk v j = 0) : gi_ow own (gh_U F 7 v j) := by
  dsimp only [gi_ow, gi_cur, gi_NR, gi_wt, gi_open, gh_Net] at *
  try simp (decide := true) only [gh_U, gh_K, gh_A_has, gh_A_cnt, gh_A_mem, false_and, true_and, and_false, or_false, if_false, if_true, and_true]
  grind (splits := 25)
theorem tt_K {v j : Nat} (HK : gi_K own o F mk c) (Hn : gh_Net own o w) (hj : own v j) (h0 : F 0 v = 1) (h7 : F 7 v = 12) (hm0 : mk v j = 0) : gi_K own o (gh_U F 7 v j) mk (gh_A c (o v j) j (2, F 1 v, F 2 v, 0)) := by
  dsimp only [gi_K, gi_cur, gi_NR, gi_wt, gi_open, gh_Net] at *
  try simp (decide := true) only [gh_U, gh_K, gh_A_has, gh_A_cnt, gh_A_mem, false_and, true_and, and_false, or_false, if_false, if_true, and_true]
  grind (splits := 25)
theorem tt_an {v j : Nat} (Han : gi_an own o F mk c) (Hn : gh_Net own o w) (hj : own v j) (h0 : F 0 v = 1) (h7 : F 7 v = 12) (hm0 : mk v j = 0) : gi_an own o (gh_U F 7 v j) mk (gh_A c (o v j) j (2, F 1 v, F 2 v, 0)) := by
  dsimp only [gi_an, gi_cur, gi_NR, gi_wt, gi_open, gh_Net] at *
  try simp (decide := true) only [gh_U, gh_K, gh_A_has, gh_A_cnt, gh_A_mem, false_and, true_and, and_false, or_false, if_false, if_true, and_true]
  grind (splits := 25)
theorem tt_st {v j : Nat} (Hst : gi_st F) (hj : own v j) (h0 : F 0 v = 1) (h7 : F 7 v = 12) (hm0 : mk v j = 0) : gi_st (gh_U F 7 v j) := by
  dsimp only [gi_st, gi_cur, gi_NR, gi_wt, gi_open, gh_Net] at *
  try simp (decide := true) only [gh_U, gh_K, gh_A_has, gh_A_cnt, gh_A_mem, false_and, true_and, and_false, or_false, if_false, if_true, and_true]
  grind (splits := 25)
theorem tt_b1 {v j : Nat} (Hb1 : gi_b1 F) (hj : own v j) (h0 : F 0 v = 1) (h7 : F 7 v = 12) (hm0 : mk v j = 0) : gi_b1 (gh_U F 7 v j) := by
  dsimp only [gi_b1, gi_cur, gi_NR, gi_wt, gi_open, gh_Net] at *
  try simp (decide := true) only [gh_U, gh_K, gh_A_has, gh_A_cnt, gh_A_mem, false_and, true_and, and_false, or_false, if_false, if_true, and_true]
  grind (splits := 25)
theorem tt_b2 {v j : Nat} (Hb2 : gi_b2 F) (hj : own v j) (h0 : F 0 v = 1) (h7 : F 7 v = 12) (hm0 : mk v j = 0) : gi_b2 (gh_U F 7 v j) := by
  dsimp only [gi_b2, gi_cur, gi_NR, gi_wt, gi_open, gh_Net] at *
  try simp (decide := true) only [gh_U, gh_K, gh_A_has, gh_A_cnt, gh_A_mem, false_and, true_and, and_false, or_false, if_false, if_true, and_true]
  grind (splits := 25)
theorem tt_b3 {v j : Nat} (Hb3 : gi_b3 F) (hj : own v j) (h0 : F 0 v = 1) (h7 : F 7 v = 12) (hm0 : mk v j = 0) : gi_b3 (gh_U F 7 v j) := by
  dsimp only [gi_b3, gi_cur, gi_NR, gi_wt, gi_open, gh_Net] at *
  try simp (decide := true) only [gh_U, gh_K, gh_A_has, gh_A_cnt, gh_A_mem, false_and, true_and, and_false, or_false, if_false, if_true, and_true]
  grind (splits := 25)
theorem tt_b4 {v j : Nat} (Hb4 : gi_b4 F) (hj : own v j) (h0 : F 0 v = 1) (h7 : F 7 v = 12) (hm0 : mk v j = 0) : gi_b4 (gh_U F 7 v j) := by
  dsimp only [gi_b4, gi_cur, gi_NR, gi_wt, gi_open, gh_Net] at *
  try simp (decide := true) only [gh_U, gh_K, gh_A_has, gh_A_cnt, gh_A_mem, false_and, true_and, and_false, or_false, if_false, if_true, and_true]
  grind (splits := 25)
theorem tt_b5 {v j : Nat} (Hb5 : gi_b5 own o w F) (hj : own v j) (h0 : F 0 v = 1) (h7 : F 7 v = 12) (hm0 : mk v j = 0) : gi_b5 own o w (gh_U F 7 v j) := by
  dsimp only [gi_b5, gi_cur, gi_NR, gi_wt, gi_open, gh_Net] at *
  try simp (decide := true) only [gh_U, gh_K, gh_A_has, gh_A_cnt, gh_A_mem, false_and, true_and, and_false, or_false, if_false, if_true, and_true]
  grind (splits := 25)
theorem tt_b6 {v j : Nat} (Hb6 : gi_b6 own o w F mk) (hj : own v j) (h0 : F 0 v = 1) (h7 : F 7 v = 12) (hm0 : mk v j = 0) : gi_b6 own o w (gh_U F 7 v j) mk := by
  dsimp only [gi_b6, gi_cur, gi_NR, gi_wt, gi_open, gh_Net] at *
  try simp (decide := true) only [gh_U, gh_K, gh_A_has, gh_A_cnt, gh_A_mem, false_and, true_and, and_false, or_false, if_false, if_true, and_true]
  grind (splits := 25)
theorem tt_s0 {v j : Nat} (Hs0 : gi_s0 own F mk) (hj : own v j) (h0 : F 0 v = 1) (h7 : F 7 v = 12) (hm0 : mk v j = 0) : gi_s0 own (gh_U F 7 v j) mk := by
  dsimp only [gi_s0, gi_cur, gi_NR, gi_wt, gi_open, gh_Net] at *
  try simp (decide := true) only [gh_U, gh_K, gh_A_has, gh_A_cnt, gh_A_mem, false_and, true_and, and_false, or_false, if_false, if_true, and_true]
  grind (splits := 25)
theorem tt_pA {v j : Nat} (HpA : gi_pA own F mk) (hj : own v j) (h0 : F 0 v = 1) (h7 : F 7 v = 12) (hm0 : mk v j = 0) : gi_pA own (gh_U F 7 v j) mk := by
  dsimp only [gi_pA, gi_cur, gi_NR, gi_wt, gi_open, gh_Net] at *
  try simp (decide := true) only [gh_U, gh_K, gh_A_has, gh_A_cnt, gh_A_mem, false_and, true_and, and_false, or_false, if_false, if_true, and_true]
  grind (splits := 25)
theorem tt_s1 {v j : Nat} (Hs1 : gi_s1 F) (hj : own v j) (h0 : F 0 v = 1) (h7 : F 7 v = 12) (hm0 : mk v j = 0) : gi_s1 (gh_U F 7 v j) := by
  dsimp only [gi_s1, gi_cur, gi_NR, gi_wt, gi_open, gh_Net] at *
  try simp (decide := true) only [gh_U, gh_K, gh_A_has, gh_A_cnt, gh_A_mem, false_and, true_and, and_false, or_false, if_false, if_true, and_true]
  grind (splits := 25)
theorem tt_s2 {v j : Nat} (Hs2 : gi_s2 F) (hj : own v j) (h0 : F 0 v = 1) (h7 : F 7 v = 12) (hm0 : mk v j = 0) : gi_s2 (gh_U F 7 v j) := by
  dsimp only [gi_s2, gi_cur, gi_NR, gi_wt, gi_open, gh_Net] at *
  try simp (decide := true) only [gh_U, gh_K, gh_A_has, gh_A_cnt, gh_A_mem, false_and, true_and, and_false, or_false, if_false, if_true, and_true]
  grind (splits := 25)
theorem tt_Sl {v j : Nat} (HSl : gi_Sl F) (hj : own v j) (h0 : F 0 v = 1) (h7 : F 7 v = 12) (hm0 : mk v j = 0) : gi_Sl (gh_U F 7 v j) := by
  dsimp only [gi_Sl, gi_cur, gi_NR, gi_wt, gi_open, gh_Net] at *
  try simp (decide := true) only [gh_U, gh_K, gh_A_has, gh_A_cnt, gh_A_mem, false_and, true_and, and_false, or_false, if_false, if_true, and_true]
  grind (splits := 25)
theorem tt_s3 {v j : Nat} (Hs3 : gi_s3 F) (hj : own v j) (h0 : F 0 v = 1) (h7 : F 7 v = 12) (hm0 : mk v j = 0) : gi_s3 (gh_U F 7 v j) := by
  dsimp only [gi_s3, gi_cur, gi_NR, gi_wt, gi_open, gh_Net] at *
  try simp (decide := true) only [gh_U, gh_K, gh_A_has, gh_A_cnt, gh_A_mem, false_and, true_and, and_false, or_false, if_false, if_true, and_true]
  grind (splits := 25)
theorem tt_s4 {v j : Nat} (Hs4 : gi_s4 F) (hj : own v j) (h0 : F 0 v = 1) (h7 : F 7 v = 12) (hm0 : mk v j = 0) : gi_s4 (gh_U F 7 v j) := by
  dsimp only [gi_s4, gi_cur, gi_NR, gi_wt, gi_open, gh_Net] at *
  try simp (decide := true) only [gh_U, gh_K, gh_A_has, gh_A_cnt, gh_A_mem, false_and, true_and, and_false, or_false, if_false, if_true, and_true]
  grind (splits := 25)
theorem tt_s5 {v j : Nat} (Hs5 : gi_s5 F) (hj : own v j) (h0 : F 0 v = 1) (h7 : F 7 v = 12) (hm0 : mk v j = 0) : gi_s5 (gh_U F 7 v j) := by
  dsimp only [gi_s5, gi_cur, gi_NR, gi_wt, gi_open, gh_Net] at *
  try simp (decide := true) only [gh_U, gh_K, gh_A_has, gh_A_cnt, gh_A_mem, false_and, true_and, and_false, or_false, if_false, if_true, and_true]
  grind (splits := 25)
theorem tt_s6 {v j : Nat} (Hs6 : gi_s6 own F mk) (hj : own v j) (h0 : F 0 v = 1) (h7 : F 7 v = 12) (hm0 : mk v j = 0) : gi_s6 own (gh_U F 7 v j) mk := by
  dsimp only [gi_s6, gi_cur, gi_NR, gi_wt, gi_open, gh_Net] at *
  try simp (decide := true) only [gh_U, gh_K, gh_A_has, gh_A_cnt, gh_A_mem, false_and, true_and, and_false, or_false, if_false, if_true, and_true]
  grind (splits := 25)
theorem tt_Sr {v j : Nat} (HSr : gi_Sr o w F c) (hj : own v j) (h0 : F 0 v = 1) (h7 : F 7 v = 12) (hm0 : mk v j = 0) : gi_Sr o w (gh_U F 7 v j) (gh_A c (o v j) j (2, F 1 v, F 2 v, 0)) := by
  dsimp only [gi_Sr, gi_cur, gi_NR, gi_wt, gi_open, gh_Net] at *
  try simp (decide := true) only [gh_U, gh_K, gh_A_has, gh_A_cnt, gh_A_mem, false_and, true_and, and_false, or_false, if_false, if_true, and_true]
  grind (splits := 25)
theorem tt_Sn {v j : Nat} (HSn : gi_Sn o w F) (hj : own v j) (h0 : F 0 v = 1) (h7 : F 7 v = 12) (hm0 : mk v j = 0) : gi_Sn o w (gh_U F 7 v j) := by
  dsimp only [gi_Sn, gi_cur, gi_NR, gi_wt, gi_open, gh_Net] at *
  try simp (decide := true) only [gh_U, gh_K, gh_A_has, gh_A_cnt, gh_A_mem, false_and, true_and, and_false, or_false, if_false, if_true, and_true]
  grind (splits := 25)
theorem tt_M {v j : Nat} (HM : gi_M own o F) (hj : own v j) (h0 : F 0 v = 1) (h7 : F 7 v = 12) (hm0 : mk v j = 0) : gi_M own o (gh_U F 7 v j) := by
  dsimp only [gi_M, gi_cur, gi_NR, gi_wt, gi_open, gh_Net] at *
  try simp (decide := true) only [gh_U, gh_K, gh_A_has, gh_A_cnt, gh_A_mem, false_and, true_and, and_false, or_false, if_false, if_true, and_true]
  grind (splits := 25)
theorem tt_C {v j : Nat} (HC : gi_C own o F mk) (hj : own v j) (h0 : F 0 v = 1) (h7 : F 7 v = 12) (hm0 : mk v j = 0) : gi_C own o (gh_U F 7 v j) mk := by
  dsimp only [gi_C, gi_cur, gi_NR, gi_wt, gi_open, gh_Net] at *
  try simp (decide := true) only [gh_U, gh_K, gh_A_has, gh_A_cnt, gh_A_mem, false_and, true_and, and_false, or_false, if_false, if_true, and_true]
  grind (splits := 25)
theorem tt_ph {v j : Nat} (Hph : gi_ph F) (hj : own v j) (h0 : F 0 v = 1) (h7 : F 7 v = 12) (hm0 : mk v j = 0) : gi_ph (gh_U F 7 v j) := by
  dsimp only [gi_ph, gi_cur, gi_NR, gi_wt, gi_open, gh_Net] at *
  try simp (decide := true) only [gh_U, gh_K, gh_A_has, gh_A_cnt, gh_A_mem, false_and, true_and, and_false, or_false, if_false, if_true, and_true]
  grind (splits := 25)
theorem tt_6 {v j : Nat} (H6 : gi_6 o F c) (hj : own v j) (h0 : F 0 v = 1) (h7 : F 7 v = 12) (hm0 : mk v j = 0) : gi_6 o (gh_U F 7 v j) (gh_A c (o v j) j (2, F 1 v, F 2 v, 0)) := by
  dsimp only [gi_6, gi_cur, gi_NR, gi_wt, gi_open, gh_Net] at *
  try simp (decide := true) only [gh_U, gh_K, gh_A_has, gh_A_cnt, gh_A_mem, false_and, true_and, and_false, or_false, if_false, if_true, and_true]
  grind (splits := 25)
theorem tt_7 {v j : Nat} (H7 : gi_7 o F) (hj : own v j) (h0 : F 0 v = 1) (h7 : F 7 v = 12) (hm0 : mk v j = 0) : gi_7 o (gh_U F 7 v j) := by
  dsimp only [gi_7, gi_cur, gi_NR, gi_wt, gi_open, gh_Net] at *
  try simp (decide := true) only [gh_U, gh_K, gh_A_has, gh_A_cnt, gh_A_mem, false_and, true_and, and_false, or_false, if_false, if_true, and_true]
  grind (splits := 25)
theorem tt_bc {v j : Nat} (Hbc : gi_bc o F mk c) (hj : own v j) (h0 : F 0 v = 1) (h7 : F 7 v = 12) (hm0 : mk v j = 0) : gi_bc o (gh_U F 7 v j) mk (gh_A c (o v j) j (2, F 1 v, F 2 v, 0)) := by
  dsimp only [gi_bc, gi_cur, gi_NR, gi_wt, gi_open, gh_Net] at *
  try simp (decide := true) only [gh_U, gh_K, gh_A_has, gh_A_cnt, gh_A_mem, false_and, true_and, and_false, or_false, if_false, if_true, and_true]
  grind (splits := 25)
theorem tt_rj {v j : Nat} (Hrj : gi_rj own o F mk) (hj : own v j) (h0 : F 0 v = 1) (h7 : F 7 v = 12) (hm0 : mk v j = 0) : gi_rj own o (gh_U F 7 v j) mk := by
  dsimp only [gi_rj, gi_cur, gi_NR, gi_wt, gi_open, gh_Net] at *
  try simp (decide := true) only [gh_U, gh_K, gh_A_has, gh_A_cnt, gh_A_mem, false_and, true_and, and_false, or_false, if_false, if_true, and_true]
  grind (splits := 25)
theorem tt_sz {v j : Nat} (Hsz : gi_sz F) (hj : own v j) (h0 : F 0 v = 1) (h7 : F 7 v = 12) (hm0 : mk v j = 0) : gi_sz (gh_U F 7 v j) := by
  dsimp only [gi_sz, gi_cur, gi_NR, gi_wt, gi_open, gh_Net] at *
  try simp (decide := true) only [gh_U, gh_K, gh_A_has, gh_A_cnt, gh_A_mem, false_and, true_and, and_false, or_false, if_false, if_true, and_true]
  grind (splits := 25)
theorem tt_mi {v j : Nat} (Hn : gh_Net own o w) (hj : own v j) (h0 : F 0 v = 1) (h7 : F 7 v = 12) (hm0 : mk v j = 0) {x y e a : Nat} {m : gh_M} (hx : o y e = x) (hy : own y e) (hm : m ∈ c y e) (ha : F 1 y ≤ a) (hb : ¬ gh_has 1 (c y e) → a = F 1 y)  (h : gm_i own o w F mk c x y e a m) : gm_i own o w (gh_U F 7 v j) mk (gh_A c (o v j) j (2, F 1 v, F 2 v, 0)) x y e a m := by
  have hh : ∀ k, m.1 = k → gh_has k (c y e) := fun k hk => ⟨m, hm, hk⟩
  dsimp only [gm_i, gi_cur, gi_NR, gi_wt, gi_open, gh_Net] at *
  try simp (decide := true) only [gh_U, gh_K, gh_A_has, gh_A_cnt, gh_A_mem, false_and, true_and, and_false, or_false, if_false, if_true, and_true]
  grind (splits := 25)
theorem tt_mc {v j : Nat} (Hn : gh_Net own o w) (hj : own v j) (h0 : F 0 v = 1) (h7 : F 7 v = 12) (hm0 : mk v j = 0) {x y e a : Nat} {m : gh_M} (hx : o y e = x) (hy : own y e) (hm : m ∈ c y e) (ha : F 1 y ≤ a) (hb : ¬ gh_has 1 (c y e) → a = F 1 y)  (h : gm_c own o w F mk c x y e a m) : gm_c own o w (gh_U F 7 v j) mk (gh_A c (o v j) j (2, F 1 v, F 2 v, 0)) x y e a m := by
  have hh : ∀ k, m.1 = k → gh_has k (c y e) := fun k hk => ⟨m, hm, hk⟩
  dsimp only [gm_c, gi_cur, gi_NR, gi_wt, gi_open, gh_Net] at *
  try simp (decide := true) only [gh_U, gh_K, gh_A_has, gh_A_cnt, gh_A_mem, false_and, true_and, and_false, or_false, if_false, if_true, and_true]
  grind (splits := 25)
theorem tt_mt {v j : Nat} (Hn : gh_Net own o w) (hj : own v j) (h0 : F 0 v = 1) (h7 : F 7 v = 12) (hm0 : mk v j = 0) {x y e a : Nat} {m : gh_M} (hx : o y e = x) (hy : own y e) (hm : m ∈ c y e) (ha : F 1 y ≤ a) (hb : ¬ gh_has 1 (c y e) → a = F 1 y)  (h : gm_t own o w F mk c x y e a m) : gm_t own o w (gh_U F 7 v j) mk (gh_A c (o v j) j (2, F 1 v, F 2 v, 0)) x y e a m := by
  have hh : ∀ k, m.1 = k → gh_has k (c y e) := fun k hk => ⟨m, hm, hk⟩
  dsimp only [gm_t, gi_cur, gi_NR, gi_wt, gi_open, gh_Net] at *
  try simp (decide := true) only [gh_U, gh_K, gh_A_has, gh_A_cnt, gh_A_mem, false_and, true_and, and_false, or_false, if_false, if_true, and_true]
  grind (splits := 25)
theorem tt_ma {v j : Nat} (Hn : gh_Net own o w) (hj : own v j) (h0 : F 0 v = 1) (h7 : F 7 v = 12) (hm0 : mk v j = 0) {x y e a : Nat} {m : gh_M} (hx : o y e = x) (hy : own y e) (hm : m ∈ c y e) (ha : F 1 y ≤ a) (hb : ¬ gh_has 1 (c y e) → a = F 1 y)  (h : gm_a own o w F mk c x y e a m) : gm_a own o w (gh_U F 7 v j) mk (gh_A c (o v j) j (2, F 1 v, F 2 v, 0)) x y e a m := by
  have hh : ∀ k, m.1 = k → gh_has k (c y e) := fun k hk => ⟨m, hm, hk⟩
  dsimp only [gm_a, gi_cur, gi_NR, gi_wt, gi_open, gh_Net] at *
  try simp (decide := true) only [gh_U, gh_K, gh_A_has, gh_A_cnt, gh_A_mem, false_and, true_and, and_false, or_false, if_false, if_true, and_true]
  grind (splits := 25)
theorem tt_mr {v j : Nat} (Hn : gh_Net own o w) (hj : own v j) (h0 : F 0 v = 1) (h7 : F 7 v = 12) (hm0 : mk v j = 0) {x y e a : Nat} {m : gh_M} (hx : o y e = x) (hy : own y e) (hm : m ∈ c y e) (ha : F 1 y ≤ a) (hb : ¬ gh_has 1 (c y e) → a = F 1 y)  (h : gm_r own o w F mk c x y e a m) : gm_r own o w (gh_U F 7 v j) mk (gh_A c (o v j) j (2, F 1 v, F 2 v, 0)) x y e a m := by
  have hh : ∀ k, m.1 = k → gh_has k (c y e) := fun k hk => ⟨m, hm, hk⟩
  dsimp only [gm_r, gi_cur, gi_NR, gi_wt, gi_open, gh_Net] at *
  try simp (decide := true) only [gh_U, gh_K, gh_A_has, gh_A_cnt, gh_A_mem, false_and, true_and, and_false, or_false, if_false, if_true, and_true]
  grind (splits := 25)
theorem tt_mk {v j : Nat} (Hn : gh_Net own o w) (hj : own v j) (h0 : F 0 v = 1) (h7 : F 7 v = 12) (hm0 : mk v j = 0) {x y e a : Nat} {m : gh_M} (hx : o y e = x) (hy : own y e) (hm : m ∈ c y e) (ha : F 1 y ≤ a) (hb : ¬ gh_has 1 (c y e) → a = F 1 y)  (h : gm_k own o w F mk c x y e a m) : gm_k own o w (gh_U F 7 v j) mk (gh_A c (o v j) j (2, F 1 v, F 2 v, 0)) x y e a m := by
  have hh : ∀ k, m.1 = k → gh_has k (c y e) := fun k hk => ⟨m, hm, hk⟩
  dsimp only [gm_k, gi_cur, gi_NR, gi_wt, gi_open, gh_Net] at *
  try simp (decide := true) only [gh_U, gh_K, gh_A_has, gh_A_cnt, gh_A_mem, false_and, true_and, and_false, or_false, if_false, if_true, and_true]
  grind (splits := 25)
theorem tt_mp {v j : Nat} (Hn : gh_Net own o w) (hj : own v j) (h0 : F 0 v = 1) (h7 : F 7 v = 12) (hm0 : mk v j = 0) {x y e a : Nat} {m : gh_M} (hx : o y e = x) (hy : own y e) (hm : m ∈ c y e) (ha : F 1 y ≤ a) (hb : ¬ gh_has 1 (c y e) → a = F 1 y)  (h : gm_p own o w F mk c x y e a m) : gm_p own o w (gh_U F 7 v j) mk (gh_A c (o v j) j (2, F 1 v, F 2 v, 0)) x y e a m := by
  have hh : ∀ k, m.1 = k → gh_has k (c y e) := fun k hk => ⟨m, hm, hk⟩
  dsimp only [gm_p, gi_cur, gi_NR, gi_wt, gi_open, gh_Net] at *
  try simp (decide := true) only [gh_U, gh_K, gh_A_has, gh_A_cnt, gh_A_mem, false_and, true_and, and_false, or_false, if_false, if_true, and_true]
  grind (splits := 25)
theorem tt_new {v j : Nat} (Hn : gh_Net own o w) (hj : own v j) (h0 : F 0 v = 1) (h7 : F 7 v = 12) (hm0 : mk v j = 0)  : gm_t own o w (gh_U F 7 v j) mk (gh_A c (o v j) j (2, F 1 v, F 2 v, 0)) (o (o v j) (j)) (o v j) (j) (gh_last (F 1 (o v j)) (c (o v j) j)) (2, F 1 v, F 2 v, 0) := by
  dsimp only [gm_t, gi_cur, gi_NR, gi_wt, gi_open, gh_Net] at *
  try simp (decide := true) only [gh_U, gh_K, gh_A_has, gh_A_cnt, gh_A_mem, false_and, true_and, and_false, or_false, if_false, if_true, and_true]
  grind (splits := 30)
theorem tt_I {v j : Nat} (Hn : gh_Net own o w) (h : gI own o w F mk c) (hj : own v j) (h0 : F 0 v = 1) (h7 : F 7 v = 12) (hm0 : mk v j = 0) : gI own o w (gh_U F 7 v j) mk (gh_A c (o v j) j (2, F 1 v, F 2 v, 0)) := by
  obtain ⟨Hst, Hb1, Hb2, Hb3, Hb4, Hb5, Hb6, Hs0, HpA, Hs1, Hs2, HSl, Hs3, Hs4, How, Hs5, Hs6, HSr, HSn, HM, HC, Hph, H6, H7, Hbc, HK, Hrj, Htw, Hts, Han, Hsz, Hch⟩ := h
  have Xi := gx_iI Hch
  have Xc := gx_cI Hch
  have Xt := gx_tI Hch
  have Xa := gx_aI Hch
  have Xr := gx_rI Hch
  have Xk := gx_kI Hch
  have Xp := gx_pI Hch
  have Xl := gx_lI Hch
  have Xb := gx_bI Hch
  have Xn := gx_nI Hn Hph HpA HSr HSn HM HC
  refine ⟨tt_st Hst hj h0 h7 hm0, tt_b1 Hb1 hj h0 h7 hm0, tt_b2 Hb2 hj h0 h7 hm0, tt_b3 Hb3 hj h0 h7 hm0, tt_b4 Hb4 hj h0 h7 hm0, tt_b5 Hb5 hj h0 h7 hm0, tt_b6 Hb6 hj h0 h7 hm0, tt_s0 Hs0 hj h0 h7 hm0, tt_pA HpA hj h0 h7 hm0, tt_s1 Hs1 hj h0 h7 hm0, tt_s2 Hs2 hj h0 h7 hm0, tt_Sl HSl hj h0 h7 hm0, tt_s3 Hs3 hj h0 h7 hm0, tt_s4 Hs4 hj h0 h7 hm0, tt_ow How hj h0 h7 hm0, tt_s5 Hs5 hj h0 h7 hm0, tt_s6 Hs6 hj h0 h7 hm0, tt_Sr HSr hj h0 h7 hm0, tt_Sn HSn hj h0 h7 hm0, tt_M HM hj h0 h7 hm0, tt_C HC hj h0 h7 hm0, tt_ph Hph hj h0 h7 hm0, tt_6 H6 hj h0 h7 hm0, tt_7 H7 hj h0 h7 hm0, tt_bc Hbc hj h0 h7 hm0, tt_K HK Hn hj h0 h7 hm0, tt_rj Hrj hj h0 h7 hm0, tt_tw Htw Hn Xt hj h0 h7 hm0, tt_ts Hts Hn Xt hj h0 h7 hm0, tt_an Han Hn hj h0 h7 hm0, tt_sz Hsz hj h0 h7 hm0, ?_⟩
  have K1 : gi_all own (gh_U F 7 v j) c (fun y e => gi_m own o w (gh_U F 7 v j) mk (gh_A c (o v j) j (2, F 1 v, F 2 v, 0)) (o y e) y e) := gi_all_go (Hch) (fun _ _ q => q) (fun y => (by simp [gh_U])) (fun y e a m hy hm ha hb q => ⟨q.1, tt_mi Hn hj h0 h7 hm0 rfl hy hm ha hb q.2.1, tt_mc Hn hj h0 h7 hm0 rfl hy hm ha hb q.2.2.1, tt_mt Hn hj h0 h7 hm0 rfl hy hm ha hb q.2.2.2.1, tt_ma Hn hj h0 h7 hm0 rfl hy hm ha hb q.2.2.2.2.1, tt_mr Hn hj h0 h7 hm0 rfl hy hm ha hb q.2.2.2.2.2.1, tt_mk Hn hj h0 h7 hm0 rfl hy hm ha hb q.2.2.2.2.2.2.1, tt_mp Hn hj h0 h7 hm0 rfl hy hm ha hb q.2.2.2.2.2.2.2⟩)
  exact gi_all_appA K1 (fun hy => ⟨by simp, fun z => absurd z (by simp), fun z => absurd z (by simp), tt_new Hn hj h0 h7 hm0 , fun z => absurd z (by simp), fun z => absurd z (by simp), fun z => absurd z (by simp), fun z => absurd z (by simp)⟩)
end
section
variable {own : Nat → Nat → Prop} {o : Nat → Nat → Nat} {w : Nat → Nat} {F : gh_F} {mk : Nat → Nat → Nat} {c : Nat → Nat → List gh_M}
theorem ac_bc {v j : Nat} (Hbc : gi_bc o F mk c) (Hn : gh_Net own o w) (Hs2 : gi_s2 F) (HK : gi_K own o F mk c) (Hrj : gi_rj own o F mk) {c1 : Nat → Nat → List gh_M} {m0 : gh_M} (hj : own v j) (hT : ∀ k y e, gh_has k (c y e) ↔ gh_has k (c1 y e) ∨ (y = v ∧ e = j ∧ k = m0.1)) (hTc : ∀ k y e, gh_cnt k (c y e) = gh_cnt k (c1 y e) + if y = v ∧ e = j ∧ k = m0.1 then 1 else 0) (hTm : ∀ y e m, m ∈ c y e ↔ m ∈ c1 y e ∨ (y = v ∧ e = j ∧ m = m0)) (hTw : ¬ gh_has m0.1 (c1 v j)) (hk : m0.1 = 3) (hd : gm_a own o w F mk c (o v j) v j (F 1 v) m0) (F6 : Nat) (F5 : Nat) (hB : (F5 = F 5 v ∧ F6 = F 6 v ∧ ¬ w j < F 6 v) ∨ (F5 = j ∧ F6 = w j ∧ w j < F 6 v)) : gi_bc o (gh_U (gh_U (gh_U F 7 v 12) 5 v F5) 6 v F6) mk c1 := by
  have a0 := hd hk
  have a1 := Hs2 v a0.1.1
  have a2 := Hn.1 v j hj
  have a3 := HK v j (o v j) hj rfl
  have a4 := Hrj v j hj
  intro x b y hb hb1 hy hcu hph hw
  have b1 := Hbc x b y
  have hb5 : gh_U (gh_U (gh_U F 7 v 12) 5 v F5) 6 v F6 5 x = if x = v then F5 else F 5 x := by simp [gh_U]
  by_cases hxv : x = v
  · subst hxv
    rw [hb5, if_pos rfl] at hb
    rcases hB with ⟨q1, q2, q3⟩ | ⟨q1, q2, q3⟩
    · clear HK Hrj Hs2 Hbc Hn
      dsimp only [gi_cur, gh_U, gi_wt] at *
      grind
    · clear HK Hrj Hs2 Hbc Hn b1
      dsimp only [gi_cur, gh_U, gi_wt] at *
      grind
  · rw [hb5, if_neg hxv] at hb
    clear HK Hrj Hs2 Hbc Hn
    dsimp only [gi_cur, gh_U, gi_wt] at *
    grind
theorem ac_s4 {v j : Nat} (Hs4 : gi_s4 F) (Hn : gh_Net own o w) {c1 : Nat → Nat → List gh_M} {m0 : gh_M} (hj : own v j) (hT : ∀ k y e, gh_has k (c y e) ↔ gh_has k (c1 y e) ∨ (y = v ∧ e = j ∧ k = m0.1)) (hTc : ∀ k y e, gh_cnt k (c y e) = gh_cnt k (c1 y e) + if y = v ∧ e = j ∧ k = m0.1 then 1 else 0) (hTm : ∀ y e m, m ∈ c y e ↔ m ∈ c1 y e ∨ (y = v ∧ e = j ∧ m = m0)) (hTw : ¬ gh_has m0.1 (c1 v j)) (hk : m0.1 = 3) (hd : gm_a own o w F mk c (o v j) v j (F 1 v) m0) (F6 : Nat) (F5 : Nat) (hB : (F5 = F 5 v ∧ F6 = F 6 v ∧ ¬ w j < F 6 v) ∨ (F5 = j ∧ F6 = w j ∧ w j < F 6 v)) : gi_s4 (gh_U (gh_U (gh_U F 7 v 12) 5 v F5) 6 v F6) := by
  dsimp only [gi_s4, gm_a, gi_cur, gi_NR, gi_wt, gi_open, gh_Net] at *
  try simp (decide := true) only [gh_U, gh_K, gh_A_has, gh_A_cnt, gh_A_mem, false_and, true_and, and_false, or_false, if_false, if_true, and_true]
  grind (splits := 25)
theorem ac_ow {v j : Nat} (How : gi_ow own F) (Hn : gh_Net own o w) {c1 : Nat → Nat → List gh_M} {m0 : gh_M} (hj : own v j) (hT : ∀ k y e, gh_has k (c y e) ↔ gh_has k (c1 y e) ∨ (y = v ∧ e = j ∧ k = m0.1)) (hTc : ∀ k y e, gh_cnt k (c y e) = gh_cnt k (c1 y e) + if y = v ∧ e = j ∧ k = m0.1 then 1 else 0) (hTm : ∀ y e m, m ∈ c y e ↔ m ∈ c1 y e ∨ (y = v ∧ e = j ∧ m = m0)) (hTw : ¬ gh_has m0.1 (c1 v j)) (hk : m0.1 = 3) (hd : gm_a own o w F mk c (o v j) v j (F 1 v) m0) (F6 : Nat) (F5 : Nat) (hB : (F5 = F 5 v ∧ F6 = F 6 v ∧ ¬ w j < F 6 v) ∨ (F5 = j ∧ F6 = w j ∧ w j < F 6 v)) : gi_ow own (gh_U (gh_U (gh_U F 7 v 12) 5 v F5) 6 v F6) := by
  dsimp only [gi_ow, gm_a, gi_cur, gi_NR, gi_wt, gi_open, gh_Net] at *
  try simp (decide := true) only [gh_U, gh_K, gh_A_has, gh_A_cnt, gh_A_mem, false_and, true_and, and_false, or_false, if_false, if_true, and_true]
  grind (splits := 25)
theorem ac_ts {v j : Nat} (Hts : gi_ts own o F c) (Hn : gh_Net own o w) {c1 : Nat → Nat → List gh_M} {m0 : gh_M} (hj : own v j) (hT : ∀ k y e, gh_has k (c y e) ↔ gh_has k (c1 y e) ∨ (y = v ∧ e = j ∧ k = m0.1)) (hTc : ∀ k y e, gh_cnt k (c y e) = gh_cnt k (c1 y e) + if y = v ∧ e = j ∧ k = m0.1 then 1 else 0) (hTm : ∀ y e m, m ∈ c y e ↔ m ∈ c1 y e ∨ (y = v ∧ e = j ∧ m = m0)) (hTw : ¬ gh_has m0.1 (c1 v j)) (hk : m0.1 = 3) (hd : gm_a own o w F mk c (o v j) v j (F 1 v) m0) (F6 : Nat) (F5 : Nat) (hB : (F5 = F 5 v ∧ F6 = F 6 v ∧ ¬ w j < F 6 v) ∨ (F5 = j ∧ F6 = w j ∧ w j < F 6 v)) : gi_ts own o (gh_U (gh_U (gh_U F 7 v 12) 5 v F5) 6 v F6) c1 := by
  dsimp only [gi_ts, gm_a, gi_cur, gi_NR, gi_wt, gi_open, gh_Net] at *
  try simp (decide := true) only [gh_U, gh_K, gh_A_has, gh_A_cnt, gh_A_mem, false_and, true_and, and_false, or_false, if_false, if_true, and_true]
  grind (splits := 25)
theorem ac_M {v j : Nat} (HM : gi_M own o F) (Hn : gh_Net own o w) {c1 : Nat → Nat → List gh_M} {m0 : gh_M} (hj : own v j) (hT : ∀ k y e, gh_has k (c y e) ↔ gh_has k (c1 y e) ∨ (y = v ∧ e = j ∧ k = m0.1)) (hTc : ∀ k y e, gh_cnt k (c y e) = gh_cnt k (c1 y e) + if y = v ∧ e = j ∧ k = m0.1 then 1 else 0) (hTm : ∀ y e m, m ∈ c y e ↔ m ∈ c1 y e ∨ (y = v ∧ e = j ∧ m = m0)) (hTw : ¬ gh_has m0.1 (c1 v j)) (hk : m0.1 = 3) (hd : gm_a own o w F mk c (o v j) v j (F 1 v) m0) (F6 : Nat) (F5 : Nat) (hB : (F5 = F 5 v ∧ F6 = F 6 v ∧ ¬ w j < F 6 v) ∨ (F5 = j ∧ F6 = w j ∧ w j < F 6 v)) : gi_M own o (gh_U (gh_U (gh_U F 7 v 12) 5 v F5) 6 v F6) := by
  intro x hx y e z h1 h2 h3
  have a1 := HM x hx y e z h1 h2 h3
  have a2 := Hn.1 v j hj
  clear HM Hn
  dsimp only [gi_cur, gi_NR, gh_U] at *
  grind
theorem ac_st {v j : Nat} (Hst : gi_st F) {c1 : Nat → Nat → List gh_M} {m0 : gh_M} (hj : own v j) (hT : ∀ k y e, gh_has k (c y e) ↔ gh_has k (c1 y e) ∨ (y = v ∧ e = j ∧ k = m0.1)) (hTc : ∀ k y e, gh_cnt k (c y e) = gh_cnt k (c1 y e) + if y = v ∧ e = j ∧ k = m0.1 then 1 else 0) (hTm : ∀ y e m, m ∈ c y e ↔ m ∈ c1 y e ∨ (y = v ∧ e = j ∧ m = m0)) (hTw : ¬ gh_has m0.1 (c1 v j)) (hk : m0.1 = 3) (hd : gm_a own o w F mk c (o v j) v j (F 1 v) m0) (F6 : Nat) (F5 : Nat) (hB : (F5 = F 5 v ∧ F6 = F 6 v ∧ ¬ w j < F 6 v) ∨ (F5 = j ∧ F6 = w j ∧ w j < F 6 v)) : gi_st (gh_U (gh_U (gh_U F 7 v 12) 5 v F5) 6 v F6) := by
  dsimp only [gi_st, gm_a, gi_cur, gi_NR, gi_wt, gi_open, gh_Net] at *
  try simp (decide := true) only [gh_U, gh_K, gh_A_has, gh_A_cnt, gh_A_mem, false_and, true_and, and_false, or_false, if_false, if_true, and_true]
  grind (splits := 25)
theorem ac_b1 {v j : Nat} (Hb1 : gi_b1 F) {c1 : Nat → Nat → List gh_M} {m0 : gh_M} (hj : own v j) (hT : ∀ k y e, gh_has k (c y e) ↔ gh_has k (c1 y e) ∨ (y = v ∧ e = j ∧ k = m0.1)) (hTc : ∀ k y e, gh_cnt k (c y e) = gh_cnt k (c1 y e) + if y = v ∧ e = j ∧ k = m0.1 then 1 else 0) (hTm : ∀ y e m, m ∈ c y e ↔ m ∈ c1 y e ∨ (y = v ∧ e = j ∧ m = m0)) (hTw : ¬ gh_has m0.1 (c1 v j)) (hk : m0.1 = 3) (hd : gm_a own o w F mk c (o v j) v j (F 1 v) m0) (F6 : Nat) (F5 : Nat) (hB : (F5 = F 5 v ∧ F6 = F 6 v ∧ ¬ w j < F 6 v) ∨ (F5 = j ∧ F6 = w j ∧ w j < F 6 v)) : gi_b1 (gh_U (gh_U (gh_U F 7 v 12) 5 v F5) 6 v F6) := by
  dsimp only [gi_b1, gm_a, gi_cur, gi_NR, gi_wt, gi_open, gh_Net] at *
  try simp (decide := true) only [gh_U, gh_K, gh_A_has, gh_A_cnt, gh_A_mem, false_and, true_and, and_false, or_false, if_false, if_true, and_true]
  grind (splits := 25)
theorem ac_b2 {v j : Nat} (Hb2 : gi_b2 F) {c1 : Nat → Nat → List gh_M} {m0 : gh_M} (hj : own v j) (hT : ∀ k y e, gh_has k (c y e) ↔ gh_has k (c1 y e) ∨ (y = v ∧ e = j ∧ k = m0.1)) (hTc : ∀ k y e, gh_cnt k (c y e) = gh_cnt k (c1 y e) + if y = v ∧ e = j ∧ k = m0.1 then 1 else 0) (hTm : ∀ y e m, m ∈ c y e ↔ m ∈ c1 y e ∨ (y = v ∧ e = j ∧ m = m0)) (hTw : ¬ gh_has m0.1 (c1 v j)) (hk : m0.1 = 3) (hd : gm_a own o w F mk c (o v j) v j (F 1 v) m0) (F6 : Nat) (F5 : Nat) (hB : (F5 = F 5 v ∧ F6 = F 6 v ∧ ¬ w j < F 6 v) ∨ (F5 = j ∧ F6 = w j ∧ w j < F 6 v)) : gi_b2 (gh_U (gh_U (gh_U F 7 v 12) 5 v F5) 6 v F6) := by
  dsimp only [gi_b2, gm_a, gi_cur, gi_NR, gi_wt, gi_open, gh_Net] at *
  try simp (decide := true) only [gh_U, gh_K, gh_A_has, gh_A_cnt, gh_A_mem, false_and, true_and, and_false, or_false, if_false, if_true, and_true]
  grind (splits := 25)
theorem ac_b3 {v j : Nat} (Hb3 : gi_b3 F) {c1 : Nat → Nat → List gh_M} {m0 : gh_M} (hj : own v j) (hT : ∀ k y e, gh_has k (c y e) ↔ gh_has k (c1 y e) ∨ (y = v ∧ e = j ∧ k = m0.1)) (hTc : ∀ k y e, gh_cnt k (c y e) = gh_cnt k (c1 y e) + if y = v ∧ e = j ∧ k = m0.1 then 1 else 0) (hTm : ∀ y e m, m ∈ c y e ↔ m ∈ c1 y e ∨ (y = v ∧ e = j ∧ m = m0)) (hTw : ¬ gh_has m0.1 (c1 v j)) (hk : m0.1 = 3) (hd : gm_a own o w F mk c (o v j) v j (F 1 v) m0) (F6 : Nat) (F5 : Nat) (hB : (F5 = F 5 v ∧ F6 = F 6 v ∧ ¬ w j < F 6 v) ∨ (F5 = j ∧ F6 = w j ∧ w j < F 6 v)) : gi_b3 (gh_U (gh_U (gh_U F 7 v 12) 5 v F5) 6 v F6) := by
  dsimp only [gi_b3, gm_a, gi_cur, gi_NR, gi_wt, gi_open, gh_Net] at *
  try simp (decide := true) only [gh_U, gh_K, gh_A_has, gh_A_cnt, gh_A_mem, false_and, true_and, and_false, or_false, if_false, if_true, and_true]
  grind (splits := 25)
theorem ac_b4 {v j : Nat} (Hb4 : gi_b4 F) {c1 : Nat → Nat → List gh_M} {m0 : gh_M} (hj : own v j) (hT : ∀ k y e, gh_has k (c y e) ↔ gh_has k (c1 y e) ∨ (y = v ∧ e = j ∧ k = m0.1)) (hTc : ∀ k y e, gh_cnt k (c y e) = gh_cnt k (c1 y e) + if y = v ∧ e = j ∧ k = m0.1 then 1 else 0) (hTm : ∀ y e m, m ∈ c y e ↔ m ∈ c1 y e ∨ (y = v ∧ e = j ∧ m = m0)) (hTw : ¬ gh_has m0.1 (c1 v j)) (hk : m0.1 = 3) (hd : gm_a own o w F mk c (o v j) v j (F 1 v) m0) (F6 : Nat) (F5 : Nat) (hB : (F5 = F 5 v ∧ F6 = F 6 v ∧ ¬ w j < F 6 v) ∨ (F5 = j ∧ F6 = w j ∧ w j < F 6 v)) : gi_b4 (gh_U (gh_U (gh_U F 7 v 12) 5 v F5) 6 v F6) := by
  dsimp only [gi_b4, gm_a, gi_cur, gi_NR, gi_wt, gi_open, gh_Net] at *
  try simp (decide := true) only [gh_U, gh_K, gh_A_has, gh_A_cnt, gh_A_mem, false_and, true_and, and_false, or_false, if_false, if_true, and_true]
  grind (splits := 25)
theorem ac_b5 {v j : Nat} (Hb5 : gi_b5 own o w F) {c1 : Nat → Nat → List gh_M} {m0 : gh_M} (hj : own v j) (hT : ∀ k y e, gh_has k (c y e) ↔ gh_has k (c1 y e) ∨ (y = v ∧ e = j ∧ k = m0.1)) (hTc : ∀ k y e, gh_cnt k (c y e) = gh_cnt k (c1 y e) + if y = v ∧ e = j ∧ k = m0.1 then 1 else 0) (hTm : ∀ y e m, m ∈ c y e ↔ m ∈ c1 y e ∨ (y = v ∧ e = j ∧ m = m0)) (hTw : ¬ gh_has m0.1 (c1 v j)) (hk : m0.1 = 3) (hd : gm_a own o w F mk c (o v j) v j (F 1 v) m0) (F6 : Nat) (F5 : Nat) (hB : (F5 = F 5 v ∧ F6 = F 6 v ∧ ¬ w j < F 6 v) ∨ (F5 = j ∧ F6 = w j ∧ w j < F 6 v)) : gi_b5 own o w (gh_U (gh_U (gh_U F 7 v 12) 5 v F5) 6 v F6) := by
  dsimp only [gi_b5, gm_a, gi_cur, gi_NR, gi_wt, gi_open, gh_Net] at *
  try simp (decide := true) only [gh_U, gh_K, gh_A_has, gh_A_cnt, gh_A_mem, false_and, true_and, and_false, or_false, if_false, if_true, and_true]
  grind (splits := 25)
theorem ac_b6 {v j : Nat} (Hb6 : gi_b6 own o w F mk) {c1 : Nat → Nat → List gh_M} {m0 : gh_M} (hj : own v j) (hT : ∀ k y e, gh_has k (c y e) ↔ gh_has k (c1 y e) ∨ (y = v ∧ e = j ∧ k = m0.1)) (hTc : ∀ k y e, gh_cnt k (c y e) = gh_cnt k (c1 y e) + if y = v ∧ e = j ∧ k = m0.1 then 1 else 0) (hTm : ∀ y e m, m ∈ c y e ↔ m ∈ c1 y e ∨ (y = v ∧ e = j ∧ m = m0)) (hTw : ¬ gh_has m0.1 (c1 v j)) (hk : m0.1 = 3) (hd : gm_a own o w F mk c (o v j) v j (F 1 v) m0) (F6 : Nat) (F5 : Nat) (hB : (F5 = F 5 v ∧ F6 = F 6 v ∧ ¬ w j < F 6 v) ∨ (F5 = j ∧ F6 = w j ∧ w j < F 6 v)) : gi_b6 own o w (gh_U (gh_U (gh_U F 7 v 12) 5 v F5) 6 v F6) mk := by
  dsimp only [gi_b6, gm_a, gi_cur, gi_NR, gi_wt, gi_open, gh_Net] at *
  try simp (decide := true) only [gh_U, gh_K, gh_A_has, gh_A_cnt, gh_A_mem, false_and, true_and, and_false, or_false, if_false, if_true, and_true]
  grind (splits := 25)
theorem ac_s0 {v j : Nat} (Hs0 : gi_s0 own F mk) {c1 : Nat → Nat → List gh_M} {m0 : gh_M} (hj : own v j) (hT : ∀ k y e, gh_has k (c y e) ↔ gh_has k (c1 y e) ∨ (y = v ∧ e = j ∧ k = m0.1)) (hTc : ∀ k y e, gh_cnt k (c y e) = gh_cnt k (c1 y e) + if y = v ∧ e = j ∧ k = m0.1 then 1 else 0) (hTm : ∀ y e m, m ∈ c y e ↔ m ∈ c1 y e ∨ (y = v ∧ e = j ∧ m = m0)) (hTw : ¬ gh_has m0.1 (c1 v j)) (hk : m0.1 = 3) (hd : gm_a own o w F mk c (o v j) v j (F 1 v) m0) (F6 : Nat) (F5 : Nat) (hB : (F5 = F 5 v ∧ F6 = F 6 v ∧ ¬ w j < F 6 v) ∨ (F5 = j ∧ F6 = w j ∧ w j < F 6 v)) : gi_s0 own (gh_U (gh_U (gh_U F 7 v 12) 5 v F5) 6 v F6) mk := by
  dsimp only [gi_s0, gm_a, gi_cur, gi_NR, gi_wt, gi_open, gh_Net] at *
  try simp (decide := true) only [gh_U, gh_K, gh_A_has, gh_A_cnt, gh_A_mem, false_and, true_and, and_false, or_false, if_false, if_true, and_true]
  grind (splits := 25)
theorem ac_pA {v j : Nat} (HpA : gi_pA own F mk) {c1 : Nat → Nat → List gh_M} {m0 : gh_M} (hj : own v j) (hT : ∀ k y e, gh_has k (c y e) ↔ gh_has k (c1 y e) ∨ (y = v ∧ e = j ∧ k = m0.1)) (hTc : ∀ k y e, gh_cnt k (c y e) = gh_cnt k (c1 y e) + if y = v ∧ e = j ∧ k = m0.1 then 1 else 0) (hTm : ∀ y e m, m ∈ c y e ↔ m ∈ c1 y e ∨ (y = v ∧ e = j ∧ m = m0)) (hTw : ¬ gh_has m0.1 (c1 v j)) (hk : m0.1 = 3) (hd : gm_a own o w F mk c (o v j) v j (F 1 v) m0) (F6 : Nat) (F5 : Nat) (hB : (F5 = F 5 v ∧ F6 = F 6 v ∧ ¬ w j < F 6 v) ∨ (F5 = j ∧ F6 = w j ∧ w j < F 6 v)) : gi_pA own (gh_U (gh_U (gh_U F 7 v 12) 5 v F5) 6 v F6) mk := by
  dsimp only [gi_pA, gm_a, gi_cur, gi_NR, gi_wt, gi_open, gh_Net] at *
  try simp (decide := true) only [gh_U, gh_K, gh_A_has, gh_A_cnt, gh_A_mem, false_and, true_and, and_false, or_false, if_false, if_true, and_true]
  grind (splits := 25)
theorem ac_s1 {v j : Nat} (Hs1 : gi_s1 F) {c1 : Nat → Nat → List gh_M} {m0 : gh_M} (hj : own v j) (hT : ∀ k y e, gh_has k (c y e) ↔ gh_has k (c1 y e) ∨ (y = v ∧ e = j ∧ k = m0.1)) (hTc : ∀ k y e, gh_cnt k (c y e) = gh_cnt k (c1 y e) + if y = v ∧ e = j ∧ k = m0.1 then 1 else 0) (hTm : ∀ y e m, m ∈ c y e ↔ m ∈ c1 y e ∨ (y = v ∧ e = j ∧ m = m0)) (hTw : ¬ gh_has m0.1 (c1 v j)) (hk : m0.1 = 3) (hd : gm_a own o w F mk c (o v j) v j (F 1 v) m0) (F6 : Nat) (F5 : Nat) (hB : (F5 = F 5 v ∧ F6 = F 6 v ∧ ¬ w j < F 6 v) ∨ (F5 = j ∧ F6 = w j ∧ w j < F 6 v)) : gi_s1 (gh_U (gh_U (gh_U F 7 v 12) 5 v F5) 6 v F6) := by
  dsimp only [gi_s1, gm_a, gi_cur, gi_NR, gi_wt, gi_open, gh_Net] at *
  try simp (decide := true) only [gh_U, gh_K, gh_A_has, gh_A_cnt, gh_A_mem, false_and, true_and, and_false, or_false, if_false, if_true, and_true]
  grind (splits := 25)
theorem ac_s2 {v j : Nat} (Hs2 : gi_s2 F) {c1 : Nat → Nat → List gh_M} {m0 : gh_M} (hj : own v j) (hT : ∀ k y e, gh_has k (c y e) ↔ gh_has k (c1 y e) ∨ (y = v ∧ e = j ∧ k = m0.1)) (hTc : ∀ k y e, gh_cnt k (c y e) = gh_cnt k (c1 y e) + if y = v ∧ e = j ∧ k = m0.1 then 1 else 0) (hTm : ∀ y e m, m ∈ c y e ↔ m ∈ c1 y e ∨ (y = v ∧ e = j ∧ m = m0)) (hTw : ¬ gh_has m0.1 (c1 v j)) (hk : m0.1 = 3) (hd : gm_a own o w F mk c (o v j) v j (F 1 v) m0) (F6 : Nat) (F5 : Nat) (hB : (F5 = F 5 v ∧ F6 = F 6 v ∧ ¬ w j < F 6 v) ∨ (F5 = j ∧ F6 = w j ∧ w j < F 6 v)) : gi_s2 (gh_U (gh_U (gh_U F 7 v 12) 5 v F5) 6 v F6) := by
  dsimp only [gi_s2, gm_a, gi_cur, gi_NR, gi_wt, gi_open, gh_Net] at *
  try simp (decide := true) only [gh_U, gh_K, gh_A_has, gh_A_cnt, gh_A_mem, false_and, true_and, and_false, or_false, if_false, if_true, and_true]
  grind (splits := 25)
theorem ac_Sl {v j : Nat} (HSl : gi_Sl F) {c1 : Nat → Nat → List gh_M} {m0 : gh_M} (hj : own v j) (hT : ∀ k y e, gh_has k (c y e) ↔ gh_has k (c1 y e) ∨ (y = v ∧ e = j ∧ k = m0.1)) (hTc : ∀ k y e, gh_cnt k (c y e) = gh_cnt k (c1 y e) + if y = v ∧ e = j ∧ k = m0.1 then 1 else 0) (hTm : ∀ y e m, m ∈ c y e ↔ m ∈ c1 y e ∨ (y = v ∧ e = j ∧ m = m0)) (hTw : ¬ gh_has m0.1 (c1 v j)) (hk : m0.1 = 3) (hd : gm_a own o w F mk c (o v j) v j (F 1 v) m0) (F6 : Nat) (F5 : Nat) (hB : (F5 = F 5 v ∧ F6 = F 6 v ∧ ¬ w j < F 6 v) ∨ (F5 = j ∧ F6 = w j ∧ w j < F 6 v)) : gi_Sl (gh_U (gh_U (gh_U F 7 v 12) 5 v F5) 6 v F6) := by
  dsimp only [gi_Sl, gm_a, gi_cur, gi_NR, gi_wt, gi_open, gh_Net] at *
  try simp (decide := true) only [gh_U, gh_K, gh_A_has, gh_A_cnt, gh_A_mem, false_and, true_and, and_false, or_false, if_false, if_true, and_true]
  grind (splits := 25)
theorem ac_s3 {v j : Nat} (Hs3 : gi_s3 F) {c1 : Nat → Nat → List gh_M} {m0 : gh_M} (hj : own v j) (hT : ∀ k y e, gh_has k (c y e) ↔ gh_has k (c1 y e) ∨ (y = v ∧ e = j ∧ k = m0.1)) (hTc : ∀ k y e, gh_cnt k (c y e) = gh_cnt k (c1 y e) + if y = v ∧ e = j ∧ k = m0.1 then 1 else 0) (hTm : ∀ y e m, m ∈ c y e ↔ m ∈ c1 y e ∨ (y = v ∧ e = j ∧ m = m0)) (hTw : ¬ gh_has m0.1 (c1 v j)) (hk : m0.1 = 3) (hd : gm_a own o w F mk c (o v j) v j (F 1 v) m0) (F6 : Nat) (F5 : Nat) (hB : (F5 = F 5 v ∧ F6 = F 6 v ∧ ¬ w j < F 6 v) ∨ (F5 = j ∧ F6 = w j ∧ w j < F 6 v)) : gi_s3 (gh_U (gh_U (gh_U F 7 v 12) 5 v F5) 6 v F6) := by
  dsimp only [gi_s3, gm_a, gi_cur, gi_NR, gi_wt, gi_open, gh_Net] at *
  try simp (decide := true) only [gh_U, gh_K, gh_A_has, gh_A_cnt, gh_A_mem, false_and, true_and, and_false, or_false, if_false, if_true, and_true]
  grind (splits := 25)
theorem ac_s5 {v j : Nat} (Hs5 : gi_s5 F) {c1 : Nat → Nat → List gh_M} {m0 : gh_M} (hj : own v j) (hT : ∀ k y e, gh_has k (c y e) ↔ gh_has k (c1 y e) ∨ (y = v ∧ e = j ∧ k = m0.1)) (hTc : ∀ k y e, gh_cnt k (c y e) = gh_cnt k (c1 y e) + if y = v ∧ e = j ∧ k = m0.1 then 1 else 0) (hTm : ∀ y e m, m ∈ c y e ↔ m ∈ c1 y e ∨ (y = v ∧ e = j ∧ m = m0)) (hTw : ¬ gh_has m0.1 (c1 v j)) (hk : m0.1 = 3) (hd : gm_a own o w F mk c (o v j) v j (F 1 v) m0) (F6 : Nat) (F5 : Nat) (hB : (F5 = F 5 v ∧ F6 = F 6 v ∧ ¬ w j < F 6 v) ∨ (F5 = j ∧ F6 = w j ∧ w j < F 6 v)) : gi_s5 (gh_U (gh_U (gh_U F 7 v 12) 5 v F5) 6 v F6) := by
  dsimp only [gi_s5, gm_a, gi_cur, gi_NR, gi_wt, gi_open, gh_Net] at *
  try simp (decide := true) only [gh_U, gh_K, gh_A_has, gh_A_cnt, gh_A_mem, false_and, true_and, and_false, or_false, if_false, if_true, and_true]
  grind (splits := 25)
theorem ac_s6 {v j : Nat} (Hs6 : gi_s6 own F mk) {c1 : Nat → Nat → List gh_M} {m0 : gh_M} (hj : own v j) (hT : ∀ k y e, gh_has k (c y e) ↔ gh_has k (c1 y e) ∨ (y = v ∧ e = j ∧ k = m0.1)) (hTc : ∀ k y e, gh_cnt k (c y e) = gh_cnt k (c1 y e) + if y = v ∧ e = j ∧ k = m0.1 then 1 else 0) (hTm : ∀ y e m, m ∈ c y e ↔ m ∈ c1 y e ∨ (y = v ∧ e = j ∧ m = m0)) (hTw : ¬ gh_has m0.1 (c1 v j)) (hk : m0.1 = 3) (hd : gm_a own o w F mk c (o v j) v j (F 1 v) m0) (F6 : Nat) (F5 : Nat) (hB : (F5 = F 5 v ∧ F6 = F 6 v ∧ ¬ w j < F 6 v) ∨ (F5 = j ∧ F6 = w j ∧ w j < F 6 v)) : gi_s6 own (gh_U (gh_U (gh_U F 7 v 12) 5 v F5) 6 v F6) mk := by
  dsimp only [gi_s6, gm_a, gi_cur, gi_NR, gi_wt, gi_open, gh_Net] at *
  try simp (decide := true) only [gh_U, gh_K, gh_A_has, gh_A_cnt, gh_A_mem, false_and, true_and, and_false, or_false, if_false, if_true, and_true]
  grind (splits := 25)
theorem ac_Sr {v j : Nat} (HSr : gi_Sr o w F c) {c1 : Nat → Nat → List gh_M} {m0 : gh_M} (hj : own v j) (hT : ∀ k y e, gh_has k (c y e) ↔ gh_has k (c1 y e) ∨ (y = v ∧ e = j ∧ k = m0.1)) (hTc : ∀ k y e, gh_cnt k (c y e) = gh_cnt k (c1 y e) + if y = v ∧ e = j ∧ k = m0.1 then 1 else 0) (hTm : ∀ y e m, m ∈ c y e ↔ m ∈ c1 y e ∨ (y = v ∧ e = j ∧ m = m0)) (hTw : ¬ gh_has m0.1 (c1 v j)) (hk : m0.1 = 3) (hd : gm_a own o w F mk c (o v j) v j (F 1 v) m0) (F6 : Nat) (F5 : Nat) (hB : (F5 = F 5 v ∧ F6 = F 6 v ∧ ¬ w j < F 6 v) ∨ (F5 = j ∧ F6 = w j ∧ w j < F 6 v)) : gi_Sr o w (gh_U (gh_U (gh_U F 7 v 12) 5 v F5) 6 v F6) c1 := by
  dsimp only [gi_Sr, gm_a, gi_cur, gi_NR, gi_wt, gi_open, gh_Net] at *
  try simp (decide := true) only [gh_U, gh_K, gh_A_has, gh_A_cnt, gh_A_mem, false_and, true_and, and_false, or_false, if_false, if_true, and_true]
  grind (splits := 25)
theorem ac_Sn {v j : Nat} (HSn : gi_Sn o w F) {c1 : Nat → Nat → List gh_M} {m0 : gh_M} (hj : own v j) (hT : ∀ k y e, gh_has k (c y e) ↔ gh_has k (c1 y e) ∨ (y = v ∧ e = j ∧ k = m0.1)) (hTc : ∀ k y e, gh_cnt k (c y e) = gh_cnt k (c1 y e) + if y = v ∧ e = j ∧ k = m0.1 then 1 else 0) (hTm : ∀ y e m, m ∈ c y e ↔ m ∈ c1 y e ∨ (y = v ∧ e = j ∧ m = m0)) (hTw : ¬ gh_has m0.1 (c1 v j)) (hk : m0.1 = 3) (hd : gm_a own o w F mk c (o v j) v j (F 1 v) m0) (F6 : Nat) (F5 : Nat) (hB : (F5 = F 5 v ∧ F6 = F 6 v ∧ ¬ w j < F 6 v) ∨ (F5 = j ∧ F6 = w j ∧ w j < F 6 v)) : gi_Sn o w (gh_U (gh_U (gh_U F 7 v 12) 5 v F5) 6 v F6) := by
  dsimp only [gi_Sn, gm_a, gi_cur, gi_NR, gi_wt, gi_open, gh_Net] at *
  try simp (decide := true) only [gh_U, gh_K, gh_A_has, gh_A_cnt, gh_A_mem, false_and, true_and, and_false, or_false, if_false, if_true, and_true]
  grind (splits := 25)
theorem ac_C {v j : Nat} (HC : gi_C own o F mk) {c1 : Nat → Nat → List gh_M} {m0 : gh_M} (hj : own v j) (hT : ∀ k y e, gh_has k (c y e) ↔ gh_has k (c1 y e) ∨ (y = v ∧ e = j ∧ k = m0.1)) (hTc : ∀ k y e, gh_cnt k (c y e) = gh_cnt k (c1 y e) + if y = v ∧ e = j ∧ k = m0.1 then 1 else 0) (hTm : ∀ y e m, m ∈ c y e ↔ m ∈ c1 y e ∨ (y = v ∧ e = j ∧ m = m0)) (hTw : ¬ gh_has m0.1 (c1 v j)) (hk : m0.1 = 3) (hd : gm_a own o w F mk c (o v j) v j (F 1 v) m0) (F6 : Nat) (F5 : Nat) (hB : (F5 = F 5 v ∧ F6 = F 6 v ∧ ¬ w j < F 6 v) ∨ (F5 = j ∧ F6 = w j ∧ w j < F 6 v)) : gi_C own o (gh_U (gh_U (gh_U F 7 v 12) 5 v F5) 6 v F6) mk := by
  dsimp only [gi_C, gm_a, gi_cur, gi_NR, gi_wt, gi_open, gh_Net] at *
  try simp (decide := true) only [gh_U, gh_K, gh_A_has, gh_A_cnt, gh_A_mem, false_and, true_and, and_false, or_false, if_false, if_true, and_true]
  grind (splits := 25)
theorem ac_ph {v j : Nat} (Hph : gi_ph F) {c1 : Nat → Nat → List gh_M} {m0 : gh_M} (hj : own v j) (hT : ∀ k y e, gh_has k (c y e) ↔ gh_has k (c1 y e) ∨ (y = v ∧ e = j ∧ k = m0.1)) (hTc : ∀ k y e, gh_cnt k (c y e) = gh_cnt k (c1 y e) + if y = v ∧ e = j ∧ k = m0.1 then 1 else 0) (hTm : ∀ y e m, m ∈ c y e ↔ m ∈ c1 y e ∨ (y = v ∧ e = j ∧ m = m0)) (hTw : ¬ gh_has m0.1 (c1 v j)) (hk : m0.1 = 3) (hd : gm_a own o w F mk c (o v j) v j (F 1 v) m0) (F6 : Nat) (F5 : Nat) (hB : (F5 = F 5 v ∧ F6 = F 6 v ∧ ¬ w j < F 6 v) ∨ (F5 = j ∧ F6 = w j ∧ w j < F 6 v)) : gi_ph (gh_U (gh_U (gh_U F 7 v 12) 5 v F5) 6 v F6) := by
  dsimp only [gi_ph, gm_a, gi_cur, gi_NR, gi_wt, gi_open, gh_Net] at *
  try simp (decide := true) only [gh_U, gh_K, gh_A_has, gh_A_cnt, gh_A_mem, false_and, true_and, and_false, or_false, if_false, if_true, and_true]
  grind (splits := 25)
theorem ac_6 {v j : Nat} (H6 : gi_6 o F c) {c1 : Nat → Nat → List gh_M} {m0 : gh_M} (hj : own v j) (hT : ∀ k y e, gh_has k (c y e) ↔ gh_has k (c1 y e) ∨ (y = v ∧ e = j ∧ k = m0.1)) (hTc : ∀ k y e, gh_cnt k (c y e) = gh_cnt k (c1 y e) + if y = v ∧ e = j ∧ k = m0.1 then 1 else 0) (hTm : ∀ y e m, m ∈ c y e ↔ m ∈ c1 y e ∨ (y = v ∧ e = j ∧ m = m0)) (hTw : ¬ gh_has m0.1 (c1 v j)) (hk : m0.1 = 3) (hd : gm_a own o w F mk c (o v j) v j (F 1 v) m0) (F6 : Nat) (F5 : Nat) (hB : (F5 = F 5 v ∧ F6 = F 6 v ∧ ¬ w j < F 6 v) ∨ (F5 = j ∧ F6 = w j ∧ w j < F 6 v)) : gi_6 o (gh_U (gh_U (gh_U F 7 v 12) 5 v F5) 6 v F6) c1 := by
  dsimp only [gi_6, gm_a, gi_cur, gi_NR, gi_wt, gi_open, gh_Net] at *
  try simp (decide := true) only [gh_U, gh_K, gh_A_has, gh_A_cnt, gh_A_mem, false_and, true_and, and_false, or_false, if_false, if_true, and_true]
  grind (splits := 25)
theorem ac_7 {v j : Nat} (H7 : gi_7 o F) {c1 : Nat → Nat → List gh_M} {m0 : gh_M} (hj : own v j) (hT : ∀ k y e, gh_has k (c y e) ↔ gh_has k (c1 y e) ∨ (y = v ∧ e = j ∧ k = m0.1)) (hTc : ∀ k y e, gh_cnt k (c y e) = gh_cnt k (c1 y e) + if y = v ∧ e = j ∧ k = m0.1 then 1 else 0) (hTm : ∀ y e m, m ∈ c y e ↔ m ∈ c1 y e ∨ (y = v ∧ e = j ∧ m = m0)) (hTw : ¬ gh_has m0.1 (c1 v j)) (hk : m0.1 = 3) (hd : gm_a own o w F mk c (o v j) v j (F 1 v) m0) (F6 : Nat) (F5 : Nat) (hB : (F5 = F 5 v ∧ F6 = F 6 v ∧ ¬ w j < F 6 v) ∨ (F5 = j ∧ F6 = w j ∧ w j < F 6 v)) : gi_7 o (gh_U (gh_U (gh_U F 7 v 12) 5 v F5) 6 v F6) := by
  dsimp only [gi_7, gm_a, gi_cur, gi_NR, gi_wt, gi_open, gh_Net] at *
  try simp (decide := true) only [gh_U, gh_K, gh_A_has, gh_A_cnt, gh_A_mem, false_and, true_and, and_false, or_false, if_false, if_true, and_true]
  grind (splits := 25)
theorem ac_K {v j : Nat} (HK : gi_K own o F mk c) {c1 : Nat → Nat → List gh_M} {m0 : gh_M} (hj : own v j) (hT : ∀ k y e, gh_has k (c y e) ↔ gh_has k (c1 y e) ∨ (y = v ∧ e = j ∧ k = m0.1)) (hTc : ∀ k y e, gh_cnt k (c y e) = gh_cnt k (c1 y e) + if y = v ∧ e = j ∧ k = m0.1 then 1 else 0) (hTm : ∀ y e m, m ∈ c y e ↔ m ∈ c1 y e ∨ (y = v ∧ e = j ∧ m = m0)) (hTw : ¬ gh_has m0.1 (c1 v j)) (hk : m0.1 = 3) (hd : gm_a own o w F mk c (o v j) v j (F 1 v) m0) (F6 : Nat) (F5 : Nat) (hB : (F5 = F 5 v ∧ F6 = F 6 v ∧ ¬ w j < F 6 v) ∨ (F5 = j ∧ F6 = w j ∧ w j < F 6 v)) : gi_K own o (gh_U (gh_U (gh_U F 7 v 12) 5 v F5) 6 v F6) mk c1 := by
  dsimp only [gi_K, gm_a, gi_cur, gi_NR, gi_wt, gi_open, gh_Net] at *
  try simp (decide := true) only [gh_U, gh_K, gh_A_has, gh_A_cnt, gh_A_mem, false_and, true_and, and_false, or_false, if_false, if_true, and_true]
  grind (splits := 25)
theorem ac_rj {v j : Nat} (Hrj : gi_rj own o F mk) {c1 : Nat → Nat → List gh_M} {m0 : gh_M} (hj : own v j) (hT : ∀ k y e, gh_has k (c y e) ↔ gh_has k (c1 y e) ∨ (y = v ∧ e = j ∧ k = m0.1)) (hTc : ∀ k y e, gh_cnt k (c y e) = gh_cnt k (c1 y e) + if y = v ∧ e = j ∧ k = m0.1 then 1 else 0) (hTm : ∀ y e m, m ∈ c y e ↔ m ∈ c1 y e ∨ (y = v ∧ e = j ∧ m = m0)) (hTw : ¬ gh_has m0.1 (c1 v j)) (hk : m0.1 = 3) (hd : gm_a own o w F mk c (o v j) v j (F 1 v) m0) (F6 : Nat) (F5 : Nat) (hB : (F5 = F 5 v ∧ F6 = F 6 v ∧ ¬ w j < F 6 v) ∨ (F5 = j ∧ F6 = w j ∧ w j < F 6 v)) : gi_rj own o (gh_U (gh_U (gh_U F 7 v 12) 5 v F5) 6 v F6) mk := by
  dsimp only [gi_rj, gm_a, gi_cur, gi_NR, gi_wt, gi_open, gh_Net] at *
  try simp (decide := true) only [gh_U, gh_K, gh_A_has, gh_A_cnt, gh_A_mem, false_and, true_and, and_false, or_false, if_false, if_true, and_true]
  grind (splits := 25)
theorem ac_tw {v j : Nat} (Htw : gi_tw own c) {c1 : Nat → Nat → List gh_M} {m0 : gh_M} (hj : own v j) (hT : ∀ k y e, gh_has k (c y e) ↔ gh_has k (c1 y e) ∨ (y = v ∧ e = j ∧ k = m0.1)) (hTc : ∀ k y e, gh_cnt k (c y e) = gh_cnt k (c1 y e) + if y = v ∧ e = j ∧ k = m0.1 then 1 else 0) (hTm : ∀ y e m, m ∈ c y e ↔ m ∈ c1 y e ∨ (y = v ∧ e = j ∧ m = m0)) (hTw : ¬ gh_has m0.1 (c1 v j)) (hk : m0.1 = 3) (hd : gm_a own o w F mk c (o v j) v j (F 1 v) m0) (F6 : Nat) (F5 : Nat) (hB : (F5 = F 5 v ∧ F6 = F 6 v ∧ ¬ w j < F 6 v) ∨ (F5 = j ∧ F6 = w j ∧ w j < F 6 v)) : gi_tw own c1 := by
  dsimp only [gi_tw, gm_a, gi_cur, gi_NR, gi_wt, gi_open, gh_Net] at *
  try simp (decide := true) only [gh_U, gh_K, gh_A_has, gh_A_cnt, gh_A_mem, false_and, true_and, and_false, or_false, if_false, if_true, and_true]
  grind (splits := 25)
theorem ac_an {v j : Nat} (Han : gi_an own o F mk c) {c1 : Nat → Nat → List gh_M} {m0 : gh_M} (hj : own v j) (hT : ∀ k y e, gh_has k (c y e) ↔ gh_has k (c1 y e) ∨ (y = v ∧ e = j ∧ k = m0.1)) (hTc : ∀ k y e, gh_cnt k (c y e) = gh_cnt k (c1 y e) + if y = v ∧ e = j ∧ k = m0.1 then 1 else 0) (hTm : ∀ y e m, m ∈ c y e ↔ m ∈ c1 y e ∨ (y = v ∧ e = j ∧ m = m0)) (hTw : ¬ gh_has m0.1 (c1 v j)) (hk : m0.1 = 3) (hd : gm_a own o w F mk c (o v j) v j (F 1 v) m0) (F6 : Nat) (F5 : Nat) (hB : (F5 = F 5 v ∧ F6 = F 6 v ∧ ¬ w j < F 6 v) ∨ (F5 = j ∧ F6 = w j ∧ w j < F 6 v)) : gi_an own o (gh_U (gh_U (gh_U F 7 v 12) 5 v F5) 6 v F6) mk c1 := by
  dsimp only [gi_an, gm_a, gi_cur, gi_NR, gi_wt, gi_open, gh_Net] at *
  try simp (decide := true) only [gh_U, gh_K, gh_A_has, gh_A_cnt, gh_A_mem, false_and, true_and, and_false, or_false, if_false, if_true, and_true]
  grind (splits := 25)
theorem ac_sz {v j : Nat} (Hsz : gi_sz F) {c1 : Nat → Nat → List gh_M} {m0 : gh_M} (hj : own v j) (hT : ∀ k y e, gh_has k (c y e) ↔ gh_has k (c1 y e) ∨ (y = v ∧ e = j ∧ k = m0.1)) (hTc : ∀ k y e, gh_cnt k (c y e) = gh_cnt k (c1 y e) + if y = v ∧ e = j ∧ k = m0.1 then 1 else 0) (hTm : ∀ y e m, m ∈ c y e ↔ m ∈ c1 y e ∨ (y = v ∧ e = j ∧ m = m0)) (hTw : ¬ gh_has m0.1 (c1 v j)) (hk : m0.1 = 3) (hd : gm_a own o w F mk c (o v j) v j (F 1 v) m0) (F6 : Nat) (F5 : Nat) (hB : (F5 = F 5 v ∧ F6 = F 6 v ∧ ¬ w j < F 6 v) ∨ (F5 = j ∧ F6 = w j ∧ w j < F 6 v)) : gi_sz (gh_U (gh_U (gh_U F 7 v 12) 5 v F5) 6 v F6) := by
  dsimp only [gi_sz, gm_a, gi_cur, gi_NR, gi_wt, gi_open, gh_Net] at *
  try simp (decide := true) only [gh_U, gh_K, gh_A_has, gh_A_cnt, gh_A_mem, false_and, true_and, and_false, or_false, if_false, if_true, and_true]
  grind (splits := 25)
theorem ac_mi {v j : Nat} (Hn : gh_Net own o w) (Htw : gi_tw own c) (Hts : gi_ts own o F c) {c1 : Nat → Nat → List gh_M} {m0 : gh_M} (hj : own v j) (hT : ∀ k y e, gh_has k (c y e) ↔ gh_has k (c1 y e) ∨ (y = v ∧ e = j ∧ k = m0.1)) (hTc : ∀ k y e, gh_cnt k (c y e) = gh_cnt k (c1 y e) + if y = v ∧ e = j ∧ k = m0.1 then 1 else 0) (hTm : ∀ y e m, m ∈ c y e ↔ m ∈ c1 y e ∨ (y = v ∧ e = j ∧ m = m0)) (hTw : ¬ gh_has m0.1 (c1 v j)) (hk : m0.1 = 3) (hd : gm_a own o w F mk c (o v j) v j (F 1 v) m0) (F6 : Nat) (F5 : Nat) (hB : (F5 = F 5 v ∧ F6 = F 6 v ∧ ¬ w j < F 6 v) ∨ (F5 = j ∧ F6 = w j ∧ w j < F 6 v)) {x y e a : Nat} {m : gh_M} (hx : o y e = x) (hy : own y e) (hm : m ∈ c1 y e) (ha : F 1 y ≤ a) (hb : ¬ gh_has 1 (c y e) → a = F 1 y)  (h : gm_i own o w F mk c x y e a m) : gm_i own o w (gh_U (gh_U (gh_U F 7 v 12) 5 v F5) 6 v F6) mk c1 x y e a m := by
  have hh : ∀ k, m.1 = k → gh_has k (c1 y e) := fun k hk => ⟨m, hm, hk⟩
  dsimp only [gi_tw, gi_ts, gm_a, gm_i, gi_cur, gi_NR, gi_wt, gi_open, gh_Net] at *
  try simp (decide := true) only [gh_U, gh_K, gh_A_has, gh_A_cnt, gh_A_mem, false_and, true_and, and_false, or_false, if_false, if_true, and_true]
  grind (splits := 25)
theorem ac_mc {v j : Nat} (Hn : gh_Net own o w) (Htw : gi_tw own c) (Hts : gi_ts own o F c) {c1 : Nat → Nat → List gh_M} {m0 : gh_M} (hj : own v j) (hT : ∀ k y e, gh_has k (c y e) ↔ gh_has k (c1 y e) ∨ (y = v ∧ e = j ∧ k = m0.1)) (hTc : ∀ k y e, gh_cnt k (c y e) = gh_cnt k (c1 y e) + if y = v ∧ e = j ∧ k = m0.1 then 1 else 0) (hTm : ∀ y e m, m ∈ c y e ↔ m ∈ c1 y e ∨ (y = v ∧ e = j ∧ m = m0)) (hTw : ¬ gh_has m0.1 (c1 v j)) (hk : m0.1 = 3) (hd : gm_a own o w F mk c (o v j) v j (F 1 v) m0) (F6 : Nat) (F5 : Nat) (hB : (F5 = F 5 v ∧ F6 = F 6 v ∧ ¬ w j < F 6 v) ∨ (F5 = j ∧ F6 = w j ∧ w j < F 6 v)) {x y e a : Nat} {m : gh_M} (hx : o y e = x) (hy : own y e) (hm : m ∈ c1 y e) (ha : F 1 y ≤ a) (hb : ¬ gh_has 1 (c y e) → a = F 1 y)  (h : gm_c own o w F mk c x y e a m) : gm_c own o w (gh_U (gh_U (gh_U F 7 v 12) 5 v F5) 6 v F6) mk c1 x y e a m := by
  have hh : ∀ k, m.1 = k → gh_has k (c1 y e) := fun k hk => ⟨m, hm, hk⟩
  dsimp only [gi_tw, gi_ts, gm_a, gm_c, gi_cur, gi_NR, gi_wt, gi_open, gh_Net] at *
  try simp (decide := true) only [gh_U, gh_K, gh_A_has, gh_A_cnt, gh_A_mem, false_and, true_and, and_false, or_false, if_false, if_true, and_true]
  grind (splits := 25)
theorem ac_mt {v j : Nat} (Hn : gh_Net own o w) (Htw : gi_tw own c) (Hts : gi_ts own o F c) {c1 : Nat → Nat → List gh_M} {m0 : gh_M} (hj : own v j) (hT : ∀ k y e, gh_has k (c y e) ↔ gh_has k (c1 y e) ∨ (y = v ∧ e = j ∧ k = m0.1)) (hTc : ∀ k y e, gh_cnt k (c y e) = gh_cnt k (c1 y e) + if y = v ∧ e = j ∧ k = m0.1 then 1 else 0) (hTm : ∀ y e m, m ∈ c y e ↔ m ∈ c1 y e ∨ (y = v ∧ e = j ∧ m = m0)) (hTw : ¬ gh_has m0.1 (c1 v j)) (hk : m0.1 = 3) (hd : gm_a own o w F mk c (o v j) v j (F 1 v) m0) (F6 : Nat) (F5 : Nat) (hB : (F5 = F 5 v ∧ F6 = F 6 v ∧ ¬ w j < F 6 v) ∨ (F5 = j ∧ F6 = w j ∧ w j < F 6 v)) {x y e a : Nat} {m : gh_M} (hx : o y e = x) (hy : own y e) (hm : m ∈ c1 y e) (ha : F 1 y ≤ a) (hb : ¬ gh_has 1 (c y e) → a = F 1 y)  (h : gm_t own o w F mk c x y e a m) : gm_t own o w (gh_U (gh_U (gh_U F 7 v 12) 5 v F5) 6 v F6) mk c1 x y e a m := by
  have hh : ∀ k, m.1 = k → gh_has k (c1 y e) := fun k hk => ⟨m, hm, hk⟩
  dsimp only [gi_tw, gi_ts, gm_a, gm_t, gi_cur, gi_NR, gi_wt, gi_open, gh_Net] at *
  try simp (decide := true) only [gh_U, gh_K, gh_A_has, gh_A_cnt, gh_A_mem, false_and, true_and, and_false, or_false, if_false, if_true, and_true]
  grind (splits := 25)
theorem ac_ma {v j : Nat} (Hn : gh_Net own o w) (Htw : gi_tw own c) (Hts : gi_ts own o F c) {c1 : Nat → Nat → List gh_M} {m0 : gh_M} (hj : own v j) (hT : ∀ k y e, gh_has k (c y e) ↔ gh_has k (c1 y e) ∨ (y = v ∧ e = j ∧ k = m0.1)) (hTc : ∀ k y e, gh_cnt k (c y e) = gh_cnt k (c1 y e) + if y = v ∧ e = j ∧ k = m0.1 then 1 else 0) (hTm : ∀ y e m, m ∈ c y e ↔ m ∈ c1 y e ∨ (y = v ∧ e = j ∧ m = m0)) (hTw : ¬ gh_has m0.1 (c1 v j)) (hk : m0.1 = 3) (hd : gm_a own o w F mk c (o v j) v j (F 1 v) m0) (F6 : Nat) (F5 : Nat) (hB : (F5 = F 5 v ∧ F6 = F 6 v ∧ ¬ w j < F 6 v) ∨ (F5 = j ∧ F6 = w j ∧ w j < F 6 v)) {x y e a : Nat} {m : gh_M} (hx : o y e = x) (hy : own y e) (hm : m ∈ c1 y e) (ha : F 1 y ≤ a) (hb : ¬ gh_has 1 (c y e) → a = F 1 y)  (h : gm_a own o w F mk c x y e a m) : gm_a own o w (gh_U (gh_U (gh_U F 7 v 12) 5 v F5) 6 v F6) mk c1 x y e a m := by
  have hh : ∀ k, m.1 = k → gh_has k (c1 y e) := fun k hk => ⟨m, hm, hk⟩
  dsimp only [gi_tw, gi_ts, gm_a, gi_cur, gi_NR, gi_wt, gi_open, gh_Net] at *
  try simp (decide := true) only [gh_U, gh_K, gh_A_has, gh_A_cnt, gh_A_mem, false_and, true_and, and_false, or_false, if_false, if_true, and_true]
  grind (splits := 25)
theorem ac_mr {v j : Nat} (Hn : gh_Net own o w) (Htw : gi_tw own c) (Hts : gi_ts own o F c) {c1 : Nat → Nat → List gh_M} {m0 : gh_M} (hj : own v j) (hT : ∀ k y e, gh_has k (c y e) ↔ gh_has k (c1 y e) ∨ (y = v ∧ e = j ∧ k = m0.1)) (hTc : ∀ k y e, gh_cnt k (c y e) = gh_cnt k (c1 y e) + if y = v ∧ e = j ∧ k = m0.1 then 1 else 0) (hTm : ∀ y e m, m ∈ c y e ↔ m ∈ c1 y e ∨ (y = v ∧ e = j ∧ m = m0)) (hTw : ¬ gh_has m0.1 (c1 v j)) (hk : m0.1 = 3) (hd : gm_a own o w F mk c (o v j) v j (F 1 v) m0) (F6 : Nat) (F5 : Nat) (hB : (F5 = F 5 v ∧ F6 = F 6 v ∧ ¬ w j < F 6 v) ∨ (F5 = j ∧ F6 = w j ∧ w j < F 6 v)) {x y e a : Nat} {m : gh_M} (hx : o y e = x) (hy : own y e) (hm : m ∈ c1 y e) (ha : F 1 y ≤ a) (hb : ¬ gh_has 1 (c y e) → a = F 1 y)  (h : gm_r own o w F mk c x y e a m) : gm_r own o w (gh_U (gh_U (gh_U F 7 v 12) 5 v F5) 6 v F6) mk c1 x y e a m := by
  have hh : ∀ k, m.1 = k → gh_has k (c1 y e) := fun k hk => ⟨m, hm, hk⟩
  dsimp only [gi_tw, gi_ts, gm_a, gm_r, gi_cur, gi_NR, gi_wt, gi_open, gh_Net] at *
  try simp (decide := true) only [gh_U, gh_K, gh_A_has, gh_A_cnt, gh_A_mem, false_and, true_and, and_false, or_false, if_false, if_true, and_true]
  grind (splits := 25)
theorem ac_mk {v j : Nat} (Hn : gh_Net own o w) (Htw : gi_tw own c) (Hts : gi_ts own o F c) {c1 : Nat → Nat → List gh_M} {m0 : gh_M} (hj : own v j) (hT : ∀ k y e, gh_has k (c y e) ↔ gh_has k (c1 y e) ∨ (y = v ∧ e = j ∧ k = m0.1)) (hTc : ∀ k y e, gh_cnt k (c y e) = gh_cnt k (c1 y e) + if y = v ∧ e = j ∧ k = m0.1 then 1 else 0) (hTm : ∀ y e m, m ∈ c y e ↔ m ∈ c1 y e ∨ (y = v ∧ e = j ∧ m = m0)) (hTw : ¬ gh_has m0.1 (c1 v j)) (hk : m0.1 = 3) (hd : gm_a own o w F mk c (o v j) v j (F 1 v) m0) (F6 : Nat) (F5 : Nat) (hB : (F5 = F 5 v ∧ F6 = F 6 v ∧ ¬ w j < F 6 v) ∨ (F5 = j ∧ F6 = w j ∧ w j < F 6 v)) {x y e a : Nat} {m : gh_M} (hx : o y e = x) (hy : own y e) (hm : m ∈ c1 y e) (ha : F 1 y ≤ a) (hb : ¬ gh_has 1 (c y e) → a = F 1 y)  (h : gm_k own o w F mk c x y e a m) : gm_k own o w (gh_U (gh_U (gh_U F 7 v 12) 5 v F5) 6 v F6) mk c1 x y e a m := by
  have hh : ∀ k, m.1 = k → gh_has k (c1 y e) := fun k hk => ⟨m, hm, hk⟩
  dsimp only [gi_tw, gi_ts, gm_a, gm_k, gi_cur, gi_NR, gi_wt, gi_open, gh_Net] at *
  try simp (decide := true) only [gh_U, gh_K, gh_A_has, gh_A_cnt, gh_A_mem, false_and, true_and, and_false, or_false, if_false, if_true, and_true]
  grind (splits := 25)
theorem ac_mp {v j : Nat} (Hs2 : gi_s2 F) {c1 : Nat → Nat → List gh_M} {m0 : gh_M} (hj : own v j) (hT : ∀ k y e, gh_has k (c y e) ↔ gh_has k (c1 y e) ∨ (y = v ∧ e = j ∧ k = m0.1)) (hTc : ∀ k y e, gh_cnt k (c y e) = gh_cnt k (c1 y e) + if y = v ∧ e = j ∧ k = m0.1 then 1 else 0) (hTm : ∀ y e m, m ∈ c y e ↔ m ∈ c1 y e ∨ (y = v ∧ e = j ∧ m = m0)) (hTw : ¬ gh_has m0.1 (c1 v j)) (hk : m0.1 = 3) (hd : gm_a own o w F mk c (o v j) v j (F 1 v) m0) (F6 : Nat) (F5 : Nat) (hB : (F5 = F 5 v ∧ F6 = F 6 v ∧ ¬ w j < F 6 v) ∨ (F5 = j ∧ F6 = w j ∧ w j < F 6 v)) {x y e a : Nat} {m : gh_M} (hx : o y e = x) (hy : own y e) (hm : m ∈ c1 y e) (ha : F 1 y ≤ a) (hb : ¬ gh_has 1 (c y e) → a = F 1 y)  (h : gm_p own o w F mk c x y e a m) : gm_p own o w (gh_U (gh_U (gh_U F 7 v 12) 5 v F5) 6 v F6) mk c1 x y e a m := by
  have hh : ∀ k, m.1 = k → gh_has k (c1 y e) := fun k hk => ⟨m, hm, hk⟩
  have a1 := Hs2 v (hd hk).1.1
  clear Hs2
  dsimp only [gi_s2, gm_a, gm_p, gi_cur, gi_NR, gi_wt, gi_open, gh_Net] at *
  try simp (decide := true) only [gh_U, gh_K, gh_A_has, gh_A_cnt, gh_A_mem, false_and, true_and, and_false, or_false, if_false, if_true, and_true]
  grind (splits := 25)
theorem ac_I {v j : Nat} (Hn : gh_Net own o w) (h : gI own o w F mk c) {m0 : gh_M} {t : List gh_M} (hj : own v j) (hc : c v j = m0 :: t) (hk : m0.1 = 3) (F6 : Nat) (F5 : Nat) (hB : (F5 = F 5 v ∧ F6 = F 6 v ∧ ¬ w j < F 6 v) ∨ (F5 = j ∧ F6 = w j ∧ w j < F 6 v)) : gI own o w (gh_U (gh_U (gh_U F 7 v 12) 5 v F5) 6 v F6) mk (gh_T c v j) := by
  obtain ⟨Hst, Hb1, Hb2, Hb3, Hb4, Hb5, Hb6, Hs0, HpA, Hs1, Hs2, HSl, Hs3, Hs4, How, Hs5, Hs6, HSr, HSn, HM, HC, Hph, H6, H7, Hbc, HK, Hrj, Htw, Hts, Han, Hsz, Hch⟩ := h
  have Xi := gx_iI Hch
  have Xc := gx_cI Hch
  have Xt := gx_tI Hch
  have Xa := gx_aI Hch
  have Xr := gx_rI Hch
  have Xk := gx_kI Hch
  have Xp := gx_pI Hch
  have Xl := gx_lI Hch
  have Xb := gx_bI Hch
  have Xn := gx_nI Hn Hph HpA HSr HSn HM HC
  have hT := gp_T hc
  have hTc := gp_C hc
  have hTm := gp_M hc
  have hTw := gp_W hc Htw hj (by omega)
  have hd0 := gi_hd Hch hj hc
  have hd := hd0.2.2.2.2.1
  refine ⟨ac_st (c1 := gh_T c v j) Hst hj hT hTc hTm hTw hk hd F6 F5 hB, ac_b1 (c1 := gh_T c v j) Hb1 hj hT hTc hTm hTw hk hd F6 F5 hB, ac_b2 (c1 := gh_T c v j) Hb2 hj hT hTc hTm hTw hk hd F6 F5 hB, ac_b3 (c1 := gh_T c v j) Hb3 hj hT hTc hTm hTw hk hd F6 F5 hB, ac_b4 (c1 := gh_T c v j) Hb4 hj hT hTc hTm hTw hk hd F6 F5 hB, ac_b5 (c1 := gh_T c v j) Hb5 hj hT hTc hTm hTw hk hd F6 F5 hB, ac_b6 (c1 := gh_T c v j) Hb6 hj hT hTc hTm hTw hk hd F6 F5 hB, ac_s0 (c1 := gh_T c v j) Hs0 hj hT hTc hTm hTw hk hd F6 F5 hB, ac_pA (c1 := gh_T c v j) HpA hj hT hTc hTm hTw hk hd F6 F5 hB, ac_s1 (c1 := gh_T c v j) Hs1 hj hT hTc hTm hTw hk hd F6 F5 hB, ac_s2 (c1 := gh_T c v j) Hs2 hj hT hTc hTm hTw hk hd F6 F5 hB, ac_Sl (c1 := gh_T c v j) HSl hj hT hTc hTm hTw hk hd F6 F5 hB, ac_s3 (c1 := gh_T c v j) Hs3 hj hT hTc hTm hTw hk hd F6 F5 hB, ac_s4 (c1 := gh_T c v j) Hs4 Hn hj hT hTc hTm hTw hk hd F6 F5 hB, ac_ow (c1 := gh_T c v j) How Hn hj hT hTc hTm hTw hk hd F6 F5 hB, ac_s5 (c1 := gh_T c v j) Hs5 hj hT hTc hTm hTw hk hd F6 F5 hB, ac_s6 (c1 := gh_T c v j) Hs6 hj hT hTc hTm hTw hk hd F6 F5 hB, ac_Sr (c1 := gh_T c v j) HSr hj hT hTc hTm hTw hk hd F6 F5 hB, ac_Sn (c1 := gh_T c v j) HSn hj hT hTc hTm hTw hk hd F6 F5 hB, ac_M (c1 := gh_T c v j) HM Hn hj hT hTc hTm hTw hk hd F6 F5 hB, ac_C (c1 := gh_T c v j) HC hj hT hTc hTm hTw hk hd F6 F5 hB, ac_ph (c1 := gh_T c v j) Hph hj hT hTc hTm hTw hk hd F6 F5 hB, ac_6 (c1 := gh_T c v j) H6 hj hT hTc hTm hTw hk hd F6 F5 hB, ac_7 (c1 := gh_T c v j) H7 hj hT hTc hTm hTw hk hd F6 F5 hB, ac_bc (c1 := gh_T c v j) Hbc Hn Hs2 HK Hrj hj hT hTc hTm hTw hk hd F6 F5 hB, ac_K (c1 := gh_T c v j) HK hj hT hTc hTm hTw hk hd F6 F5 hB, ac_rj (c1 := gh_T c v j) Hrj hj hT hTc hTm hTw hk hd F6 F5 hB, ac_tw (c1 := gh_T c v j) Htw hj hT hTc hTm hTw hk hd F6 F5 hB, ac_ts (c1 := gh_T c v j) Hts Hn hj hT hTc hTm hTw hk hd F6 F5 hB, ac_an (c1 := gh_T c v j) Han hj hT hTc hTm hTw hk hd F6 F5 hB, ac_sz (c1 := gh_T c v j) Hsz hj hT hTc hTm hTw hk hd F6 F5 hB, ?_⟩
  have K1 : gi_all own (gh_U (gh_U (gh_U F 7 v 12) 5 v F5) 6 v F6) (gh_T c v j) (fun y e => gi_m own o w (gh_U (gh_U (gh_U F 7 v 12) 5 v F5) 6 v F6) mk (gh_T c v j) (o y e) y e) := gi_all_go (gi_all_popT Hch hc (by omega)) (fun y e q => (hT 1 y e).mpr (Or.inl q)) (fun y => (by simp [gh_U])) (fun y e a m hy hm ha hb q => ⟨q.1, ac_mi Hn Htw Hts hj hT hTc hTm hTw hk hd F6 F5 hB rfl hy hm ha hb q.2.1, ac_mc Hn Htw Hts hj hT hTc hTm hTw hk hd F6 F5 hB rfl hy hm ha hb q.2.2.1, ac_mt Hn Htw Hts hj hT hTc hTm hTw hk hd F6 F5 hB rfl hy hm ha hb q.2.2.2.1, ac_ma Hn Htw Hts hj hT hTc hTm hTw hk hd F6 F5 hB rfl hy hm ha hb q.2.2.2.2.1, ac_mr Hn Htw Hts hj hT hTc hTm hTw hk hd F6 F5 hB rfl hy hm ha hb q.2.2.2.2.2.1, ac_mk Hn Htw Hts hj hT hTc hTm hTw hk hd F6 F5 hB rfl hy hm ha hb q.2.2.2.2.2.2.1, ac_mp Hs2 hj hT hTc hTm hTw hk hd F6 F5 hB rfl hy hm ha hb q.2.2.2.2.2.2.2⟩)
  exact K1
end
