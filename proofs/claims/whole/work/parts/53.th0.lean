/-! The network: what an action does, by program (wip/th). -/
/-- a class goes over into v's -/
def ga_ab (F : gh_F) (v u n3 : Nat) : gh_F := fun k x => if k = 8 then (if F 8 x = F 8 u then F 8 v else F 8 x) else if k = 11 then (if F 8 x = F 8 u then F 11 v else F 11 x) else if k = 10 then (if F 8 x = F 8 u then F 10 x + F 10 v + 1 else F 10 x) else if k = 3 ∧ x = v then n3 else F k x
/-- v becomes the root, over b -/
def gh_R (F : gh_F) (v b : Nat) : gh_F := fun k x => if k = 9 then (if x = v then b else F 9 x) else if k = 10 then (if x = v then 0 else F 10 x + 1) else F k x
/-- the class's phase -/
def gh_H (F : gh_F) (g p y e : Nat) : gh_F := fun k x => if k = 13 ∧ x = g then p else if k = 14 ∧ x = g then y else if k = 15 ∧ x = g then e else F k x
/-- two classes become one, W -/
def ga_mg (F : gh_F) (v u W b : Nat) : gh_F := fun k x => if k = 8 then (if F 8 x = F 8 v ∨ F 8 x = F 8 u then W else F 8 x) else if k = 11 then (if F 8 x = F 8 v ∨ F 8 x = F 8 u then 0 else F 11 x) else if k = 9 then (if x = v then b else F 9 x) else if k = 10 then (if x = v then 0 else F 10 x + 1) else if k = 12 then (if x = W then F 1 v + 1 else F 12 x) else if k = 13 then (if x = W then 1 else F 13 x) else F k x
def gI (own : Nat → Nat → Prop) (o : Nat → Nat → Nat) (w : Nat → Nat) (F : gh_F) (mk : Nat → Nat → Nat) (c : Nat → Nat → List gh_M) : Prop :=
  gi_st F ∧ gi_b1 F ∧ gi_b2 F ∧ gi_b3 F ∧ gi_b4 F ∧ gi_b5 own o w F ∧ gi_b6 own o w F mk ∧ gi_s0 own F mk ∧ gi_pA own F mk ∧ gi_s1 F ∧ gi_s2 F ∧ gi_Sl F ∧ gi_s3 F ∧ gi_s4 F ∧ gi_ow own F ∧ gi_s5 F ∧ gi_s6 own F mk ∧ gi_Sr o w F c ∧ gi_Sn o w F ∧ gi_M own o F ∧ gi_C own o F mk ∧ gi_ph F ∧ gi_6 o F c ∧ gi_7 o F ∧ gi_bc o F mk c ∧ gi_K own o F mk c ∧ gi_rj own o F mk ∧ gi_tw own c ∧ gi_ts own o F c ∧ gi_an own o F mk c ∧ gi_sz F ∧ gi_ch own o w F mk c

theorem gp_T {c : Nat → Nat → List gh_M} {v j : Nat} {m0 : gh_M} {t : List gh_M} (h : c v j = m0 :: t) : ∀ k y e, gh_has k (c y e) ↔ gh_has k (gh_T c v j y e) ∨ (y = v ∧ e = j ∧ k = m0.1) := fun k y e => by
  rw [gh_T_has h (y' := y) (e' := e) (k := k)]
  constructor
  · rintro (z | z)
    · exact Or.inl z
    · exact Or.inr ⟨z.1, z.2.1, z.2.2.symm⟩
  · rintro (z | z)
    · exact Or.inl z
    · exact Or.inr ⟨z.1, z.2.1, z.2.2.symm⟩
theorem gp_C {c : Nat → Nat → List gh_M} {v j : Nat} {m0 : gh_M} {t : List gh_M} (h : c v j = m0 :: t) : ∀ k y e, gh_cnt k (c y e) = gh_cnt k (gh_T c v j y e) + if y = v ∧ e = j ∧ k = m0.1 then 1 else 0 := fun k y e => by
  rw [gh_T_cnt h (y' := y) (e' := e) (k := k)]
  by_cases q : m0.1 = k
  · simp [q]
  · have q2 : ¬ k = m0.1 := fun z => q z.symm
    simp [q, q2]
theorem gp_M {c : Nat → Nat → List gh_M} {v j : Nat} {m0 : gh_M} {t : List gh_M} (h : c v j = m0 :: t) : ∀ y e m, m ∈ c y e ↔ m ∈ gh_T c v j y e ∨ (y = v ∧ e = j ∧ m = m0) := fun y e m => by
  unfold gh_T gh_C
  by_cases h1 : y = v ∧ e = j
  · rw [if_pos h1, h1.1, h1.2, h, List.mem_cons, List.tail_cons]
    constructor
    · rintro (z | z)
      · exact Or.inr ⟨rfl, rfl, z⟩
      · exact Or.inl z
    · rintro (z | z)
      · exact Or.inr z
      · exact Or.inl z.2.2
  · rw [if_neg h1]
    refine ⟨Or.inl, fun z => ?_⟩
    rcases z with z | z
    · exact z
    · exact absurd ⟨z.1, z.2.1⟩ h1
theorem gp_W {own : Nat → Nat → Prop} {c : Nat → Nat → List gh_M} {v j : Nat} {m0 : gh_M} {t : List gh_M} (h : c v j = m0 :: t) (Htw : gi_tw own c) (hj : own v j) (h1 : m0.1 ≠ 1) : ¬ gh_has m0.1 (gh_T c v j v j) := fun z => by
  have z1 := gh_cnt_1 z
  have z2 := gp_C h m0.1 v j
  have z3 := Htw v j hj m0.1 h1
  rw [if_pos ⟨rfl, rfl, rfl⟩] at z2
  omega
theorem gi_all_popT {own : Nat → Nat → Prop} {F : gh_F} {c : Nat → Nat → List gh_M} {P : gh_P} {v j : Nat} {m : gh_M} {t : List gh_M} (h : gi_all own F c P) (hc : c v j = m :: t) (hm : m.1 ≠ 1) : gi_all own F (gh_T c v j) P := by
  have h1 := gi_all_pop h hc hm
  unfold gh_T
  rw [hc]
  exact h1
theorem gi_all_appA {own : Nat → Nat → Prop} {F : gh_F} {c : Nat → Nat → List gh_M} {P : gh_P} {v j : Nat} {m : gh_M} (h : gi_all own F c P) (hm : own v j → P v j (gh_last (F 1 v) (c v j)) m) : gi_all own F (gh_A c v j m) P := gi_all_app h hm
/-- the channels, message by message -/
theorem gi_all_go {own : Nat → Nat → Prop} {o : Nat → Nat → Nat} {w : Nat → Nat} {F F' : gh_F} {mk mk' : Nat → Nat → Nat} {c c1 c' : Nat → Nat → List gh_M} (h : gi_all own F c1 (fun y e => gi_m own o w F mk c (o y e) y e)) (hs : ∀ y e, gh_has 1 (c1 y e) → gh_has 1 (c y e)) (hF : ∀ y, F' 1 y = F 1 y)
    (hm : ∀ y e a m, own y e → m ∈ c1 y e → F 1 y ≤ a → (¬ gh_has 1 (c y e) → a = F 1 y) → gi_m own o w F mk c (o y e) y e a m → gi_m own o w F' mk' c' (o y e) y e a m) : gi_all own F' c1 (fun y e => gi_m own o w F' mk' c' (o y e) y e) :=
  gi_all_mono h (fun _ _ _ _ => gm_inc) hF (fun y e a m h1 h2 h3 h4 h5 => hm y e a m h1 h2 h3 (fun z => h4 (fun q => z (hs y e q))) h5)
