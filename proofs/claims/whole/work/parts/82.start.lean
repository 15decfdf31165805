/-! All nodes asleep: the invariants hold; begin, edge. -/
section GLA
variable {E : kE} {S : kS}
theorem gi_init {own : Nat → Nat → Prop} {o : Nat → Nat → Nat} {w : Nat → Nat} {F : gh_F} {mk : Nat → Nat → Nat} {c : Nat → Nat → List gh_M}
    (hF : ∀ x, F 0 x = 0 ∧ F 1 x = 0 ∧ F 2 x = 0 ∧ F 3 x = 0 ∧ F 7 x = 12 ∧ F 9 x = 12 ∧ F 8 x = 100 + x ∧ F 11 x ≤ 1 ∧ F 12 (100 + x) = 0 ∧ F 13 (100 + x) = 0 ∧ (F 5 x = 12 ↔ F 6 x = 100) ∧ F 6 x ≤ 100 ∧ (F 5 x ≠ 12 → own x (F 5 x)))
    (hm : ∀ x e, own x e → mk x e = 0) (hc : ∀ y e, own y e → c y e = []) : gI own o w F mk c := by
  have p0 : ∀ x, F 13 (F 8 x) = 0 := fun x => by rw [(hF x).2.2.2.2.2.2.1]; exact (hF x).2.2.2.2.2.2.2.2.2.1
  have l0 : ∀ x, F 12 (F 8 x) = 0 := fun x => by rw [(hF x).2.2.2.2.2.2.1]; exact (hF x).2.2.2.2.2.2.2.2.1
  have n0 : ∀ x, ¬ gi_NR o F x := fun x z => z.1 (hF x).2.2.2.2.2.1
  refine ⟨?_, ?_, ?_, ?_, ?_, ?_, ?_, ?_, ?_, ?_, ?_, ?_, ?_, ?_, ?_, ?_, ?_, ?_, ?_, ?_, ?_, ?_, ?_, ?_, ?_, ?_, ?_, ?_, ?_, ?_, ?_, ?_⟩
  · intro x; have := hF x; omega
  · intro x; have := hF x; omega
  · intro x; have := hF x; have := l0 x; omega
  · intro x
    have h := hF x
    exact ⟨fun z => by omega, fun _ => h.2.2.1⟩
  · intro x z; have := hF x; omega
  · intro x z; have := hF x; omega
  · intro x z; have := hF x; omega
  · intro x _; exact p0 x
  · intro x _; have h := hF x; exact ⟨by omega, h.2.2.2.2.2.1, fun e he => hm x e he⟩
  · intro x _; have := hF x; omega
  · intro x z; have := hF x; omega
  · intro x z; have := p0 x; omega
  · intro x _ z; have := hF x; omega
  · intro x; have h := hF x; exact ⟨h.2.2.2.2.2.2.2.2.2.2.1, h.2.2.2.2.2.2.2.2.2.2.2.1⟩
  · intro x; have h := hF x; exact ⟨h.2.2.2.2.2.2.2.2.2.2.2.2, fun z => absurd h.2.2.2.2.1 z⟩
  · intro x _ z; have := p0 x; omega
  · intro x; have h := hF x; exact ⟨fun z => by omega, fun z => absurd h.2.2.2.2.2.1 z⟩
  · intro x z; have := p0 x; omega
  · intro x z; have := p0 x; omega
  · intro x z; have := p0 x; omega
  · intro x z; have := p0 x; omega
  · intro x; have := p0 x; omega
  · intro x z; exact absurd z (n0 x)
  · intro x z; exact absurd z (n0 x)
  · intro x b y _ _ _ _ z; have := p0 x; omega
  · intro x e y he _ z; have := hm x e he; omega
  · intro x e he; have := hm x e he; exact ⟨by omega, fun z => by omega⟩
  · intro y e he k _; rw [hc y e he]; exact Nat.zero_le _
  · intro y e he z; rw [hc y e he] at z; obtain ⟨m, h1, _⟩ := z; cases h1
  · intro x z; have := hF x; omega
  · intro x hx
    refine ⟨[x], by simp, ?_, fun y hy => ?_⟩
    · rw [l0 x]; exact Nat.le_refl _
    · rw [List.mem_singleton.mp hy]; exact ⟨hx, rfl⟩
  · intro y e he; rw [hc y e he]; trivial
def gh_0 : gh_F := fun k x => if k = 4 ∨ k = 5 ∨ k = 7 ∨ k = 9 then 12 else if k = 6 then 100 else if k = 8 then 100 + x else 0
/-- begin, and a new object -/
theorem gX_0 (hf : ∀ x, S.1 x = kv0) (hm : ∀ x e, S.2.1 x e = -1) (hq : ∀ x, S.2.2.1 x = []) (h0 : E.2.1 = 0) : gX E S := by
  have no : ∀ x e, ¬ gl_own E x e := fun x e z => by have := z.1; omega
  refine ⟨gh_0, fun _ _ => 0, fun _ => [], ⟨fun x => ?_, fun x e => ⟨fun z => absurd z (no x e), fun _ => hm x e⟩, fun y => hq y, fun y p hp => absurd hp List.not_mem_nil, fun x => ?_⟩, ?_⟩
  · rw [hf x]; exact ⟨rfl, rfl, rfl, rfl, rfl, rfl, rfl, rfl⟩
  · exact Nat.le_refl 12
  · refine gi_init (fun x => ⟨rfl, rfl, rfl, rfl, rfl, rfl, rfl, Nat.zero_le _, rfl, rfl, ⟨fun _ => rfl, fun _ => rfl⟩, Nat.le_refl 100, fun z => absurd rfl z⟩) (fun x e z => absurd z (no x e)) (fun x e z => absurd z (no x e))
theorem k_rsts_m {S : kS} : ∀ k i, i < k → (k_rsts S k).2.1 i = fun _ => -1
  | 0, i, h => absurd h (Nat.not_lt_zero _)
  | k + 1, i, h => by
    show kup (k_rsts S k).2.1 k (fun _ => -1) i = _
    by_cases z : i = k
    · subst z; rw [kup_self]
    · rw [kup_ne _ _ z]; exact k_rsts_m k i (by omega)
theorem k_rsts_o {S : kS} : ∀ k i, k ≤ i → (k_rsts S k).1 i = S.1 i ∧ (k_rsts S k).2.1 i = S.2.1 i ∧ (k_rsts S k).2.2.1 i = S.2.2.1 i
  | 0, i, _ => ⟨rfl, rfl, rfl⟩
  | k + 1, i, h => by
    have z : i ≠ k := by omega
    have ih := k_rsts_o (S := S) k i (by omega)
    show kup (k_rsts S k).1 k _ i = _ ∧ kup (k_rsts S k).2.1 k _ i = _ ∧ kup (k_rsts S k).2.2.1 k _ i = _
    rw [kup_ne _ _ z, kup_ne _ _ z, kup_ne _ _ z]
    exact ih
theorem k_rsts_c {S : kS} : ∀ k, (k_rsts S k).2.2.2.1 = S.2.2.2.1 ∧ (k_rsts S k).2.2.2.2 = S.2.2.2.2
  | 0 => ⟨rfl, rfl⟩
  | k + 1 => by
    have ih := k_rsts_c (S := S) k
    refine ⟨?_, ih.2⟩
    show kup (k_rsts S k).2.2.2.1 k ((k_rsts S k).2.2.2.1 k) = _
    rw [← ih.1]
    funext i
    by_cases z : i = k
    · subst z; rw [kup_self]
    · rw [kup_ne _ _ z]
theorem gX.none (hE : kNet E) (h : gX E S) {x : Nat} (hx : E.1 ≤ x) : S.2.2.1 x = [] ∧ ∀ e, S.2.1 x e = -1 := by
  obtain ⟨F, mk, Q, ⟨hR, hI⟩⟩ := h
  have no : ∀ e, ¬ gl_own E x e := fun e z => by
    have h3 := hE.2.2.1 e z.1
    rcases z.2 with q | q <;> omega
  refine ⟨?_, fun e => (hR.2.1 x e).2 (no e)⟩
  rw [hR.2.2.1 x]
  cases hQ : Q x with
  | nil => rfl
  | cons p t => exact absurd (hR.2.2.2.1 x p (by rw [hQ]; exact List.mem_cons_self)).1 (no _)
theorem gX.begin (hE : kNet E) (h : gX E S) (hk : ∀ x, E.1 ≤ x → S.1 x = kv0) (n : Nat) : gX (n, 0, E.2.2) (k_begin S) ∧ ∀ x, (k_begin S).1 x = kv0 := by
  have h7 := hE.1
  have hf : ∀ x, (k_begin S).1 x = kv0 := fun x => by
    rcases Nat.lt_or_ge x 7 with z | z
    · exact (k_rsts_f 7 x z).1
    · exact (k_rsts_o 7 x z).1.trans (hk x (by omega))
  refine ⟨gX_0 hf (fun x e => ?_) (fun x => ?_) rfl, hf⟩
  · rcases Nat.lt_or_ge x 7 with z | z
    · exact congrFun (k_rsts_m 7 x z) e
    · exact (congrFun (k_rsts_o 7 x z).2.1 e).trans ((h.none hE (by omega)).2 e)
  · rcases Nat.lt_or_ge x 7 with z | z
    · exact (k_rsts_f 7 x z).2
    · exact (k_rsts_o 7 x z).2.2.trans (h.none hE (by omega)).1
theorem kNet.edge {a b : Nat} {w : Int32} (hE : kNet E) (ha : a < E.1) (hb : b < E.1) (hab : a ≠ b) (hw1 : 1 ≤ w) (hw2 : w ≤ 99) (hw : ∀ j, j < E.2.1 → ¬ E.2.2.2.2 j = w) (hm : E.2.1 < 12) : kNet (k_edgeE E a b w) := by
  obtain ⟨h1, h2, h3, h4⟩ := hE
  obtain ⟨u, hu, hwu⟩ := nI_of (x := w) (fun z => absurd (Int32.lt_of_le_of_lt hw1 z) (by decide))
  have u1 : 1 ≤ u := by
    rw [hwu] at hw1
    exact (nI_leI (a := 1) (by omega) (by omega)).mp hw1
  have u2 : u ≤ 99 := by
    rw [hwu] at hw2
    exact (nI_leI (b := 99) (by omega) (by omega)).mp hw2
  have g1 : gl_w (k_edgeE E a b w) E.2.1 = u := by
    show kx (kup E.2.2.2.2 E.2.1 w E.2.1) = u
    rw [kup_self, hwu, kx_nI (by omega)]
  have g2 : ∀ j, j < E.2.1 → gl_w (k_edgeE E a b w) j = gl_w E j := fun j hj => by
    show kx (kup E.2.2.2.2 E.2.1 w j) = _
    rw [kup_ne _ _ (by omega)]
    rfl
  refine ⟨h1, hm, fun j hj => ?_, fun i j hi hj hij => ?_⟩
  · have hj : j < E.2.1 + 1 := hj
    show kup E.2.2.1 E.2.1 a j < E.1 ∧ kup E.2.2.2.1 E.2.1 b j < E.1 ∧ kup E.2.2.1 E.2.1 a j ≠ kup E.2.2.2.1 E.2.1 b j ∧ kup E.2.2.2.2 E.2.1 w j = nI (gl_w (k_edgeE E a b w) j) ∧ 1 ≤ gl_w (k_edgeE E a b w) j ∧ gl_w (k_edgeE E a b w) j < 100
    by_cases z : j = E.2.1
    · subst z
      rw [kup_self, kup_self, kup_self, g1]
      exact ⟨ha, hb, hab, hwu, u1, by omega⟩
    · rw [kup_ne _ _ z, kup_ne _ _ z, kup_ne _ _ z, g2 j (by omega)]
      exact h3 j (by omega)
  · have hi : i < E.2.1 + 1 := hi
    have hj : j < E.2.1 + 1 := hj
    have old : ∀ k, k < E.2.1 → gl_w E k = u → False := fun k hk e => by
      refine hw k hk ?_
      rw [(h3 k hk).2.2.2.1, e]
      exact hwu.symm
    by_cases z : i = E.2.1
    · by_cases z2 : j = E.2.1
      · omega
      · rw [z, g1, g2 j (by omega)] at hij
        exact absurd hij.symm (fun q => old j (by omega) q)
    · by_cases z2 : j = E.2.1
      · rw [z2, g1, g2 i (by omega)] at hij
        exact absurd hij (fun q => old i (by omega) q)
      · rw [g2 i (by omega), g2 j (by omega)] at hij
        exact h4 i j (by omega) (by omega) hij
theorem gX.edge {a b : Nat} {w : Int32} (hE : kNet E) (h : gX E S) (hk : ∀ x, E.1 ≤ x → S.1 x = kv0) (ha : a < E.1) (hb : b < E.1) (hs : ∀ i, i < E.1 → S.1 i 0 = 0) : gX (k_edgeE E a b w) (k_edge E S a b) := by
  obtain ⟨F, mk, Q, ⟨hR, hI⟩⟩ := h
  have Hn := hE.net
  have h7 := hE.1
  obtain ⟨Hst, Hb1, Hb2, Hb3, Hb4, Hb5, Hb6, Hs0, HpA, Hs1, Hs2, HSl, Hs3, Hs4, How, Hs5, Hs6, HSr, HSn, HM, HC, Hph, H6, H7, Hbc, HK, Hrj, Htw, Hts, Han, Hsz, Hch⟩ := hI
  have z0 : ∀ x, F 0 x = 0 := fun x => by
    have e : S.1 x 0 = 0 := by
      rcases Nat.lt_or_ge x E.1 with z | z
      · exact hs x z
      · rw [hk x z]; rfl
    rw [(hR.1 x).1] at e
    have := (Hst x).1
    exact (nI_eq (b := 0) (by omega) (by omega)).mp e
  have p0 := fun x => Hs0 x (z0 x)
  have pA := fun x => HpA x (p0 x)
  have b2 := fun x => (Hb2 x).2.1 (pA x).1
  have l0 := fun x => (Hb2 x).1.mp (pA x).1
  have s1 := fun x => Hs1 x (by rw [z0 x]; decide)
  have ce : ∀ y e, gl_own E y e → gl_ch Q y e = [] := fun y e he => by
    cases hc : gl_ch Q y e with
    | nil => rfl
    | cons m t =>
      exfalso
      have hd := gi_hd Hch he hc
      have ho := (Hn.1 y e he).1
      have m0 := (pA (k_to E y e)).2.2 e ho
      have m1 := (pA y).2.2 e he
      have y0 := z0 y
      have x0 := z0 (k_to E y e)
      obtain ⟨d6, di, dc, dt, da, dr, dk, dp⟩ := hd
      rcases (show m.1 = 0 ∨ m.1 = 1 ∨ m.1 = 2 ∨ m.1 = 3 ∨ m.1 = 4 ∨ m.1 = 5 ∨ m.1 = 6 by omega) with z | z | z | z | z | z | z
      · have := (dc z).1; omega
      · have := (di z).2.2.1; omega
      · have q := dt z
        by_cases g : gi_wt F (k_to E y e) e
        · have := g.1; omega
        · have := (q.2 g).1.1; omega
      · have := (da z).1.1; omega
      · have := (dr z).1.1; omega
      · have q := (dp z).2
        have p1 := p0 (k_to E y e)
        rcases q with q | q | q
        · have := q.1; omega
        · have := q.1; omega
        · have := q.1; omega
      · have := (dk z).1; have := p0 y; omega
  have qe : ∀ y, Q y = [] := fun y => by
    cases hQ : Q y with
    | nil => rfl
    | cons p t =>
      have ho := (hR.2.2.2.1 y p (by rw [hQ]; exact List.mem_cons_self)).1
      have := ce y p.1 ho
      rw [gl_ch_hd hQ] at this
      cases this
  refine ⟨F, fun _ _ => 0, fun _ => [], ⟨fun x => hR.1 x, fun x e => ?_, fun y => ?_, fun y p hp => absurd hp List.not_mem_nil, hR.2.2.2.2⟩, ?_⟩
  · have em : (k_edge E S a b).2.1 x e = if e = E.2.1 ∧ (x = a ∨ x = b) then 0 else S.2.1 x e := by
      show kup (kup S.2.1 a (upd (S.2.1 a) E.2.1 0)) b (upd (kup S.2.1 a (upd (S.2.1 a) E.2.1 0) b) E.2.1 0) x e = _
      by_cases xb : x = b
      · subst xb
        rw [kup_self]
        by_cases ee : e = E.2.1
        · subst ee; rw [pk_us, if_pos ⟨rfl, Or.inr rfl⟩]
        · rw [pk_un ee, if_neg (fun z => ee z.1)]
          by_cases xa : x = a
          · subst xa; rw [kup_self, pk_un ee]
          · rw [kup_ne _ _ xa]
      · rw [kup_ne _ _ xb]
        by_cases xa : x = a
        · subst xa
          rw [kup_self]
          by_cases ee : e = E.2.1
          · subst ee; rw [pk_us, if_pos ⟨rfl, Or.inl rfl⟩]
          · rw [pk_un ee, if_neg (fun z => ee z.1)]
        · rw [kup_ne _ _ xa, if_neg (fun z => z.2.elim xa xb)]
    have ow : gl_own (k_edgeE E a b w) x e ↔ gl_own E x e ∨ (e = E.2.1 ∧ (x = a ∨ x = b)) := by
      show e < E.2.1 + 1 ∧ (kup E.2.2.1 E.2.1 a e = x ∨ kup E.2.2.2.1 E.2.1 b e = x) ↔ _
      by_cases ee : e = E.2.1
      · subst ee
        rw [kup_self, kup_self]
        exact ⟨fun z => Or.inr ⟨rfl, z.2.elim (fun q => Or.inl q.symm) (fun q => Or.inr q.symm)⟩, fun z => z.elim (fun q => absurd q.1 (Nat.lt_irrefl _)) (fun q => ⟨Nat.lt_succ_self _, q.2.elim (fun y => Or.inl y.symm) (fun y => Or.inr y.symm)⟩)⟩
      · rw [kup_ne _ _ ee, kup_ne _ _ ee]
        exact ⟨fun z => Or.inl ⟨by omega, z.2⟩, fun z => z.elim (fun q => ⟨by have := q.1; omega, q.2⟩) (fun q => absurd q.1 ee)⟩
    rw [em, ow]
    by_cases q : e = E.2.1 ∧ (x = a ∨ x = b)
    · rw [if_pos q]
      exact ⟨fun _ => rfl, fun z => absurd (Or.inr q) z⟩
    · rw [if_neg q]
      refine ⟨fun z => ?_, fun z => (hR.2.1 x e).2 (fun y => z (Or.inl y))⟩
      have ho := z.resolve_right q
      rw [(hR.2.1 x e).1 ho, (pA x).2.2 e ho]
  · show S.2.2.1 y = _
    rw [hR.2.2.1 y, qe y]
  · refine gi_init (fun x => ?_) (fun _ _ _ => rfl) (fun _ _ _ => rfl)
    have hb1 := Hb1 x
    have hl := l0 x
    have hp := p0 x
    have h8 := b2 x
    rw [h8] at hl hp hb1
    refine ⟨z0 x, by omega, (Hb3 x).2 (pA x).1, (s1 x).2, (s1 x).1, (pA x).2.1, h8, (Hst x).2, hl, hp, (Hs4 x).1, (Hs4 x).2, fun z => ?_⟩
    have ho := (How x).1 z
    refine ⟨by have := ho.1; show _ < E.2.1 + 1; omega, ?_⟩
    show kup E.2.2.1 E.2.1 a (F 5 x) = x ∨ kup E.2.2.2.1 E.2.1 b (F 5 x) = x
    have ne : F 5 x ≠ E.2.1 := by have := ho.1; omega
    rw [kup_ne _ _ ne, kup_ne _ _ ne]
    exact ho.2
end GLA
