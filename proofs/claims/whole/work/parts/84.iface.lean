/-! The room: what is made stays within it; the interface of the law's walk holds. -/
def kla (S : kS) (i : Nat) : Nat := 12 * (6 - kx (S.1 i 1)) + kas S i
def kpC (S : kS) : Nat := k_cu S + kS7 (fun i => kpc (S.2.2.2.1 i)) + kS7 (kla S)
def kpS (S : kS) : Nat := k_su S + kS7 (fun i => kps (S.2.2.2.1 i)) + 5 * kS7 (kla S)
def kcs (S : kS) : Prop := ∀ i, i < 7 → kcO (S.2.2.2.1 i)
section GPO
variable {E : kE} {S T U : kS} {v x d n e : Nat}
theorem kla_le (i : Nat) : kla S i ≤ 73 := by
  unfold kla kas
  split <;> omega
theorem qB.of (hl : ∀ i, i < 7 → (S.2.2.1 i).length ≤ 144) (hc : kcs S) : qB 0 0 (k_cu S + kS7 (fun i => kpc (S.2.2.2.1 i))) (k_su S + kS7 (fun i => kps (S.2.2.2.1 i))) S := ⟨hl, hc, Nat.le_refl _, Nat.le_refl _⟩
theorem kst.fin (h : kst d n x U T) (hd : d ≤ 18) (hx : x < 7) (hl : ∀ i, i < 7 → (U.2.2.1 i).length ≤ 144) (hc : kcs U) (hcu : k_cu U = k_cu S) (hsu : k_su U = k_su S) (hca : U.2.2.2.1 = S.2.2.2.1) (hf : ∀ i, i ≠ x → U.1 i = S.1 i) {r : Nat} (hr : r + kla T x ≤ kla S x) (hn : n ≤ r + e) : kcs T ∧ kpC T ≤ kpC S + e ∧ kpS T ≤ kpS S + 5 * e := by
  have q := h.2.2.2 0 0 _ _ (by omega) (qB.of hl hc)
  have hla := kS7_up (g := kla S) (g' := kla T) (d := r) hx (fun i hi => by unfold kla kas; rw [h.1 i hi, hf i hi]) hr
  rw [hcu, hsu, hca] at q
  obtain ⟨q1, q2, q3, q4⟩ := q
  refine ⟨q2, ?_, ?_⟩
  · unfold kpC; omega
  · unfold kpS; omega
/-- a step that is no INITIATE -/
theorem kst.fin1 (h : kst d n x U T) (hd : d ≤ 18) (hx : x < 7) (hl : ∀ i, i < 7 → (U.2.2.1 i).length ≤ 144) (hc : kcs U) (hcu : k_cu U = k_cu S) (hsu : k_su U = k_su S) (hca : U.2.2.2.1 = S.2.2.2.1) (hf : U.1 = S.1) {r : Nat} (hr : r = 0 ∨ (T.1 x 0 ≠ 0 ∧ r = kas S x)) (hn : n ≤ r + e) : kcs T ∧ kpC T ≤ kpC S + e ∧ kpS T ≤ kpS S + 5 * e := by
  refine h.fin hd hx hl hc hcu hsu hca (fun i _ => by rw [hf]) (r := r) ?_ hn
  unfold kla
  rw [h.2.1, hf]
  have : r + kas T x ≤ kas S x := by
    rcases hr with z | ⟨z1, z2⟩
    · subst z
      have h3 := h.2.2.1
      unfold kas
      rw [hf] at h3
      by_cases y : S.1 x 0 = 0
      · rw [if_pos y]; split <;> omega
      · rw [if_neg y]
        have : T.1 x 0 ≠ 0 := by
          rcases h3 with w | w
          · rw [w]; exact y
          · rw [w]; decide
        rw [if_neg this]
        exact Nat.le_refl _
    · subst z2
      have : kas T x = 0 := if_neg z1
      omega
  omega
theorem k_pop_q {l : List kM} (hq : ∃ q, S.2.2.1 v = q :: l) (hl : ∀ i, i < 7 → (S.2.2.1 i).length ≤ 144) : ∀ i, i < 7 → ((k_pop S v l).2.2.1 i).length ≤ 144 := fun i hi => by
  show (kup S.2.2.1 v l i).length ≤ 144
  have h := hl i hi
  by_cases z : i = v
  · subst z
    obtain ⟨q, hq⟩ := hq
    rw [hq] at h
    rw [kup_self]
    have h : l.length + 1 ≤ 144 := h
    omega
  · rw [kup_ne _ _ z]; exact h
theorem k_pop_c {l : List kM} : (k_pop S v l).2.2.2.1 = S.2.2.2.1 := by
  show kup S.2.2.2.1 v (S.2.2.2.1 v) = _
  funext i
  by_cases z : i = v
  · subst z; rw [kup_self]
  · rw [kup_ne _ _ z]
theorem k_ini0_g {q : kM} : (∀ i, i ≠ x → (k_ini0 S x q).1 i = S.1 i) ∧ (k_ini0 S x q).1 x 1 = q.2.2.1 ∧ (k_ini0 S x q).1 x 4 = q.2.1 := by
  unfold k_ini0
  rw [k_fgt_eq]
  refine ⟨fun i hi => ?_, ?_, ?_⟩
  · show kup _ x _ i = _
    rw [kup_ne _ _ hi]
    show kup _ x _ i = _
    rw [kup_ne _ _ hi]
    show kup _ x _ i = _
    rw [kup_ne _ _ hi]
    show kup _ x _ i = _
    rw [kup_ne _ _ hi]
    show kup _ x _ i = _
    rw [kup_ne _ _ hi]
    show kup _ x _ i = _
    rw [kup_ne _ _ hi]
  · rw [k_fld_ne (by decide), k_fld_ne (by decide), k_fld_ne (by decide), k_fld_ne (by decide), k_fld_ne (by decide), k_fld_self]
  · rw [k_fld_ne (by decide), k_fld_ne (by decide), k_fld_self]
theorem gX.cost (hE : kNet E) (hA : kA7 E) (h : gX E S) (hv : v < 7) (hc : kcs S) : (∀ i, i ≠ v → (k_first E S v).1 i = S.1 i) ∧ kcs (k_first E S v) ∧ kpC (k_first E S v) ≤ kpC S + 1 ∧ kpS (k_first E S v) ≤ kpS S + 5 * 1 := by
  have hl : ∀ i, i < 7 → (S.2.2.1 i).length ≤ 144 := fun i _ => h.len hE i
  obtain ⟨F, mk, Q, h⟩ := h
  have hqv := h.1.2.2.1 v
  cases hq : Q v with
  | nil =>
    rw [hq] at hqv
    have : k_first E S v = S := k_first_no hqv
    rw [this]
    exact ⟨fun _ _ => rfl, hc, by omega, by omega⟩
  | cons p t =>
    obtain ⟨j, m⟩ := p
    rw [hq] at hqv
    obtain ⟨ho, hsh⟩ := h.1.2.2.2.1 v (j, m) (by rw [hq]; exact List.mem_cons_self)
    have hch : gl_ch Q v j = m :: gl_c t j := gl_ch_hd hq
    have hb := gl_hd hE h.2 ho hch
    have hd := gi_hd h.2.2.2.2.2.2.2.2.2.2.2.2.2.2.2.2.2.2.2.2.2.2.2.2.2.2.2.2.2.2.2.2 ho hch
    have e : k_first E S v = k_hand E (k_pop S v (t.map gl_m)) v (gl_m (j, m)) := by
      unfold k_first
      rw [hqv]
      rfl
    rw [e]
    have pl := k_pop_q (l := t.map gl_m) ⟨_, hqv⟩ hl
    have pc : (k_pop S v (t.map gl_m)).2.2.2.1 = S.2.2.2.1 := k_pop_c
    have pk : kcs (k_pop S v (t.map gl_m)) := by unfold kcs; rw [pc]; exact hc
    have key : ∀ {d n : Nat} {T : kS}, kst d n v (k_pop S v (t.map gl_m)) T → d ≤ 18 → ∀ r, (r = 0 ∨ (T.1 v 0 ≠ 0 ∧ r = kas S v)) → n ≤ r + 1 → (∀ i, i ≠ v → T.1 i = S.1 i) ∧ kcs T ∧ kpC T ≤ kpC S + 1 ∧ kpS T ≤ kpS S + 5 * 1 := fun {d n T} hk hd r hr hn => ⟨fun i hi => hk.1 i hi, hk.fin1 hd hv pl pk rfl rfl pc rfl hr hn⟩
    unfold k_hand
    show _ ∧ _
    rw [show (gl_m (j, m)).1 = nI m.1 from rfl]
    rcases (show m.1 = 0 ∨ m.1 = 1 ∨ m.1 = 2 ∨ m.1 = 3 ∨ m.1 = 4 ∨ m.1 = 5 ∨ m.1 = 6 by have := hb.1; omega) with z | z | z | z | z | z | z
    · rw [z, if_pos (by decide)]
      have k1 := kst.conn (S := k_pop S v (t.map gl_m)) (q := gl_m (j, m)) hA hv
      exact key k1.1 (by omega) (kas S v) (Or.inr ⟨k1.2, rfl⟩) (by show 1 + kas S v ≤ _; omega)
    · rw [z, if_neg (by decide), if_pos (by decide)]
      have f0 := k_ini0_g (S := k_pop S v (t.map gl_m)) (x := v) (q := gl_m (j, m))
      have hm := hE.2.1
      have k1 := kst.inis (S := k_ini0 (k_pop S v (t.map gl_m)) v (gl_m (j, m))) hA f0.2.2 E.2.1
      rw [if_pos ho.1] at k1
      have k2 : kst (E.2.1 + 1) (E.2.1 - 1 + 1) v (k_ini0 (k_pop S v (t.map gl_m)) v (gl_m (j, m))) (k_init E (k_pop S v (t.map gl_m)) v (gl_m (j, m))) := by
        unfold k_init
        split
        · exact k1.trans (kst.test hA)
        · exact k1.mono (by omega) (by omega)
      have e1 : (k_init E (k_pop S v (t.map gl_m)) v (gl_m (j, m))).1 v 1 = nI m.2.1 := k2.2.1.trans f0.2.1
      have l1 := (hd.2.1 z).1
      have l2 := (hb.2.2.1 z).1
      refine ⟨fun i hi => (k2.1 i hi).trans (f0.1 i hi), k2.fin (S := S) (by omega) hv pl pk rfl rfl pc (fun i hi => f0.1 i hi) (r := 11) ?_ (by omega)⟩
      unfold kla
      rw [e1, (h.1.1 v).2.1, kx_nI (by omega), kx_nI (by omega)]
      have : kas (k_init E (k_pop S v (t.map gl_m)) v (gl_m (j, m))) v ≤ 1 := by unfold kas; split <;> omega
      omega
    · rw [z, if_neg (by decide), if_neg (by decide), if_pos (by decide)]
      have k1 := kst.tst (S := k_pop S v (t.map gl_m)) (q := gl_m (j, m)) hA hv
      exact key k1.1 (by omega) (kas S v) (Or.inr ⟨k1.2, rfl⟩) (by show 1 + kas S v ≤ _; omega)
    · rw [z, if_neg (by decide), if_neg (by decide), if_neg (by decide), if_pos (by decide)]
      exact key (kst.acc hA) (by omega) 0 (Or.inl rfl) (by omega)
    · rw [z, if_neg (by decide), if_neg (by decide), if_neg (by decide), if_neg (by decide), if_pos (by decide)]
      exact key (kst.rjt hA) (by omega) 0 (Or.inl rfl) (by omega)
    · rw [z, if_neg (by decide), if_neg (by decide), if_neg (by decide), if_neg (by decide), if_neg (by decide), if_pos (by decide)]
      exact key (kst.rep hA hv) (by omega) 0 (Or.inl rfl) (by omega)
    · rw [z, if_neg (by decide), if_neg (by decide), if_neg (by decide), if_neg (by decide), if_neg (by decide), if_neg (by decide)]
      exact key (kst.move hA) (by omega) 0 (Or.inl rfl) (by omega)
/-- the state between two calls -/
def kJv (E : kE) (S : kS) : Prop := gX E S ∧ (∀ x, E.1 ≤ x → S.1 x = kv0) ∧ kcs S
theorem kJv.first (hE : kNet E) (hA : kA7 E) (h : kJv E S) (hv : v < E.1) : kJv E (k_first E S v) ∧ kpC (k_first E S v) ≤ kpC S + 1 ∧ kpS (k_first E S v) ≤ kpS S + 5 * 1 := by
  obtain ⟨h1, h2, h3⟩ := h
  have h7 := hE.1
  obtain ⟨c1, c2, c3, c4⟩ := h1.cost hE hA (v := v) (by omega) h3
  exact ⟨⟨st_first hE h1 (by omega), fun x hx => (c1 x (by omega)).trans (h2 x hx), c2⟩, c3, c4⟩
theorem kJv.wake (hE : kNet E) (hA : kA7 E) (h : kJv E S) (hv : v < E.1) : kJv E (k_wake E S v) ∧ kpC (k_wake E S v) ≤ kpC S ∧ kpS (k_wake E S v) ≤ kpS S := by
  obtain ⟨h1, h2, h3⟩ := h
  have h7 := hE.1
  have k := kst.wake (S := S) (x := v) hA
  obtain ⟨c1, c2, c3⟩ := k.1.fin1 (S := S) (e := 0) (by omega) (by omega) (fun i _ => h1.len hE i) h3 rfl rfl rfl rfl (Or.inr ⟨k.2, rfl⟩) (by omega)
  exact ⟨⟨(by obtain ⟨F, mk, Q, h⟩ := h1; obtain ⟨F', mk', Q', w, -⟩ := st_wake hE h (v := v) (by omega); exact ⟨F', mk', Q', w⟩), fun x hx => (k.1.1 x (by omega)).trans (h2 x hx), c1⟩, c2, c3⟩
theorem kJv.run (hE : kNet E) (hA : kA7 E) {most : Nat} : ∀ (d : Nat) (S : kS) (a h : Nat), kJv E S → a < E.1 → h ≤ most → kJv E (k_run E most d S a h).1 ∧ kpC (k_run E most d S a h).1 ≤ kpC S + (most - h) ∧ kpS (k_run E most d S a h).1 ≤ kpS S + 5 * (most - h)
  | 0, S, a, h, hS, _, _ => ⟨hS, by show kpC S ≤ _; omega, by show kpS S ≤ _; omega⟩
  | d + 1, S, a, h, hS, ha, hh => by
    show kJv E (if _ then _ else _ : kS × Nat).1 ∧ kpC (if _ then _ else _ : kS × Nat).1 ≤ _ ∧ kpS (if _ then _ else _ : kS × Nat).1 ≤ _
    by_cases hc : h < most ∧ 0 < k_left S E.1
    · rw [if_pos hc]
      obtain ⟨f1, f2, f3⟩ := hS.first hE hA ha
      have hx : k_nx E a < E.1 := by unfold k_nx; split <;> omega
      by_cases hk : k_fk S a = -1
      · have e1 : k_nh S a h = h := if_pos hk
        have e2 : k_first E S a = S := k_first_no (hS.1.fk hE hk)
        rw [e1, e2]
        exact kJv.run hE hA d S (k_nx E a) h hS hx hh
      · have e1 : k_nh S a h = h + 1 := if_neg hk
        rw [e1]
        obtain ⟨r1, r2, r3⟩ := kJv.run hE hA d (k_first E S a) (k_nx E a) (h + 1) f1 hx hc.1
        exact ⟨r1, by omega, by omega⟩
    · rw [if_neg hc]
      exact ⟨hS, by show kpC S ≤ _; omega, by show kpS S ≤ _; omega⟩
def kIv (k : Nat) (E : kE) (S : kS) : Prop := kNet E ∧ kA7 E ∧ kJv E S ∧ kpC S ≤ 567 + 999 * k ∧ kpS S ≤ 5873 + 4995 * k
theorem k_begin_p : k_cu (k_begin S) = k_cu S ∧ k_su (k_begin S) = k_su S ∧ (k_begin S).2.2.2.1 = S.2.2.2.1 := by
  have h := k_rsts_c (S := S) 7
  have e : (k_begin S).2.2.2.1 = (k_rsts S 7).2.2.2.1 := rfl
  have e1 : k_cu (k_begin S) = (k_rsts S 7).2.2.2.2.2.1 := rfl
  have e2 : k_su (k_begin S) = (k_rsts S 7).2.2.2.2.2.2 := rfl
  rw [e, e1, e2, h.1, h.2]
  exact ⟨rfl, rfl, rfl⟩
theorem kIv_if : kIf kIv := by
  refine ⟨?_, fun k E S h => ?_, fun k E S n h hn1 hn7 => ?_, fun k E S a b w h ha hb hab hw1 hw2 hw hs hm => ?_, fun k E S v h hv => ?_, fun k E S v most h hv hm => ?_, fun k E S hk h => ?_⟩
  · refine ⟨⟨by decide, by decide, fun j hj => absurd hj (Nat.not_lt_zero _), fun i j hi => absurd hi (Nat.not_lt_zero _)⟩, fun j => ⟨by show 0 < 7; omega, by show 0 < 7; omega⟩, ⟨gX_0 (fun _ => rfl) (fun _ _ => rfl) (fun _ => rfl) rfl, fun _ _ => rfl, fun _ _ => Or.inl rfl⟩, by decide, by decide⟩
  · obtain ⟨hE, hA, ⟨h1, h2, h3⟩, h4, h5⟩ := h
    exact ⟨hE.1, hE.2.1, h1.pr hE, fun i _ => by have := h1.len hE i; omega, fun v j _ _ ho => h1.no ho, hE, hA, ⟨h1, h2, h3⟩, by omega, by omega⟩
  · obtain ⟨hE, hA, ⟨h1, h2, h3⟩, h4, h5⟩ := h
    obtain ⟨b1, b2⟩ := h1.begin hE h2 n
    obtain ⟨p1, p2, p3⟩ := k_begin_p (S := S)
    have hla := kS7_le (g := kla (k_begin S)) (B := 73) kla_le
    refine ⟨⟨hn7, Nat.zero_le _, fun j hj => absurd hj (Nat.not_lt_zero _), fun i j hi => absurd hi (Nat.not_lt_zero _)⟩, hA, ⟨b1, fun x _ => b2 x, by unfold kcs; rw [p3]; exact h3⟩, ?_, ?_⟩
    · unfold kpC at h4 ⊢
      rw [p1, p3]
      omega
    · unfold kpS at h5 ⊢
      rw [p2, p3]
      omega
  · obtain ⟨hE, hA, ⟨h1, h2, h3⟩, h4, h5⟩ := h
    have h7 := hE.1
    refine ⟨hE.edge ha hb hab hw1 hw2 hw hm, fun j => ?_, ⟨h1.edge hE h2 ha hb hs, h2, h3⟩, ?_, ?_⟩
    · show kup E.2.2.1 E.2.1 a j < 7 ∧ kup E.2.2.2.1 E.2.1 b j < 7
      by_cases z : j = E.2.1
      · subst z; rw [kup_self, kup_self]; omega
      · rw [kup_ne _ _ z, kup_ne _ _ z]; exact hA j
    · show kpC S ≤ _; omega
    · show kpS S ≤ _; omega
  · obtain ⟨hE, hA, hJ, h4, h5⟩ := h
    obtain ⟨w1, w2, w3⟩ := hJ.wake hE hA hv
    obtain ⟨f1, f2, f3⟩ := hJ.first hE hA hv
    exact ⟨⟨hE, hA, w1, by omega, by omega⟩, ⟨hE, hA, f1, by omega, by omega⟩⟩
  · obtain ⟨hE, hA, hJ, h4, h5⟩ := h
    obtain ⟨r1, r2, r3⟩ := kJv.run hE hA (most * E.1) S v 0 hJ hv (Nat.zero_le most)
    refine ⟨⟨hE, hA, r1, by omega, by omega⟩, gX E, hJ.1, fun T hT => ⟨hT.pr hE, fun i _ => by have := hT.len hE i; omega⟩, fun T a hT ha => st_first hE hT (by have := hE.1; omega), fun T a hT ha hk => hT.fk hE hk⟩
  · obtain ⟨hE, hA, hJ, h4, h5⟩ := h
    unfold kpC at h4
    unfold kpS at h5
    exact ⟨by omega, by omega⟩
end GPO
