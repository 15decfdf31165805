/-! The class's queues: what add and remove do to the relation; pure steps. -/
def kx (a : Int32) : Nat := a.toNatClampNeg
theorem kx_nI {j : Nat} (h : j < 2 ^ 31) : kx (nI j) = j := nI_clamp h
def k_to (E : kE) (x j : Nat) : Nat := if E.2.2.1 j = x then E.2.2.2.1 j else E.2.2.1 j
def k_fld (S : kS) (x k : Nat) (a : Int32) : kS := (kup S.1 x (upd (S.1 x) k a), S.2)
def k_mark (S : kS) (x j : Nat) (a : Int32) : kS := (S.1, kup S.2.1 x (upd (S.2.1 x) j a), S.2.2)
def k_setq (S : kS) (i cap : Nat) (l : List kM) : kS := (S.1, S.2.1, kup S.2.2.1 i l, kup S.2.2.2.1 i cap, S.2.2.2.2)
def k_cu (S : kS) : Nat := S.2.2.2.2.2.1
def k_su (S : kS) : Nat := S.2.2.2.2.2.2
def k_use (S : kS) (n s : Nat) : kS := (S.1, S.2.1, S.2.2.1, S.2.2.2.1, S.2.2.2.2.1, k_cu S + n, k_su S + s)
def k_add (S : kS) (i : Nat) (q : kM) : kS := k_use (k_setq S i (kcap (S.2.2.1 i).length (S.2.2.2.1 i)) (S.2.2.1 i ++ [q])) (kmc (S.2.2.1 i).length (S.2.2.2.1 i)) (kms (S.2.2.1 i).length (S.2.2.2.1 i))
def k_sent (S : kS) : kS := (S.1, S.2.1, S.2.2.1, S.2.2.2.1, S.2.2.2.2.1 + 1, S.2.2.2.2.2)
def k_send (E : kE) (S : kS) (x : Nat) (q : kM) : kS := k_sent (k_add S (k_to E x (kx q.2.1)) q)
/-- a new message is sent -/
def k_post (E : kE) (S : kS) (x : Nat) (q : kM) : kS := k_send E (k_use S 1 5) x q
def k_qc (S : kS) (i : Nat) : Nat := kmc (S.2.2.1 i).length (S.2.2.2.1 i)
def k_qs (S : kS) (i : Nat) : Nat := kms (S.2.2.1 i).length (S.2.2.2.1 i)
/-- what a method of the class leaves: what is not the class's, and all messages -/
def kFr (τ : Nat → Nat) (L : List Nat) (f : Nat → va_E) (τ' : Nat → Nat) (u : hp_U) : Prop :=
  ∀ b, b ∈ L → b ∈ u.1 ∧ ((100 ≤ τ b ∨ τ b = 5) → u.2 b = f b ∧ τ' b = τ b)
def kP (cI cO cN : ClassId) (de : Nat) (ad τ : Nat → Nat) (L : List Nat) (f : Nat → va_E) (E : kE) (S : kS) (u : hp_U) : Prop :=
  ∃ τ' : Nat → Nat, kG cI cO cN de ad τ' u.1 u.2 E S ∧ kFr τ L f τ' u
section KQ
variable {K : Nat} {cI cO cN : ClassId} {de : Nat} {ad τ : Nat → Nat} {L : List Nat} {f : Nat → va_E} {E : kE} {S : kS}
theorem kFr.rf : kFr τ L f τ (L, f) := fun b hb => ⟨hb, fun _ => ⟨rfl, rfl⟩⟩
theorem kFr.trans {τ1 τ2 : Nat → Nat} {u w : hp_U} (h1 : kFr τ L f τ1 u) (h2 : kFr τ1 u.1 u.2 τ2 w) : kFr τ L f τ2 w := by
  intro b hb
  obtain ⟨a1, a2⟩ := h1 b hb
  obtain ⟨b1, b2⟩ := h2 b a1
  refine ⟨b1, fun ht => ?_⟩
  obtain ⟨a3, a4⟩ := a2 ht
  obtain ⟨b3, b4⟩ := b2 (by rw [a4]; exact ht)
  exact ⟨b3.trans a3, b4.trans a4⟩
/-- one cell of the class is written -/
theorem kFr.w {f1 : Nat → va_E} {a t : Nat} {e : va_E} (hf : f1 = va_up f a e) (ht : τ a = t) (h1 : t < 100) (h5 : t ≠ 5) : kFr τ L f τ (L, f1) := fun b hb => ⟨hb, fun hb2 => ⟨by
  have hne : b ≠ a := by
    intro z
    subst z
    omega
  dsimp only
  rw [hf, va_up_ne _ _ hne], rfl⟩⟩
/-- a cell is made -/
theorem kFr.push {L1 : List Nat} {f1 : Nat → va_E} {a t : Nat} {e : va_E} (hL : L1 = L ++ [a]) (hf : f1 = va_up f a e) (ha : a ∉ L) : kFr τ L f (kup τ a t) (L1, f1) := fun b hb => by
  have hne : b ≠ a := fun z => ha (z ▸ hb)
  exact ⟨by dsimp only; rw [hL]; exact List.mem_append_left _ hb, fun _ => ⟨by dsimp only; rw [hf, va_up_ne _ _ hne], kup_ne _ _ hne⟩⟩
theorem kH.push {L1 : List Nat} {f1 : Nat → va_E} {a t : Nat} {e : va_E} (h : kH K cI cO cN de ad τ L f E S) (hL : L1 = L ++ [a]) (hf : f1 = va_up f a e) (ha : a ∉ L) : kH K cI cO cN de ad (kup τ a t) L1 f1 E S := h.go (fun b e1 _ hb => ⟨hb.push' hL hf ha, kup_ne _ _ (fun z => ha (z ▸ hb.1))⟩)
theorem kH.fpush {L1 : List Nat} {f1 : Nat → va_E} {a t : Nat} {e : va_E} (_ : kH K cI cO cN de ad τ L f E S) (hL : L1 = L ++ [a]) (hf : f1 = va_up f a e) (ha : a ∉ L) : kFr τ L f (kup τ a t) (L1, f1) := kFr.push hL hf ha
/-- one queue is another; the rest stays -/
theorem kH.goQ {i cap : Nat} {l : List kM} {τ1 : Nat → Nat} {L1 : List Nat} {f1 : Nat → va_E} (h : kH K cI cO cN de ad τ L f E S) (hi : i < K)
    (hs : ∀ a e, τ a < 100 → τ a ≠ 30 + i → τ a ≠ 40 + i → hp_at L f a e → hp_at L1 f1 a e ∧ τ1 a = τ a) (ht : τ1 (ad (30 + i)) = 30 + i) (hq : kQ cO de ad τ1 L1 f1 i cap l) : kH K cI cO cN de ad τ1 L1 f1 E (k_setq S i cap l) := by
  obtain ⟨h0, ⟨g, h1, h1'⟩, h2, h3, h4, h5, h6, h7, ⟨t0, t1, t2, t3, t4⟩, t5, h8⟩ := h
  have hK7 := h8.2.2
  obtain ⟨g2, k2, k2'⟩ := h2
  obtain ⟨g3, k3, k3'⟩ := h3
  obtain ⟨g4, k4, k4'⟩ := h4
  have a0 := hs _ _ (by omega) (by omega) (by omega) h0
  have a1 := hs _ _ (by omega) (by omega) (by omega) h1
  have a2 := hs _ _ (by omega) (by omega) (by omega) k2
  have a3 := hs _ _ (by omega) (by omega) (by omega) k3
  have a4 := hs _ _ (by omega) (by omega) (by omega) k4
  have a5 := fun k hk => hs _ _ (by have := t5 k hk; omega) (by have := t5 k hk; omega) (by have := t5 k hk; omega) (h5 k hk)
  refine ⟨a0.1, ⟨g, a1.1, h1'⟩, ⟨g2, a2.1, k2'⟩, ⟨g3, a3.1, k3'⟩, ⟨g4, a4.1, k4'⟩, fun k hk => (a5 k hk).1, fun k hk => ?_, fun k hk => ?_, ⟨by rw [a0.2]; exact t0, by rw [a1.2]; exact t1, by rw [a2.2]; exact t2, by rw [a3.2]; exact t3, by rw [a4.2]; exact t4⟩, fun k hk => ?_, h8⟩
  · obtain ⟨gg, z1, z2⟩ := h6 k hk
    exact ⟨gg, (hs _ _ (by have := t5 k hk; omega) (by have := t5 k hk; omega) (by have := t5 k hk; omega) z1).1, z2⟩
  · by_cases hki : k = i
    · subst hki
      show kQ cO de ad τ1 L1 f1 k (kup S.2.2.2.1 k cap k) (kup S.2.2.1 k l k)
      rw [kup_self, kup_self]
      exact hq
    · show kQ cO de ad τ1 L1 f1 k (kup S.2.2.2.1 i cap k) (kup S.2.2.1 i l k)
      rw [kup_ne _ _ hki, kup_ne _ _ hki]
      exact (h7 k hk).go (fun b e hb he => hs b e (by have := t5 k hk; rcases hb with rfl | hb | hb <;> omega) (by have := t5 k hk; rcases hb with rfl | hb | hb <;> omega) (by have := t5 k hk; rcases hb with rfl | hb | hb <;> omega) he)
  · obtain ⟨gg, z1, z2⟩ := h6 k hk
    have z3 := hs _ _ (by have := t5 k hk; omega) (by have := t5 k hk; omega) (by have := t5 k hk; omega) z1
    rw [(a5 k hk).2, z3.2]
    refine ⟨(t5 k hk).1, (t5 k hk).2.1, ?_⟩
    by_cases hki : k = i
    · subst hki; exact ht
    · obtain ⟨ea0, mo, z4, -⟩ := h7 k hk
      rw [(hs _ _ (by have := t5 k hk; omega) (by have := t5 k hk; omega) (by have := t5 k hk; omega) z4).2]
      exact (t5 k hk).2.2
theorem kH.go9 {n s : Nat} {S : kS} (h : kH K cI cO cN de ad τ L f E S) : kH K cI cO cN de ad τ L f E (k_use S n s) := h
/-- the list's row as add wants it -/
theorem kQr.e {i ea cap : Nat} {l : List kM} (h : kQr cO de τ L f i ea cap l) : ∃ g : Nat → Option Nat, ((ea = de ∧ l.length = 0 ∧ cap = 0) ∨ (hp_at L f ea (kar cO cap g) ∧ (∀ j z, j < l.length → g j = some z → ∃ x, hp_at L f z (km x)) ∧ l.length ≤ cap ∧ 10 ≤ cap ∧ cap < 2 ^ 20)) ∧
    (∀ k x, l[k]? = some x → ∃ a, g k = some a ∧ τ a = 5 ∧ hp_at L f a (km x)) ∧ (l.length ≠ cap → τ ea = 40 + i) := by
  rcases h with ⟨h1, h2, h3⟩ | ⟨h1, h2, h3, g, h4, h5⟩
  · subst h2
    exact ⟨fun _ => none, Or.inl ⟨h1, Eq.refl _, h3⟩, fun k x hx => by simp at hx, fun z => absurd h3.symm z⟩
  · refine ⟨g, Or.inr ⟨h4, fun j z hj hz => ?_, h3, h2.1, h2.2⟩, h5, fun _ => h1⟩
    obtain ⟨a, h6, h7, h8⟩ := h5 j (l[j]) (List.getElem?_eq_getElem hj)
    cases hz.symm.trans h6
    exact ⟨_, h8⟩
theorem kcap_lt {k cap : Nat} (h : cap < 2 ^ 20) (hk : k < 2 ^ 19) (hkc : k ≤ cap) : kcap k cap < 2 ^ 20 := by
  unfold kcap
  split
  · split <;> omega
  · exact h
theorem kcap_le {k cap : Nat} (hkc : k ≤ cap) (h : cap = 0 ∨ 10 ≤ cap) : k + 1 ≤ kcap k cap ∧ 10 ≤ kcap k cap := by
  unfold kcap
  split
  · split <;> omega
  · omega
/-- behind add: the message lies at the queue's end -/
theorem kH.qadd {i y ea : Nat} {q : kM} {g : Nat → Option Nat} {mo mo0 : Int32} {u : hp_U} (hqa : hp_at L f (ad (30 + i)) (ka ea (nI (S.2.2.1 i).length) mo0)) (hQr : kQr cO de τ L f i ea (S.2.2.2.1 i) (S.2.2.1 i)) (h : kH K cI cO cN de ad τ L f E S) (hdeL : de ∉ L) (hi : i < K) (hlen : (S.2.2.1 i).length < 2 ^ 19) (hy : hp_at L f y (km q)) (hty : τ y = 5) (hel : ∀ k x, (S.2.2.1 i)[k]? = some x → ∃ a, g k = some a ∧ τ a = 5 ∧ hp_at L f a (km x)) (htea : (S.2.2.1 i).length ≠ S.2.2.2.1 i → τ (ea) = 40 + i)
    (hu : ∃ (ea' : Nat) (g' : Nat → Option Nat), (((S.2.2.1 i).length ≠ S.2.2.2.1 i ∧ ea' = ea ∧ u.1 = L) ∨ ((S.2.2.1 i).length = S.2.2.2.1 i ∧ ea' ∉ L ∧ u.1 = L ++ [ea'])) ∧ u.2 (ad (30 + i)) = ka ea' (nI ((S.2.2.1 i).length + 1)) mo ∧ u.2 ea' = kar cO (kcap (S.2.2.1 i).length (S.2.2.2.1 i)) g' ∧ (∀ b, b ∈ L → b ≠ ad (30 + i) → b ≠ ea → u.2 b = f b) ∧ (∀ j, j < (S.2.2.1 i).length → g' j = g j) ∧ g' (S.2.2.1 i).length = some y) :
    ∃ τ' : Nat → Nat, kH K cI cO cN de ad τ' u.1 u.2 E (k_add S i q) ∧ kFr τ L f τ' u := by
  obtain ⟨ea1, g1, h1, h2, h3, h4, h5, h6⟩ := hu
  have hh := h
  obtain ⟨-, -, -, -, -, -, -, h7, ⟨t0, t1, t2, t3, t4⟩, t5, h8⟩ := hh
  have hK7 := h8.2.2
  have t30 := (t5 i hi).2.2
  have hcp : (S.2.2.2.1 i = 0 ∨ 10 ≤ S.2.2.2.1 i) ∧ (S.2.2.1 i).length ≤ S.2.2.2.1 i ∧ S.2.2.2.1 i < 2 ^ 20 := by
    rcases hQr with ⟨-, z2, z3⟩ | ⟨-, z2, z3, -⟩
    · rw [z2, z3]; simp
    · exact ⟨Or.inr z2.1, z3, z2.2⟩
  have hk1 := kcap_le hcp.2.1 hcp.1
  have hk2 := kcap_lt hcp.2.2 hlen hcp.2.1
  -- a cell that is neither the list nor its row
  have hkeep : ∀ b e, hp_at L f b e → b ≠ ad (30 + i) → b ≠ ea → hp_at u.1 u.2 b e := fun b e hb n1 n2 => by
    refine ⟨?_, (h4 b hb.1 n1 n2).trans hb.2⟩
    rcases h1 with ⟨-, -, z⟩ | ⟨-, -, z⟩
    · rw [z]; exact hb.1
    · rw [z]; exact List.mem_append_left _ hb.1
  have hea40 : ∀ b, b ∈ L → τ b ≠ 40 + i → b ≠ ea := fun b hb hb2 z => by
    rcases hQr with ⟨z1, -⟩ | ⟨z1, -⟩
    · exact hdeL (z1 ▸ z ▸ hb)
    · exact hb2 (z ▸ z1)
  have hqL : ad (30 + i) ∈ u.1 := by
    rcases h1 with ⟨-, -, z⟩ | ⟨-, -, z⟩
    · rw [z]; exact hqa.1
    · rw [z]; exact List.mem_append_left _ hqa.1
  have hmsg : ∀ b x, τ b = 5 → hp_at L f b (km x) → hp_at u.1 u.2 b (km x) := fun b x hb hx => hkeep b _ hx (fun z => by rw [z] at hb; omega) (hea40 b hx.1 (by omega))
  have hlist : ∀ k x, ((S.2.2.1 i) ++ [q])[k]? = some x → ∃ a, g1 k = some a ∧ τ a = 5 ∧ hp_at L f a (km x) := fun k x hx => by
    rcases Nat.lt_trichotomy k (S.2.2.1 i).length with hk | hk | hk
    · rw [List.getElem?_append_left hk] at hx
      obtain ⟨a, z1, z2, z3⟩ := hel k x hx
      exact ⟨a, (h5 k hk).trans z1, z2, z3⟩
    · subst hk
      rw [List.getElem?_append_right (Nat.le_refl _), Nat.sub_self] at hx
      cases hx
      exact ⟨y, h6, hty, hy⟩
    · rw [List.getElem?_eq_none (by simp; omega)] at hx
      cases hx
  have hlen1 : ((S.2.2.1 i) ++ [q]).length = (S.2.2.1 i).length + 1 := by simp
  rcases h1 with ⟨hne, he1, hL⟩ | ⟨heq, he1, hL⟩
  · -- room is there
    have he2 := he1.symm
    subst he2
    have te := htea hne
    have hin : ea ∈ u.1 := by
      rcases hQr with ⟨-, z2, z3⟩ | ⟨-, -, -, g9, z4, -⟩
      · exact absurd (by rw [z2, z3]; rfl) hne
      · rw [hL]; exact z4.1
    refine ⟨τ, ?_, fun b hb => ⟨by rw [hL]; exact hb, fun ht => ⟨h4 b hb (fun z => by rw [z] at ht; omega) (hea40 b hb (by omega)), Eq.refl _⟩⟩⟩
    refine kH.go9 ?_
    refine h.goQ hi (fun a e x1 x2 x3 x4 => ⟨hkeep a e x4 (fun z => x2 (by rw [z]; exact t30)) (hea40 a x4.1 x3), Eq.refl _⟩) t30 ?_
    refine ⟨ea, mo, ⟨hqL, by rw [hlen1]; exact h2⟩, Or.inr ⟨te, ⟨hk1.2, hk2⟩, by rw [hlen1]; exact hk1.1, g1, ⟨hin, h3⟩, fun k x hx => ?_⟩⟩
    obtain ⟨a, z1, z2, z3⟩ := hlist k x hx
    exact ⟨a, z1, z2, hmsg a x z2 z3⟩
  · -- a longer row
    have hin : ea1 ∈ u.1 := by rw [hL]; exact List.mem_append_right _ (List.mem_singleton.mpr (Eq.refl _))
    have T : ∀ b, b ∈ L → τ b ≠ 40 + i → kup (kup τ (ea) 6) ea1 (40 + i) b = τ b := fun b hb hb2 => by rw [kup_ne _ _ (show b ≠ ea1 from fun z => he1 (z ▸ hb)), kup_ne _ _ (hea40 b hb hb2)]
    refine ⟨kup (kup τ (ea) 6) ea1 (40 + i), ?_, fun b hb => ⟨by rw [hL]; exact List.mem_append_left _ hb, fun ht => ⟨h4 b hb (fun z => by rw [z] at ht; omega) (hea40 b hb (by omega)), T b hb (by omega)⟩⟩⟩
    refine kH.go9 ?_
    refine h.goQ hi (fun a e x1 x2 x3 x4 => ⟨hkeep a e x4 (fun z => x2 (by rw [z]; exact t30)) (hea40 a x4.1 x3), T a x4.1 x3⟩) (by rw [T _ hqa.1 (by omega)]; exact t30) ?_
    refine ⟨ea1, mo, ⟨hqL, by rw [hlen1]; exact h2⟩, Or.inr ⟨kup_self _ _ _, ⟨hk1.2, hk2⟩, by rw [hlen1]; exact hk1.1, g1, ⟨hin, h3⟩, fun k x hx => ?_⟩⟩
    obtain ⟨a, z1, z2, z3⟩ := hlist k x hx
    exact ⟨a, z1, by rw [T a z3.1 (by omega)]; exact z2, hmsg a x z2 z3⟩
end KQ
