/-! The network's theory: messages in channels, the invariants (labels as in wip/ghs2.py). No kit is used here.
A message in a channel: (kind, first, second, third). Kinds: 0 CONNECT, 1 INITIATE, 2 TEST, 3 ACCEPT, 4 REJECT, 5 REPORT, 6 CORE. The edge 'none' is 12. -/
abbrev gh_M : Type := Nat × Nat × Nat × Nat
/-- the receiver's level behind a message -/
def gh_v (a : Nat) (m : gh_M) : Nat := if m.1 = 1 then m.2.1 else a
def gh_last : Nat → List gh_M → Nat
  | a, [] => a
  | a, m :: t => gh_last (gh_v a m) t
def gh_Ch (P : Nat → gh_M → Prop) : Nat → List gh_M → Prop
  | _, [] => True
  | a, m :: t => P a m ∧ gh_Ch P (gh_v a m) t
theorem gh_Ch_app {P : Nat → gh_M → Prop} {m : gh_M} : ∀ (l : List gh_M) (a : Nat), gh_Ch P a (l ++ [m]) ↔ gh_Ch P a l ∧ P (gh_last a l) m
  | [], a => by simp [gh_Ch, gh_last]
  | x :: t, a => by
    have ih := gh_Ch_app (P := P) (m := m) t (gh_v a x)
    simp only [List.cons_append, gh_Ch, gh_last, ih, and_assoc]
theorem gh_last_app {m : gh_M} : ∀ (l : List gh_M) (a : Nat), gh_last a (l ++ [m]) = gh_v (gh_last a l) m
  | [], a => rfl
  | x :: t, a => gh_last_app t (gh_v a x)
theorem gh_Ch_mono {P Q : Nat → gh_M → Prop} : ∀ (l : List gh_M) (a : Nat), (∀ b m, m ∈ l → P b m → Q b m) → gh_Ch P a l → gh_Ch Q a l
  | [], _, _, _ => trivial
  | x :: t, a, h, hc => ⟨h a x List.mem_cons_self hc.1, gh_Ch_mono t _ (fun b m hm => h b m (List.mem_cons_of_mem _ hm)) hc.2⟩
theorem gh_Ch_and {P Q : Nat → gh_M → Prop} : ∀ (l : List gh_M) (a : Nat), gh_Ch P a l → gh_Ch Q a l → gh_Ch (fun b m => P b m ∧ Q b m) a l
  | [], _, _, _ => trivial
  | _ :: t, _, h1, h2 => ⟨⟨h1.1, h2.1⟩, gh_Ch_and t _ h1.2 h2.2⟩
theorem gh_Ch_mem {P : Nat → gh_M → Prop} : ∀ (l : List gh_M) (a : Nat), gh_Ch P a l → ∀ m ∈ l, ∃ b, P b m
  | x :: t, a, h, m, hm => by
    rcases List.mem_cons.mp hm with e | hm
    · exact ⟨a, e ▸ h.1⟩
    · exact gh_Ch_mem t _ h.2 m hm
/-- a message of kind k lies in the channel; how many -/
def gh_has (k : Nat) (l : List gh_M) : Prop := ∃ m ∈ l, m.1 = k
def gh_cnt (k : Nat) : List gh_M → Nat
  | [] => 0
  | m :: t => (if m.1 = k then 1 else 0) + gh_cnt k t
theorem gh_cnt_app {k : Nat} {m : gh_M} : ∀ l : List gh_M, gh_cnt k (l ++ [m]) = gh_cnt k l + if m.1 = k then 1 else 0
  | [] => by simp [gh_cnt]
  | x :: t => by simp only [List.cons_append, gh_cnt, gh_cnt_app t]; omega
theorem gh_cnt_0 {k : Nat} : ∀ l : List gh_M, gh_cnt k l = 0 ↔ ¬ gh_has k l
  | [] => by simp [gh_cnt, gh_has]
  | x :: t => by
    have ih := gh_cnt_0 (k := k) t
    simp only [gh_cnt, gh_has] at ih ⊢
    by_cases h : x.1 = k
    · simp [h]
    · simp [h]
      simpa using ih
/-- INITIATEs rise, from the receiver's level on: so there are at most (highest - lowest) of them -/
def gh_inc (a : Nat) (m : gh_M) : Prop := m.1 = 1 → a < m.2.1
theorem gh_inc_le {B : Nat} : ∀ (l : List gh_M) (a : Nat), a ≤ B → gh_Ch gh_inc a l → (∀ m ∈ l, m.1 = 1 → m.2.1 ≤ B) → gh_cnt 1 l + a ≤ B
  | [], a, h, _, _ => by simpa [gh_cnt] using h
  | x :: t, a, h, hc, hb => by
    have hx := hb x List.mem_cons_self
    have ih := gh_inc_le (B := B) t (gh_v a x)
    have hi := hc.1
    unfold gh_inc at hi
    by_cases e : x.1 = 1
    · have hv : gh_v a x = x.2.1 := if_pos e
      rw [hv] at ih
      have := ih (hx e) (by have := hc.2; rwa [hv] at this) (fun m hm => hb m (List.mem_cons_of_mem _ hm))
      simp only [gh_cnt, e, if_true]
      have := hi e
      omega
    · have hv : gh_v a x = a := if_neg e
      rw [hv] at ih
      have := ih h (by have := hc.2; rwa [hv] at this) (fun m hm => hb m (List.mem_cons_of_mem _ hm))
      simp only [gh_cnt, e, if_false]
      omega
theorem gh_len : ∀ l : List gh_M, (∀ m ∈ l, m.1 ≤ 6) → l.length = gh_cnt 0 l + gh_cnt 1 l + gh_cnt 2 l + gh_cnt 3 l + gh_cnt 4 l + gh_cnt 5 l + gh_cnt 6 l
  | [], _ => by simp [gh_cnt]
  | x :: t, h => by
    have ih := gh_len t (fun m hm => h m (List.mem_cons_of_mem _ hm))
    have hx := h x List.mem_cons_self
    simp only [List.length_cons, gh_cnt]
    have : x.1 = 0 ∨ x.1 = 1 ∨ x.1 = 2 ∨ x.1 = 3 ∨ x.1 = 4 ∨ x.1 = 5 ∨ x.1 = 6 := by omega
    rcases this with e | e | e | e | e | e | e <;> simp [e] <;> omega
/-! The state: F k x, the k-th field of node x: 0 state (0 asleep, 1 FIND, 2 FOUND), 1 level, 2 fragment, 3 answers, 4 way in, 5 best, 6 weight of best, 7 tested;
ghosts: 8 class, 9 edge towards the root, 10 rank, 11 through with the class's search (1) or not (0); of a class g: 12 its level, 13 its phase (0 alone, 1 searching, 2 core moves, 3 CONNECT is out), 14 and 15 the phase's node and edge.
mk x e: 0 BASIC, 1 BRANCH, 2 REJECTED; c y e: what came to y over e, in order. own x e: x is an end of e; o x e: the other end; w e: its weight. -/
abbrev gh_F : Type := Nat → Nat → Nat
def gh_U (F : gh_F) (k x v : Nat) : gh_F := fun k' x' => if k' = k ∧ x' = x then v else F k' x'
def gh_Net (own : Nat → Nat → Prop) (o : Nat → Nat → Nat) (w : Nat → Nat) : Prop :=
  (∀ x e, own x e → own (o x e) e ∧ o (o x e) e = x ∧ o x e ≠ x ∧ e < 12 ∧ x < 7 ∧ 1 ≤ w e ∧ w e < 100) ∧
  (∀ x y e, own x e → own y e → y = x ∨ y = o x e) ∧ (∀ x y e f, own x e → own y f → w e = w f → e = f)
def gi_cur (F : gh_F) (x : Nat) : Prop := F 1 x = F 12 (F 8 x)
def gi_NR (o : Nat → Nat → Nat) (F : gh_F) (x : Nat) : Prop := F 9 x ≠ 12 ∧ F 8 (o x (F 9 x)) = F 8 x ∧ F 9 (o x (F 9 x)) ≠ F 9 x ∧ F 10 (o x (F 9 x)) < F 10 x
def gi_wt (F : gh_F) (x e : Nat) : Prop := F 0 x = 1 ∧ F 7 x = e
/-! of one node -/
def gi_st (F : gh_F) : Prop := ∀ x, F 0 x ≤ 2 ∧ F 11 x ≤ 1
def gi_b1 (F : gh_F) : Prop := ∀ x, F 1 x ≤ F 12 (F 8 x)
def gi_b2 (F : gh_F) : Prop := ∀ x, (100 ≤ F 8 x ↔ F 12 (F 8 x) = 0) ∧ (100 ≤ F 8 x → F 8 x = 100 + x) ∧ 1 ≤ F 8 x
def gi_b3 (F : gh_F) : Prop := ∀ x, (F 8 x < 100 → (F 2 x = F 8 x ↔ gi_cur F x)) ∧ (100 ≤ F 8 x → F 2 x = 0)
def gi_b4 (F : gh_F) : Prop := ∀ x, 1 ≤ F 1 x → F 2 x ≠ 0
def gi_b5 (own : Nat → Nat → Prop) (o : Nat → Nat → Nat) (w : Nat → Nat) (F : gh_F) : Prop := ∀ x, F 2 x ≠ 0 → ∃ y e, own y e ∧ w e = F 2 x ∧ F 8 y = F 8 x ∧ F 8 (o y e) = F 8 x
def gi_b6 (own : Nat → Nat → Prop) (o : Nat → Nat → Nat) (w : Nat → Nat) (F : gh_F) (mk : Nat → Nat → Nat) : Prop := ∀ x, F 8 x < 100 → ∃ y e, own y e ∧ w e = F 8 x ∧ F 8 y = F 8 x ∧ F 8 (o y e) = F 8 x ∧ mk y e = 1 ∧ mk (o y e) e = 1
def gi_s0 (own : Nat → Nat → Prop) (F : gh_F) (mk : Nat → Nat → Nat) : Prop := ∀ x, F 0 x = 0 → F 13 (F 8 x) = 0
def gi_pA (own : Nat → Nat → Prop) (F : gh_F) (mk : Nat → Nat → Nat) : Prop := ∀ x, F 13 (F 8 x) = 0 → 100 ≤ F 8 x ∧ F 9 x = 12 ∧ ∀ e, own x e → mk x e = 0
def gi_s1 (F : gh_F) : Prop := ∀ x, F 0 x ≠ 1 → F 7 x = 12 ∧ F 3 x = 0
def gi_s2 (F : gh_F) : Prop := ∀ x, F 0 x = 1 → gi_cur F x ∧ F 13 (F 8 x) = 1 ∧ F 11 x = 0
def gi_Sl (F : gh_F) : Prop := ∀ x, F 13 (F 8 x) = 1 → F 8 x < 100
def gi_s3 (F : gh_F) : Prop := ∀ x, gi_cur F x → F 0 x = 2 → F 8 x < 100 → F 11 x = 1
def gi_s4 (F : gh_F) : Prop := ∀ x, (F 5 x = 12 ↔ F 6 x = 100) ∧ F 6 x ≤ 100
def gi_ow (own : Nat → Nat → Prop) (F : gh_F) : Prop := ∀ x, (F 5 x ≠ 12 → own x (F 5 x)) ∧ (F 7 x ≠ 12 → own x (F 7 x))
def gi_s5 (F : gh_F) : Prop := ∀ x, gi_cur F x → F 13 (F 8 x) = 1 → F 4 x = F 9 x
def gi_s6 (own : Nat → Nat → Prop) (F : gh_F) (mk : Nat → Nat → Nat) : Prop := ∀ x, (F 8 x < 100 → F 9 x ≠ 12) ∧ (F 9 x ≠ 12 → own x (F 9 x) ∧ mk x (F 9 x) = 1)
/-! of a class that searches: two roots with the core's edge between them, all others below -/
def gi_Sr (o : Nat → Nat → Nat) (w : Nat → Nat) (F : gh_F) (c : Nat → Nat → List gh_M) : Prop := ∀ x, F 13 (F 8 x) = 1 → w (F 9 x) = F 8 x →
  F 9 (o x (F 9 x)) = F 9 x ∧ F 8 (o x (F 9 x)) = F 8 x ∧ (¬ gi_cur F x → F 11 x = 0 ∧ (gh_has 0 (c (o x (F 9 x)) (F 9 x)) ∨ ∃ m ∈ c x (F 9 x), m.1 = 1 ∧ m.2.1 = F 12 (F 8 x)))
def gi_Sn (o : Nat → Nat → Nat) (w : Nat → Nat) (F : gh_F) : Prop := ∀ x, F 13 (F 8 x) = 1 → w (F 9 x) ≠ F 8 x → gi_NR o F x
/-! the core moves: CORE lies before y over e -/
def gi_M (own : Nat → Nat → Prop) (o : Nat → Nat → Nat) (F : gh_F) : Prop := ∀ x, F 13 (F 8 x) = 2 → ∀ y e z, F 14 (F 8 x) = y → F 15 (F 8 x) = e → o y e = z →
  F 8 y = F 8 x ∧ own y e ∧ F 9 y = e ∧ gi_cur F y ∧ F 4 y = e ∧ F 5 y ≠ 12 ∧ F 8 z = F 8 x ∧ F 9 z = e ∧ gi_cur F z ∧ F 4 z ≠ e ∧ F 11 x = 1 ∧ F 8 x < 100 ∧ (x = y ∨ x = z ∨ gi_NR o F x)
/-! CONNECT is out: u has sent it over e -/
def gi_C (own : Nat → Nat → Prop) (o : Nat → Nat → Nat) (F : gh_F) (mk : Nat → Nat → Nat) : Prop := ∀ x, F 13 (F 8 x) = 3 → ∀ u e, F 14 (F 8 x) = u → F 15 (F 8 x) = e →
  F 8 u = F 8 x ∧ own u e ∧ mk u e = 1 ∧ F 8 (o u e) ≠ F 8 x ∧ F 9 u = e ∧ F 11 x = 1 ∧ (x = u ∨ gi_NR o F x)
def gi_ph (F : gh_F) : Prop := ∀ x, F 13 (F 8 x) ≤ 3
/-! a node and its parent -/
def gi_6 (o : Nat → Nat → Nat) (F : gh_F) (c : Nat → Nat → List gh_M) : Prop := ∀ x, gi_NR o F x → F 1 x ≤ F 1 (o x (F 9 x)) ∧ ∀ m ∈ c x (F 9 x), m.1 = 1 → m.2.1 ≤ F 1 (o x (F 9 x))
def gi_7 (o : Nat → Nat → Nat) (F : gh_F) : Prop := ∀ x, gi_NR o F x → (F 11 (o x (F 9 x)) = 1 → F 11 x = 1) ∧ (¬ gi_cur F (o x (F 9 x)) → F 11 x = 1 → F 11 (o x (F 9 x)) = 1) ∧ (F 0 (o x (F 9 x)) = 1 → F 11 x = 1 → gi_cur F x)
/-! answers that stand out; the best edge -/
def gi_open (o : Nat → Nat → Nat) (F : gh_F) (c : Nat → Nat → List gh_M) (x e : Nat) : Prop := ¬ (gi_cur F (o x e) ∧ F 0 (o x e) = 2 ∧ ¬ gh_has 5 (c x e))
def gi_bc (o : Nat → Nat → Nat) (F : gh_F) (mk : Nat → Nat → Nat) (c : Nat → Nat → List gh_M) : Prop := ∀ x b y, F 5 x = b → b ≠ 12 → o x b = y → gi_cur F x → (F 13 (F 8 x) = 1 ∨ F 13 (F 8 x) = 2) → F 4 x = F 9 x →
  (mk x b = 1 → F 9 y = b ∧ F 9 x ≠ b ∧ F 8 y = F 8 x ∧ gi_cur F y ∧ F 0 y = 2 ∧ F 6 y = F 6 x ∧ F 4 y = b ∧ ¬ gh_has 5 (c x b)) ∧ (mk x b ≠ 1 → mk x b = 0 ∧ F 8 y ≠ F 8 x ∧ F 1 x ≤ F 1 y)
/-! an edge and its two ends -/
def gi_K (own : Nat → Nat → Prop) (o : Nat → Nat → Nat) (F : gh_F) (mk : Nat → Nat → Nat) (c : Nat → Nat → List gh_M) : Prop := ∀ x e y, own x e → o x e = y → mk x e = 1 →
  (F 8 x = F 8 y → mk y e = 1 ∧ (F 9 x = e ∨ F 9 y = e)) ∧ (F 8 x ≠ F 8 y → F 13 (F 8 x) = 3 ∧ F 14 (F 8 x) = x ∧ F 15 (F 8 x) = e ∧ mk y e = 0 ∧ gi_cur F x ∧ F 1 x ≤ F 1 y ∧ gh_has 0 (c y e))
def gi_rj (own : Nat → Nat → Prop) (o : Nat → Nat → Nat) (F : gh_F) (mk : Nat → Nat → Nat) : Prop := ∀ x e, own x e → mk x e ≤ 2 ∧ (mk x e = 2 → F 8 x = F 8 (o x e))
def gi_tw (own : Nat → Nat → Prop) (c : Nat → Nat → List gh_M) : Prop := ∀ y e, own y e → ∀ k, k ≠ 1 → gh_cnt k (c y e) ≤ 1
def gi_ts (own : Nat → Nat → Prop) (o : Nat → Nat → Nat) (F : gh_F) (c : Nat → Nat → List gh_M) : Prop := ∀ y e, own y e → gh_has 2 (c y e) → gh_has 2 (c (o y e) e) → gi_wt F (o y e) e ∧ gi_wt F y e
/-- messages m that lie before y over e, where y's level behind all that lies ahead is a; x has sent them: one def a kind -/
def gm_i (own : Nat → Nat → Prop) (o : Nat → Nat → Nat) (w : Nat → Nat) (F : gh_F) (mk : Nat → Nat → Nat) (c : Nat → Nat → List gh_M) (x y e : Nat) (a : Nat) (m : gh_M) : Prop :=
  m.1 = 1 → a < m.2.1 ∧ F 8 x = F 8 y ∧ mk x e = 1 ∧ F 9 y = e ∧ m.2.1 ≤ F 12 (F 8 x) ∧ (m.2.1 = F 12 (F 8 x) ↔ m.2.2.1 = F 8 x) ∧ m.2.2.1 ≠ 0 ∧ (m.2.2.2 = 1 ∨ m.2.2.2 = 2) ∧ (m.2.2.2 = 1 ↔ (m.2.1 = F 12 (F 8 x) ∧ F 11 y = 0)) ∧ (F 13 (F 8 x) = 1 → w e = F 8 x → m.2.1 = F 12 (F 8 x)) ∧ ∃ y' f, own y' f ∧ w f = m.2.2.1 ∧ F 8 y' = F 8 x ∧ F 8 (o y' f) = F 8 x
def gm_c (own : Nat → Nat → Prop) (o : Nat → Nat → Nat) (w : Nat → Nat) (F : gh_F) (mk : Nat → Nat → Nat) (c : Nat → Nat → List gh_M) (x y e : Nat) (a : Nat) (m : gh_M) : Prop :=
  m.1 = 0 → mk x e = 1 ∧ (F 8 x = F 8 y → F 13 (F 8 x) = 1 ∧ w e = F 8 x ∧ F 1 x = m.2.1 ∧ F 1 y = m.2.1 ∧ F 12 (F 8 x) = m.2.1 + 1 ∧ ¬ gh_has 1 (c x e) ∧ a = F 1 y) ∧ (F 8 x ≠ F 8 y → m.2.1 = F 1 x)
def gm_t (own : Nat → Nat → Prop) (o : Nat → Nat → Nat) (w : Nat → Nat) (F : gh_F) (mk : Nat → Nat → Nat) (c : Nat → Nat → List gh_M) (x y e : Nat) (a : Nat) (m : gh_M) : Prop :=
  m.1 = 2 → (gi_wt F x e → m.2.1 = F 1 x ∧ m.2.2.1 = F 2 x) ∧ (¬ gi_wt F x e → gi_wt F y e ∧ m.2.1 = F 1 y ∧ m.2.2.1 = F 2 y ∧ F 8 x = F 8 y ∧ mk x e ≠ 0)
def gm_a (own : Nat → Nat → Prop) (o : Nat → Nat → Nat) (w : Nat → Nat) (F : gh_F) (mk : Nat → Nat → Nat) (c : Nat → Nat → List gh_M) (x y e : Nat) (a : Nat) (m : gh_M) : Prop :=
  m.1 = 3 → gi_wt F y e ∧ F 8 x ≠ F 8 y ∧ F 1 y ≤ F 1 x ∧ ¬ gh_has 2 (c x e)
def gm_r (own : Nat → Nat → Prop) (o : Nat → Nat → Nat) (w : Nat → Nat) (F : gh_F) (mk : Nat → Nat → Nat) (c : Nat → Nat → List gh_M) (x y e : Nat) (a : Nat) (m : gh_M) : Prop :=
  m.1 = 4 → gi_wt F y e ∧ F 8 x = F 8 y ∧ ¬ gi_wt F x e ∧ mk x e ≠ 0 ∧ ¬ gh_has 2 (c x e) ∧ ¬ gh_has 2 (c y e)
def gm_k (own : Nat → Nat → Prop) (o : Nat → Nat → Nat) (w : Nat → Nat) (F : gh_F) (mk : Nat → Nat → Nat) (c : Nat → Nat → List gh_M) (x y e : Nat) (a : Nat) (m : gh_M) : Prop :=
  m.1 = 6 → F 13 (F 8 y) = 2 ∧ F 14 (F 8 y) = y ∧ F 15 (F 8 y) = e
def gm_p (own : Nat → Nat → Prop) (o : Nat → Nat → Nat) (w : Nat → Nat) (F : gh_F) (mk : Nat → Nat → Nat) (c : Nat → Nat → List gh_M) (x y e : Nat) (a : Nat) (m : gh_M) : Prop :=
  m.1 = 5 → F 8 x = F 8 y ∧
    ((F 13 (F 8 x) = 1 ∧ mk y e = 1 ∧ F 9 x = e ∧ F 9 y ≠ e ∧ gi_cur F x ∧ gi_cur F y ∧ F 0 y = 1 ∧ F 0 x = 2 ∧ m.2.1 = F 6 x) ∨
     (F 13 (F 8 x) = 1 ∧ w e = F 8 x ∧ gi_cur F x ∧ F 0 x = 2 ∧ m.2.1 = F 6 x ∧ a = F 12 (F 8 x)) ∨
     (mk y e = 1 ∧ F 0 y = 2 ∧ F 4 y = e ∧ m.2.1 < F 6 y ∧ F 9 y = e ∧ F 9 x ≠ e ∧ a = F 1 y ∧ (¬ gi_cur F y ∨ F 4 x ≠ F 9 x) ∧ 1 ≤ F 1 y))
def gi_m (own : Nat → Nat → Prop) (o : Nat → Nat → Nat) (w : Nat → Nat) (F : gh_F) (mk : Nat → Nat → Nat) (c : Nat → Nat → List gh_M) (x y e : Nat) (a : Nat) (m : gh_M) : Prop :=
  m.1 ≤ 6 ∧ gm_i own o w F mk c x y e a m ∧ gm_c own o w F mk c x y e a m ∧ gm_t own o w F mk c x y e a m ∧ gm_a own o w F mk c x y e a m ∧ gm_r own o w F mk c x y e a m ∧ gm_k own o w F mk c x y e a m ∧ gm_p own o w F mk c x y e a m
def gi_ch (own : Nat → Nat → Prop) (o : Nat → Nat → Nat) (w : Nat → Nat) (F : gh_F) (mk : Nat → Nat → Nat) (c : Nat → Nat → List gh_M) : Prop := ∀ y e, own y e → gh_Ch (gi_m own o w F mk c (o y e) y e) (F 1 y) (c y e)
/-! answers that stand out, as a list of edges; a class of level k has more than k nodes, as a list of nodes -/
def gi_an (own : Nat → Nat → Prop) (o : Nat → Nat → Nat) (F : gh_F) (mk : Nat → Nat → Nat) (c : Nat → Nat → List gh_M) : Prop := ∀ x, F 0 x = 1 → ∃ l : List Nat, l.Nodup ∧ l.length = F 3 x ∧ ∀ e, e ∈ l ↔ (own x e ∧ mk x e = 1 ∧ e ≠ F 9 x ∧ gi_open o F c x e)
def gi_sz (F : gh_F) : Prop := ∀ x, x < 7 → ∃ l : List Nat, l.Nodup ∧ F 12 (F 8 x) + 1 ≤ l.length ∧ ∀ y ∈ l, y < 7 ∧ F 8 y = F 8 x
theorem gi_nodup_le : ∀ (n : Nat) (l : List Nat), l.Nodup → (∀ y ∈ l, y < n) → l.length ≤ n
  | 0, l, _, h => by
    cases l with
    | nil => simp
    | cons x t => exact absurd (h x List.mem_cons_self) (by omega)
  | n + 1, l, hn, h => by
    have h1 := gi_nodup_le n (l.erase n) (hn.erase n) (fun y hy => by
      have h2 := (List.Nodup.mem_erase_iff hn).mp hy
      have h3 := h y h2.2
      have h4 := h2.1
      omega)
    have h5 := List.length_erase (a := n) (l := l)
    split at h5 <;> omega
theorem gi_lv {F : gh_F} (hb : gi_b1 F) (hs : gi_sz F) {x : Nat} (hx : x < 7) : F 1 x ≤ 6 ∧ F 12 (F 8 x) ≤ 6 := by
  obtain ⟨l, h1, h2, h3⟩ := hs x hx
  have h4 := gi_nodup_le 7 l h1 (fun y hy => (h3 y hy).1)
  have h5 := hb x
  omega
def gh_C (c : Nat → Nat → List gh_M) (y e : Nat) (l : List gh_M) : Nat → Nat → List gh_M := fun y' e' => if y' = y ∧ e' = e then l else c y' e'
def gh_K (mk : Nat → Nat → Nat) (x e a : Nat) : Nat → Nat → Nat := fun x' e' => if x' = x ∧ e' = e then a else mk x' e'
theorem gh_has_app {k : Nat} {l : List gh_M} {m : gh_M} : gh_has k (l ++ [m]) ↔ gh_has k l ∨ m.1 = k := by
  unfold gh_has
  constructor
  · rintro ⟨x, h1, h2⟩
    rcases List.mem_append.mp h1 with z | z
    · exact Or.inl ⟨x, z, h2⟩
    · rw [List.mem_singleton.mp z] at h2; exact Or.inr h2
  · rintro (⟨x, h1, h2⟩ | h)
    · exact ⟨x, List.mem_append_left _ h1, h2⟩
    · exact ⟨m, List.mem_append_right _ (List.mem_singleton.mpr rfl), h⟩
theorem gh_has_cons {k : Nat} {l : List gh_M} {m : gh_M} : gh_has k (m :: l) ↔ gh_has k l ∨ m.1 = k := by
  unfold gh_has
  constructor
  · rintro ⟨x, h1, h2⟩
    rcases List.mem_cons.mp h1 with z | z
    · rw [z] at h2; exact Or.inr h2
    · exact Or.inl ⟨x, z, h2⟩
  · rintro (⟨x, h1, h2⟩ | h)
    · exact ⟨x, List.mem_cons_of_mem _ h1, h2⟩
    · exact ⟨m, List.mem_cons_self, h⟩
theorem gh_cnt_1 {k : Nat} {l : List gh_M} (h : gh_has k l) : 1 ≤ gh_cnt k l := by
  rcases Nat.eq_zero_or_pos (gh_cnt k l) with z | z
  · exact absurd h ((gh_cnt_0 l).mp z)
  · exact z
theorem gh_cnt_cons {k : Nat} {l : List gh_M} {m : gh_M} : gh_cnt k (m :: l) = gh_cnt k l + if m.1 = k then 1 else 0 := by
  show (if m.1 = k then 1 else 0) + gh_cnt k l = _
  omega
/-- INITIATEs rise in a channel -/
theorem gh_Ch_a {P : Nat → gh_M → Prop} (hP : ∀ a m, P a m → m.1 = 1 → a < m.2.1) : ∀ (l : List gh_M) (a : Nat), gh_Ch P a l → a ≤ gh_last a l ∧ ∀ m ∈ l, m.1 = 1 → a < m.2.1 ∧ m.2.1 ≤ gh_last a l
  | [], a, _ => ⟨Nat.le_refl _, fun m hm => nomatch hm⟩
  | x :: t, a, h => by
    have ih := gh_Ch_a hP t (gh_v a x) h.2
    have hx := hP a x h.1
    have e : gh_last a (x :: t) = gh_last (gh_v a x) t := rfl
    rw [e]
    by_cases h1 : x.1 = 1
    · have hv : gh_v a x = x.2.1 := if_pos h1
      rw [hv] at ih ⊢
      have := hx h1
      refine ⟨by omega, fun m hm hm1 => ?_⟩
      rcases List.mem_cons.mp hm with z | z
      · subst z; omega
      · have := ih.2 m z hm1; omega
    · have hv : gh_v a x = a := if_neg h1
      rw [hv] at ih ⊢
      refine ⟨ih.1, fun m hm hm1 => ?_⟩
      rcases List.mem_cons.mp hm with z | z
      · subst z; exact absurd hm1 h1
      · exact ih.2 m z hm1
theorem gh_last_no : ∀ (l : List gh_M) (a : Nat), ¬ gh_has 1 l → gh_last a l = a
  | [], _, _ => rfl
  | x :: t, a, h => by
    have h1 : ¬ x.1 = 1 := fun z => h (gh_has_cons.mpr (Or.inr z))
    show gh_last (gh_v a x) t = a
    rw [show gh_v a x = a from if_neg h1]
    exact gh_last_no t a (fun z => h (gh_has_cons.mpr (Or.inl z)))
theorem gh_last_in : ∀ (l : List gh_M) (a : Nat), gh_last a l = a ∨ ∃ m ∈ l, m.1 = 1 ∧ m.2.1 = gh_last a l
  | [], _ => Or.inl rfl
  | x :: t, a => by
    show gh_last (gh_v a x) t = a ∨ ∃ m ∈ x :: t, m.1 = 1 ∧ m.2.1 = gh_last (gh_v a x) t
    by_cases h1 : x.1 = 1
    · rw [show gh_v a x = x.2.1 from if_pos h1]
      rcases gh_last_in t x.2.1 with z | ⟨m, m1, m2, m3⟩
      · exact Or.inr ⟨x, List.mem_cons_self, h1, z.symm⟩
      · exact Or.inr ⟨m, List.mem_cons_of_mem _ m1, m2, m3⟩
    · rw [show gh_v a x = a from if_neg h1]
      rcases gh_last_in t a with z | ⟨m, m1, m2, m3⟩
      · exact Or.inl z
      · exact Or.inr ⟨m, List.mem_cons_of_mem _ m1, m2, m3⟩
/-- what holds of a message goes on, where its level is no less than the receiver's -/
theorem gh_Ch_mono' {P Q : Nat → gh_M → Prop} (hP : ∀ a m, P a m → m.1 = 1 → a < m.2.1) : ∀ (l : List gh_M) (a : Nat), (∀ b m, m ∈ l → a ≤ b → (¬ gh_has 1 l → b = a) → P b m → Q b m) → gh_Ch P a l → gh_Ch Q a l
  | [], _, _, _ => trivial
  | x :: t, a, h, hc => by
    have hx := hP a x hc.1
    have hv : a ≤ gh_v a x := by unfold gh_v; split <;> rename_i z; exact Nat.le_of_lt (hx z); exact Nat.le_refl _
    refine ⟨h a x List.mem_cons_self (Nat.le_refl _) (fun _ => rfl) hc.1, gh_Ch_mono' hP t _ (fun b m hm hb hn => h b m (List.mem_cons_of_mem _ hm) (Nat.le_trans hv hb) (fun z => ?_)) hc.2⟩
    have z1 : ¬ x.1 = 1 := fun q => z (gh_has_cons.mpr (Or.inr q))
    have z2 : ¬ gh_has 1 t := fun q => z (gh_has_cons.mpr (Or.inl q))
    rw [hn z2]; exact if_neg z1
theorem gh_Ch_mem' {P : Nat → gh_M → Prop} (hP : ∀ a m, P a m → m.1 = 1 → a < m.2.1) (l : List gh_M) (a : Nat) (h : gh_Ch P a l) : ∀ m ∈ l, ∃ b, a ≤ b ∧ (¬ gh_has 1 l → b = a) ∧ P b m :=
  fun m hm => by
    obtain ⟨b, hb⟩ := gh_Ch_mem l a (gh_Ch_mono' hP l a (Q := fun b m => a ≤ b ∧ (¬ gh_has 1 l → b = a) ∧ P b m) (fun b m _ h1 h2 h3 => ⟨h1, h2, h3⟩) h) m hm
    exact ⟨b, hb⟩
section
variable {own : Nat → Nat → Prop} {o : Nat → Nat → Nat} {w : Nat → Nat} {F F' : gh_F} {mk : Nat → Nat → Nat} {c : Nat → Nat → List gh_M}
theorem gm_inc {x y e a : Nat} {m : gh_M} (h : gi_m own o w F mk c x y e a m) (h1 : m.1 = 1) : a < m.2.1 := (h.2.1 h1).1
/-- a message that lies there -/
theorem gi_at (h : gi_ch own o w F mk c) {y e : Nat} (hy : own y e) {m : gh_M} (hm : m ∈ c y e) : ∃ a, F 1 y ≤ a ∧ (¬ gh_has 1 (c y e) → a = F 1 y) ∧ gi_m own o w F mk c (o y e) y e a m :=
  gh_Ch_mem' (fun _ _ => gm_inc) _ _ (h y e hy) m hm
theorem gi_hd (h : gi_ch own o w F mk c) {y e : Nat} (hy : own y e) {m : gh_M} {t : List gh_M} (hm : c y e = m :: t) : gi_m own o w F mk c (o y e) y e (F 1 y) m := by
  have h1 := h y e hy
  rw [hm] at h1
  exact h1.1
theorem gi_atk (h : gi_ch own o w F mk c) {y e k : Nat} (hy : own y e) (hm : gh_has k (c y e)) : ∃ m a, m ∈ c y e ∧ m.1 = k ∧ F 1 y ≤ a ∧ (¬ gh_has 1 (c y e) → a = F 1 y) ∧ gi_m own o w F mk c (o y e) y e a m := by
  obtain ⟨m, m1, m2⟩ := hm
  obtain ⟨a, a1, a2, a3⟩ := gi_at h hy m1
  exact ⟨m, a, m1, m2, a1, a2, a3⟩
abbrev gh_P := Nat → Nat → Nat → gh_M → Prop
/-- every channel -/
def gi_all (own : Nat → Nat → Prop) (F : gh_F) (c : Nat → Nat → List gh_M) (P : gh_P) : Prop := ∀ y e, own y e → gh_Ch (P y e) (F 1 y) (c y e)
theorem gi_all_pop {P : gh_P} {v j : Nat} {m : gh_M} {t : List gh_M} (h : gi_all own F c P) (hc : c v j = m :: t) (hm : m.1 ≠ 1) : gi_all own F (gh_C c v j t) P := by
  intro y e hy
  have h1 := h y e hy
  unfold gh_C
  split
  · rename_i z
    rw [z.1, z.2, hc] at h1
    have h2 := h1.2
    rw [show gh_v (F 1 v) m = F 1 v from if_neg hm] at h2
    rw [z.1, z.2]
    exact h2
  · exact h1
theorem gi_all_app {P : gh_P} {v j : Nat} {m : gh_M} (h : gi_all own F c P) (hm : own v j → P v j (gh_last (F 1 v) (c v j)) m) : gi_all own F (gh_C c v j (c v j ++ [m])) P := by
  intro y e hy
  have h1 := h y e hy
  unfold gh_C
  split
  · rename_i z
    rw [z.1, z.2] at h1 hy ⊢
    exact (gh_Ch_app _ _).mpr ⟨h1, hm hy⟩
  · exact h1
theorem gi_all_mono {P Q : gh_P} (h : gi_all own F c P) (hP : ∀ y e a m, P y e a m → m.1 = 1 → a < m.2.1) (hF : ∀ y, F' 1 y = F 1 y) (hm : ∀ y e a m, own y e → m ∈ c y e → F 1 y ≤ a → (¬ gh_has 1 (c y e) → a = F 1 y) → P y e a m → Q y e a m) : gi_all own F' c Q := by
  intro y e hy
  rw [hF]
  exact gh_Ch_mono' (fun a m => hP y e a m) _ _ (fun b m h1 h2 h3 h4 => hm y e b m hy h1 h2 h3 h4) (h y e hy)
end
/-! What lies in a channel, without its place there. -/
def gx_i (own : Nat → Nat → Prop) (o : Nat → Nat → Nat) (w : Nat → Nat) (F : gh_F) (mk : Nat → Nat → Nat) (c : Nat → Nat → List gh_M) : Prop := ∀ y e, own y e → gh_has 1 (c y e) → F 8 (o y e) = F 8 y ∧ mk (o y e) e = 1 ∧ F 9 y = e ∧ F 1 y < F 12 (F 8 y)
def gx_c (own : Nat → Nat → Prop) (o : Nat → Nat → Nat) (w : Nat → Nat) (F : gh_F) (mk : Nat → Nat → Nat) (c : Nat → Nat → List gh_M) : Prop := ∀ y e, own y e → gh_has 0 (c y e) → mk (o y e) e = 1 ∧ (F 8 (o y e) = F 8 y → F 13 (F 8 y) = 1 ∧ w e = F 8 y ∧ F 1 (o y e) = F 1 y ∧ F 12 (F 8 y) = F 1 y + 1 ∧ ¬ gh_has 1 (c (o y e) e))
def gx_t (own : Nat → Nat → Prop) (o : Nat → Nat → Nat) (w : Nat → Nat) (F : gh_F) (mk : Nat → Nat → Nat) (c : Nat → Nat → List gh_M) : Prop := ∀ y e, own y e → gh_has 2 (c y e) → ¬ gi_wt F (o y e) e → gi_wt F y e ∧ F 8 (o y e) = F 8 y ∧ mk (o y e) e ≠ 0
def gx_a (own : Nat → Nat → Prop) (o : Nat → Nat → Nat) (w : Nat → Nat) (F : gh_F) (mk : Nat → Nat → Nat) (c : Nat → Nat → List gh_M) : Prop := ∀ y e, own y e → gh_has 3 (c y e) → gi_wt F y e ∧ F 8 (o y e) ≠ F 8 y ∧ F 1 y ≤ F 1 (o y e) ∧ ¬ gh_has 2 (c (o y e) e)
def gx_r (own : Nat → Nat → Prop) (o : Nat → Nat → Nat) (w : Nat → Nat) (F : gh_F) (mk : Nat → Nat → Nat) (c : Nat → Nat → List gh_M) : Prop := ∀ y e, own y e → gh_has 4 (c y e) → gi_wt F y e ∧ F 8 (o y e) = F 8 y ∧ ¬ gi_wt F (o y e) e ∧ mk (o y e) e ≠ 0 ∧ ¬ gh_has 2 (c (o y e) e) ∧ ¬ gh_has 2 (c y e)
def gx_k (own : Nat → Nat → Prop) (o : Nat → Nat → Nat) (w : Nat → Nat) (F : gh_F) (mk : Nat → Nat → Nat) (c : Nat → Nat → List gh_M) : Prop := ∀ y e, own y e → gh_has 6 (c y e) → F 13 (F 8 y) = 2 ∧ F 14 (F 8 y) = y ∧ F 15 (F 8 y) = e
def gx_p (own : Nat → Nat → Prop) (o : Nat → Nat → Nat) (w : Nat → Nat) (F : gh_F) (mk : Nat → Nat → Nat) (c : Nat → Nat → List gh_M) : Prop := ∀ y e, own y e → gh_has 5 (c y e) → F 8 (o y e) = F 8 y ∧
  ((F 13 (F 8 y) = 1 ∧ mk y e = 1 ∧ F 9 (o y e) = e ∧ F 9 y ≠ e ∧ gi_cur F (o y e) ∧ gi_cur F y ∧ F 0 y = 1 ∧ F 0 (o y e) = 2) ∨
   (F 13 (F 8 y) = 1 ∧ w e = F 8 y ∧ gi_cur F (o y e) ∧ F 0 (o y e) = 2 ∧ (gi_cur F y ∨ gh_has 1 (c y e))) ∨
   (mk y e = 1 ∧ F 0 y = 2 ∧ F 4 y = e ∧ F 9 y = e ∧ F 9 (o y e) ≠ e ∧ (¬ gi_cur F y ∨ F 4 (o y e) ≠ F 9 (o y e)) ∧ 1 ≤ F 1 y))
/-- INITIATEs: their levels -/
def gx_l (own : Nat → Nat → Prop) (F : gh_F) (c : Nat → Nat → List gh_M) : Prop := ∀ y e, own y e → ∀ m ∈ c y e, m.1 = 1 → F 1 y < m.2.1 ∧ m.2.1 ≤ gh_last (F 1 y) (c y e) ∧ m.2.1 ≤ F 12 (F 8 y)
def gx_b (own : Nat → Nat → Prop) (F : gh_F) (c : Nat → Nat → List gh_M) : Prop := ∀ y e, own y e → F 1 y ≤ gh_last (F 1 y) (c y e) ∧ (F 1 y ≤ F 12 (F 8 y) → gh_last (F 1 y) (c y e) ≤ F 12 (F 8 y)) ∧ (¬ gh_has 1 (c y e) → gh_last (F 1 y) (c y e) = F 1 y)
section
variable {own : Nat → Nat → Prop} {o : Nat → Nat → Nat} {w : Nat → Nat} {F : gh_F} {mk : Nat → Nat → Nat} {c : Nat → Nat → List gh_M}
theorem gx_iI (h : gi_ch own o w F mk c) : gx_i own o w F mk c := by
  intro y e hy hh
  obtain ⟨m, a, m1, m2, m3, m4, m5⟩ := gi_atk h hy hh
  have := m5.2.1 m2
  grind
theorem gx_cI (h : gi_ch own o w F mk c) : gx_c own o w F mk c := by
  intro y e hy hh
  obtain ⟨m, a, m1, m2, m3, m4, m5⟩ := gi_atk h hy hh
  have := m5.2.2.1 m2
  grind
theorem gx_tI (h : gi_ch own o w F mk c) : gx_t own o w F mk c := by
  intro y e hy hh
  obtain ⟨m, a, m1, m2, m3, m4, m5⟩ := gi_atk h hy hh
  have := m5.2.2.2.1 m2
  grind
theorem gx_aI (h : gi_ch own o w F mk c) : gx_a own o w F mk c := by
  intro y e hy hh
  obtain ⟨m, a, m1, m2, m3, m4, m5⟩ := gi_atk h hy hh
  exact m5.2.2.2.2.1 m2
theorem gx_rI (h : gi_ch own o w F mk c) : gx_r own o w F mk c := by
  intro y e hy hh
  obtain ⟨m, a, m1, m2, m3, m4, m5⟩ := gi_atk h hy hh
  exact m5.2.2.2.2.2.1 m2
theorem gx_kI (h : gi_ch own o w F mk c) : gx_k own o w F mk c := by
  intro y e hy hh
  obtain ⟨m, a, m1, m2, m3, m4, m5⟩ := gi_atk h hy hh
  exact m5.2.2.2.2.2.2.1 m2
theorem gx_pI (h : gi_ch own o w F mk c) : gx_p own o w F mk c := by
  intro y e hy hh
  obtain ⟨m, a, m1, m2, m3, m4, m5⟩ := gi_atk h hy hh
  obtain ⟨z1, z2⟩ := m5.2.2.2.2.2.2.2 m2
  have hc : F 13 (F 8 (o y e)) = 1 → a = F 12 (F 8 (o y e)) → gi_cur F y ∨ gh_has 1 (c y e) := by
    intro _ h2
    by_cases q : gh_has 1 (c y e)
    · exact Or.inr q
    · refine Or.inl ?_
      have := m4 q
      unfold gi_cur
      rw [← z1, ← h2, this]
  rw [z1] at z2 hc
  refine ⟨z1, ?_⟩
  rcases z2 with q | q | q
  · exact Or.inl ⟨q.1, q.2.1, q.2.2.1, q.2.2.2.1, q.2.2.2.2.1, q.2.2.2.2.2.1, q.2.2.2.2.2.2.1, q.2.2.2.2.2.2.2.1⟩
  · exact Or.inr (Or.inl ⟨q.1, q.2.1, q.2.2.1, q.2.2.2.1, hc q.1 q.2.2.2.2.2⟩)
  · exact Or.inr (Or.inr ⟨q.1, q.2.1, q.2.2.1, q.2.2.2.2.1, q.2.2.2.2.2.1, q.2.2.2.2.2.2.2.1, q.2.2.2.2.2.2.2.2⟩)
theorem gx_lI (h : gi_ch own o w F mk c) : gx_l own F c := by
  intro y e hy m hm h1
  have h2 := (gh_Ch_a (fun _ _ => gm_inc) _ _ (h y e hy)).2 m hm h1
  obtain ⟨a, a1, a2, a3⟩ := gi_at h hy hm
  have := a3.2.1 h1
  grind
theorem gx_bI (h : gi_ch own o w F mk c) : gx_b own F c := by
  intro y e hy
  have h2 := (gh_Ch_a (fun _ _ => gm_inc) _ _ (h y e hy)).1
  refine ⟨h2, fun hb => ?_, gh_last_no _ _⟩
  rcases gh_last_in (c y e) (F 1 y) with z | ⟨m, m1, m2, m3⟩
  · omega
  · have := gx_lI h y e hy m m1 m2
    omega
end
/-! A message more, a message less. -/
def gh_A (c : Nat → Nat → List gh_M) (y e : Nat) (m : gh_M) : Nat → Nat → List gh_M := gh_C c y e (c y e ++ [m])
theorem gh_A_has {c : Nat → Nat → List gh_M} {y e y' e' k : Nat} {m : gh_M} : gh_has k (gh_A c y e m y' e') ↔ gh_has k (c y' e') ∨ (y' = y ∧ e' = e ∧ m.1 = k) := by
  unfold gh_A gh_C
  by_cases h : y' = y ∧ e' = e
  · rw [if_pos h, h.1, h.2, gh_has_app]; simp
  · rw [if_neg h]
    refine ⟨Or.inl, fun z => ?_⟩
    rcases z with z | z
    · exact z
    · exact absurd ⟨z.1, z.2.1⟩ h
theorem gh_A_cnt {c : Nat → Nat → List gh_M} {y e y' e' k : Nat} {m : gh_M} : gh_cnt k (gh_A c y e m y' e') = gh_cnt k (c y' e') + if y' = y ∧ e' = e ∧ m.1 = k then 1 else 0 := by
  unfold gh_A gh_C
  by_cases h : y' = y ∧ e' = e
  · rw [if_pos h, h.1, h.2, gh_cnt_app]; simp
  · rw [if_neg h, if_neg (fun z => h ⟨z.1, z.2.1⟩)]; rfl
theorem gh_A_mem {c : Nat → Nat → List gh_M} {y e y' e' : Nat} {m m' : gh_M} : m' ∈ gh_A c y e m y' e' ↔ m' ∈ c y' e' ∨ (y' = y ∧ e' = e ∧ m' = m) := by
  unfold gh_A gh_C
  by_cases h : y' = y ∧ e' = e
  · rw [if_pos h, h.1, h.2]; simp
  · rw [if_neg h]
    refine ⟨Or.inl, fun z => ?_⟩
    rcases z with z | z
    · exact z
    · exact absurd ⟨z.1, z.2.1⟩ h
/-- the channel's head away -/
def gh_T (c : Nat → Nat → List gh_M) (y e : Nat) : Nat → Nat → List gh_M := gh_C c y e (c y e).tail
theorem gh_T_has {c : Nat → Nat → List gh_M} {y e y' e' k : Nat} {m : gh_M} {t : List gh_M} (h : c y e = m :: t) : gh_has k (c y' e') ↔ gh_has k (gh_T c y e y' e') ∨ (y' = y ∧ e' = e ∧ m.1 = k) := by
  unfold gh_T gh_C
  by_cases h1 : y' = y ∧ e' = e
  · rw [if_pos h1, h1.1, h1.2, h, gh_has_cons]; simp
  · rw [if_neg h1]
    refine ⟨Or.inl, fun z => ?_⟩
    rcases z with z | z
    · exact z
    · exact absurd ⟨z.1, z.2.1⟩ h1
theorem gh_T_cnt {c : Nat → Nat → List gh_M} {y e y' e' k : Nat} {m : gh_M} {t : List gh_M} (h : c y e = m :: t) : gh_cnt k (c y' e') = gh_cnt k (gh_T c y e y' e') + if y' = y ∧ e' = e ∧ m.1 = k then 1 else 0 := by
  unfold gh_T gh_C
  by_cases h1 : y' = y ∧ e' = e
  · rw [if_pos h1, h1.1, h1.2, h, gh_cnt_cons]; simp
  · rw [if_neg h1, if_neg (fun z => h1 ⟨z.1, z.2.1⟩)]; rfl
theorem gh_T_mem {c : Nat → Nat → List gh_M} {y e y' e' : Nat} {m' : gh_M} (h1 : m' ∈ gh_T c y e y' e') : m' ∈ c y' e' := by
  unfold gh_T gh_C at h1
  split at h1
  · rename_i z; rw [z.1, z.2]; exact List.mem_of_mem_tail h1
  · exact h1
/-- whose edge towards the root is not its parent's, is below it -/
def gx_n (o : Nat → Nat → Nat) (F : gh_F) : Prop := ∀ y, F 9 y ≠ 12 → F 8 (o y (F 9 y)) = F 8 y → F 9 (o y (F 9 y)) ≠ F 9 y → gi_NR o F y
theorem gx_nI {own : Nat → Nat → Prop} {o : Nat → Nat → Nat} {w : Nat → Nat} {F : gh_F} {mk : Nat → Nat → Nat} {c : Nat → Nat → List gh_M} (Hn : gh_Net own o w) (Hph : gi_ph F) (HpA : gi_pA own F mk) (HSr : gi_Sr o w F c) (HSn : gi_Sn o w F) (HM : gi_M own o F) (HC : gi_C own o F mk) : gx_n o F := by
  intro y h1 h2 h3
  have hp := Hph y
  have : F 13 (F 8 y) = 0 ∨ F 13 (F 8 y) = 1 ∨ F 13 (F 8 y) = 2 ∨ F 13 (F 8 y) = 3 := by omega
  rcases this with z | z | z | z
  · exact absurd (HpA y z).2.1 h1
  · by_cases hw : w (F 9 y) = F 8 y
    · exact absurd (HSr y z hw).1 h3
    · exact HSn y z hw
  · obtain ⟨a1, a2, a3, a4, a5, a6, a7, a8, a9, a10, a11, a12, a13⟩ := HM y z _ _ _ rfl rfl rfl
    rcases a13 with q | q | q
    · rw [← q] at a3 a8; rw [← a3] at a8; exact absurd a8 h3
    · have := Hn.1 _ _ a2
      rw [← q] at a8 
      have h5 : o y (F 15 (F 8 y)) = F 14 (F 8 y) := by
        have h6 := this.2.1
        rw [← q] at h6; exact h6
      rw [a8, h5] at h3
      exact absurd a3 h3
    · exact q
  · obtain ⟨a1, a2, a3, a4, a5, a6, a7⟩ := HC y z _ _ rfl rfl
    rcases a7 with q | q
    · rw [← q] at a4 a5; rw [← a5] at a4; exact absurd h2 a4
    · exact q
