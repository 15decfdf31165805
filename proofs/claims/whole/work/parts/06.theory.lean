/-! The network's theory: messages in channels, the invariants (labels as in wip/ghs2.py). No kit is used here.
A message in a channel: (kind, first, second, third). Kinds: 0 CONNECT, 1 INITIATE, 2 TEST, 3 ACCEPT, 4 REJECT, 5 REPORT, 6 CORE. The edge 'none' is 12. -/
abbrev gh_M : Type := Nat × Nat × Nat × Nat
/-- the receiver's level behind a message -/
def gh_v (a : Nat) (m : gh_M) : Nat := if m.1 = 1 then m.2.1 else a
def gh_last : Nat → List gh_M → Nat
  | a, [] => a
  | a, m :: t => gh_last (gh_v a m) t
def gh_Ch (P : Nat → gh_M → Prop) : Nat → List gh_M → Prop
  | _, [] => True
  | a, m :: t => P a m ∧ gh_Ch P (gh_v a m) t
theorem gh_Ch_app {P : Nat → gh_M → Prop} {m : gh_M} : ∀ (l : List gh_M) (a : Nat), gh_Ch P a (l ++ [m]) ↔ gh_Ch P a l ∧ P (gh_last a l) m
  | [], a => by simp [gh_Ch, gh_last]
  | x :: t, a => by
    have ih := gh_Ch_app (P := P) (m := m) t (gh_v a x)
    simp only [List.cons_append, gh_Ch, gh_last, ih, and_assoc]
theorem gh_last_app {m : gh_M} : ∀ (l : List gh_M) (a : Nat), gh_last a (l ++ [m]) = gh_v (gh_last a l) m
  | [], a => rfl
  | x :: t, a => gh_last_app t (gh_v a x)
theorem gh_Ch_mono {P Q : Nat → gh_M → Prop} : ∀ (l : List gh_M) (a : Nat), (∀ b m, m ∈ l → P b m → Q b m) → gh_Ch P a l → gh_Ch Q a l
  | [], _, _, _ => trivial
  | x :: t, a, h, hc => ⟨h a x List.mem_cons_self hc.1, gh_Ch_mono t _ (fun b m hm => h b m (List.mem_cons_of_mem _ hm)) hc.2⟩
theorem gh_Ch_and {P Q : Nat → gh_M → Prop} : ∀ (l : List gh_M) (a : Nat), gh_Ch P a l → gh_Ch Q a l → gh_Ch (fun b m => P b m ∧ Q b m) a l
  | [], _, _, _ => trivial
  | _ :: t, _, h1, h2 => ⟨⟨h1.1, h2.1⟩, gh_Ch_and t _ h1.2 h2.2⟩
theorem gh_Ch_mem {P : Nat → gh_M → Prop} : ∀ (l : List gh_M) (a : Nat), gh_Ch P a l → ∀ m ∈ l, ∃ b, P b m
  | x :: t, a, h, m, hm => by
    rcases List.mem_cons.mp hm with e | hm
    · exact ⟨a, e ▸ h.1⟩
    · exact gh_Ch_mem t _ h.2 m hm
/-- a message of kind k lies in the channel; how many -/
def gh_has (k : Nat) (l : List gh_M) : Prop := ∃ m ∈ l, m.1 = k
def gh_cnt (k : Nat) : List gh_M → Nat
  | [] => 0
  | m :: t => (if m.1 = k then 1 else 0) + gh_cnt k t
theorem gh_cnt_app {k : Nat} {m : gh_M} : ∀ l : List gh_M, gh_cnt k (l ++ [m]) = gh_cnt k l + if m.1 = k then 1 else 0
  | [] => by simp [gh_cnt]
  | x :: t => by simp only [List.cons_append, gh_cnt, gh_cnt_app t]; omega
theorem gh_cnt_0 {k : Nat} : ∀ l : List gh_M, gh_cnt k l = 0 ↔ ¬ gh_has k l
  | [] => by simp [gh_cnt, gh_has]
  | x :: t => by
    have ih := gh_cnt_0 (k := k) t
    simp only [gh_cnt, gh_has] at ih ⊢
    by_cases h : x.1 = k
    · simp [h]
    · simp [h]
      simpa using ih
/-- INITIATEs rise, from the receiver's level on: so there are at most (highest - lowest) of them -/
def gh_inc (a : Nat) (m : gh_M) : Prop := m.1 = 1 → a < m.2.1
theorem gh_inc_le {B : Nat} : ∀ (l : List gh_M) (a : Nat), a ≤ B → gh_Ch gh_inc a l → (∀ m ∈ l, m.1 = 1 → m.2.1 ≤ B) → gh_cnt 1 l + a ≤ B
  | [], a, h, _, _ => by simpa [gh_cnt] using h
  | x :: t, a, h, hc, hb => by
    have hx := hb x List.mem_cons_self
    have ih := gh_inc_le (B := B) t (gh_v a x)
    have hi := hc.1
    unfold gh_inc at hi
    by_cases e : x.1 = 1
    · have hv : gh_v a x = x.2.1 := if_pos e
      rw [hv] at ih
      have := ih (hx e) (by have := hc.2; rwa [hv] at this) (fun m hm => hb m (List.mem_cons_of_mem _ hm))
      simp only [gh_cnt, e, if_true]
      have := hi e
      omega
    · have hv : gh_v a x = a := if_neg e
      rw [hv] at ih
      have := ih h (by have := hc.2; rwa [hv] at this) (fun m hm => hb m (List.mem_cons_of_mem _ hm))
      simp only [gh_cnt, e, if_false]
      omega
theorem gh_len : ∀ l : List gh_M, (∀ m ∈ l, m.1 ≤ 6) → l.length = gh_cnt 0 l + gh_cnt 1 l + gh_cnt 2 l + gh_cnt 3 l + gh_cnt 4 l + gh_cnt 5 l + gh_cnt 6 l
  | [], _ => by simp [gh_cnt]
  | x :: t, h => by
    have ih := gh_len t (fun m hm => h m (List.mem_cons_of_mem _ hm))
    have hx := h x List.mem_cons_self
    simp only [List.length_cons, gh_cnt]
    have : x.1 = 0 ∨ x.1 = 1 ∨ x.1 = 2 ∨ x.1 = 3 ∨ x.1 = 4 ∨ x.1 = 5 ∨ x.1 = 6 := by omega
    rcases this with e | e | e | e | e | e | e <;> simp [e] <;> omega
/-! The state: F k x, the k-th field of node x: 0 state (0 asleep, 1 FIND, 2 FOUND), 1 level, 2 fragment, 3 answers, 4 way in, 5 best, 6 weight of best, 7 tested;
ghosts: 8 class, 9 edge towards the root, 10 rank, 11 through with the class's search (1) or not (0); of a class g: 12 its level, 13 its phase (0 alone, 1 searching, 2 core moves, 3 CONNECT is out), 14 and 15 the phase's node and edge.
mk x e: 0 BASIC, 1 BRANCH, 2 REJECTED; c y e: what came to y over e, in order. own x e: x is an end of e; o x e: the other end; w e: its weight. -/
abbrev gh_F : Type := Nat → Nat → Nat
def gh_U (F : gh_F) (k x v : Nat) : gh_F := fun k' x' => if k' = k ∧ x' = x then v else F k' x'
def gh_Net (own : Nat → Nat → Prop) (o : Nat → Nat → Nat) (w : Nat → Nat) : Prop :=
  (∀ x e, own x e → own (o x e) e ∧ o (o x e) e = x ∧ o x e ≠ x ∧ e < 12 ∧ x < 7 ∧ 1 ≤ w e ∧ w e < 100) ∧
  (∀ x y e, own x e → own y e → y = x ∨ y = o x e) ∧ (∀ x y e f, own x e → own y f → w e = w f → e = f)
def gi_cur (F : gh_F) (x : Nat) : Prop := F 1 x = F 12 (F 8 x)
def gi_NR (o : Nat → Nat → Nat) (F : gh_F) (x : Nat) : Prop := F 9 x ≠ 12 ∧ F 8 (o x (F 9 x)) = F 8 x ∧ F 9 (o x (F 9 x)) ≠ F 9 x ∧ F 10 (o x (F 9 x)) < F 10 x
def gi_wt (F : gh_F) (x e : Nat) : Prop := F 0 x = 1 ∧ F 7 x = e
/-! of one node -/
def gi_st (F : gh_F) : Prop := ∀ x, F 0 x ≤ 2
def gi_b1 (F : gh_F) : Prop := ∀ x, F 1 x ≤ F 12 (F 8 x)
def gi_b2 (F : gh_F) : Prop := ∀ x, (100 ≤ F 8 x ↔ F 12 (F 8 x) = 0) ∧ (100 ≤ F 8 x → F 8 x = 100 + x) ∧ 1 ≤ F 8 x
def gi_b3 (F : gh_F) : Prop := ∀ x, (F 8 x < 100 → (F 2 x = F 8 x ↔ gi_cur F x)) ∧ (100 ≤ F 8 x → F 2 x = 0)
def gi_b4 (F : gh_F) : Prop := ∀ x, 1 ≤ F 1 x → F 2 x ≠ 0
def gi_b5 (own : Nat → Nat → Prop) (o : Nat → Nat → Nat) (w : Nat → Nat) (F : gh_F) : Prop := ∀ x, F 2 x ≠ 0 → ∃ y e, own y e ∧ w e = F 2 x ∧ F 8 y = F 8 x ∧ F 8 (o y e) = F 8 x
def gi_b6 (own : Nat → Nat → Prop) (o : Nat → Nat → Nat) (w : Nat → Nat) (F : gh_F) (mk : Nat → Nat → Nat) : Prop := ∀ x, F 8 x < 100 → ∃ y e, own y e ∧ w e = F 8 x ∧ F 8 y = F 8 x ∧ F 8 (o y e) = F 8 x ∧ mk y e = 1 ∧ mk (o y e) e = 1
def gi_s0 (own : Nat → Nat → Prop) (F : gh_F) (mk : Nat → Nat → Nat) : Prop := ∀ x, F 0 x = 0 → F 13 (F 8 x) = 0
def gi_pA (own : Nat → Nat → Prop) (F : gh_F) (mk : Nat → Nat → Nat) : Prop := ∀ x, F 13 (F 8 x) = 0 → 100 ≤ F 8 x ∧ F 9 x = 12 ∧ ∀ e, own x e → mk x e = 0
def gi_s1 (F : gh_F) : Prop := ∀ x, F 0 x ≠ 1 → F 7 x = 12 ∧ F 3 x = 0
def gi_s2 (F : gh_F) : Prop := ∀ x, F 0 x = 1 → gi_cur F x ∧ F 13 (F 8 x) = 1 ∧ F 11 x = 0
def gi_Sl (F : gh_F) : Prop := ∀ x, F 13 (F 8 x) = 1 → F 8 x < 100
def gi_s3 (F : gh_F) : Prop := ∀ x, gi_cur F x → F 0 x = 2 → F 8 x < 100 → F 11 x = 1
def gi_s4 (F : gh_F) : Prop := ∀ x, (F 5 x = 12 ↔ F 6 x = 100) ∧ F 6 x ≤ 100
def gi_ow (own : Nat → Nat → Prop) (F : gh_F) : Prop := ∀ x, (F 5 x ≠ 12 → own x (F 5 x)) ∧ (F 7 x ≠ 12 → own x (F 7 x))
def gi_s5 (F : gh_F) : Prop := ∀ x, gi_cur F x → F 13 (F 8 x) = 1 → F 4 x = F 9 x
def gi_s6 (own : Nat → Nat → Prop) (F : gh_F) (mk : Nat → Nat → Nat) : Prop := ∀ x, (F 8 x < 100 → F 9 x ≠ 12) ∧ (F 9 x ≠ 12 → own x (F 9 x) ∧ mk x (F 9 x) = 1)
/-! of a class that searches: two roots with the core's edge between them, all others below -/
def gi_Sr (o : Nat → Nat → Nat) (w : Nat → Nat) (F : gh_F) (c : Nat → Nat → List gh_M) : Prop := ∀ x, F 13 (F 8 x) = 1 → w (F 9 x) = F 8 x →
  F 9 (o x (F 9 x)) = F 9 x ∧ F 8 (o x (F 9 x)) = F 8 x ∧ (¬ gi_cur F x → F 11 x = 0 ∧ (gh_has 0 (c (o x (F 9 x)) (F 9 x)) ∨ ∃ m ∈ c x (F 9 x), m.1 = 1 ∧ m.2.1 = F 12 (F 8 x)))
def gi_Sn (o : Nat → Nat → Nat) (w : Nat → Nat) (F : gh_F) : Prop := ∀ x, F 13 (F 8 x) = 1 → w (F 9 x) ≠ F 8 x → gi_NR o F x
/-! the core moves: CORE lies before y over e -/
def gi_M (own : Nat → Nat → Prop) (o : Nat → Nat → Nat) (F : gh_F) : Prop := ∀ x, F 13 (F 8 x) = 2 → ∀ y e z, F 14 (F 8 x) = y → F 15 (F 8 x) = e → o y e = z →
  F 8 y = F 8 x ∧ own y e ∧ F 9 y = e ∧ gi_cur F y ∧ F 4 y = e ∧ F 5 y ≠ 12 ∧ F 8 z = F 8 x ∧ F 9 z = e ∧ gi_cur F z ∧ F 4 z ≠ e ∧ F 11 x = 1 ∧ F 8 x < 100 ∧ (x = y ∨ x = z ∨ gi_NR o F x)
/-! CONNECT is out: u has sent it over e -/
def gi_C (own : Nat → Nat → Prop) (o : Nat → Nat → Nat) (F : gh_F) (mk : Nat → Nat → Nat) : Prop := ∀ x, F 13 (F 8 x) = 3 → ∀ u e, F 14 (F 8 x) = u → F 15 (F 8 x) = e →
  F 8 u = F 8 x ∧ own u e ∧ mk u e = 1 ∧ F 8 (o u e) ≠ F 8 x ∧ F 9 u = e ∧ F 11 x = 1 ∧ (x = u ∨ gi_NR o F x)
def gi_ph (F : gh_F) : Prop := ∀ x, F 13 (F 8 x) ≤ 3
/-! a node and its parent -/
def gi_6 (o : Nat → Nat → Nat) (F : gh_F) (c : Nat → Nat → List gh_M) : Prop := ∀ x, gi_NR o F x → F 1 x ≤ F 1 (o x (F 9 x)) ∧ ∀ m ∈ c x (F 9 x), m.1 = 1 → m.2.1 ≤ F 1 (o x (F 9 x))
def gi_7 (o : Nat → Nat → Nat) (F : gh_F) : Prop := ∀ x, gi_NR o F x → (F 11 (o x (F 9 x)) = 1 → F 11 x = 1) ∧ (¬ gi_cur F (o x (F 9 x)) → F 11 x = 1 → F 11 (o x (F 9 x)) = 1) ∧ (F 0 (o x (F 9 x)) = 1 → F 11 x = 1 → gi_cur F x)
/-! answers that stand out; the best edge -/
def gi_open (o : Nat → Nat → Nat) (F : gh_F) (c : Nat → Nat → List gh_M) (x e : Nat) : Prop := ¬ (gi_cur F (o x e) ∧ F 0 (o x e) = 2 ∧ ¬ gh_has 5 (c x e))
def gi_bc (o : Nat → Nat → Nat) (F : gh_F) (mk : Nat → Nat → Nat) (c : Nat → Nat → List gh_M) : Prop := ∀ x b y, F 5 x = b → b ≠ 12 → o x b = y → gi_cur F x → (F 13 (F 8 x) = 1 ∨ F 13 (F 8 x) = 2) → F 4 x = F 9 x →
  (mk x b = 1 → F 9 y = b ∧ F 9 x ≠ b ∧ F 8 y = F 8 x ∧ gi_cur F y ∧ F 0 y = 2 ∧ F 6 y = F 6 x ∧ F 4 y = b ∧ ¬ gh_has 5 (c x b)) ∧ (mk x b ≠ 1 → mk x b = 0 ∧ F 8 y ≠ F 8 x ∧ F 1 x ≤ F 1 y)
/-! an edge and its two ends -/
def gi_K (own : Nat → Nat → Prop) (o : Nat → Nat → Nat) (F : gh_F) (mk : Nat → Nat → Nat) (c : Nat → Nat → List gh_M) : Prop := ∀ x e y, own x e → o x e = y → mk x e = 1 →
  (F 8 x = F 8 y → mk y e = 1 ∧ (F 9 x = e ∨ F 9 y = e)) ∧ (F 8 x ≠ F 8 y → F 13 (F 8 x) = 3 ∧ F 14 (F 8 x) = x ∧ F 15 (F 8 x) = e ∧ mk y e = 0 ∧ gi_cur F x ∧ F 1 x ≤ F 1 y ∧ gh_has 0 (c y e))
def gi_rj (own : Nat → Nat → Prop) (o : Nat → Nat → Nat) (F : gh_F) (mk : Nat → Nat → Nat) : Prop := ∀ x e, own x e → mk x e ≤ 2 ∧ (mk x e = 2 → F 8 x = F 8 (o x e))
def gi_tw (own : Nat → Nat → Prop) (c : Nat → Nat → List gh_M) : Prop := ∀ y e, own y e → ∀ k, k ≠ 1 → gh_cnt k (c y e) ≤ 1
def gi_ts (own : Nat → Nat → Prop) (o : Nat → Nat → Nat) (F : gh_F) (c : Nat → Nat → List gh_M) : Prop := ∀ y e, own y e → gh_has 2 (c y e) → gh_has 2 (c (o y e) e) → gi_wt F (o y e) e ∧ gi_wt F y e
/-- a message m that lies before y over e, where y's level behind all that lies ahead of it is a; x has sent it -/
def gi_m (own : Nat → Nat → Prop) (o : Nat → Nat → Nat) (w : Nat → Nat) (F : gh_F) (mk : Nat → Nat → Nat) (c : Nat → Nat → List gh_M) (x y e : Nat) (a : Nat) (m : gh_M) : Prop :=
  (m.1 ≤ 6) ∧
  (m.1 = 1 → a < m.2.1 ∧ F 8 x = F 8 y ∧ mk x e = 1 ∧ F 9 y = e ∧ m.2.1 ≤ F 12 (F 8 x) ∧ (m.2.1 = F 12 (F 8 x) ↔ m.2.2.1 = F 8 x) ∧ m.2.2.1 ≠ 0 ∧ (m.2.2.2 = 1 ∨ m.2.2.2 = 2) ∧ (m.2.2.2 = 1 ↔ (m.2.1 = F 12 (F 8 x) ∧ F 11 y = 0)) ∧ (F 13 (F 8 x) = 1 → w e = F 8 x → m.2.1 = F 12 (F 8 x)) ∧ ∃ y' f, own y' f ∧ w f = m.2.2.1 ∧ F 8 y' = F 8 x ∧ F 8 (o y' f) = F 8 x) ∧
  (m.1 = 0 → mk x e = 1 ∧ (F 8 x = F 8 y → F 13 (F 8 x) = 1 ∧ w e = F 8 x ∧ F 1 x = m.2.1 ∧ F 1 y = m.2.1 ∧ F 12 (F 8 x) = m.2.1 + 1 ∧ ¬ gh_has 1 (c x e) ∧ a = F 1 y) ∧ (F 8 x ≠ F 8 y → m.2.1 = F 1 x)) ∧
  (m.1 = 2 → (gi_wt F x e → m.2.1 = F 1 x ∧ m.2.2.1 = F 2 x) ∧ (¬ gi_wt F x e → gi_wt F y e ∧ m.2.1 = F 1 y ∧ m.2.2.1 = F 2 y ∧ F 8 x = F 8 y ∧ mk x e ≠ 0)) ∧
  (m.1 = 3 → gi_wt F y e ∧ F 8 x ≠ F 8 y ∧ F 1 y ≤ F 1 x ∧ ¬ gh_has 2 (c x e)) ∧
  (m.1 = 4 → gi_wt F y e ∧ F 8 x = F 8 y ∧ ¬ gi_wt F x e ∧ mk x e ≠ 0 ∧ ¬ gh_has 2 (c x e) ∧ ¬ gh_has 2 (c y e)) ∧
  (m.1 = 6 → F 13 (F 8 y) = 2 ∧ F 14 (F 8 y) = y ∧ F 15 (F 8 y) = e) ∧
  (m.1 = 5 → F 8 x = F 8 y ∧
    ((F 13 (F 8 x) = 1 ∧ mk y e = 1 ∧ F 9 x = e ∧ F 9 y ≠ e ∧ gi_cur F x ∧ gi_cur F y ∧ F 0 y = 1 ∧ F 0 x = 2 ∧ m.2.1 = F 6 x) ∨
     (F 13 (F 8 x) = 1 ∧ w e = F 8 x ∧ gi_cur F x ∧ F 0 x = 2 ∧ m.2.1 = F 6 x ∧ a = F 12 (F 8 x)) ∨
     (mk y e = 1 ∧ F 0 y = 2 ∧ F 4 y = e ∧ m.2.1 < F 6 y ∧ F 9 y = e ∧ F 9 x ≠ e ∧ a = F 1 y ∧ (¬ gi_cur F y ∨ F 4 x ≠ F 9 x) ∧ 1 ≤ F 1 y)))
def gi_ch (own : Nat → Nat → Prop) (o : Nat → Nat → Nat) (w : Nat → Nat) (F : gh_F) (mk : Nat → Nat → Nat) (c : Nat → Nat → List gh_M) : Prop := ∀ y e, own y e → gh_Ch (gi_m own o w F mk c (o y e) y e) (F 1 y) (c y e)
/-! answers that stand out, as a list of edges; a class of level k has more than k nodes, as a list of nodes -/
def gi_an (own : Nat → Nat → Prop) (o : Nat → Nat → Nat) (F : gh_F) (mk : Nat → Nat → Nat) (c : Nat → Nat → List gh_M) : Prop := ∀ x, F 0 x = 1 → ∃ l : List Nat, l.Nodup ∧ l.length = F 3 x ∧ ∀ e, e ∈ l ↔ (own x e ∧ mk x e = 1 ∧ e ≠ F 9 x ∧ gi_open o F c x e)
def gi_sz (F : gh_F) : Prop := ∀ x, x < 7 → ∃ l : List Nat, l.Nodup ∧ F 12 (F 8 x) + 1 ≤ l.length ∧ ∀ y ∈ l, y < 7 ∧ F 8 y = F 8 x
theorem gi_nodup_le : ∀ (n : Nat) (l : List Nat), l.Nodup → (∀ y ∈ l, y < n) → l.length ≤ n
  | 0, l, _, h => by
    cases l with
    | nil => simp
    | cons x t => exact absurd (h x List.mem_cons_self) (by omega)
  | n + 1, l, hn, h => by
    have h1 := gi_nodup_le n (l.erase n) (hn.erase n) (fun y hy => by
      have h2 := (List.Nodup.mem_erase_iff hn).mp hy
      have h3 := h y h2.2
      have h4 := h2.1
      omega)
    have h5 := List.length_erase (a := n) (l := l)
    split at h5 <;> omega
theorem gi_lv {F : gh_F} (hb : gi_b1 F) (hs : gi_sz F) {x : Nat} (hx : x < 7) : F 1 x ≤ 6 ∧ F 12 (F 8 x) ≤ 6 := by
  obtain ⟨l, h1, h2, h3⟩ := hs x hx
  have h4 := gi_nodup_le 7 l h1 (fun y hy => (h3 y hy).1)
  have h5 := hb x
  omega
