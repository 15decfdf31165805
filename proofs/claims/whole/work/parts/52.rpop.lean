/-! The reference's queue loses its head. -/
theorem k_rpop {n v : Nat} {q : Nat → List kM} {fr : Nat → Nat} {x : kM} {l : List kM} {g : Nat → Int32} {c : Nat} (hx : q v = x :: l) (h : ∀ i, i < n → ∀ k y, (q i)[k]? = some y → g (200 * i + (fr i + k) % 200) = kmf y c) :
    ∀ i, i < n → ∀ k y, (kup q v l i)[k]? = some y → g (200 * i + (kup fr v ((fr v + 1) % 200) i + k) % 200) = kmf y c := by
  intro i hi k y hy
  by_cases hiv : i = v
  · subst hiv
    rw [kup_self] at hy
    have h1 := h i hi (k + 1) y (by rw [hx, List.getElem?_cons_succ]; exact hy)
    rw [kup_self, show ((fr i + 1) % 200 + k) % 200 = (fr i + (k + 1)) % 200 by omega]
    exact h1
  · rw [kup_ne _ _ hiv] at hy ⊢
    exact h i hi k y hy
