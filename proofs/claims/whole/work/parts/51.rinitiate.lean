/-! The reference's initiate, by program (wip/mk51.py). -/
theorem k_fgt_eq {S : kS} {x : Nat} : k_fgt S x = k_fld (k_fld S x 5 (-1)) x 6 100 := by
  unfold k_fgt
  refine congrArg (fun z => (z, S.2)) ?_
  funext i
  by_cases hi : i = x
  · subst hi
    show kup S.1 i _ i = kup (kup S.1 i (upd (S.1 i) 5 (-1))) i (upd (kup S.1 i (upd (S.1 i) 5 (-1)) i) 6 100) i
    rw [kup_self, kup_self, kup_self]
  · show kup S.1 x _ i = kup (kup S.1 x (upd (S.1 x) 5 (-1))) x (upd (kup S.1 x (upd (S.1 x) 5 (-1)) x) 6 100) i
    rw [kup_ne _ _ hi, kup_ne _ _ hi, kup_ne _ _ hi]
theorem k_ini1_mk {E : kE} {S : kS} {x j : Nat} : (k_ini1 E S x j).2.1 = S.2.1 := by
  unfold k_ini1
  split <;> rfl
theorem k_inis_mk {E : kE} {S : kS} {x : Nat} : ∀ k, (k_inis E S x k).2.1 = S.2.1
  | 0 => rfl
  | k + 1 => by
    have ih := k_inis_mk (E := E) (S := S) (x := x) k
    show (if _ then _ else _ : kS).2.1 = _
    split
    · split
      · exact ih
      · exact k_ini1_mk.trans ih
    · exact ih
theorem k_ini0_f {S : kS} {x : Nat} {q : kM} : (k_ini0 S x q).1 x 0 = q.2.2.2.2 ∧ (k_ini0 S x q).1 x 1 = q.2.2.1 ∧ (k_ini0 S x q).1 x 2 = q.2.2.2.1 ∧ (k_ini0 S x q).1 x 4 = q.2.1 := by
  unfold k_ini0
  rw [k_fgt_eq]
  refine ⟨?_, ?_, ?_, ?_⟩
  · rw [k_fld_ne (by decide), k_fld_ne (by decide), k_fld_ne (by decide), k_fld_self]
  · rw [k_fld_ne (by decide), k_fld_ne (by decide), k_fld_ne (by decide), k_fld_ne (by decide), k_fld_ne (by decide), k_fld_self]
  · rw [k_fld_ne (by decide), k_fld_ne (by decide), k_fld_ne (by decide), k_fld_ne (by decide), k_fld_self]
  · rw [k_fld_ne (by decide), k_fld_ne (by decide), k_fld_self]
