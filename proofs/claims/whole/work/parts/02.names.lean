/-! Names, by program (wip/mk06.py): the good words of the tables as one list gw; a word by its place; classes, their fields; methods. -/
def gw : List Cond := lw_tbl.filter goodWord
theorem gw_in {w : Cond} (i : Nat) (h : lw_tbl[i]? = some w) (hg : goodWord w = true) : w ∈ gw := List.mem_filter.mpr ⟨List.mem_of_getElem? h, hg⟩
theorem gw_g {w : Cond} (h : w ∈ gw) : (w.onTables && w.keeps) = true ∨ ∃ ty, w = .arrayClass ty := good_of_word (List.mem_filter.mp h).2
def gw_ws (y : MethodName) (b : ByteArray) (n : Nat) (r : Option FieldType) : List Cond := .code y b n r :: gw
theorem gw_code {y : MethodName} {b : ByteArray} {n : Nat} {r : Option FieldType} (h : Cond.code y b n r ∈ gw) : GoodIn gw (gw_ws y b n r) := by
  intro w hw
  rcases List.mem_cons.mp hw with e | hw
  · subst e; exact ⟨h, gw_g h⟩
  · exact ⟨hw, gw_g hw⟩
theorem gw_V {own C : String} {i : Nat} {y : MethodName} {b : ByteArray} {n : Nat} {r : Option FieldType} (h1 : Cond.methodLink own i y ∈ gw) (h2 : Cond.instanceMethod y ∈ gw) (h3 : Cond.selects C y y ∈ gw) (h4 : Cond.initialized C ∈ gw) (h5 : Cond.code y b n r ∈ gw) : GoodIn gw (wsV own i C y (gw_ws y b n r)) := by
  intro w hw
  rcases List.mem_append.mp hw with hw | hw
  · simp only [List.mem_cons, List.not_mem_nil, or_false] at hw
    rcases hw with e | e | e | e <;> subst e
    · exact ⟨h1, gw_g h1⟩
    · exact ⟨h2, gw_g h2⟩
    · exact ⟨h3, gw_g h3⟩
    · exact ⟨h4, gw_g h4⟩
  · exact gw_code h5 w hw
theorem gw_S {own : String} {i : Nat} {y : MethodName} {b : ByteArray} {n : Nat} {r : Option FieldType} (h1 : Cond.methodLink own i y ∈ gw) (h2 : Cond.static y ∈ gw) (h4 : Cond.initialized y.cls ∈ gw) (h5 : Cond.code y b n r ∈ gw) : GoodIn gw (va_wsS own i y (gw_ws y b n r)) := by
  intro w hw
  rcases List.mem_append.mp hw with hw | hw
  · simp only [List.mem_cons, List.not_mem_nil, or_false] at hw
    rcases hw with e | e | e <;> subst e
    · exact ⟨h1, gw_g h1⟩
    · exact ⟨h2, gw_g h2⟩
    · exact ⟨h4, gw_g h4⟩
  · exact gw_code h5 w hw
def R_G : String := "MergingFragments"
def T_G : u_T := fun k => match k with
  | 0 => ("MergingFragments", "nodes", "[LMergingFragments$Node;", true)
  | 1 => ("MergingFragments", "ones", "[I", true)
  | 2 => ("MergingFragments", "twos", "[I", true)
  | 3 => ("MergingFragments", "weights", "[I", true)
  | 4 => ("MergingFragments", "nodeCount", "I", false)
  | 5 => ("MergingFragments", "edgeCount", "I", false)
  | _ => ("MergingFragments", "sentCount", "I", false)
def t_G : Nat → FieldType := fun k => match k with
  | 0 => .array (.object "MergingFragments$Node")
  | 1 => .array .int
  | 2 => .array .int
  | 3 => .array .int
  | 4 => .int
  | 5 => .int
  | _ => .int
theorem n_G : ∀ a, a < 7 → ∀ b, b < 7 → a ≠ b → (T_G a).2.1 ≠ (T_G b).2.1 := by decide +kernel
theorem t_G_ok : ∀ k, k < 7 → parseFieldDescriptor (T_G k).2.2.1 = some (t_G k) := by decide +kernel
theorem in_G : ∀ w ∈ u_ws R_G T_G 7, w ∈ gw := by decide +kernel
def R_N : String := "MergingFragments$Node"
def T_N : u_T := fun k => match k with
  | 0 => ("MergingFragments$Node", "number", "I", true)
  | 1 => ("MergingFragments$Node", "marks", "[I", true)
  | 2 => ("MergingFragments$Node", "queue", "Ljava/util/ArrayList;", true)
  | 3 => ("MergingFragments$Node", "state", "I", false)
  | 4 => ("MergingFragments$Node", "level", "I", false)
  | 5 => ("MergingFragments$Node", "fragment", "I", false)
  | 6 => ("MergingFragments$Node", "answers", "I", false)
  | 7 => ("MergingFragments$Node", "wayIn", "I", false)
  | 8 => ("MergingFragments$Node", "best", "I", false)
  | 9 => ("MergingFragments$Node", "bestWeight", "I", false)
  | 10 => ("MergingFragments$Node", "tested", "I", false)
  | _ => ("MergingFragments$Node", "done", "Z", false)
def t_N : Nat → FieldType := fun k => match k with
  | 0 => .int
  | 1 => .array .int
  | 2 => .object "java/util/ArrayList"
  | 3 => .int
  | 4 => .int
  | 5 => .int
  | 6 => .int
  | 7 => .int
  | 8 => .int
  | 9 => .int
  | 10 => .int
  | _ => .boolean
theorem n_N : ∀ a, a < 12 → ∀ b, b < 12 → a ≠ b → (T_N a).2.1 ≠ (T_N b).2.1 := by decide +kernel
theorem t_N_ok : ∀ k, k < 12 → parseFieldDescriptor (T_N k).2.2.1 = some (t_N k) := by decide +kernel
theorem in_N : ∀ w ∈ u_ws R_N T_N 12, w ∈ gw := by decide +kernel
def R_M : String := "MergingFragments$Message"
def T_M : u_T := fun k => match k with
  | 0 => ("MergingFragments$Message", "kind", "I", true)
  | 1 => ("MergingFragments$Message", "over", "I", true)
  | 2 => ("MergingFragments$Message", "first", "I", true)
  | 3 => ("MergingFragments$Message", "second", "I", true)
  | _ => ("MergingFragments$Message", "third", "I", true)
def t_M : Nat → FieldType := fun k => match k with
  | 0 => .int
  | 1 => .int
  | 2 => .int
  | 3 => .int
  | _ => .int
theorem n_M : ∀ a, a < 5 → ∀ b, b < 5 → a ≠ b → (T_M a).2.1 ≠ (T_M b).2.1 := by decide +kernel
theorem t_M_ok : ∀ k, k < 5 → parseFieldDescriptor (T_M k).2.2.1 = some (t_M k) := by decide +kernel
theorem in_M : ∀ w ∈ u_ws R_M T_M 5, w ∈ gw := by decide +kernel
def R_R : String := "MergingFragmentsModel"
def T_R : u_T := fun k => match k with
  | 0 => ("MergingFragmentsModel", "code", "I", false)
  | 1 => ("MergingFragmentsModel", "nodes", "I", false)
  | 2 => ("MergingFragmentsModel", "edges", "I", false)
  | 3 => ("MergingFragmentsModel", "ends", "[I", true)
  | 4 => ("MergingFragmentsModel", "weights", "[I", true)
  | 5 => ("MergingFragmentsModel", "marks", "[I", true)
  | 6 => ("MergingFragmentsModel", "states", "[I", true)
  | 7 => ("MergingFragmentsModel", "levels", "[I", true)
  | 8 => ("MergingFragmentsModel", "fragments", "[I", true)
  | 9 => ("MergingFragmentsModel", "answers", "[I", true)
  | 10 => ("MergingFragmentsModel", "wayIn", "[I", true)
  | 11 => ("MergingFragmentsModel", "best", "[I", true)
  | 12 => ("MergingFragmentsModel", "bestWeight", "[I", true)
  | 13 => ("MergingFragmentsModel", "tested", "[I", true)
  | 14 => ("MergingFragmentsModel", "done", "[Z", true)
  | 15 => ("MergingFragmentsModel", "from", "[I", true)
  | 16 => ("MergingFragmentsModel", "many", "[I", true)
  | 17 => ("MergingFragmentsModel", "kind", "[I", true)
  | 18 => ("MergingFragmentsModel", "over", "[I", true)
  | 19 => ("MergingFragmentsModel", "first", "[I", true)
  | 20 => ("MergingFragmentsModel", "second", "[I", true)
  | 21 => ("MergingFragmentsModel", "third", "[I", true)
  | _ => ("MergingFragmentsModel", "sent", "I", false)
def t_R : Nat → FieldType := fun k => match k with
  | 0 => .int
  | 1 => .int
  | 2 => .int
  | 3 => .array .int
  | 4 => .array .int
  | 5 => .array .int
  | 6 => .array .int
  | 7 => .array .int
  | 8 => .array .int
  | 9 => .array .int
  | 10 => .array .int
  | 11 => .array .int
  | 12 => .array .int
  | 13 => .array .int
  | 14 => .array .boolean
  | 15 => .array .int
  | 16 => .array .int
  | 17 => .array .int
  | 18 => .array .int
  | 19 => .array .int
  | 20 => .array .int
  | 21 => .array .int
  | _ => .int
theorem n_R : ∀ a, a < 23 → ∀ b, b < 23 → a ≠ b → (T_R a).2.1 ≠ (T_R b).2.1 := by decide +kernel
theorem t_R_ok : ∀ k, k < 23 → parseFieldDescriptor (T_R k).2.2.1 = some (t_R k) := by decide +kernel
theorem in_R : ∀ w ∈ u_ws R_R T_R 23, w ∈ gw := by decide +kernel
def R_A : String := "java/util/ArrayList"
def T_A : u_T := fun k => match k with
  | 0 => ("java/util/ArrayList", "elementData", "[Ljava/lang/Object;", false)
  | 1 => ("java/util/ArrayList", "size", "I", false)
  | _ => ("java/util/AbstractList", "modCount", "I", false)
def t_A : Nat → FieldType := fun k => match k with
  | 0 => .array (.object "java/lang/Object")
  | 1 => .int
  | _ => .int
theorem n_A : ∀ a, a < 3 → ∀ b, b < 3 → a ≠ b → (T_A a).2.1 ≠ (T_A b).2.1 := by decide +kernel
theorem t_A_ok : ∀ k, k < 3 → parseFieldDescriptor (T_A k).2.2.1 = some (t_A k) := by decide +kernel
theorem in_A : ∀ w ∈ u_ws R_A T_A 3, w ∈ gw := by decide +kernel
abbrev kc : List vw_C := [(R_G, T_G, 7), (R_N, T_N, 12), (R_M, T_M, 5), (R_R, T_R, 23), (R_A, T_A, 3)]
