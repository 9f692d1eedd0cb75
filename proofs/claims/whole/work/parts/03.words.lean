/-! The words that all methods share: the good ones of the tables; links of nest mates; array classes. -/
def oAll : List Cond := lw_tbl.filter goodWord
theorem oGood : ∀ w ∈ oAll, (w.onTables && w.keeps) = true ∨ ∃ ty, w = .arrayClass ty := fun _ h => good_of_word (List.mem_filter.mp h).2
theorem oMem1 {i : Nat} {w : Cond} (h : tables_1_1[i]? = some w) (hg : goodWord w = true) : w ∈ oAll := List.mem_filter.mpr ⟨List.mem_append_right _ (List.mem_append_left _ (List.mem_of_getElem? h)), hg⟩
theorem oMem2 {i : Nat} {w : Cond} (h : tables_1_2[i]? = some w) (hg : goodWord w = true) : w ∈ oAll := List.mem_filter.mpr ⟨List.mem_append_right _ (List.mem_append_right _ (List.mem_append_left _ (List.mem_of_getElem? h))), hg⟩
theorem oMem3 {i : Nat} {w : Cond} (h : tables_1_3[i]? = some w) (hg : goodWord w = true) : w ∈ oAll := List.mem_filter.mpr ⟨List.mem_append_right _ (List.mem_append_right _ (List.mem_append_right _ (List.mem_of_getElem? h))), hg⟩
theorem oMemS {i : Nat} {w : Cond} (h : (k2_sels lw_privs)[i]? = some w) (hg : goodWord w = true) : w ∈ oAll := List.mem_filter.mpr ⟨List.mem_append_left _ (List.mem_of_getElem? h), hg⟩
def oNwF : List (String × Nat × String × String × String × String) := [("CausalStore", 178, "CausalStore$Write", "depends", "[I", "CausalStore"), ("CausalStore", 129, "CausalStore$Write", "key", "I", "CausalStore"), ("CausalStore", 172, "CausalStore$Write", "value", "I", "CausalStore"), ("CausalStore", 135, "CausalStore$Write", "time", "I", "CausalStore"), ("CausalStore", 169, "CausalStore$Write", "version", "I", "CausalStore"), ("CausalStore", 175, "CausalStore$Write", "needs", "I", "CausalStore"), ("CausalStore", 156, "CausalStore$Row", "size", "I", "CausalStore"), ("CausalStore", 165, "CausalStore$Center", "shows", "[Z", "CausalStore"), ("CausalStore", 88, "CausalStore$Center", "newest", "[I", "CausalStore"), ("CausalStore", 132, "CausalStore$Center", "clocks", "[I", "CausalStore"), ("CausalStore", 144, "CausalStore$Center", "waiting", "[LCausalStore$Row;", "CausalStore"), ("CausalStore", 58, "CausalStore$Client", "center", "I", "CausalStore"), ("CausalStore", 65, "CausalStore$Client", "depends", "[I", "CausalStore"), ("CausalStore", 116, "CausalStore$Client", "fetched", "[I", "CausalStore"), ("CausalStore", 193, "CausalStore$Client", "due", "[I", "CausalStore"), ("CausalStore", 200, "CausalStore$Client", "set", "I", "CausalStore"), ("CausalStore", 98, "CausalStore$Client", "left", "I", "CausalStore"), ("CausalStore", 101, "CausalStore$Client", "round", "I", "CausalStore")]
def oNwM : List (String × Nat × MethodName × String) := [("CausalStore", 33, ⟨"CausalStore$Write", "<init>", "()V"⟩, "CausalStore"), ("CausalStore$Write", 9, ⟨"CausalStore", "noWrites", "()[I"⟩, "CausalStore"), ("CausalStore", 34, ⟨"CausalStore$Center", "<init>", "()V"⟩, "CausalStore"), ("CausalStore$Center", 15, ⟨"CausalStore", "noWrites", "()[I"⟩, "CausalStore"), ("CausalStore$Center", 32, ⟨"CausalStore$Row", "<init>", "()V"⟩, "CausalStore"), ("CausalStore", 35, ⟨"CausalStore$Client", "<init>", "(I)V"⟩, "CausalStore"), ("CausalStore$Client", 9, ⟨"CausalStore", "noWrites", "()[I"⟩, "CausalStore"), ("CausalStore", 38, ⟨"CausalStore$Row", "<init>", "()V"⟩, "CausalStore"), ("CausalStore", 46, ⟨"CausalStore$Client", "isOpen", "()Z"⟩, "CausalStore"), ("CausalStore", 61, ⟨"CausalStore$Write", "fill", "(IIII)V"⟩, "CausalStore"), ("CausalStore", 73, ⟨"CausalStore$Write", "dependOn", "([II)V"⟩, "CausalStore"), ("CausalStore", 147, ⟨"CausalStore$Row", "append", "(I)V"⟩, "CausalStore"), ("CausalStore", 91, ⟨"CausalStore$Client", "open", "(I)V"⟩, "CausalStore"), ("CausalStore", 159, ⟨"CausalStore$Row", "at", "(I)I"⟩, "CausalStore"), ("CausalStore", 126, ⟨"CausalStore$Row", "removeAt", "(I)V"⟩, "CausalStore")]
def oAO : List String := ["CausalStore$Write", "CausalStore$Center", "CausalStore$Client", "CausalStore$Row"]
def oTyL : List FieldType := [.int, .boolean, .object "CausalStore$Write", .object "CausalStore$Center", .object "CausalStore$Client", .object "CausalStore$Row"]
abbrev tyInt : Nat := 0
abbrev tyBool : Nat := 1
abbrev tyWrite : Nat := 2
abbrev tyCenter : Nat := 3
abbrev tyClient : Nat := 4
abbrev tyRow : Nat := 5
abbrev ciStore : Nat := 0
abbrev ciWrite : Nat := 1
abbrev ciCenter : Nat := 2
abbrev ciClient : Nat := 3
abbrev ciRow : Nat := 4
abbrev ciModel : Nat := 5
theorem oIn_0 : ∀ w ∈ wsS0, w ∈ oAll := fun w h => List.mem_filter.mpr ⟨List.mem_append_right _ (inS w h), List.all_eq_true.mp (show (wsS0).all goodWord = true by decide +kernel) w h⟩
theorem oIn_1 : ∀ w ∈ wsW0, w ∈ oAll := fun w h => List.mem_filter.mpr ⟨List.mem_append_right _ (inW w h), List.all_eq_true.mp (show (wsW0).all goodWord = true by decide +kernel) w h⟩
theorem oIn_2 : ∀ w ∈ wsC0, w ∈ oAll := fun w h => List.mem_filter.mpr ⟨List.mem_append_right _ (inC w h), List.all_eq_true.mp (show (wsC0).all goodWord = true by decide +kernel) w h⟩
theorem oIn_3 : ∀ w ∈ wsK0, w ∈ oAll := fun w h => List.mem_filter.mpr ⟨List.mem_append_right _ (inK w h), List.all_eq_true.mp (show (wsK0).all goodWord = true by decide +kernel) w h⟩
theorem oIn_4 : ∀ w ∈ wsR0, w ∈ oAll := fun w h => List.mem_filter.mpr ⟨List.mem_append_right _ (inR w h), List.all_eq_true.mp (show (wsR0).all goodWord = true by decide +kernel) w h⟩
theorem oIn_5 : ∀ w ∈ wsN0, w ∈ oAll := fun w h => List.mem_filter.mpr ⟨List.mem_append_right _ (inN w h), List.all_eq_true.mp (show (wsN0).all goodWord = true by decide +kernel) w h⟩
theorem oIn : ∀ (ci : Nat) (q : vw_C), vwCl[ci]? = some q → ∀ w ∈ u_ws q.1 q.2.1 q.2.2, w ∈ oAll
  | 0, _, h => by
    cases h
    exact oIn_0
  | 1, _, h => by
    cases h
    exact oIn_1
  | 2, _, h => by
    cases h
    exact oIn_2
  | 3, _, h => by
    cases h
    exact oIn_3
  | 4, _, h => by
    cases h
    exact oIn_4
  | 5, _, h => by
    cases h
    exact oIn_5
  | k + 6, _, h => by simp [vwCl] at h
theorem oTyp : ∀ (ci : Nat) (q : vw_C), vwCl[ci]? = some q → ∃ ty0 : Nat → FieldType, (∀ k, k < q.2.2 → parseFieldDescriptor (q.2.1 k).2.2.1 = some (ty0 k)) ∧ ∀ a, a < q.2.2 → ∀ b, b < q.2.2 → a ≠ b → (q.2.1 a).2.1 ≠ (q.2.1 b).2.1
  | 0, _, h => by
    cases h
    exact ⟨tyS, tyS_ok, nmS⟩
  | 1, _, h => by
    cases h
    exact ⟨tyW, tyW_ok, nmW⟩
  | 2, _, h => by
    cases h
    exact ⟨tyC, tyC_ok, nmC⟩
  | 3, _, h => by
    cases h
    exact ⟨tyK, tyK_ok, nmK⟩
  | 4, _, h => by
    cases h
    exact ⟨tyR, tyR_ok, nmR⟩
  | 5, _, h => by
    cases h
    exact ⟨tyN, tyN_ok, nmN⟩
  | k + 6, _, h => by simp [vwCl] at h
