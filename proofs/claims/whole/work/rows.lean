section
-- ===== PART A: goes FIRST, ahead of the names: the tables' words, and 'selects' of the private methods out of them =====
/-- a private method of a class that the tables say can be made, by its rows of tables_1 -/
def lw_okq (q : MethodName × Nat) : Prop := (q.1.cls ≠ "java/lang/invoke/MethodHandle" ∧ q.1.cls ≠ "java/lang/invoke/VarHandle") ∧ Cond.instantiable q.1.cls q.2 ∈ tables_1 ∧ Cond.privateMethod q.1 ∈ tables_1 ∧ Cond.instanceMethod q.1 ∈ tables_1
theorem lw_p0 : lw_okq (⟨"CausalStore$Client", "isOpen", "()Z"⟩, 7) := ⟨⟨by decide +kernel, by decide +kernel⟩, List.mem_of_getElem? (i := 102) (by decide +kernel), List.mem_of_getElem? (i := 165) (by decide +kernel), List.mem_of_getElem? (i := 166) (by decide +kernel)⟩
theorem lw_p1 : lw_okq (⟨"CausalStore", "tick", "(LCausalStore$Client;I)I"⟩, 5) := ⟨⟨by decide +kernel, by decide +kernel⟩, List.mem_of_getElem? (i := 12) (by decide +kernel), List.mem_of_getElem? (i := 169) (by decide +kernel), List.mem_of_getElem? (i := 170) (by decide +kernel)⟩
theorem lw_p2 : lw_okq (⟨"CausalStore", "isWrite", "(I)Z"⟩, 5) := ⟨⟨by decide +kernel, by decide +kernel⟩, List.mem_of_getElem? (i := 12) (by decide +kernel), List.mem_of_getElem? (i := 173) (by decide +kernel), List.mem_of_getElem? (i := 174) (by decide +kernel)⟩
theorem lw_p3 : lw_okq (⟨"CausalStore$Write", "fill", "(IIII)V"⟩, 6) := ⟨⟨by decide +kernel, by decide +kernel⟩, List.mem_of_getElem? (i := 27) (by decide +kernel), List.mem_of_getElem? (i := 180) (by decide +kernel), List.mem_of_getElem? (i := 181) (by decide +kernel)⟩
theorem lw_p4 : lw_okq (⟨"CausalStore", "nearestKeys", "([I)I"⟩, 5) := ⟨⟨by decide +kernel, by decide +kernel⟩, List.mem_of_getElem? (i := 12) (by decide +kernel), List.mem_of_getElem? (i := 184) (by decide +kernel), List.mem_of_getElem? (i := 185) (by decide +kernel)⟩
theorem lw_p5 : lw_okq (⟨"CausalStore", "isCovered", "([II)Z"⟩, 5) := ⟨⟨by decide +kernel, by decide +kernel⟩, List.mem_of_getElem? (i := 12) (by decide +kernel), List.mem_of_getElem? (i := 188) (by decide +kernel), List.mem_of_getElem? (i := 189) (by decide +kernel)⟩
theorem lw_p6 : lw_okq (⟨"CausalStore$Write", "dependOn", "([II)V"⟩, 6) := ⟨⟨by decide +kernel, by decide +kernel⟩, List.mem_of_getElem? (i := 27) (by decide +kernel), List.mem_of_getElem? (i := 192) (by decide +kernel), List.mem_of_getElem? (i := 193) (by decide +kernel)⟩
theorem lw_p7 : lw_okq (⟨"CausalStore", "show", "(II)V"⟩, 5) := ⟨⟨by decide +kernel, by decide +kernel⟩, List.mem_of_getElem? (i := 12) (by decide +kernel), List.mem_of_getElem? (i := 199) (by decide +kernel), List.mem_of_getElem? (i := 200) (by decide +kernel)⟩
theorem lw_p8 : lw_okq (⟨"CausalStore", "greater", "(II)I"⟩, 5) := ⟨⟨by decide +kernel, by decide +kernel⟩, List.mem_of_getElem? (i := 12) (by decide +kernel), List.mem_of_getElem? (i := 203) (by decide +kernel), List.mem_of_getElem? (i := 204) (by decide +kernel)⟩
theorem lw_p9 : lw_okq (⟨"CausalStore", "send", "(II)V"⟩, 5) := ⟨⟨by decide +kernel, by decide +kernel⟩, List.mem_of_getElem? (i := 12) (by decide +kernel), List.mem_of_getElem? (i := 207) (by decide +kernel), List.mem_of_getElem? (i := 208) (by decide +kernel)⟩
theorem lw_p10 : lw_okq (⟨"CausalStore$Row", "append", "(I)V"⟩, 2) := ⟨⟨by decide +kernel, by decide +kernel⟩, List.mem_of_getElem? (i := 71) (by decide +kernel), List.mem_of_getElem? (i := 211) (by decide +kernel), List.mem_of_getElem? (i := 212) (by decide +kernel)⟩
theorem lw_p11 : lw_okq (⟨"CausalStore", "see", "(LCausalStore$Client;I)V"⟩, 5) := ⟨⟨by decide +kernel, by decide +kernel⟩, List.mem_of_getElem? (i := 12) (by decide +kernel), List.mem_of_getElem? (i := 215) (by decide +kernel), List.mem_of_getElem? (i := 216) (by decide +kernel)⟩
theorem lw_p12 : lw_okq (⟨"CausalStore$Client", "open", "(I)V"⟩, 7) := ⟨⟨by decide +kernel, by decide +kernel⟩, List.mem_of_getElem? (i := 102) (by decide +kernel), List.mem_of_getElem? (i := 227) (by decide +kernel), List.mem_of_getElem? (i := 228) (by decide +kernel)⟩
theorem lw_p13 : lw_okq (⟨"CausalStore", "readLowestKey", "(LCausalStore$Client;)V"⟩, 5) := ⟨⟨by decide +kernel, by decide +kernel⟩, List.mem_of_getElem? (i := 12) (by decide +kernel), List.mem_of_getElem? (i := 236) (by decide +kernel), List.mem_of_getElem? (i := 237) (by decide +kernel)⟩
theorem lw_p14 : lw_okq (⟨"CausalStore", "prepareSecondRound", "(LCausalStore$Client;)V"⟩, 5) := ⟨⟨by decide +kernel, by decide +kernel⟩, List.mem_of_getElem? (i := 12) (by decide +kernel), List.mem_of_getElem? (i := 243) (by decide +kernel), List.mem_of_getElem? (i := 244) (by decide +kernel)⟩
theorem lw_p15 : lw_okq (⟨"CausalStore", "dueWrite", "([II)I"⟩, 5) := ⟨⟨by decide +kernel, by decide +kernel⟩, List.mem_of_getElem? (i := 12) (by decide +kernel), List.mem_of_getElem? (i := 247) (by decide +kernel), List.mem_of_getElem? (i := 248) (by decide +kernel)⟩
def lw_privs_1 : List (MethodName × Nat) := [(⟨"CausalStore$Client", "isOpen", "()Z"⟩, 7), (⟨"CausalStore", "tick", "(LCausalStore$Client;I)I"⟩, 5), (⟨"CausalStore", "isWrite", "(I)Z"⟩, 5), (⟨"CausalStore$Write", "fill", "(IIII)V"⟩, 6), (⟨"CausalStore", "nearestKeys", "([I)I"⟩, 5), (⟨"CausalStore", "isCovered", "([II)Z"⟩, 5), (⟨"CausalStore$Write", "dependOn", "([II)V"⟩, 6), (⟨"CausalStore", "show", "(II)V"⟩, 5), (⟨"CausalStore", "greater", "(II)I"⟩, 5), (⟨"CausalStore", "send", "(II)V"⟩, 5), (⟨"CausalStore$Row", "append", "(I)V"⟩, 2), (⟨"CausalStore", "see", "(LCausalStore$Client;I)V"⟩, 5), (⟨"CausalStore$Client", "open", "(I)V"⟩, 7), (⟨"CausalStore", "readLowestKey", "(LCausalStore$Client;)V"⟩, 5), (⟨"CausalStore", "prepareSecondRound", "(LCausalStore$Client;)V"⟩, 5), (⟨"CausalStore", "dueWrite", "([II)I"⟩, 5)]
theorem lw_r1 : ∀ q ∈ lw_privs_1, lw_okq q := List.forall_mem_cons.mpr ⟨lw_p0, List.forall_mem_cons.mpr ⟨lw_p1, List.forall_mem_cons.mpr ⟨lw_p2, List.forall_mem_cons.mpr ⟨lw_p3, List.forall_mem_cons.mpr ⟨lw_p4, List.forall_mem_cons.mpr ⟨lw_p5, List.forall_mem_cons.mpr ⟨lw_p6, List.forall_mem_cons.mpr ⟨lw_p7, List.forall_mem_cons.mpr ⟨lw_p8, List.forall_mem_cons.mpr ⟨lw_p9, List.forall_mem_cons.mpr ⟨lw_p10, List.forall_mem_cons.mpr ⟨lw_p11, List.forall_mem_cons.mpr ⟨lw_p12, List.forall_mem_cons.mpr ⟨lw_p13, List.forall_mem_cons.mpr ⟨lw_p14, List.forall_mem_cons.mpr ⟨lw_p15, fun _ h => absurd h List.not_mem_nil⟩⟩⟩⟩⟩⟩⟩⟩⟩⟩⟩⟩⟩⟩⟩⟩
theorem lw_p16 : lw_okq (⟨"CausalStore", "seeFetched", "(LCausalStore$Client;)V"⟩, 5) := ⟨⟨by decide +kernel, by decide +kernel⟩, List.mem_of_getElem? (i := 12) (by decide +kernel), List.mem_of_getElem? (i := 251) (by decide +kernel), List.mem_of_getElem? (i := 252) (by decide +kernel)⟩
theorem lw_p17 : lw_okq (⟨"CausalStore$Row", "at", "(I)I"⟩, 2) := ⟨⟨by decide +kernel, by decide +kernel⟩, List.mem_of_getElem? (i := 71) (by decide +kernel), List.mem_of_getElem? (i := 280) (by decide +kernel), List.mem_of_getElem? (i := 281) (by decide +kernel)⟩
theorem lw_p18 : lw_okq (⟨"CausalStore$Row", "removeAt", "(I)V"⟩, 2) := ⟨⟨by decide +kernel, by decide +kernel⟩, List.mem_of_getElem? (i := 71) (by decide +kernel), List.mem_of_getElem? (i := 284) (by decide +kernel), List.mem_of_getElem? (i := 285) (by decide +kernel)⟩
theorem lw_p19 : lw_okq (⟨"CausalStore", "missingNeeds", "(II)I"⟩, 5) := ⟨⟨by decide +kernel, by decide +kernel⟩, List.mem_of_getElem? (i := 12) (by decide +kernel), List.mem_of_getElem? (i := 296) (by decide +kernel), List.mem_of_getElem? (i := 297) (by decide +kernel)⟩
theorem lw_p20 : lw_okq (⟨"CausalStoreModel", "open", "(I)Z"⟩, 19) := ⟨⟨by decide +kernel, by decide +kernel⟩, List.mem_of_getElem? (i := 342) (by decide +kernel), List.mem_of_getElem? (i := 413) (by decide +kernel), List.mem_of_getElem? (i := 414) (by decide +kernel)⟩
theorem lw_p21 : lw_okq (⟨"CausalStoreModel", "near", "(I)I"⟩, 19) := ⟨⟨by decide +kernel, by decide +kernel⟩, List.mem_of_getElem? (i := 342) (by decide +kernel), List.mem_of_getElem? (i := 417) (by decide +kernel), List.mem_of_getElem? (i := 418) (by decide +kernel)⟩
theorem lw_p22 : lw_okq (⟨"CausalStoreModel", "send", "(III)V"⟩, 19) := ⟨⟨by decide +kernel, by decide +kernel⟩, List.mem_of_getElem? (i := 342) (by decide +kernel), List.mem_of_getElem? (i := 421) (by decide +kernel), List.mem_of_getElem? (i := 422) (by decide +kernel)⟩
theorem lw_p23 : lw_okq (⟨"CausalStoreModel", "see", "(II)V"⟩, 19) := ⟨⟨by decide +kernel, by decide +kernel⟩, List.mem_of_getElem? (i := 342) (by decide +kernel), List.mem_of_getElem? (i := 425) (by decide +kernel), List.mem_of_getElem? (i := 426) (by decide +kernel)⟩
theorem lw_p24 : lw_okq (⟨"CausalStoreModel", "greater", "(II)I"⟩, 19) := ⟨⟨by decide +kernel, by decide +kernel⟩, List.mem_of_getElem? (i := 342) (by decide +kernel), List.mem_of_getElem? (i := 429) (by decide +kernel), List.mem_of_getElem? (i := 430) (by decide +kernel)⟩
theorem lw_p25 : lw_okq (⟨"CausalStoreModel", "latestOf", "(II)I"⟩, 19) := ⟨⟨by decide +kernel, by decide +kernel⟩, List.mem_of_getElem? (i := 342) (by decide +kernel), List.mem_of_getElem? (i := 437) (by decide +kernel), List.mem_of_getElem? (i := 438) (by decide +kernel)⟩
theorem lw_p26 : lw_okq (⟨"CausalStoreModel", "second", "(I)V"⟩, 19) := ⟨⟨by decide +kernel, by decide +kernel⟩, List.mem_of_getElem? (i := 342) (by decide +kernel), List.mem_of_getElem? (i := 452) (by decide +kernel), List.mem_of_getElem? (i := 453) (by decide +kernel)⟩
theorem lw_p27 : lw_okq (⟨"CausalStoreModel", "due", "(II)I"⟩, 19) := ⟨⟨by decide +kernel, by decide +kernel⟩, List.mem_of_getElem? (i := 342) (by decide +kernel), List.mem_of_getElem? (i := 456) (by decide +kernel), List.mem_of_getElem? (i := 457) (by decide +kernel)⟩
theorem lw_p28 : lw_okq (⟨"CausalStoreModel", "finish", "(I)V"⟩, 19) := ⟨⟨by decide +kernel, by decide +kernel⟩, List.mem_of_getElem? (i := 342) (by decide +kernel), List.mem_of_getElem? (i := 460) (by decide +kernel), List.mem_of_getElem? (i := 461) (by decide +kernel)⟩
theorem lw_p29 : lw_okq (⟨"CausalStoreModel", "link", "(II)Z"⟩, 19) := ⟨⟨by decide +kernel, by decide +kernel⟩, List.mem_of_getElem? (i := 342) (by decide +kernel), List.mem_of_getElem? (i := 479) (by decide +kernel), List.mem_of_getElem? (i := 480) (by decide +kernel)⟩
theorem lw_p30 : lw_okq (⟨"CausalStoreModel", "missing", "(II)I"⟩, 19) := ⟨⟨by decide +kernel, by decide +kernel⟩, List.mem_of_getElem? (i := 342) (by decide +kernel), List.mem_of_getElem? (i := 487) (by decide +kernel), List.mem_of_getElem? (i := 488) (by decide +kernel)⟩
def lw_privs_2 : List (MethodName × Nat) := [(⟨"CausalStore", "seeFetched", "(LCausalStore$Client;)V"⟩, 5), (⟨"CausalStore$Row", "at", "(I)I"⟩, 2), (⟨"CausalStore$Row", "removeAt", "(I)V"⟩, 2), (⟨"CausalStore", "missingNeeds", "(II)I"⟩, 5), (⟨"CausalStoreModel", "open", "(I)Z"⟩, 19), (⟨"CausalStoreModel", "near", "(I)I"⟩, 19), (⟨"CausalStoreModel", "send", "(III)V"⟩, 19), (⟨"CausalStoreModel", "see", "(II)V"⟩, 19), (⟨"CausalStoreModel", "greater", "(II)I"⟩, 19), (⟨"CausalStoreModel", "latestOf", "(II)I"⟩, 19), (⟨"CausalStoreModel", "second", "(I)V"⟩, 19), (⟨"CausalStoreModel", "due", "(II)I"⟩, 19), (⟨"CausalStoreModel", "finish", "(I)V"⟩, 19), (⟨"CausalStoreModel", "link", "(II)Z"⟩, 19), (⟨"CausalStoreModel", "missing", "(II)I"⟩, 19)]
theorem lw_r2 : ∀ q ∈ lw_privs_2, lw_okq q := List.forall_mem_cons.mpr ⟨lw_p16, List.forall_mem_cons.mpr ⟨lw_p17, List.forall_mem_cons.mpr ⟨lw_p18, List.forall_mem_cons.mpr ⟨lw_p19, List.forall_mem_cons.mpr ⟨lw_p20, List.forall_mem_cons.mpr ⟨lw_p21, List.forall_mem_cons.mpr ⟨lw_p22, List.forall_mem_cons.mpr ⟨lw_p23, List.forall_mem_cons.mpr ⟨lw_p24, List.forall_mem_cons.mpr ⟨lw_p25, List.forall_mem_cons.mpr ⟨lw_p26, List.forall_mem_cons.mpr ⟨lw_p27, List.forall_mem_cons.mpr ⟨lw_p28, List.forall_mem_cons.mpr ⟨lw_p29, List.forall_mem_cons.mpr ⟨lw_p30, fun _ h => absurd h List.not_mem_nil⟩⟩⟩⟩⟩⟩⟩⟩⟩⟩⟩⟩⟩⟩⟩
def lw_privs : List (MethodName × Nat) := lw_privs_1 ++ (lw_privs_2)
def lw_tbl : List Cond := k2_sels lw_privs ++ tables_1
theorem lw_privs_ok : ∀ q ∈ lw_privs, lw_okq q := by
  show ∀ q ∈ lw_privs_1 ++ (lw_privs_2), lw_okq q
  exact List.forall_mem_append.mpr ⟨lw_r1, lw_r2⟩
end
section
/-! Names: classes, their fields, methods, code. -/
def RS : String := "CausalStore"
def TS : u_T := fun k => match k with
  | 0 => ("CausalStore", "writes", "[LCausalStore$Write;", true)
  | 1 => ("CausalStore", "centers", "[LCausalStore$Center;", true)
  | 2 => ("CausalStore", "clients", "[LCausalStore$Client;", true)
  | 3 => ("CausalStore", "flights", "[LCausalStore$Row;", true)
  | _ => ("CausalStore", "made", "I", false)
def tyS : Nat → FieldType := fun k => match k with
  | 0 => .array (.object "CausalStore$Write")
  | 1 => .array (.object "CausalStore$Center")
  | 2 => .array (.object "CausalStore$Client")
  | 3 => .array (.object "CausalStore$Row")
  | _ => .int
abbrev wsS0 : List Cond := u_ws RS TS 5
theorem nmS : ∀ a, a < 5 → ∀ b, b < 5 → a ≠ b → (TS a).2.1 ≠ (TS b).2.1 := by decide +kernel
theorem tyS_ok : ∀ k, k < 5 → parseFieldDescriptor (TS k).2.2.1 = some (tyS k) := by decide +kernel
theorem inS : ∀ w ∈ wsS0, w ∈ tables_1 := by decide +kernel
def RW : String := "CausalStore$Write"
def TW : u_T := fun k => match k with
  | 0 => ("CausalStore$Write", "depends", "[I", true)
  | 1 => ("CausalStore$Write", "key", "I", false)
  | 2 => ("CausalStore$Write", "value", "I", false)
  | 3 => ("CausalStore$Write", "time", "I", false)
  | 4 => ("CausalStore$Write", "version", "I", false)
  | _ => ("CausalStore$Write", "needs", "I", false)
def tyW : Nat → FieldType := fun k => match k with
  | 0 => .array .int
  | 1 => .int
  | 2 => .int
  | 3 => .int
  | 4 => .int
  | _ => .int
abbrev wsW0 : List Cond := u_ws RW TW 6
theorem nmW : ∀ a, a < 6 → ∀ b, b < 6 → a ≠ b → (TW a).2.1 ≠ (TW b).2.1 := by decide +kernel
theorem tyW_ok : ∀ k, k < 6 → parseFieldDescriptor (TW k).2.2.1 = some (tyW k) := by decide +kernel
theorem inW : ∀ w ∈ wsW0, w ∈ tables_1 := by decide +kernel
def RC : String := "CausalStore$Center"
def TC : u_T := fun k => match k with
  | 0 => ("CausalStore$Center", "shows", "[Z", true)
  | 1 => ("CausalStore$Center", "newest", "[I", true)
  | 2 => ("CausalStore$Center", "clocks", "[I", true)
  | _ => ("CausalStore$Center", "waiting", "[LCausalStore$Row;", true)
def tyC : Nat → FieldType := fun k => match k with
  | 0 => .array .boolean
  | 1 => .array .int
  | 2 => .array .int
  | _ => .array (.object "CausalStore$Row")
abbrev wsC0 : List Cond := u_ws RC TC 4
theorem nmC : ∀ a, a < 4 → ∀ b, b < 4 → a ≠ b → (TC a).2.1 ≠ (TC b).2.1 := by decide +kernel
theorem tyC_ok : ∀ k, k < 4 → parseFieldDescriptor (TC k).2.2.1 = some (tyC k) := by decide +kernel
theorem inC : ∀ w ∈ wsC0, w ∈ tables_1 := by decide +kernel
def RK : String := "CausalStore$Client"
def TK : u_T := fun k => match k with
  | 0 => ("CausalStore$Client", "center", "I", true)
  | 1 => ("CausalStore$Client", "depends", "[I", true)
  | 2 => ("CausalStore$Client", "fetched", "[I", true)
  | 3 => ("CausalStore$Client", "due", "[I", true)
  | 4 => ("CausalStore$Client", "set", "I", false)
  | 5 => ("CausalStore$Client", "left", "I", false)
  | _ => ("CausalStore$Client", "round", "I", false)
def tyK : Nat → FieldType := fun k => match k with
  | 0 => .int
  | 1 => .array .int
  | 2 => .array .int
  | 3 => .array .int
  | 4 => .int
  | 5 => .int
  | _ => .int
abbrev wsK0 : List Cond := u_ws RK TK 7
theorem nmK : ∀ a, a < 7 → ∀ b, b < 7 → a ≠ b → (TK a).2.1 ≠ (TK b).2.1 := by decide +kernel
theorem tyK_ok : ∀ k, k < 7 → parseFieldDescriptor (TK k).2.2.1 = some (tyK k) := by decide +kernel
theorem inK : ∀ w ∈ wsK0, w ∈ tables_1 := by decide +kernel
def RR : String := "CausalStore$Row"
def TR : u_T := fun k => match k with
  | 0 => ("CausalStore$Row", "writes", "[I", true)
  | _ => ("CausalStore$Row", "size", "I", false)
def tyR : Nat → FieldType := fun k => match k with
  | 0 => .array .int
  | _ => .int
abbrev wsR0 : List Cond := u_ws RR TR 2
theorem nmR : ∀ a, a < 2 → ∀ b, b < 2 → a ≠ b → (TR a).2.1 ≠ (TR b).2.1 := by decide +kernel
theorem tyR_ok : ∀ k, k < 2 → parseFieldDescriptor (TR k).2.2.1 = some (tyR k) := by decide +kernel
theorem inR : ∀ w ∈ wsR0, w ∈ tables_1 := by decide +kernel
def RN : String := "CausalStoreModel"
def TN : u_T := fun k => match k with
  | 0 => ("CausalStoreModel", "writes", "I", false)
  | 1 => ("CausalStoreModel", "keyOf", "[I", true)
  | 2 => ("CausalStoreModel", "valueOf", "[I", true)
  | 3 => ("CausalStoreModel", "version", "[I", true)
  | 4 => ("CausalStoreModel", "depends", "[I", true)
  | 5 => ("CausalStoreModel", "needs", "[I", true)
  | 6 => ("CausalStoreModel", "seen", "[Z", true)
  | 7 => ("CausalStoreModel", "clocks", "[I", true)
  | 8 => ("CausalStoreModel", "waiting", "[I", true)
  | 9 => ("CausalStoreModel", "row", "[I", true)
  | 10 => ("CausalStoreModel", "flying", "[I", true)
  | 11 => ("CausalStoreModel", "air", "[I", true)
  | 12 => ("CausalStoreModel", "context", "[I", true)
  | 13 => ("CausalStoreModel", "phase", "[I", true)
  | 14 => ("CausalStoreModel", "set", "[I", true)
  | 15 => ("CausalStoreModel", "round", "[I", true)
  | 16 => ("CausalStoreModel", "left", "[I", true)
  | 17 => ("CausalStoreModel", "have", "[I", true)
  | _ => ("CausalStoreModel", "owed", "[I", true)
def tyN : Nat → FieldType := fun k => match k with
  | 0 => .int
  | 1 => .array .int
  | 2 => .array .int
  | 3 => .array .int
  | 4 => .array .int
  | 5 => .array .int
  | 6 => .array .boolean
  | 7 => .array .int
  | 8 => .array .int
  | 9 => .array .int
  | 10 => .array .int
  | 11 => .array .int
  | 12 => .array .int
  | 13 => .array .int
  | 14 => .array .int
  | 15 => .array .int
  | 16 => .array .int
  | 17 => .array .int
  | _ => .array .int
abbrev wsN0 : List Cond := u_ws RN TN 19
theorem nmN : ∀ a, a < 19 → ∀ b, b < 19 → a ≠ b → (TN a).2.1 ≠ (TN b).2.1 := by decide +kernel
theorem tyN_ok : ∀ k, k < 19 → parseFieldDescriptor (TN k).2.2.1 = some (tyN k) := by decide +kernel
theorem inN : ∀ w ∈ wsN0, w ∈ tables_1 := by decide +kernel
def RL : String := "CausalStoreLaw"
def RJI : String := "java/lang/Integer"
def RJA : String := "java/util/Arrays"
abbrev cS_init : ByteArray := prog_1_method_1_code
def yS_init : MethodName := ⟨RS, "<init>", "()V"⟩
-- .code yS_init cS_init 2 none
abbrev cW_init : ByteArray := prog_5_method_1_code
def yW_init : MethodName := ⟨RW, "<init>", "()V"⟩
-- .code yW_init cW_init 1 none
abbrev cS_noWrites : ByteArray := prog_1_method_39_code
def yS_noWrites : MethodName := ⟨RS, "noWrites", "()[I"⟩
-- .code yS_noWrites cS_noWrites 1 (some (.array .int))
abbrev cJA_fill : ByteArray := prog_11_method_103_code
def yJA_fill : MethodName := ⟨RJA, "fill", "([II)V"⟩
-- .code yJA_fill cJA_fill 4 none
abbrev cC_init : ByteArray := prog_2_method_1_code
def yC_init : MethodName := ⟨RC, "<init>", "()V"⟩
-- .code yC_init cC_init 2 none
abbrev cR_init : ByteArray := prog_4_method_1_code
def yR_init : MethodName := ⟨RR, "<init>", "()V"⟩
-- .code yR_init cR_init 1 none
abbrev cK_init : ByteArray := prog_3_method_1_code
def yK_init : MethodName := ⟨RK, "<init>", "(I)V"⟩
-- .code yK_init cK_init 2 none
abbrev cS_put : ByteArray := prog_1_method_2_code
def yS_put : MethodName := ⟨RS, "put", "(III)I"⟩
-- .code yS_put cS_put 7 (some .int)
abbrev cS_isClient : ByteArray := prog_1_method_21_code
def yS_isClient : MethodName := ⟨RS, "isClient", "(I)Z"⟩
-- .code yS_isClient cS_isClient 1 (some .boolean)
abbrev cS_isKey : ByteArray := prog_1_method_22_code
def yS_isKey : MethodName := ⟨RS, "isKey", "(I)Z"⟩
-- .code yS_isKey cS_isKey 1 (some .boolean)
abbrev cK_isOpen : ByteArray := prog_3_method_2_code
def yK_isOpen : MethodName := ⟨RK, "isOpen", "()Z"⟩
-- .code yK_isOpen cK_isOpen 1 (some .boolean)
abbrev cS_tick : ByteArray := prog_1_method_27_code
def yS_tick : MethodName := ⟨RS, "tick", "(LCausalStore$Client;I)I"⟩
-- .code yS_tick cS_tick 7 (some .int)
abbrev cS_isWrite : ByteArray := prog_1_method_25_code
def yS_isWrite : MethodName := ⟨RS, "isWrite", "(I)Z"⟩
-- .code yS_isWrite cS_isWrite 2 (some .boolean)
abbrev cW_fill : ByteArray := prog_5_method_2_code
def yW_fill : MethodName := ⟨RW, "fill", "(IIII)V"⟩
-- .code yW_fill cW_fill 5 none
abbrev cS_nearestKeys : ByteArray := prog_1_method_32_code
def yS_nearestKeys : MethodName := ⟨RS, "nearestKeys", "([I)I"⟩
-- .code yS_nearestKeys cS_nearestKeys 4 (some .int)
abbrev cS_isCovered : ByteArray := prog_1_method_33_code
def yS_isCovered : MethodName := ⟨RS, "isCovered", "([II)Z"⟩
-- .code yS_isCovered cS_isCovered 5 (some .boolean)
abbrev cW_dependOn : ByteArray := prog_5_method_3_code
def yW_dependOn : MethodName := ⟨RW, "dependOn", "([II)V"⟩
-- .code yW_dependOn cW_dependOn 3 none
abbrev cS_show : ByteArray := prog_1_method_28_code
def yS_show : MethodName := ⟨RS, "show", "(II)V"⟩
-- .code yS_show cS_show 5 none
abbrev cS_greater : ByteArray := prog_1_method_31_code
def yS_greater : MethodName := ⟨RS, "greater", "(II)I"⟩
-- .code yS_greater cS_greater 3 (some .int)
abbrev cS_send : ByteArray := prog_1_method_29_code
def yS_send : MethodName := ⟨RS, "send", "(II)V"⟩
-- .code yS_send cS_send 4 none
abbrev cR_append : ByteArray := prog_4_method_3_code
def yR_append : MethodName := ⟨RR, "append", "(I)V"⟩
-- .code yR_append cR_append 2 none
abbrev cS_see : ByteArray := prog_1_method_30_code
def yS_see : MethodName := ⟨RS, "see", "(LCausalStore$Client;I)V"⟩
-- .code yS_see cS_see 5 none
abbrev cS_get : ByteArray := prog_1_method_3_code
def yS_get : MethodName := ⟨RS, "get", "(II)I"⟩
-- .code yS_get cS_get 5 (some .int)
abbrev cS_begin : ByteArray := prog_1_method_4_code
def yS_begin : MethodName := ⟨RS, "begin", "(II)Z"⟩
-- .code yS_begin cS_begin 3 (some .boolean)
abbrev cK_open : ByteArray := prog_3_method_3_code
def yK_open : MethodName := ⟨RK, "open", "(I)V"⟩
-- .code yK_open cK_open 2 none
abbrev cS_read : ByteArray := prog_1_method_5_code
def yS_read : MethodName := ⟨RS, "read", "(I)I"⟩
-- .code yS_read cS_read 3 (some .int)
abbrev cS_readLowestKey : ByteArray := prog_1_method_35_code
def yS_readLowestKey : MethodName := ⟨RS, "readLowestKey", "(LCausalStore$Client;)V"⟩
-- .code yS_readLowestKey cS_readLowestKey 4 none
abbrev cS_hasKey : ByteArray := prog_1_method_26_code
def yS_hasKey : MethodName := ⟨RS, "hasKey", "(II)Z"⟩
-- .code yS_hasKey cS_hasKey 2 (some .boolean)
abbrev cS_prepareSecondRound : ByteArray := prog_1_method_36_code
def yS_prepareSecondRound : MethodName := ⟨RS, "prepareSecondRound", "(LCausalStore$Client;)V"⟩
-- .code yS_prepareSecondRound cS_prepareSecondRound 3 none
abbrev cS_dueWrite : ByteArray := prog_1_method_37_code
def yS_dueWrite : MethodName := ⟨RS, "dueWrite", "([II)I"⟩
-- .code yS_dueWrite cS_dueWrite 5 (some .int)
abbrev cS_seeFetched : ByteArray := prog_1_method_38_code
def yS_seeFetched : MethodName := ⟨RS, "seeFetched", "(LCausalStore$Client;)V"⟩
-- .code yS_seeFetched cS_seeFetched 3 none
abbrev cJI_bitCount : ByteArray := prog_8_method_49_code
def yJI_bitCount : MethodName := ⟨RJI, "bitCount", "(I)I"⟩
-- .code yJI_bitCount cJI_bitCount 1 (some .int)
abbrev cS_got : ByteArray := prog_1_method_6_code
def yS_got : MethodName := ⟨RS, "got", "(II)I"⟩
-- .code yS_got cS_got 3 (some .int)
abbrev cS_rounds : ByteArray := prog_1_method_7_code
def yS_rounds : MethodName := ⟨RS, "rounds", "(I)I"⟩
-- .code yS_rounds cS_rounds 2 (some .int)
abbrev cS_deliver : ByteArray := prog_1_method_8_code
def yS_deliver : MethodName := ⟨RS, "deliver", "(III)Z"⟩
-- .code yS_deliver cS_deliver 7 (some .boolean)
abbrev cS_sent : ByteArray := prog_1_method_11_code
def yS_sent : MethodName := ⟨RS, "sent", "(III)I"⟩
-- .code yS_sent cS_sent 4 (some .int)
abbrev cS_isCenter : ByteArray := prog_1_method_23_code
def yS_isCenter : MethodName := ⟨RS, "isCenter", "(I)Z"⟩
-- .code yS_isCenter cS_isCenter 1 (some .boolean)
abbrev cR_at : ByteArray := prog_4_method_2_code
def yR_at : MethodName := ⟨RR, "at", "(I)I"⟩
-- .code yR_at cR_at 2 (some .int)
abbrev cR_removeAt : ByteArray := prog_4_method_4_code
def yR_removeAt : MethodName := ⟨RR, "removeAt", "(I)V"⟩
-- .code yR_removeAt cR_removeAt 2 none
abbrev cS_serve : ByteArray := prog_1_method_9_code
def yS_serve : MethodName := ⟨RS, "serve", "(II)I"⟩
-- .code yS_serve cS_serve 9 (some .int)
abbrev cS_isPartition : ByteArray := prog_1_method_24_code
def yS_isPartition : MethodName := ⟨RS, "isPartition", "(I)Z"⟩
-- .code yS_isPartition cS_isPartition 1 (some .boolean)
abbrev cS_missingNeeds : ByteArray := prog_1_method_34_code
def yS_missingNeeds : MethodName := ⟨RS, "missingNeeds", "(II)I"⟩
-- .code yS_missingNeeds cS_missingNeeds 5 (some .int)
abbrev cS_visible : ByteArray := prog_1_method_15_code
def yS_visible : MethodName := ⟨RS, "visible", "(II)Z"⟩
-- .code yS_visible cS_visible 3 (some .boolean)
abbrev cS_flight : ByteArray := prog_1_method_10_code
def yS_flight : MethodName := ⟨RS, "flight", "(II)I"⟩
-- .code yS_flight cS_flight 3 (some .int)
abbrev cS_pending : ByteArray := prog_1_method_12_code
def yS_pending : MethodName := ⟨RS, "pending", "(II)I"⟩
-- .code yS_pending cS_pending 3 (some .int)
abbrev cS_lacks : ByteArray := prog_1_method_13_code
def yS_lacks : MethodName := ⟨RS, "lacks", "(III)I"⟩
-- .code yS_lacks cS_lacks 5 (some .int)
abbrev cS_latest : ByteArray := prog_1_method_14_code
def yS_latest : MethodName := ⟨RS, "latest", "(II)I"⟩
-- .code yS_latest cS_latest 3 (some .int)
abbrev cS_clock : ByteArray := prog_1_method_16_code
def yS_clock : MethodName := ⟨RS, "clock", "(II)I"⟩
-- .code yS_clock cS_clock 3 (some .int)
abbrev cS_context : ByteArray := prog_1_method_17_code
def yS_context : MethodName := ⟨RS, "context", "(II)I"⟩
-- .code yS_context cS_context 3 (some .int)
abbrev cS_nearest : ByteArray := prog_1_method_18_code
def yS_nearest : MethodName := ⟨RS, "nearest", "(I)I"⟩
-- .code yS_nearest cS_nearest 2 (some .int)
abbrev cS_about : ByteArray := prog_1_method_19_code
def yS_about : MethodName := ⟨RS, "about", "(II)I"⟩
-- .code yS_about cS_about 3 (some .int)
abbrev cS_dependency : ByteArray := prog_1_method_20_code
def yS_dependency : MethodName := ⟨RS, "dependency", "(II)I"⟩
-- .code yS_dependency cS_dependency 3 (some .int)
abbrev cN_init : ByteArray := prog_7_method_1_code
def yN_init : MethodName := ⟨RN, "<init>", "()V"⟩
-- .code yN_init cN_init 1 none
abbrev cN_put : ByteArray := prog_7_method_11_code
def yN_put : MethodName := ⟨RN, "put", "(III)I"⟩
-- .code yN_put cN_put 9 (some .int)
abbrev cN_out : ByteArray := prog_7_method_2_code
def yN_out : MethodName := ⟨RN, "out", "(II)Z"⟩
-- .code yN_out cN_out 2 (some .boolean)
abbrev cN_open : ByteArray := prog_7_method_5_code
def yN_open : MethodName := ⟨RN, "open", "(I)Z"⟩
-- .code yN_open cN_open 2 (some .boolean)
abbrev cN_near : ByteArray := prog_7_method_8_code
def yN_near : MethodName := ⟨RN, "near", "(I)I"⟩
-- .code yN_near cN_near 8 (some .int)
abbrev cN_send : ByteArray := prog_7_method_10_code
def yN_send : MethodName := ⟨RN, "send", "(III)V"⟩
-- .code yN_send cN_send 5 none
abbrev cN_see : ByteArray := prog_7_method_9_code
def yN_see : MethodName := ⟨RN, "see", "(II)V"⟩
-- .code yN_see cN_see 4 none
abbrev cN_greater : ByteArray := prog_7_method_6_code
def yN_greater : MethodName := ⟨RN, "greater", "(II)I"⟩
-- .code yN_greater cN_greater 3 (some .int)
abbrev cN_get : ByteArray := prog_7_method_12_code
def yN_get : MethodName := ⟨RN, "get", "(II)I"⟩
-- .code yN_get cN_get 4 (some .int)
abbrev cN_latestOf : ByteArray := prog_7_method_7_code
def yN_latestOf : MethodName := ⟨RN, "latestOf", "(II)I"⟩
-- .code yN_latestOf cN_latestOf 5 (some .int)
abbrev cN_begin : ByteArray := prog_7_method_13_code
def yN_begin : MethodName := ⟨RN, "begin", "(II)Z"⟩
-- .code yN_begin cN_begin 4 (some .boolean)
abbrev cN_read : ByteArray := prog_7_method_17_code
def yN_read : MethodName := ⟨RN, "read", "(I)I"⟩
-- .code yN_read cN_read 3 (some .int)
abbrev cN_lowest : ByteArray := prog_7_method_4_code
def yN_lowest : MethodName := ⟨RN, "lowest", "(I)I"⟩
-- .code yN_lowest cN_lowest 3 (some .int)
abbrev cN_second : ByteArray := prog_7_method_16_code
def yN_second : MethodName := ⟨RN, "second", "(I)V"⟩
-- .code yN_second cN_second 5 none
abbrev cN_due : ByteArray := prog_7_method_14_code
def yN_due : MethodName := ⟨RN, "due", "(II)I"⟩
-- .code yN_due cN_due 6 (some .int)
abbrev cN_finish : ByteArray := prog_7_method_15_code
def yN_finish : MethodName := ⟨RN, "finish", "(I)V"⟩
-- .code yN_finish cN_finish 3 none
abbrev cN_count : ByteArray := prog_7_method_3_code
def yN_count : MethodName := ⟨RN, "count", "(I)I"⟩
-- .code yN_count cN_count 3 (some .int)
abbrev cN_got : ByteArray := prog_7_method_18_code
def yN_got : MethodName := ⟨RN, "got", "(II)I"⟩
-- .code yN_got cN_got 3 (some .int)
abbrev cN_rounds : ByteArray := prog_7_method_19_code
def yN_rounds : MethodName := ⟨RN, "rounds", "(I)I"⟩
-- .code yN_rounds cN_rounds 2 (some .int)
abbrev cN_deliver : ByteArray := prog_7_method_21_code
def yN_deliver : MethodName := ⟨RN, "deliver", "(III)Z"⟩
-- .code yN_deliver cN_deliver 7 (some .boolean)
abbrev cN_link : ByteArray := prog_7_method_20_code
def yN_link : MethodName := ⟨RN, "link", "(II)Z"⟩
-- .code yN_link cN_link 3 (some .boolean)
abbrev cN_serve : ByteArray := prog_7_method_23_code
def yN_serve : MethodName := ⟨RN, "serve", "(II)I"⟩
-- .code yN_serve cN_serve 8 (some .int)
abbrev cN_missing : ByteArray := prog_7_method_22_code
def yN_missing : MethodName := ⟨RN, "missing", "(II)I"⟩
-- .code yN_missing cN_missing 6 (some .int)
abbrev cN_flight : ByteArray := prog_7_method_24_code
def yN_flight : MethodName := ⟨RN, "flight", "(II)I"⟩
-- .code yN_flight cN_flight 3 (some .int)
abbrev cN_sent : ByteArray := prog_7_method_25_code
def yN_sent : MethodName := ⟨RN, "sent", "(III)I"⟩
-- .code yN_sent cN_sent 4 (some .int)
abbrev cN_pending : ByteArray := prog_7_method_26_code
def yN_pending : MethodName := ⟨RN, "pending", "(II)I"⟩
-- .code yN_pending cN_pending 3 (some .int)
abbrev cN_lacks : ByteArray := prog_7_method_27_code
def yN_lacks : MethodName := ⟨RN, "lacks", "(III)I"⟩
-- .code yN_lacks cN_lacks 5 (some .int)
abbrev cN_latest : ByteArray := prog_7_method_28_code
def yN_latest : MethodName := ⟨RN, "latest", "(II)I"⟩
-- .code yN_latest cN_latest 4 (some .int)
abbrev cN_visible : ByteArray := prog_7_method_29_code
def yN_visible : MethodName := ⟨RN, "visible", "(II)Z"⟩
-- .code yN_visible cN_visible 3 (some .boolean)
abbrev cN_clock : ByteArray := prog_7_method_30_code
def yN_clock : MethodName := ⟨RN, "clock", "(II)I"⟩
-- .code yN_clock cN_clock 3 (some .int)
abbrev cN_context : ByteArray := prog_7_method_31_code
def yN_context : MethodName := ⟨RN, "context", "(II)I"⟩
-- .code yN_context cN_context 3 (some .int)
abbrev cN_nearest : ByteArray := prog_7_method_32_code
def yN_nearest : MethodName := ⟨RN, "nearest", "(I)I"⟩
-- .code yN_nearest cN_nearest 2 (some .int)
abbrev cN_about : ByteArray := prog_7_method_33_code
def yN_about : MethodName := ⟨RN, "about", "(II)I"⟩
-- .code yN_about cN_about 3 (some .int)
abbrev cN_dependency : ByteArray := prog_7_method_34_code
def yN_dependency : MethodName := ⟨RN, "dependency", "(II)I"⟩
-- .code yN_dependency cN_dependency 3 (some .int)
abbrev cL_law : ByteArray := code
def yL_law : MethodName := ⟨RL, "law", "([I)Z"⟩
-- .code yL_law cL_law 4 (some .boolean)
abbrev vwCl : List vw_C := [(RS, TS, 5), (RW, TW, 6), (RC, TC, 4), (RK, TK, 7), (RR, TR, 2), (RN, TN, 19)]
end
section
/-! The words that all methods share: the good ones of the tables; links of nest mates; array classes. -/
def oAll : List Cond := lw_tbl.filter goodWord
theorem oGood : ∀ w ∈ oAll, (w.onTables && w.keeps) = true ∨ ∃ ty, w = .arrayClass ty := fun _ h => good_of_word (List.mem_filter.mp h).2
theorem oMem1 {i : Nat} {w : Cond} (h : tables_1_1[i]? = some w) (hg : goodWord w = true) : w ∈ oAll := List.mem_filter.mpr ⟨List.mem_append_right _ (List.mem_append_left _ (List.mem_of_getElem? h)), hg⟩
theorem oMem2 {i : Nat} {w : Cond} (h : tables_1_2[i]? = some w) (hg : goodWord w = true) : w ∈ oAll := List.mem_filter.mpr ⟨List.mem_append_right _ (List.mem_append_right _ (List.mem_append_left _ (List.mem_of_getElem? h))), hg⟩
theorem oMem3 {i : Nat} {w : Cond} (h : tables_1_3[i]? = some w) (hg : goodWord w = true) : w ∈ oAll := List.mem_filter.mpr ⟨List.mem_append_right _ (List.mem_append_right _ (List.mem_append_right _ (List.mem_of_getElem? h))), hg⟩
theorem oMemS {i : Nat} {w : Cond} (h : (k2_sels lw_privs)[i]? = some w) (hg : goodWord w = true) : w ∈ oAll := List.mem_filter.mpr ⟨List.mem_append_left _ (List.mem_of_getElem? h), hg⟩
def oNwF : List (String × Nat × String × String × String × String) := [("CausalStore", 178, "CausalStore$Write", "depends", "[I", "CausalStore"), ("CausalStore", 129, "CausalStore$Write", "key", "I", "CausalStore"), ("CausalStore", 172, "CausalStore$Write", "value", "I", "CausalStore"), ("CausalStore", 135, "CausalStore$Write", "time", "I", "CausalStore"), ("CausalStore", 169, "CausalStore$Write", "version", "I", "CausalStore"), ("CausalStore", 175, "CausalStore$Write", "needs", "I", "CausalStore"), ("CausalStore", 156, "CausalStore$Row", "size", "I", "CausalStore"), ("CausalStore", 165, "CausalStore$Center", "shows", "[Z", "CausalStore"), ("CausalStore", 88, "CausalStore$Center", "newest", "[I", "CausalStore"), ("CausalStore", 132, "CausalStore$Center", "clocks", "[I", "CausalStore"), ("CausalStore", 144, "CausalStore$Center", "waiting", "[LCausalStore$Row;", "CausalStore"), ("CausalStore", 58, "CausalStore$Client", "center", "I", "CausalStore"), ("CausalStore", 65, "CausalStore$Client", "depends", "[I", "CausalStore"), ("CausalStore", 116, "CausalStore$Client", "fetched", "[I", "CausalStore"), ("CausalStore", 193, "CausalStore$Client", "due", "[I", "CausalStore"), ("CausalStore", 200, "CausalStore$Client", "set", "I", "CausalStore"), ("CausalStore", 98, "CausalStore$Client", "left", "I", "CausalStore"), ("CausalStore", 101, "CausalStore$Client", "round", "I", "CausalStore")]
def oNwM : List (String × Nat × MethodName × String) := [("CausalStore", 33, ⟨"CausalStore$Write", "<init>", "()V"⟩, "CausalStore"), ("CausalStore$Write", 9, ⟨"CausalStore", "noWrites", "()[I"⟩, "CausalStore"), ("CausalStore", 34, ⟨"CausalStore$Center", "<init>", "()V"⟩, "CausalStore"), ("CausalStore$Center", 15, ⟨"CausalStore", "noWrites", "()[I"⟩, "CausalStore"), ("CausalStore$Center", 32, ⟨"CausalStore$Row", "<init>", "()V"⟩, "CausalStore"), ("CausalStore", 35, ⟨"CausalStore$Client", "<init>", "(I)V"⟩, "CausalStore"), ("CausalStore$Client", 9, ⟨"CausalStore", "noWrites", "()[I"⟩, "CausalStore"), ("CausalStore", 38, ⟨"CausalStore$Row", "<init>", "()V"⟩, "CausalStore"), ("CausalStore", 46, ⟨"CausalStore$Client", "isOpen", "()Z"⟩, "CausalStore"), ("CausalStore", 61, ⟨"CausalStore$Write", "fill", "(IIII)V"⟩, "CausalStore"), ("CausalStore", 73, ⟨"CausalStore$Write", "dependOn", "([II)V"⟩, "CausalStore"), ("CausalStore", 147, ⟨"CausalStore$Row", "append", "(I)V"⟩, "CausalStore"), ("CausalStore", 91, ⟨"CausalStore$Client", "open", "(I)V"⟩, "CausalStore"), ("CausalStore", 159, ⟨"CausalStore$Row", "at", "(I)I"⟩, "CausalStore"), ("CausalStore", 126, ⟨"CausalStore$Row", "removeAt", "(I)V"⟩, "CausalStore")]
def oAO : List String := ["CausalStore$Write", "CausalStore$Center", "CausalStore$Client", "CausalStore$Row"]
def oTyL : List FieldType := [.int, .boolean, .object "CausalStore$Write", .object "CausalStore$Center", .object "CausalStore$Client", .object "CausalStore$Row"]
abbrev tyInt : Nat := 0
abbrev tyBool : Nat := 1
abbrev tyWrite : Nat := 2
abbrev tyCenter : Nat := 3
abbrev tyClient : Nat := 4
abbrev tyRow : Nat := 5
abbrev ciStore : Nat := 0
abbrev ciWrite : Nat := 1
abbrev ciCenter : Nat := 2
abbrev ciClient : Nat := 3
abbrev ciRow : Nat := 4
abbrev ciModel : Nat := 5
theorem oIn_0 : ∀ w ∈ wsS0, w ∈ oAll := fun w h => List.mem_filter.mpr ⟨List.mem_append_right _ (inS w h), List.all_eq_true.mp (show (wsS0).all goodWord = true by decide +kernel) w h⟩
theorem oIn_1 : ∀ w ∈ wsW0, w ∈ oAll := fun w h => List.mem_filter.mpr ⟨List.mem_append_right _ (inW w h), List.all_eq_true.mp (show (wsW0).all goodWord = true by decide +kernel) w h⟩
theorem oIn_2 : ∀ w ∈ wsC0, w ∈ oAll := fun w h => List.mem_filter.mpr ⟨List.mem_append_right _ (inC w h), List.all_eq_true.mp (show (wsC0).all goodWord = true by decide +kernel) w h⟩
theorem oIn_3 : ∀ w ∈ wsK0, w ∈ oAll := fun w h => List.mem_filter.mpr ⟨List.mem_append_right _ (inK w h), List.all_eq_true.mp (show (wsK0).all goodWord = true by decide +kernel) w h⟩
theorem oIn_4 : ∀ w ∈ wsR0, w ∈ oAll := fun w h => List.mem_filter.mpr ⟨List.mem_append_right _ (inR w h), List.all_eq_true.mp (show (wsR0).all goodWord = true by decide +kernel) w h⟩
theorem oIn_5 : ∀ w ∈ wsN0, w ∈ oAll := fun w h => List.mem_filter.mpr ⟨List.mem_append_right _ (inN w h), List.all_eq_true.mp (show (wsN0).all goodWord = true by decide +kernel) w h⟩
theorem oIn : ∀ (ci : Nat) (q : vw_C), vwCl[ci]? = some q → ∀ w ∈ u_ws q.1 q.2.1 q.2.2, w ∈ oAll
  | 0, _, h => by
    cases h
    exact oIn_0
  | 1, _, h => by
    cases h
    exact oIn_1
  | 2, _, h => by
    cases h
    exact oIn_2
  | 3, _, h => by
    cases h
    exact oIn_3
  | 4, _, h => by
    cases h
    exact oIn_4
  | 5, _, h => by
    cases h
    exact oIn_5
  | k + 6, _, h => by simp [vwCl] at h
theorem oTyp : ∀ (ci : Nat) (q : vw_C), vwCl[ci]? = some q → ∃ ty0 : Nat → FieldType, (∀ k, k < q.2.2 → parseFieldDescriptor (q.2.1 k).2.2.1 = some (ty0 k)) ∧ ∀ a, a < q.2.2 → ∀ b, b < q.2.2 → a ≠ b → (q.2.1 a).2.1 ≠ (q.2.1 b).2.1
  | 0, _, h => by
    cases h
    exact ⟨tyS, tyS_ok, nmS⟩
  | 1, _, h => by
    cases h
    exact ⟨tyW, tyW_ok, nmW⟩
  | 2, _, h => by
    cases h
    exact ⟨tyC, tyC_ok, nmC⟩
  | 3, _, h => by
    cases h
    exact ⟨tyK, tyK_ok, nmK⟩
  | 4, _, h => by
    cases h
    exact ⟨tyR, tyR_ok, nmR⟩
  | 5, _, h => by
    cases h
    exact ⟨tyN, tyN_ok, nmN⟩
  | k + 6, _, h => by simp [vwCl] at h
end
section
/-! The reading machine. Ok G M pc lv st H b Q: wherever method M stands at pc with locals lv, stack st, abstract heap H and room b left, it ends, and its answer and heap have Q. Reference 0 is the script, reference k + 1 the k-th cell that we made. -/
abbrev oU : Type := Int32 ⊕ Option Nat
abbrev oC : Type := (Nat × Nat × (Nat → Int32)) ⊕ (Nat × Nat × (Nat → Option Nat)) ⊕ (Nat × List oU)
abbrev oH : Type := Nat × (Nat → Option oC)
abbrev oG : Type := Launch × va_G × List (ClassId × FieldType) × Nat × Nat × Nat × (Nat → Int32)
abbrev oM : Type := MethodName × ByteArray × Nat × Option FieldType × Nat × Nat
abbrev oL : Type := List (Nat × oU)
abbrev oP : Type := Option oU → oH → Prop
abbrev oLa (G : oG) : Launch := G.1
abbrev oD (G : oG) : va_G := G.2.1
abbrev oT (G : oG) : List (ClassId × FieldType) := G.2.2.1
abbrev oB (G : oG) : Nat := G.2.2.2.1
abbrev oS (G : oG) : Nat := G.2.2.2.2.1
abbrev oN (G : oG) : Nat := G.2.2.2.2.2.1
abbrev oX (G : oG) : Nat → Int32 := G.2.2.2.2.2.2
def oAd (G : oG) (r : Nat) : Nat := match r with
  | 0 => oS G
  | k + 1 => oB G + k
def oV (G : oG) (v : oU) : Value := match v with
  | .inl x => .int x
  | .inr none => .null
  | .inr (some r) => .ref (oAd G r)
def oE (G : oG) (c : oC) : va_E := match c with
  | .inl a => .inl (((oT G).getD a.1 (0, .int)).1, a.2.1, .inl a.2.2)
  | .inr (.inl a) => .inl (((oT G).getD a.1 (0, .int)).1, a.2.1, .inr (.inr (.inr (.inr fun k => (a.2.2 k).map (oAd G)))))
  | .inr (.inr a) => .inr (a.1, a.2.map (oV G))
def oW (G : oG) (H : oH) (hp : Heap) : Prop := hp.size = oB G + H.1 ∧ ∀ (r : Nat) (c : oC), H.2 r = some c → (∃ k, r = k + 1 ∧ k < H.1) ∧ va_at (oD G) vwCl (oAd G r, oE G c) hp
def oA (G : oG) : Nat → Prop := fun q => oB G ≤ q
def oNs (s : State) : Prop := (∀ q ∈ oNwF, va_Nw (.fieldLinkNest q.1 q.2.1 q.2.2.1 q.2.2.2.1 q.2.2.2.2.1 q.2.2.2.2.2) s) ∧ (∀ q ∈ oNwM, va_Nw (.methodLinkNest q.1 q.2.1 q.2.2.1 q.2.2.2) s) ∧ ∀ C ∈ oAO, va_AO C s
def oSt (G : oG) (H : oH) (U : State) : Prop := va_K (oD G) vwCl (oT G) U ∧ oNs U ∧ (oT G).map (fun q => q.2) = oTyL ∧ va_X (oS G) (oN G) (oX G) U U.heap ∧ oS G < oB G ∧ oB G ≤ U.heap.size ∧ oW G H U.heap
def oQ (G : oG) (Q : oP) : Array Value → State → Outcome → State → Prop := fun _ st oc t => (∃ (r : Option oU) (H' : oH), oc = .returned (r.map (oV G)) ∧ Q r H' ∧ oW G H' t.heap) ∧ va_F (oA G) st t
abbrev oCd (M : oM) : ByteArray := M.2.1
abbrev oMx (M : oM) : Nat := M.2.2.1
abbrev oRt (M : oM) : Option FieldType := M.2.2.2.1
abbrev oFr (M : oM) : Nat := M.2.2.2.2.1
abbrev oWd (M : oM) : Nat := M.2.2.2.2.2
def oCx (G : oG) (M : oM) (p : Program) (R : Room) (s : State) (mid : MethodId) (args : Array Value) (meth : Method) (c : Code) : Prop :=
  p.tables.exec = Jvm.exec ∧ c.code = oCd M ∧ c.maxLocals = oMx M ∧ meth.sig.returnType = oRt M ∧ meth.locks = false ∧ meth.name = M.1.name ∧ s.vm.findClass M.1.cls = some mid.cls ∧
  (∀ w ∈ oAll, w.before args s = true) ∧ va_K (oD G) vwCl (oT G) s ∧ oNs s ∧ (oT G).map (fun q => q.2) = oTyL ∧ va_X (oS G) (oN G) (oX G) s s.heap ∧ oS G < oB G ∧ oB G ≤ s.heap.size ∧ oFr M ≤ R.frames ∧ oWd M ≤ R.locals
def oDy (G : oG) (M : oM) (lv : oL) (H : oH) (b : Nat × Nat) (R : Room) (s : State) (hp : Heap) (locs : List Loc) (cells slots mc ms : Nat) (ls : Array Slot) : Prop :=
  lv_has ls (oMx M) (lv.map fun q => (q.1, oV G q.2)) ∧ oW G H hp ∧ va_S (oA G) s.heap hp locs ∧ cells + b.1 = mc ∧ slots + b.2 = ms ∧ mc ≤ R.cells ∧ ms ≤ R.slots
def Ok (G : oG) (M : oM) (pc : Nat) (lv : oL) (st : List oU) (H : oH) (b : Nat × Nat) (Q : oP) : Prop :=
  ∀ (p : Program) (e : Env) (R : Room) (s : State) (mid : MethodId) (args : Array Value) (below : List Frame) (meth : Method) (c : Code) (hp : Heap) (locs : List Loc) (cells slots mc ms : Nat) (ls : Array Slot),
    oCx G M p R s mid args meth c → oDy G M lv H b R s hp locs cells slots mc ms ls →
    W p (oLa G) e R s mid args below meth c hp locs cells slots (MQ below (oQ G Q) args s mc ms (oA G)) (F0 mid pc ls (st.map (oV G)))
def oGet : oL → Nat → Option oU
  | [], _ => none
  | q :: l, i => bif Nat.beq q.1 i then some q.2 else oGet l i
def oSet : oL → Nat → oU → oL
  | [], i, v => [(i, v)]
  | q :: l, i, v => bif Nat.beq q.1 i then (i, v) :: l.filter (fun q => !(Nat.beq q.1 i)) else q :: oSet l i v
def oUp (H : oH) (r : Nat) (c : oC) : oH := (H.1, va_up H.2 r (some c))
def oNw (H : oH) (c : oC) : oH := (H.1 + 1, va_up H.2 (H.1 + 1) (some c))
theorem oGet_mem : ∀ (l : oL) (i : Nat) (v : oU), oGet l i = some v → (i, v) ∈ l
  | [], _, _, h => by cases h
  | q :: l, i, v, h => by
    cases hb : Nat.beq q.1 i with
    | true =>
      simp only [oGet, hb, cond_true, Option.some.injEq] at h
      have e := Nat.eq_of_beq_eq_true hb
      subst h; subst e
      exact List.mem_cons_self
    | false =>
      simp only [oGet, hb, cond_false] at h
      exact List.mem_cons_of_mem _ (oGet_mem l i v h)
theorem oSet_mem : ∀ (l : oL) (i : Nat) (v : oU) (q : Nat × oU), q ∈ oSet l i v → q = (i, v) ∨ (q ∈ l ∧ ¬ q.1 = i)
  | [], i, v, q, h => Or.inl (List.mem_singleton.mp h)
  | a :: l, i, v, q, h => by
    cases hb : Nat.beq a.1 i with
    | true =>
      simp only [oSet, hb, cond_true] at h
      rcases List.mem_cons.mp h with h | h
      · exact Or.inl h
      · have h2 := List.mem_filter.mp h
        refine Or.inr ⟨List.mem_cons_of_mem _ h2.1, fun e => ?_⟩
        have h3 := h2.2
        rw [e] at h3
        simp at h3
    | false =>
      simp only [oSet, hb, cond_false] at h
      rcases List.mem_cons.mp h with h | h
      · refine Or.inr ⟨by rw [h]; exact List.mem_cons_self, fun e => ?_⟩
        rw [h] at e
        rw [e] at hb
        simp at hb
      · rcases oSet_mem l i v q h with h | ⟨h1, h2⟩
        · exact Or.inl h
        · exact Or.inr ⟨List.mem_cons_of_mem _ h1, h2⟩
theorem oV_cat (G : oG) (v : oU) : (oV G v).category = 1 := by
  obtain x | (_ | r) := v <;> rfl
theorem oSum (G : oG) : ∀ st : List oU, ((st.map (oV G)).map fun v => v.category).sum = st.length
  | [] => rfl
  | v :: st => by
    rw [List.map_cons, List.map_cons, List.sum_cons, oSum G st, oV_cat, List.length_cons]
    omega
theorem oHas_at {G : oG} {ls : Array Slot} {n : Nat} {lv : oL} (h : lv_has ls n (lv.map fun q => (q.1, oV G q.2))) {i : Nat} {v : oU} (hg : oGet lv i = some v) : ls[i]? = some (.val (oV G v)) :=
  h.2.2 (i, oV G v) (List.mem_map.mpr ⟨(i, v), oGet_mem lv i v hg, rfl⟩)
theorem oHas_set {G : oG} {ls : Array Slot} {n : Nat} {lv lv' : oL} {i : Nat} {v : oU} (hl : oSet lv i v = lv') (h : lv_has ls n ((i, oV G v) :: (lv.map fun q => (q.1, oV G q.2)).filter (fun q => !(q.1 == i) && !(q.1 + 1 == i && q.2.category == 2)))) : lv_has ls n (lv'.map fun q => (q.1, oV G q.2)) := by
  subst hl
  refine ⟨h.1, h.2.1, fun q hq => ?_⟩
  obtain ⟨a, ha, rfl⟩ := List.mem_map.mp hq
  rcases oSet_mem lv i v a ha with rfl | ⟨h1, h2⟩
  · exact h.2.2 _ List.mem_cons_self
  · refine h.2.2 _ (List.mem_cons_of_mem _ (List.mem_filter.mpr ⟨List.mem_map.mpr ⟨a, h1, rfl⟩, ?_⟩))
    have h3 : ((oV G a.2).category == 2) = false := by rw [oV_cat]; rfl
    simp [h2, h3]
theorem oHas_sub {G : oG} {ls : Array Slot} {n : Nat} {lv lv' : oL} (ks : List Nat) (hl : ks.filterMap (fun k => lv[k]?) = lv') (h : lv_has ls n (lv.map fun q => (q.1, oV G q.2))) : lv_has ls n (lv'.map fun q => (q.1, oV G q.2)) := by
  subst hl
  refine ⟨h.1, h.2.1, fun q hq => ?_⟩
  obtain ⟨a, ha, rfl⟩ := List.mem_map.mp hq
  obtain ⟨k, -, hk⟩ := List.mem_filterMap.mp ha
  exact h.2.2 _ (List.mem_map.mpr ⟨a, List.mem_of_getElem? hk, rfl⟩)
section MA
variable {G : oG} {M : oM} {pc : Nat} {lv : oL} {st : List oU} {H : oH} {b : Nat × Nat} {Q : oP}
theorem o_iadd {x y : Int32} (hd : decode (oCd M) pc = .ok (.iadd, 1)) (k : Ok G M (pc + 1) lv (.inl (x + y) :: st) H b Q) : Ok G M pc lv (.inl y :: .inl x :: st) H b Q :=
  fun p e R s mid args below meth c hp locs cells slots mc ms ls X Y => lv_iadd X.1 X.2.1 hd (k p e R s mid args below meth c hp locs cells slots mc ms ls X Y)
theorem o_isub {x y : Int32} (hd : decode (oCd M) pc = .ok (.isub, 1)) (k : Ok G M (pc + 1) lv (.inl (x - y) :: st) H b Q) : Ok G M pc lv (.inl y :: .inl x :: st) H b Q :=
  fun p e R s mid args below meth c hp locs cells slots mc ms ls X Y => lv_isub X.1 X.2.1 hd (k p e R s mid args below meth c hp locs cells slots mc ms ls X Y)
theorem o_imul {x y : Int32} (hd : decode (oCd M) pc = .ok (.imul, 1)) (k : Ok G M (pc + 1) lv (.inl (x * y) :: st) H b Q) : Ok G M pc lv (.inl y :: .inl x :: st) H b Q :=
  fun p e R s mid args below meth c hp locs cells slots mc ms ls X Y => lv_imul X.1 X.2.1 hd (k p e R s mid args below meth c hp locs cells slots mc ms ls X Y)
theorem o_iand {x y : Int32} (hd : decode (oCd M) pc = .ok (.iand, 1)) (k : Ok G M (pc + 1) lv (.inl (x &&& y) :: st) H b Q) : Ok G M pc lv (.inl y :: .inl x :: st) H b Q :=
  fun p e R s mid args below meth c hp locs cells slots mc ms ls X Y => lv_iand X.1 X.2.1 hd (k p e R s mid args below meth c hp locs cells slots mc ms ls X Y)
theorem o_ior {x y : Int32} (hd : decode (oCd M) pc = .ok (.ior, 1)) (k : Ok G M (pc + 1) lv (.inl (x ||| y) :: st) H b Q) : Ok G M pc lv (.inl y :: .inl x :: st) H b Q :=
  fun p e R s mid args below meth c hp locs cells slots mc ms ls X Y => lv_ior X.1 X.2.1 hd (k p e R s mid args below meth c hp locs cells slots mc ms ls X Y)
theorem o_ixor {x y : Int32} (hd : decode (oCd M) pc = .ok (.ixor, 1)) (k : Ok G M (pc + 1) lv (.inl (x ^^^ y) :: st) H b Q) : Ok G M pc lv (.inl y :: .inl x :: st) H b Q :=
  fun p e R s mid args below meth c hp locs cells slots mc ms ls X Y => lv_ixor X.1 X.2.1 hd (k p e R s mid args below meth c hp locs cells slots mc ms ls X Y)
theorem o_ishl {x y : Int32} (hd : decode (oCd M) pc = .ok (.ishl, 1)) (k : Ok G M (pc + 1) lv (.inl (x <<< (y &&& 31)) :: st) H b Q) : Ok G M pc lv (.inl y :: .inl x :: st) H b Q :=
  fun p e R s mid args below meth c hp locs cells slots mc ms ls X Y => lv_ishl X.1 X.2.1 hd (k p e R s mid args below meth c hp locs cells slots mc ms ls X Y)
theorem o_ishr {x y : Int32} (hd : decode (oCd M) pc = .ok (.ishr, 1)) (k : Ok G M (pc + 1) lv (.inl (x >>> (y &&& 31)) :: st) H b Q) : Ok G M pc lv (.inl y :: .inl x :: st) H b Q :=
  fun p e R s mid args below meth c hp locs cells slots mc ms ls X Y => lv_ishr X.1 X.2.1 hd (k p e R s mid args below meth c hp locs cells slots mc ms ls X Y)
theorem o_idiv {x y : Int32} (hd : decode (oCd M) pc = .ok (.idiv, 1)) (hne : ¬ y = 0) (k : Ok G M (pc + 1) lv (.inl (x / y) :: st) H b Q) : Ok G M pc lv (.inl y :: .inl x :: st) H b Q :=
  fun p e R s mid args below meth c hp locs cells slots mc ms ls X Y => lv_idiv X.1 X.2.1 hd hne (k p e R s mid args below meth c hp locs cells slots mc ms ls X Y)
theorem o_irem {x y : Int32} (hd : decode (oCd M) pc = .ok (.irem, 1)) (hne : ¬ y = 0) (k : Ok G M (pc + 1) lv (.inl (x - x / y * y) :: st) H b Q) : Ok G M pc lv (.inl y :: .inl x :: st) H b Q :=
  fun p e R s mid args below meth c hp locs cells slots mc ms ls X Y => lv_irem X.1 X.2.1 hd hne (k p e R s mid args below meth c hp locs cells slots mc ms ls X Y)
theorem o_iushr {x y : Int32} (hd : decode (oCd M) pc = .ok (.iushr, 1)) (k : Ok G M (pc + 1) lv (.inl ((x.toUInt32 >>> (y.toUInt32 &&& Int32.toUInt32 31)).toInt32) :: st) H b Q) : Ok G M pc lv (.inl y :: .inl x :: st) H b Q :=
  fun p e R s mid args below meth c hp locs cells slots mc ms ls X Y => lv_iushr X.1 X.2.1 hd rfl (k p e R s mid args below meth c hp locs cells slots mc ms ls X Y)
theorem o_iconst (v : Int32) {n : Int} (hd : decode (oCd M) pc = .ok (.iconst n, 1)) (hv : Int32.ofInt n = v) (k : Ok G M (pc + 1) lv (.inl v :: st) H b Q) : Ok G M pc lv (st) H b Q :=
  fun p e R s mid args below meth c hp locs cells slots mc ms ls X Y => lv_iconst X.1 X.2.1 hd hv (k p e R s mid args below meth c hp locs cells slots mc ms ls X Y)
theorem o_bipush (v : Int32) {n : Int} (hd : decode (oCd M) pc = .ok (.bipush n, 2)) (hv : (Int8.ofInt n).toInt32 = v) (k : Ok G M (pc + 2) lv (.inl v :: st) H b Q) : Ok G M pc lv (st) H b Q :=
  fun p e R s mid args below meth c hp locs cells slots mc ms ls X Y => lv_bipush X.1 X.2.1 hd hv (k p e R s mid args below meth c hp locs cells slots mc ms ls X Y)
theorem o_sipush (v : Int32) {n : Int} (hd : decode (oCd M) pc = .ok (.sipush n, 3)) (hv : (Int16.ofInt n).toInt32 = v) (k : Ok G M (pc + 3) lv (.inl v :: st) H b Q) : Ok G M pc lv (st) H b Q :=
  fun p e R s mid args below meth c hp locs cells slots mc ms ls X Y => lv_sipush X.1 X.2.1 hd hv (k p e R s mid args below meth c hp locs cells slots mc ms ls X Y)
theorem o_dup {v : oU} (hd : decode (oCd M) pc = .ok (.dup, 1)) (k : Ok G M (pc + 1) lv (v :: v :: st) H b Q) : Ok G M pc lv (v :: st) H b Q :=
  fun p e R s mid args below meth c hp locs cells slots mc ms ls X Y => lv_dup X.1 X.2.1 hd (oV_cat G v) (k p e R s mid args below meth c hp locs cells slots mc ms ls X Y)
theorem o_pop {v : oU} (hd : decode (oCd M) pc = .ok (.pop, 1)) (k : Ok G M (pc + 1) lv (st) H b Q) : Ok G M pc lv (v :: st) H b Q :=
  fun p e R s mid args below meth c hp locs cells slots mc ms ls X Y => lv_pop X.1 X.2.1 hd (oV_cat G v) (k p e R s mid args below meth c hp locs cells slots mc ms ls X Y)
theorem o_dup2 {v w : oU} (hd : decode (oCd M) pc = .ok (.dup2, 1)) (k : Ok G M (pc + 1) lv (v :: w :: v :: w :: st) H b Q) : Ok G M pc lv (v :: w :: st) H b Q :=
  fun p e R s mid args below meth c hp locs cells slots mc ms ls X Y => lv_dup2_11 X.1 X.2.1 hd (oV_cat G v) (oV_cat G w) (k p e R s mid args below meth c hp locs cells slots mc ms ls X Y)
theorem o_iload {i : Nat} {x : Int32} (hd : decode (oCd M) pc = .ok (.iload i, 2)) (hl : oGet lv i = some (.inl x)) (k : Ok G M (pc + 2) lv (.inl x :: st) H b Q) : Ok G M pc lv st H b Q :=
  fun p e R s mid args below meth c hp locs cells slots mc ms ls X Y => lv_iload X.1 X.2.1 hd (oHas_at Y.1 hl) (k p e R s mid args below meth c hp locs cells slots mc ms ls X Y)
theorem o_iload_n {j : Fin 4} {x : Int32} (hd : decode (oCd M) pc = .ok (.iload_n j, 1)) (hl : oGet lv (j : Nat) = some (.inl x)) (k : Ok G M (pc + 1) lv (.inl x :: st) H b Q) : Ok G M pc lv st H b Q :=
  fun p e R s mid args below meth c hp locs cells slots mc ms ls X Y => lv_iload_n X.1 X.2.1 hd rfl (oHas_at Y.1 hl) (k p e R s mid args below meth c hp locs cells slots mc ms ls X Y)
theorem o_aload {i : Nat} {x : Nat} (hd : decode (oCd M) pc = .ok (.aload i, 2)) (hl : oGet lv i = some (.inr (some x))) (k : Ok G M (pc + 2) lv (.inr (some x) :: st) H b Q) : Ok G M pc lv st H b Q :=
  fun p e R s mid args below meth c hp locs cells slots mc ms ls X Y => lv_aload X.1 X.2.1 hd (oHas_at Y.1 hl) (k p e R s mid args below meth c hp locs cells slots mc ms ls X Y)
theorem o_aload_n {j : Fin 4} {x : Nat} (hd : decode (oCd M) pc = .ok (.aload_n j, 1)) (hl : oGet lv (j : Nat) = some (.inr (some x))) (k : Ok G M (pc + 1) lv (.inr (some x) :: st) H b Q) : Ok G M pc lv st H b Q :=
  fun p e R s mid args below meth c hp locs cells slots mc ms ls X Y => lv_aload_n X.1 X.2.1 hd rfl (oHas_at Y.1 hl) (k p e R s mid args below meth c hp locs cells slots mc ms ls X Y)
theorem o_istore {i : Nat} {x : Int32} (lv' : oL) (hd : decode (oCd M) pc = .ok (.istore i, 2)) (hn : Nat.blt i (oMx M) = true) (hl : oSet lv i (.inl x) = lv') (k : Ok G M (pc + 2) lv' st H b Q) : Ok G M pc lv (.inl x :: st) H b Q :=
  fun p e R s mid args below meth c hp locs cells slots mc ms ls X Y => lv_istore X.1 X.2.1 hd Y.1 (Nat.le_of_ble_eq_true hn) rfl (fun ls h => k p e R s mid args below meth c hp locs cells slots mc ms ls X ⟨oHas_set hl h, Y.2⟩)
theorem o_istore_n {j : Fin 4} {x : Int32} (lv' : oL) (hd : decode (oCd M) pc = .ok (.istore_n j, 1)) (hn : Nat.blt (j : Nat) (oMx M) = true) (hl : oSet lv (j : Nat) (.inl x) = lv') (k : Ok G M (pc + 1) lv' st H b Q) : Ok G M pc lv (.inl x :: st) H b Q :=
  fun p e R s mid args below meth c hp locs cells slots mc ms ls X Y => lv_istore_n X.1 X.2.1 hd rfl Y.1 (Nat.le_of_ble_eq_true hn) rfl (fun ls h => k p e R s mid args below meth c hp locs cells slots mc ms ls X ⟨oHas_set hl h, Y.2⟩)
theorem o_astore {i : Nat} {x : Nat} (lv' : oL) (hd : decode (oCd M) pc = .ok (.astore i, 2)) (hn : Nat.blt i (oMx M) = true) (hl : oSet lv i (.inr (some x)) = lv') (k : Ok G M (pc + 2) lv' st H b Q) : Ok G M pc lv (.inr (some x) :: st) H b Q :=
  fun p e R s mid args below meth c hp locs cells slots mc ms ls X Y => lv_astore X.1 X.2.1 hd Y.1 (Nat.le_of_ble_eq_true hn) rfl (fun ls h => k p e R s mid args below meth c hp locs cells slots mc ms ls X ⟨oHas_set hl h, Y.2⟩)
theorem o_astore_n {j : Fin 4} {x : Nat} (lv' : oL) (hd : decode (oCd M) pc = .ok (.astore_n j, 1)) (hn : Nat.blt (j : Nat) (oMx M) = true) (hl : oSet lv (j : Nat) (.inr (some x)) = lv') (k : Ok G M (pc + 1) lv' st H b Q) : Ok G M pc lv (.inr (some x) :: st) H b Q :=
  fun p e R s mid args below meth c hp locs cells slots mc ms ls X Y => lv_astore_n X.1 X.2.1 hd rfl Y.1 (Nat.le_of_ble_eq_true hn) rfl (fun ls h => k p e R s mid args below meth c hp locs cells slots mc ms ls X ⟨oHas_set hl h, Y.2⟩)
theorem o_iinc {i : Nat} {n : Int} {x : Int32} (v : Int32) (lv' : oL) (hd : decode (oCd M) pc = .ok (.iinc i n, 3)) (hg : oGet lv i = some (.inl x)) (hv : x + Int32.ofInt n = v) (hn : Nat.blt i (oMx M) = true) (hl : oSet lv i (.inl v) = lv') (k : Ok G M (pc + 3) lv' st H b Q) : Ok G M pc lv st H b Q := by
  intro p e R s mid args below meth c hp locs cells slots mc ms ls X Y
  obtain ⟨z, hz⟩ := List.getElem?_of_mem (List.mem_map.mpr ⟨(i, .inl x), oGet_mem lv i _ hg, rfl⟩ : (i, oV G (.inl x)) ∈ lv.map fun q => (q.1, oV G q.2))
  exact lv_iinc X.1 X.2.1 hd Y.1 hz hv (Nat.le_of_ble_eq_true hn) rfl (fun ls h => k p e R s mid args below meth c hp locs cells slots mc ms ls X ⟨oHas_set (v := .inl v) hl h, Y.2⟩)
theorem o_lv (lv' : oL) (ks : List Nat) (hl : ks.filterMap (fun k => lv[k]?) = lv') (k : Ok G M pc lv' st H b Q) : Ok G M pc lv st H b Q :=
  fun p e R s mid args below meth c hp locs cells slots mc ms ls X Y => k p e R s mid args below meth c hp locs cells slots mc ms ls X ⟨oHas_sub ks hl Y.1, Y.2⟩
theorem o_if_eq {x : Int32} {off : Int} (tgt : Nat) (hd : decode (oCd M) pc = .ok (.ifCond .eq off, 3)) (ht : (pc : Int) + off = (tgt : Int)) (kt : x = 0 → Ok G M tgt lv st H b Q) (kf : ¬ x = 0 → Ok G M (pc + 3) lv st H b Q) : Ok G M pc lv (.inl x :: st) H b Q :=
  fun p e R s mid args below meth c hp locs cells slots mc ms ls X Y => lv_if_eq X.1 X.2.1 hd ht (fun h => kt h p e R s mid args below meth c hp locs cells slots mc ms ls X Y) (fun h => kf h p e R s mid args below meth c hp locs cells slots mc ms ls X Y)
theorem o_icmp_eq {x y : Int32} {off : Int} (tgt : Nat) (hd : decode (oCd M) pc = .ok (.if_icmp .eq off, 3)) (ht : (pc : Int) + off = (tgt : Int)) (kt : x = y → Ok G M tgt lv st H b Q) (kf : ¬ x = y → Ok G M (pc + 3) lv st H b Q) : Ok G M pc lv (.inl y :: .inl x :: st) H b Q :=
  fun p e R s mid args below meth c hp locs cells slots mc ms ls X Y => lv_icmp_eq X.1 X.2.1 hd ht (fun h => kt h p e R s mid args below meth c hp locs cells slots mc ms ls X Y) (fun h => kf h p e R s mid args below meth c hp locs cells slots mc ms ls X Y)
theorem o_if_ne {x : Int32} {off : Int} (tgt : Nat) (hd : decode (oCd M) pc = .ok (.ifCond .ne off, 3)) (ht : (pc : Int) + off = (tgt : Int)) (kt : ¬ x = 0 → Ok G M tgt lv st H b Q) (kf : x = 0 → Ok G M (pc + 3) lv st H b Q) : Ok G M pc lv (.inl x :: st) H b Q :=
  fun p e R s mid args below meth c hp locs cells slots mc ms ls X Y => lv_if_ne X.1 X.2.1 hd ht (fun h => kt h p e R s mid args below meth c hp locs cells slots mc ms ls X Y) (fun h => kf h p e R s mid args below meth c hp locs cells slots mc ms ls X Y)
theorem o_icmp_ne {x y : Int32} {off : Int} (tgt : Nat) (hd : decode (oCd M) pc = .ok (.if_icmp .ne off, 3)) (ht : (pc : Int) + off = (tgt : Int)) (kt : ¬ x = y → Ok G M tgt lv st H b Q) (kf : x = y → Ok G M (pc + 3) lv st H b Q) : Ok G M pc lv (.inl y :: .inl x :: st) H b Q :=
  fun p e R s mid args below meth c hp locs cells slots mc ms ls X Y => lv_icmp_ne X.1 X.2.1 hd ht (fun h => kt h p e R s mid args below meth c hp locs cells slots mc ms ls X Y) (fun h => kf h p e R s mid args below meth c hp locs cells slots mc ms ls X Y)
theorem o_if_lt {x : Int32} {off : Int} (tgt : Nat) (hd : decode (oCd M) pc = .ok (.ifCond .lt off, 3)) (ht : (pc : Int) + off = (tgt : Int)) (kt : x < 0 → Ok G M tgt lv st H b Q) (kf : ¬ x < 0 → Ok G M (pc + 3) lv st H b Q) : Ok G M pc lv (.inl x :: st) H b Q :=
  fun p e R s mid args below meth c hp locs cells slots mc ms ls X Y => lv_if_lt X.1 X.2.1 hd ht (fun h => kt h p e R s mid args below meth c hp locs cells slots mc ms ls X Y) (fun h => kf h p e R s mid args below meth c hp locs cells slots mc ms ls X Y)
theorem o_icmp_lt {x y : Int32} {off : Int} (tgt : Nat) (hd : decode (oCd M) pc = .ok (.if_icmp .lt off, 3)) (ht : (pc : Int) + off = (tgt : Int)) (kt : x < y → Ok G M tgt lv st H b Q) (kf : ¬ x < y → Ok G M (pc + 3) lv st H b Q) : Ok G M pc lv (.inl y :: .inl x :: st) H b Q :=
  fun p e R s mid args below meth c hp locs cells slots mc ms ls X Y => lv_icmp_lt X.1 X.2.1 hd ht (fun h => kt h p e R s mid args below meth c hp locs cells slots mc ms ls X Y) (fun h => kf h p e R s mid args below meth c hp locs cells slots mc ms ls X Y)
theorem o_if_ge {x : Int32} {off : Int} (tgt : Nat) (hd : decode (oCd M) pc = .ok (.ifCond .ge off, 3)) (ht : (pc : Int) + off = (tgt : Int)) (kt : 0 ≤ x → Ok G M tgt lv st H b Q) (kf : ¬ 0 ≤ x → Ok G M (pc + 3) lv st H b Q) : Ok G M pc lv (.inl x :: st) H b Q :=
  fun p e R s mid args below meth c hp locs cells slots mc ms ls X Y => lv_if_ge X.1 X.2.1 hd ht (fun h => kt h p e R s mid args below meth c hp locs cells slots mc ms ls X Y) (fun h => kf h p e R s mid args below meth c hp locs cells slots mc ms ls X Y)
theorem o_icmp_ge {x y : Int32} {off : Int} (tgt : Nat) (hd : decode (oCd M) pc = .ok (.if_icmp .ge off, 3)) (ht : (pc : Int) + off = (tgt : Int)) (kt : y ≤ x → Ok G M tgt lv st H b Q) (kf : ¬ y ≤ x → Ok G M (pc + 3) lv st H b Q) : Ok G M pc lv (.inl y :: .inl x :: st) H b Q :=
  fun p e R s mid args below meth c hp locs cells slots mc ms ls X Y => lv_icmp_ge X.1 X.2.1 hd ht (fun h => kt h p e R s mid args below meth c hp locs cells slots mc ms ls X Y) (fun h => kf h p e R s mid args below meth c hp locs cells slots mc ms ls X Y)
theorem o_if_gt {x : Int32} {off : Int} (tgt : Nat) (hd : decode (oCd M) pc = .ok (.ifCond .gt off, 3)) (ht : (pc : Int) + off = (tgt : Int)) (kt : 0 < x → Ok G M tgt lv st H b Q) (kf : ¬ 0 < x → Ok G M (pc + 3) lv st H b Q) : Ok G M pc lv (.inl x :: st) H b Q :=
  fun p e R s mid args below meth c hp locs cells slots mc ms ls X Y => lv_if_gt X.1 X.2.1 hd ht (fun h => kt h p e R s mid args below meth c hp locs cells slots mc ms ls X Y) (fun h => kf h p e R s mid args below meth c hp locs cells slots mc ms ls X Y)
theorem o_icmp_gt {x y : Int32} {off : Int} (tgt : Nat) (hd : decode (oCd M) pc = .ok (.if_icmp .gt off, 3)) (ht : (pc : Int) + off = (tgt : Int)) (kt : y < x → Ok G M tgt lv st H b Q) (kf : ¬ y < x → Ok G M (pc + 3) lv st H b Q) : Ok G M pc lv (.inl y :: .inl x :: st) H b Q :=
  fun p e R s mid args below meth c hp locs cells slots mc ms ls X Y => lv_icmp_gt X.1 X.2.1 hd ht (fun h => kt h p e R s mid args below meth c hp locs cells slots mc ms ls X Y) (fun h => kf h p e R s mid args below meth c hp locs cells slots mc ms ls X Y)
theorem o_if_le {x : Int32} {off : Int} (tgt : Nat) (hd : decode (oCd M) pc = .ok (.ifCond .le off, 3)) (ht : (pc : Int) + off = (tgt : Int)) (kt : x ≤ 0 → Ok G M tgt lv st H b Q) (kf : ¬ x ≤ 0 → Ok G M (pc + 3) lv st H b Q) : Ok G M pc lv (.inl x :: st) H b Q :=
  fun p e R s mid args below meth c hp locs cells slots mc ms ls X Y => lv_if_le X.1 X.2.1 hd ht (fun h => kt h p e R s mid args below meth c hp locs cells slots mc ms ls X Y) (fun h => kf h p e R s mid args below meth c hp locs cells slots mc ms ls X Y)
theorem o_icmp_le {x y : Int32} {off : Int} (tgt : Nat) (hd : decode (oCd M) pc = .ok (.if_icmp .le off, 3)) (ht : (pc : Int) + off = (tgt : Int)) (kt : x ≤ y → Ok G M tgt lv st H b Q) (kf : ¬ x ≤ y → Ok G M (pc + 3) lv st H b Q) : Ok G M pc lv (.inl y :: .inl x :: st) H b Q :=
  fun p e R s mid args below meth c hp locs cells slots mc ms ls X Y => lv_icmp_le X.1 X.2.1 hd ht (fun h => kt h p e R s mid args below meth c hp locs cells slots mc ms ls X Y) (fun h => kf h p e R s mid args below meth c hp locs cells slots mc ms ls X Y)
theorem o_goto {off : Int} (tgt : Nat) (hd : decode (oCd M) pc = .ok (.goto off, 3)) (ht : (pc : Int) + off = (tgt : Int)) (k : Ok G M tgt lv st H b Q) : Ok G M pc lv st H b Q :=
  fun p e R s mid args below meth c hp locs cells slots mc ms ls X Y => lv_goto X.1 X.2.1 hd ht (k p e R s mid args below meth c hp locs cells slots mc ms ls X Y)
theorem o_tabOut {dflt lo hi : Int} {offs : Array Int} {len : Nat} {x : Int32} (tgt : Nat) (hd : decode (oCd M) pc = .ok (.tableswitch dflt lo hi offs, len)) (h : x.toInt < lo ∨ hi < x.toInt) (ht : (pc : Int) + dflt = (tgt : Int)) (k : Ok G M tgt lv st H b Q) : Ok G M pc lv (.inl x :: st) H b Q :=
  fun p e R s mid args below meth c hp locs cells slots mc ms ls X Y => lv_tableOut X.1 X.2.1 hd h ht (k p e R s mid args below meth c hp locs cells slots mc ms ls X Y)
theorem o_tabIn {dflt lo hi off : Int} {offs : Array Int} {len : Nat} {x : Int32} (tgt : Nat) (hd : decode (oCd M) pc = .ok (.tableswitch dflt lo hi offs, len)) (h1 : ¬ x.toInt < lo) (h2 : ¬ hi < x.toInt) (ho : offs[(x.toInt - lo).toNat]? = some off) (ht : (pc : Int) + off = (tgt : Int)) (k : Ok G M tgt lv st H b Q) : Ok G M pc lv (.inl x :: st) H b Q :=
  fun p e R s mid args below meth c hp locs cells slots mc ms ls X Y => lv_tableIn X.1 X.2.1 hd h1 h2 ho ht (k p e R s mid args below meth c hp locs cells slots mc ms ls X Y)
end MA
end
section
def oDef (ci : Nat) : List oU := match ci with
  | 0 => [.inr none, .inr none, .inr none, .inr none, .inl 0]
  | 1 => [.inr none, .inl 0, .inl 0, .inl 0, .inl 0, .inl 0]
  | 2 => [.inr none, .inr none, .inr none, .inr none]
  | 3 => [.inl 0, .inr none, .inr none, .inr none, .inl 0, .inl 0, .inl 0]
  | 4 => [.inr none, .inl 0]
  | 5 => [.inl 0, .inr none, .inr none, .inr none, .inr none, .inr none, .inr none, .inr none, .inr none, .inr none, .inr none, .inr none, .inr none, .inr none, .inr none, .inr none, .inr none, .inr none, .inr none]
  | _ => []
theorem oDefs (G : oG) : ∀ (ci : Nat) (q : vw_C), vwCl[ci]? = some q → ∃ ty0 : Nat → FieldType, (∀ k, k < q.2.2 → parseFieldDescriptor (q.2.1 k).2.2.1 = some (ty0 k)) ∧ ∀ j, j < q.2.2 → defaultValue (ty0 j) = vp_V ((oDef ci).map (oV G)) j
  | 0, _, h => by
    cases h
    refine ⟨tyS, tyS_ok, fun j hj => ?_⟩
    match j, hj with
    | 0, _ => rfl
    | 1, _ => rfl
    | 2, _ => rfl
    | 3, _ => rfl
    | 4, _ => rfl
    | j + 5, hj => exact absurd hj (by show ¬ j + 5 < 5; omega)
  | 1, _, h => by
    cases h
    refine ⟨tyW, tyW_ok, fun j hj => ?_⟩
    match j, hj with
    | 0, _ => rfl
    | 1, _ => rfl
    | 2, _ => rfl
    | 3, _ => rfl
    | 4, _ => rfl
    | 5, _ => rfl
    | j + 6, hj => exact absurd hj (by show ¬ j + 6 < 6; omega)
  | 2, _, h => by
    cases h
    refine ⟨tyC, tyC_ok, fun j hj => ?_⟩
    match j, hj with
    | 0, _ => rfl
    | 1, _ => rfl
    | 2, _ => rfl
    | 3, _ => rfl
    | j + 4, hj => exact absurd hj (by show ¬ j + 4 < 4; omega)
  | 3, _, h => by
    cases h
    refine ⟨tyK, tyK_ok, fun j hj => ?_⟩
    match j, hj with
    | 0, _ => rfl
    | 1, _ => rfl
    | 2, _ => rfl
    | 3, _ => rfl
    | 4, _ => rfl
    | 5, _ => rfl
    | 6, _ => rfl
    | j + 7, hj => exact absurd hj (by show ¬ j + 7 < 7; omega)
  | 4, _, h => by
    cases h
    refine ⟨tyR, tyR_ok, fun j hj => ?_⟩
    match j, hj with
    | 0, _ => rfl
    | 1, _ => rfl
    | j + 2, hj => exact absurd hj (by show ¬ j + 2 < 2; omega)
  | 5, _, h => by
    cases h
    refine ⟨tyN, tyN_ok, fun j hj => ?_⟩
    match j, hj with
    | 0, _ => rfl
    | 1, _ => rfl
    | 2, _ => rfl
    | 3, _ => rfl
    | 4, _ => rfl
    | 5, _ => rfl
    | 6, _ => rfl
    | 7, _ => rfl
    | 8, _ => rfl
    | 9, _ => rfl
    | 10, _ => rfl
    | 11, _ => rfl
    | 12, _ => rfl
    | 13, _ => rfl
    | 14, _ => rfl
    | 15, _ => rfl
    | 16, _ => rfl
    | 17, _ => rfl
    | 18, _ => rfl
    | j + 19, hj => exact absurd hj (by show ¬ j + 19 < 19; omega)
  | k + 6, _, h => by simp [vwCl] at h
/-! The machine's rules of the heap. -/
theorem oW.one {G : oG} {H : oH} {hp : Heap} {r : Nat} {c : oC} (h : oW G H hp) (he : H.2 r = some c) : va_P (oD G) vwCl [(oAd G r, oE G c)] hp := by
  intro k q hk
  cases k with
  | zero =>
    have hk : some (oAd G r, oE G c) = some q := hk
    cases hk
    exact (h.2 r c he).2
  | succ k => simp at hk
theorem oW.own {G : oG} {H : oH} {hp : Heap} {r : Nat} {c : oC} (h : oW G H hp) (he : H.2 r = some c) : oA G (oAd G r) := by
  obtain ⟨⟨k, rfl, -⟩, -⟩ := h.2 r c he
  exact Nat.le_add_right _ _
theorem oW.up {G : oG} {H : oH} {hp hp1 : Heap} {r : Nat} {c0 c : oC} (h : oW G H hp) (he : H.2 r = some c0) (hat : va_at (oD G) vwCl (oAd G r, oE G c) hp1) (z : hp1.size = hp.size) (oq : ∀ q : Nat, q ≠ oAd G r → hp1[q]? = hp[q]?) : oW G (oUp H r c) hp1 := by
  refine ⟨z.trans h.1, fun r' c' hr' => ?_⟩
  by_cases hrr : r' = r
  · subst hrr
    have hc : c = c' := by
      have h1 : some c = some c' := by rw [← hr']; simp [oUp, va_up]
      exact Option.some.inj h1
    subst hc
    exact ⟨(h.2 r' c0 he).1, hat⟩
  · have h2 : H.2 r' = some c' := by
      rw [← hr']
      simp [oUp, va_up, hrr]
    obtain ⟨⟨k, e1, e2⟩, h3⟩ := h.2 r' c' h2
    obtain ⟨⟨k0, e3, -⟩, -⟩ := h.2 r c0 he
    refine ⟨⟨k, e1, e2⟩, h3.kept (oq _ ?_)⟩
    subst e1; subst e3
    show oB G + k ≠ oB G + k0
    omega
theorem oW.new {G : oG} {H : oH} {hp hp1 : Heap} {c : oC} (h : oW G H hp) (hat : va_at (oD G) vwCl (oB G + H.1, oE G c) hp1) (z : hp1.size = hp.size + 1) (oq : ∀ q : Nat, q < hp.size → hp1[q]? = hp[q]?) : oW G (oNw H c) hp1 := by
  refine ⟨by rw [z, h.1]; rfl, fun r' c' hr' => ?_⟩
  by_cases hrr : r' = H.1 + 1
  · subst hrr
    have hc : c = c' := by
      have h1 : some c = some c' := by rw [← hr']; simp [oNw, va_up]
      exact Option.some.inj h1
    subst hc
    exact ⟨⟨H.1, rfl, Nat.lt_succ_self _⟩, hat⟩
  · have h2 : H.2 r' = some c' := by
      rw [← hr']
      simp [oNw, va_up, hrr]
    obtain ⟨⟨k, e1, e2⟩, h3⟩ := h.2 r' c' h2
    exact ⟨⟨k, e1, Nat.lt_succ_of_lt e2⟩, h3.kept (oq _ h3.lt)⟩
theorem oTy_at {G : oG} (h : (oT G).map (fun q => q.2) = oTyL) {t : Nat} {ty : FieldType} (ht : oTyL[t]? = some ty) : (oT G)[t]? = some (((oT G).getD t (0, .int)).1, ty) := by
  rw [← h, List.getElem?_map] at ht
  cases e : (oT G)[t]? with
  | none => rw [e] at ht; cases ht
  | some q =>
    rw [e] at ht
    have h2 : q.2 = ty := Option.some.inj ht
    rw [List.getD_eq_getElem?_getD, e, ← h2]
    rfl
theorem oS_put {G : oG} {H : oH} {hp hp1 H0 : Heap} {locs : List Loc} {r k : Nat} {c0 : oC} (hS : va_S (oA G) H0 hp locs) (h : oW G H hp) (he : H.2 r = some c0) (z : hp1.size = hp.size) (oq : ∀ q : Nat, q ≠ oAd G r → hp1[q]? = hp[q]?) : va_S (oA G) H0 hp1 (locs ++ [⟨oAd G r, k⟩]) := hS.put z oq (h.own he)
/-- a field's place, by its own class's link or by a nest mate's -/
def oF (own : String) (idx ci k : Nat) : Prop := ∃ q : vw_C, vwCl[ci]? = some q ∧ k < q.2.2 ∧ (Cond.fieldLink own idx (q.2.1 k).1 (q.2.1 k).2.1 (q.2.1 k).2.2.1 ∈ oAll ∨ ∃ host : String, (own, idx, (q.2.1 k).1, (q.2.1 k).2.1, (q.2.1 k).2.2.1, host) ∈ oNwF)
def oFs (own : String) (idx ci k : Nat) (ty : FieldType) : Prop := oF own idx ci k ∧ ∀ q : vw_C, vwCl[ci]? = some q → (q.2.1 k).2.2.2 = false ∧ parseFieldDescriptor (q.2.1 k).2.2.1 = some ty
def oFf (own : String) (idx ci k : Nat) (ty : FieldType) : Prop := ∃ q : vw_C, vwCl[ci]? = some q ∧ k < q.2.2 ∧ Cond.fieldLink own idx (q.2.1 k).1 (q.2.1 k).2.1 (q.2.1 k).2.2.1 ∈ oAll ∧ (q.2.1 k).2.2.2 = true ∧ (q.2.1 k).1 = own ∧ parseFieldDescriptor (q.2.1 k).2.2.1 = some ty
def oFit (ty : FieldType) (v : oU) : Prop := ∀ G : oG, narrow ty (oV G v) = oV G v ∧ fits ty (oV G v) = true
theorem oFit_i (x : Int32) : oFit .int (.inl x) := fun _ => ⟨rfl, rfl⟩
theorem oFit_o (C : String) (r : Nat) : oFit (.object C) (.inr (some r)) := fun _ => ⟨rfl, rfl⟩
theorem oFit_a (t : FieldType) (r : Nat) : oFit (.array t) (.inr (some r)) := fun _ => ⟨rfl, rfl⟩
section MB
variable {G : oG} {M : oM} {pc : Nat} {lv : oL} {st : List oU} {H : oH} {b : Nat × Nat} {Q : oP}
theorem o_get {ci idx k r : Nat} {fs : List oU} {v : oU} (hd : decode (oCd M) pc = .ok (.getfield idx, 3)) (hf : oF M.1.cls idx ci k) (he : H.2 r = some (.inr (.inr (ci, fs)))) (hv : fs[k]? = some v) (kk : Ok G M (pc + 3) lv (v :: st) H b Q) : Ok G M pc lv (.inr (some r) :: st) H b Q := by
  intro p e R s mid args below meth c hp locs cells slots mc ms ls X Y
  obtain ⟨hx, hb, hml, hrt, hlk, hnm, hown, hts, hK, hNs, hTy, hX, hsb, hbs, hFr, hWd⟩ := id X
  obtain ⟨hl, hW, hS, hc1, hc2, hc3, hc4⟩ := id Y
  obtain ⟨⟨C, T, N⟩, hc, hk, hln⟩ := hf
  have hv' : (fs.map (oV G))[k]? = some (oV G v) := by rw [List.getElem?_map, hv]; rfl
  rcases hln with hln | ⟨host, hln⟩
  · exact va_get hx hb hts (oIn ci _ hc) hown hK (hW.one he) 0 rfl hc k hk (hts _ hln) (fun _ h => h) hv' hd (kk p e R s mid args below meth c hp locs cells slots mc ms ls X Y)
  · exact va_getN hx hb hts (oIn ci _ hc) hown hK (hW.one he) 0 rfl hc k hk (va_Nw.use rfl (hNs.1 _ hln)) (fun _ h => h) hv' hd (kk p e R s mid args below meth c hp locs cells slots mc ms ls X Y)
theorem o_put {ci idx k r : Nat} {ty : FieldType} {fs : List oU} {v : oU} (hd : decode (oCd M) pc = .ok (.putfield idx, 3)) (hf : oFs M.1.cls idx ci k ty) (hfit : oFit ty v) (he : H.2 r = some (.inr (.inr (ci, fs)))) (hln : k < fs.length) (kk : Ok G M (pc + 3) lv st (oUp H r (.inr (.inr (ci, fs.set k v)))) b Q) : Ok G M pc lv (v :: .inr (some r) :: st) H b Q := by
  intro p e R s mid args below meth c hp locs cells slots mc ms ls X Y
  obtain ⟨hx, hb, hml, hrt, hlk, hnm, hown, hts, hK, hNs, hTy, hX, hsb, hbs, hFr, hWd⟩ := id X
  obtain ⟨hl, hW, hS, hc1, hc2, hc3, hc4⟩ := id Y
  obtain ⟨⟨⟨C, T, N⟩, hc, hk, hlk2⟩, hff⟩ := hf
  obtain ⟨hfin, hpd⟩ := hff _ hc
  obtain ⟨ty0, hty, hnm2⟩ := oTyp ci _ hc
  have hin := oIn ci _ hc
  have hap := va_apart (own := M.1.cls) hts hin ty0 hty hnm2 hK hc
  obtain ⟨r9, h1, cell, q1, q2, q3, q4⟩ := hW.one he 0 _ rfl
  have hr9 : r9 = (C, T, N) := Option.some.inj (h1.symm.trans hc)
  subst hr9
  obtain ⟨hSl, hfc, kC, hkC, hkind⟩ := hK.1 ci _ hc
  obtain ⟨cf, kf, fi, f, hi, hsl⟩ := hSl k hk
  have hlay := hts _ (hin _ (u_in_lay hk))
  unfold u_lay at hlay
  rw [if_neg (by rw [hfin]; decide)] at hlay
  have hst := (u_facts hfc hkC (u_lays hts hin hk) hi).1
  have h6 := u_store hfc hkC hkind hlay hi hpd (hfit G).1 (hfit G).2
  have hlen : k < (fs.map (oV G)).length := by rw [List.length_map]; exact hln
  have done : ∀ H' : Heap, H'[oAd G r]? = some (cell.setSlot f.slot (oV G v)) → H'.size = hp.size → (∀ q : Nat, q ≠ oAd G r → H'[q]? = hp[q]?) → W p (oLa G) e R s mid args below meth c H' (locs ++ [⟨oAd G r, f.slot⟩]) cells slots (MQ below (oQ G Q) args s mc ms (oA G)) (F0 mid (pc + 3) ls (st.map (oV G))) := by
    intro H' e1 e2 e3
    refine kk p e R s mid args below meth c H' _ cells slots mc ms ls X ⟨hl, hW.up he ?_ e2 e3, oS_put hS hW he e2 e3, hc1, hc2, hc3, hc4⟩
    rw [hsl] at e1
    refine ⟨_, hc, t_OB.to (V := updV (vp_V (fs.map (oV G))) k (oV G v)) ⟨_, e1, q2, q3, t_set q4 hap hk (oV G v)⟩ (fun j _ => ?_)⟩
    rw [vp_updV_set hlen, List.map_set]
  rcases hlk2 with hlk2 | ⟨host, hlk2⟩
  · exact W.putK hx hb (f := f) ⟨hown, hts _ hlk2, ⟨_, _, _, hi⟩, hst⟩ (by rw [q2]; exact h6) q1 q3 (by rw [hsl]; exact k2_hasslot (q4 k hk)) rfl rfl hd done
  · exact va_WputK hx hb (f := f) hown (va_Nw.use rfl (hNs.1 _ hlk2)) hi hst (by rw [q2]; exact h6) q1 q3 (by rw [hsl]; exact k2_hasslot (q4 k hk)) rfl rfl hd done
theorem o_putF {ci idx k r : Nat} {ty : FieldType} {fs : List oU} {v : oU} (hd : decode (oCd M) pc = .ok (.putfield idx, 3)) (hf : oFf M.1.cls idx ci k ty) (hini : M.1.name = "<init>") (hfit : oFit ty v) (he : H.2 r = some (.inr (.inr (ci, fs)))) (hln : k < fs.length) (kk : Ok G M (pc + 3) lv st (oUp H r (.inr (.inr (ci, fs.set k v)))) b Q) : Ok G M pc lv (v :: .inr (some r) :: st) H b Q := by
  intro p e R s mid args below meth c hp locs cells slots mc ms ls X Y
  obtain ⟨hx, hb, hml, hrt, hlk, hnm, hown, hts, hK, hNs, hTy, hX, hsb, hbs, hFr, hWd⟩ := id X
  obtain ⟨hl, hW, hS, hc1, hc2, hc3, hc4⟩ := id Y
  obtain ⟨⟨C, T, N⟩, hc, hk, hlk2, hfin, hdecl, hpd⟩ := hf
  obtain ⟨ty0, hty, hnm2⟩ := oTyp ci _ hc
  have hin := oIn ci _ hc
  have hap := va_apart (own := M.1.cls) hts hin ty0 hty hnm2 hK hc
  obtain ⟨r9, h1, cell, q1, q2, q3, q4⟩ := hW.one he 0 _ rfl
  have hr9 : r9 = (C, T, N) := Option.some.inj (h1.symm.trans hc)
  subst hr9
  obtain ⟨hSl, hfc, kC, hkC, hkind⟩ := hK.1 ci _ hc
  obtain ⟨cf, kf, fi, f, hi, hsl⟩ := hSl k hk
  have hlay := hts _ (hin _ (u_in_lay hk))
  unfold u_lay at hlay
  rw [if_pos hfin] at hlay
  have hst := (u_facts hfc hkC (u_lays hts hin hk) hi).1
  have hcf : mid.cls = cf := by
    obtain ⟨_, _, c', _, _, _, -, -, hf', -, -, -, hown2, -⟩ := Cond.laysFinal_spec hlay
    have e1 : c' = cf := by have := hi.symm.trans hf'; simp at this; exact this.1.symm
    have hdecl2 : (T k).1 = M.1.cls := hdecl
    rw [hdecl2] at hown2
    rw [← e1]; exact Option.some.inj (hown.symm.trans hown2)
  have h6 := u_fits hfc hkC hkind (Or.inr hlay) hi hpd (hfit G).1 (hfit G).2
  have hlen : k < (fs.map (oV G)).length := by rw [List.length_map]; exact hln
  refine W.putFinK hx hb hown (hts _ hlk2) hi hst hcf (hnm.trans hini) (by rw [q2]; exact h6) q1 q3 (by rw [hsl]; exact k2_hasslot (q4 k hk)) rfl rfl hd fun H' e1 e2 e3 => ?_
  refine kk p e R s mid args below meth c H' _ cells slots mc ms ls X ⟨hl, hW.up he ?_ e2 e3, oS_put hS hW he e2 e3, hc1, hc2, hc3, hc4⟩
  rw [hsl] at e1
  refine ⟨_, hc, t_OB.to (V := updV (vp_V (fs.map (oV G))) k (oV G v)) ⟨_, e1, q2, q3, t_set q4 hap hk (oV G v)⟩ (fun j _ => ?_)⟩
  rw [vp_updV_set hlen, List.map_set]
theorem o_iald {t n r : Nat} {f : Nat → Int32} {i : Int32} (j : Nat) (hd : decode (oCd M) pc = .ok (.iaload, 1)) (he : H.2 r = some (.inl (t, n, f))) (ht : oTyL[t]? = some .int) (hN : Nat.blt n 2147483648 = true) (hi : i = nI j) (hj : j < n) (kk : Ok G M (pc + 1) lv (.inl (f j) :: st) H b Q) : Ok G M pc lv (.inl i :: .inr (some r) :: st) H b Q := by
  intro p e R s mid args below meth c hp locs cells slots mc ms ls X Y
  obtain ⟨hx, hb, hml, hrt, hlk, hnm, hown, hts, hK, hNs, hTy, hX, hsb, hbs, hFr, hWd⟩ := id X
  obtain ⟨hl, hW, hS, hc1, hc2, hc3, hc4⟩ := id Y
  have hN2 : n < 2147483648 := Nat.le_of_ble_eq_true hN
  have e9 : (nI j).toNatClampNeg = j := nI_clamp (Nat.lt_trans hj hN2)
  subst hi
  refine va_iald hx hb hK (hW.one he) 0 t rfl (oTy_at hTy ht) (vp_in_nI hj hN2) hd ?_
  rw [e9]
  exact kk p e R s mid args below meth c hp locs cells slots mc ms ls X Y
theorem o_zald {t n r : Nat} {f : Nat → Int32} {i : Int32} (j : Nat) (hd : decode (oCd M) pc = .ok (.baload, 1)) (he : H.2 r = some (.inl (t, n, f))) (ht : oTyL[t]? = some .boolean) (hN : Nat.blt n 2147483648 = true) (hi : i = nI j) (hj : j < n) (kk : Ok G M (pc + 1) lv (.inl (f j) :: st) H b Q) : Ok G M pc lv (.inl i :: .inr (some r) :: st) H b Q := by
  intro p e R s mid args below meth c hp locs cells slots mc ms ls X Y
  obtain ⟨hx, hb, hml, hrt, hlk, hnm, hown, hts, hK, hNs, hTy, hX, hsb, hbs, hFr, hWd⟩ := id X
  obtain ⟨hl, hW, hS, hc1, hc2, hc3, hc4⟩ := id Y
  have hN2 : n < 2147483648 := Nat.le_of_ble_eq_true hN
  have e9 : (nI j).toNatClampNeg = j := nI_clamp (Nat.lt_trans hj hN2)
  subst hi
  refine va_zald hx hb hK (hW.one he) 0 t rfl (oTy_at hTy ht) (vp_in_nI hj hN2) hd ?_
  rw [e9]
  exact kk p e R s mid args below meth c hp locs cells slots mc ms ls X Y
theorem o_iast {t n r : Nat} {f : Nat → Int32} {i x : Int32} (j : Nat) (hd : decode (oCd M) pc = .ok (.iastore, 1)) (he : H.2 r = some (.inl (t, n, f))) (ht : oTyL[t]? = some .int) (hN : Nat.blt n 2147483648 = true) (hi : i = nI j) (hj : j < n) (kk : Ok G M (pc + 1) lv st (oUp H r (.inl (t, n, upd f j (x)))) b Q) : Ok G M pc lv (.inl x :: .inl i :: .inr (some r) :: st) H b Q := by
  intro p e R s mid args below meth c hp locs cells slots mc ms ls X Y
  obtain ⟨hx, hb, hml, hrt, hlk, hnm, hown, hts, hK, hNs, hTy, hX, hsb, hbs, hFr, hWd⟩ := id X
  obtain ⟨hl, hW, hS, hc1, hc2, hc3, hc4⟩ := id Y
  have hN2 : n < 2147483648 := Nat.le_of_ble_eq_true hN
  have e9 : (nI j).toNatClampNeg = j := nI_clamp (Nat.lt_trans hj hN2)
  have hin : vp_in (nI j) n := vp_in_nI hj hN2
  subst hi
  refine W.iast hx hb (hW.one he 0 _ rfl) ((hK.2 t _ (oTy_at hTy ht)).1 n (fun j => .int (f j))) (fun q => by cases q) (by show ¬ (nI j < 0 ∨ (arrV _ _ _).slots.size ≤ _); rw [arrV_size]; exact hin) rfl rfl hd fun H1 e1 z oq => ?_
  refine kk p e R s mid args below meth c H1 _ cells slots mc ms ls X ⟨hl, hW.up he ?_ z oq, oS_put hS hW he z oq, hc1, hc2, hc3, hc4⟩
  show H1[oAd G r]? = some (vp_cell _ _)
  rw [e1]
  show some ((vp_cell _ _).setSlot _ _) = _
  rw [vp_cell_i, vp_cell_i, arrV_store, e9]
  congr 2
  funext q
  by_cases hq : q = j
  · subst hq
    simp [updV, upd, vp_nar]
    try rfl
  · simp [updV, upd, hq]
theorem o_zast {t n r : Nat} {f : Nat → Int32} {i x : Int32} (j : Nat) (hd : decode (oCd M) pc = .ok (.bastore, 1)) (he : H.2 r = some (.inl (t, n, f))) (ht : oTyL[t]? = some .boolean) (hN : Nat.blt n 2147483648 = true) (hi : i = nI j) (hj : j < n) (kk : Ok G M (pc + 1) lv st (oUp H r (.inl (t, n, upd f j (vp_nar .boolean x)))) b Q) : Ok G M pc lv (.inl x :: .inl i :: .inr (some r) :: st) H b Q := by
  intro p e R s mid args below meth c hp locs cells slots mc ms ls X Y
  obtain ⟨hx, hb, hml, hrt, hlk, hnm, hown, hts, hK, hNs, hTy, hX, hsb, hbs, hFr, hWd⟩ := id X
  obtain ⟨hl, hW, hS, hc1, hc2, hc3, hc4⟩ := id Y
  have hN2 : n < 2147483648 := Nat.le_of_ble_eq_true hN
  have e9 : (nI j).toNatClampNeg = j := nI_clamp (Nat.lt_trans hj hN2)
  have hin : vp_in (nI j) n := vp_in_nI hj hN2
  subst hi
  refine W.zast hx hb (hW.one he 0 _ rfl) ((hK.2 t _ (oTy_at hTy ht)).1 n (fun j => .int (f j))) (fun q => by cases q) (by show ¬ (nI j < 0 ∨ (arrV _ _ _).slots.size ≤ _); rw [arrV_size]; exact hin) rfl rfl hd fun H1 e1 z oq => ?_
  refine kk p e R s mid args below meth c H1 _ cells slots mc ms ls X ⟨hl, hW.up he ?_ z oq, oS_put hS hW he z oq, hc1, hc2, hc3, hc4⟩
  show H1[oAd G r]? = some (vp_cell _ _)
  rw [e1]
  show some ((vp_cell _ _).setSlot _ _) = _
  rw [vp_cell_i, vp_cell_i, arrV_store, e9]
  congr 2
  funext q
  by_cases hq : q = j
  · subst hq
    simp [updV, upd, vp_nar]
    try rfl
  · simp [updV, upd, hq]
theorem o_aald {t n r v : Nat} {f : Nat → Option Nat} {i : Int32} {C : String} (j : Nat) (hd : decode (oCd M) pc = .ok (.aaload, 1)) (he : H.2 r = some (.inr (.inl (t, n, f)))) (ht : oTyL[t]? = some (.object C)) (hN : Nat.blt n 2147483648 = true) (hi : i = nI j) (hj : j < n) (hv : f j = some v) (kk : Ok G M (pc + 1) lv (.inr (some v) :: st) H b Q) : Ok G M pc lv (.inl i :: .inr (some r) :: st) H b Q := by
  intro p e R s mid args below meth c hp locs cells slots mc ms ls X Y
  obtain ⟨hx, hb, hml, hrt, hlk, hnm, hown, hts, hK, hNs, hTy, hX, hsb, hbs, hFr, hWd⟩ := id X
  obtain ⟨hl, hW, hS, hc1, hc2, hc3, hc4⟩ := id Y
  have hN2 : n < 2147483648 := Nat.le_of_ble_eq_true hN
  have e9 : (nI j).toNatClampNeg = j := nI_clamp (Nat.lt_trans hj hN2)
  subst hi
  refine va_aldq hx hb hK (hW.one he) 0 t rfl (oTy_at hTy ht) (vp_in_nI hj hN2) hd ?_
  rw [e9]
  show W p (oLa G) e R s mid args below meth c hp locs cells slots (MQ below (oQ G Q) args s mc ms (oA G)) (F0 mid (pc + 1) ls (va_rf (Option.map (oAd G) (f j)) :: List.map (oV G) st))
  rw [hv]
  exact kk p e R s mid args below meth c hp locs cells slots mc ms ls X Y
theorem o_alen {t n r : Nat} {f : Nat → Int32} {ty : FieldType} (hd : decode (oCd M) pc = .ok (.arraylength, 1)) (he : H.2 r = some (.inl (t, n, f))) (ht : oTyL[t]? = some ty) (kk : Ok G M (pc + 1) lv (.inl (nI n) :: st) H b Q) : Ok G M pc lv (.inr (some r) :: st) H b Q := by
  intro p e R s mid args below meth c hp locs cells slots mc ms ls X Y
  obtain ⟨hx, hb, hml, hrt, hlk, hnm, hown, hts, hK, hNs, hTy, hX, hsb, hbs, hFr, hWd⟩ := id X
  obtain ⟨hl, hW, hS, hc1, hc2, hc3, hc4⟩ := id Y
  exact va_alen hx hb hK (hW.one he) 0 t rfl (oTy_at hTy ht) (v := nI n) rfl hd (kk p e R s mid args below meth c hp locs cells slots mc ms ls X Y)
theorem o_sld {i : Int32} (j : Nat) (hd : decode (oCd M) pc = .ok (.iaload, 1)) (hN : oN G < 2147483648) (hi : i = nI j) (hj : j < oN G) (kk : Ok G M (pc + 1) lv (.inl (oX G j) :: st) H b Q) : Ok G M pc lv (.inl i :: .inr (some 0) :: st) H b Q := by
  intro p e R s mid args below meth c hp locs cells slots mc ms ls X Y
  obtain ⟨hx, hb, hml, hrt, hlk, hnm, hown, hts, hK, hNs, hTy, hX, hsb, hbs, hFr, hWd⟩ := id X
  obtain ⟨hl, hW, hS, hc1, hc2, hc3, hc4⟩ := id Y
  have e9 : (nI j).toNatClampNeg = j := nI_clamp (Nat.lt_trans hj hN)
  subst hi
  refine va_sld hx hb hX (Nat.lt_of_lt_of_le hsb hbs) (fun h => Nat.not_le.mpr hsb h) hS (vp_in_nI hj hN) hd ?_
  rw [e9]
  exact kk p e R s mid args below meth c hp locs cells slots mc ms ls X Y
theorem o_slen (hd : decode (oCd M) pc = .ok (.arraylength, 1)) (kk : Ok G M (pc + 1) lv (.inl (nI (oN G)) :: st) H b Q) : Ok G M pc lv (.inr (some 0) :: st) H b Q := by
  intro p e R s mid args below meth c hp locs cells slots mc ms ls X Y
  obtain ⟨hx, hb, hml, hrt, hlk, hnm, hown, hts, hK, hNs, hTy, hX, hsb, hbs, hFr, hWd⟩ := id X
  obtain ⟨hl, hW, hS, hc1, hc2, hc3, hc4⟩ := id Y
  exact va_slen hx hb hX (Nat.lt_of_lt_of_le hsb hbs) (fun h => Nat.not_le.mpr hsb h) hS hd (kk p e R s mid args below meth c hp locs cells slots mc ms ls X Y)
theorem o_aast {t n r v ci : Nat} {f : Nat → Option Nat} {fs : List oU} {i : Int32} {q9 : vw_C} (j : Nat) (hd : decode (oCd M) pc = .ok (.aastore, 1)) (he : H.2 r = some (.inr (.inl (t, n, f)))) (hev : H.2 v = some (.inr (.inr (ci, fs)))) (hcl : vwCl[ci]? = some q9) (ht : oTyL[t]? = some (.object q9.1)) (hN : Nat.blt n 2147483648 = true) (hi : i = nI j) (hj : j < n) (kk : Ok G M (pc + 1) lv st (oUp H r (.inr (.inl (t, n, va_up f j (some v))))) b Q) : Ok G M pc lv (.inr (some v) :: .inl i :: .inr (some r) :: st) H b Q := by
  intro p e R s mid args below meth c hp locs cells slots mc ms ls X Y
  obtain ⟨hx, hb, hml, hrt, hlk, hnm, hown, hts, hK, hNs, hTy, hX, hsb, hbs, hFr, hWd⟩ := id X
  obtain ⟨hl, hW, hS, hc1, hc2, hc3, hc4⟩ := id Y
  have hN2 : n < 2147483648 := Nat.le_of_ble_eq_true hN
  have e9 : (nI j).toNatClampNeg = j := nI_clamp (Nat.lt_trans hj hN2)
  have hin : vp_in (nI j) n := vp_in_nI hj hN2
  subst hi
  obtain ⟨r', hr', cellV, g1, g2, g3, -⟩ := hW.one hev 0 _ rfl
  have hcls := (hK.1 ci q9 hcl).2
  obtain ⟨kA, comp, k1, k2, k3, -⟩ := (hK.2 t _ (oTy_at hTy ht)).2
  have hcomp : comp = (oD G).1 ci := Option.some.inj (k3.symm.trans hcls.1)
  subst hcomp
  obtain ⟨kC, hkC, -⟩ := hcls.2
  refine W.aast hx hb (hW.one he 0 _ rfl) (fun q h => by cases h) (fun h => by cases h) k1 k2 rfl hkC ⟨fun q => hin (Or.inl q), by show _ < (arrV _ _ _).slots.size; rw [arrV_size, e9]; exact hj⟩ g1 (fun q h => by rw [g3] at h; cases h) (by rw [g2]; exact hkC) (by rw [g2]; exact va_assign hcls) rfl rfl hd fun H1 e1 z oq => ?_
  refine kk p e R s mid args below meth c H1 _ cells slots mc ms ls X ⟨hl, hW.up he ?_ z oq, oS_put hS hW he z oq, hc1, hc2, hc3, hc4⟩
  show H1[oAd G r]? = some (vp_cell _ _)
  rw [e1]
  show some ((vp_cell _ _).setSlot _ _) = _
  rw [vp_cell_q, vp_cell_q, arrV_store, e9]
  congr 2
  funext q
  by_cases hq : q = j
  · subst hq
    simp [updV, va_up, va_rf]
  · simp [updV, va_up, hq]
theorem o_new {ci idx : Nat} {q9 : vw_C} (b' : Nat × Nat) (hd : decode (oCd M) pc = .ok (.new idx, 3)) (hcl : vwCl[ci]? = some q9) (hw : Cond.classLink M.1.cls idx q9.1 ∈ oAll) (hi : Cond.instantiable q9.1 q9.2.2 ∈ oAll) (hini : Cond.initialized q9.1 ∈ oAll) (hbb : b = (b'.1 + 1, b'.2 + q9.2.2)) (kk : Ok G M (pc + 3) lv (.inr (some (H.1 + 1)) :: st) (oNw H (.inr (.inr (ci, oDef ci)))) b' Q) : Ok G M pc lv st H b Q := by
  intro p e R s mid args below meth c hp locs cells slots mc ms ls X Y
  obtain ⟨hx, hb, hml, hrt, hlk, hnm, hown, hts, hK, hNs, hTy, hX, hsb, hbs, hFr, hWd⟩ := id X
  obtain ⟨hl, hW, hS, hc1, hc2, hc3, hc4⟩ := id Y
  subst hbb
  obtain ⟨C, T, N⟩ := q9
  have hc1 : cells + (b'.1 + 1) = mc := hc1
  have hc2 : slots + (b'.2 + N) = ms := hc2
  have hKn := hK.1 ci _ hcl
  obtain ⟨ty0, hty, hdf⟩ := oDefs G ci _ hcl
  refine W.newcK hx hb hown (hts _ hw) (hts _ hi) (hts _ hini) rfl hd (by omega) (by show slots + N ≤ R.slots; omega) hKn.2.1 hW.1 fun H1 kC hkC e1 z1 o1 => ?_
  refine kk p e R s mid args below meth c H1 _ (cells + 1) (slots + N) mc ms ls X ⟨hl, hW.new ?_ (by rw [z1, hW.1]) (fun q hq => o1 q (by rw [← hW.1]; exact hq)), ?_, by omega, by omega, hc3, hc4⟩
  · exact ⟨_, hcl, (u_born ty0 hts (oIn ci _ hcl) hKn hkC e1 hty).to hdf⟩
  · have hz := hS.1
    rw [hW.1] at hz
    exact ⟨by rw [z1]; omega, fun x h1 h2 => (o1 x (by omega)).trans (hS.2.1 x h1 h2), hS.2.2⟩
theorem o_newi {t : Nat} {i : Int32} (n : Nat) (b' : Nat × Nat) (hd : decode (oCd M) pc = .ok (.newarray .int, 2)) (ht : oTyL[t]? = some .int) (hw : Cond.arrayClass .int ∈ oAll) (hi : i = nI n) (hN : Nat.ble n 100000 = true) (hbb : b = (b'.1 + 1, b'.2 + n)) (kk : Ok G M (pc + 2) lv (.inr (some (H.1 + 1)) :: st) (oNw H (.inl (t, n, fun _ => 0))) b' Q) : Ok G M pc lv (.inl i :: st) H b Q := by
  intro p e R s mid args below meth c hp locs cells slots mc ms ls X Y
  obtain ⟨hx, hb, hml, hrt, hlk, hnm, hown, hts, hK, hNs, hTy, hX, hsb, hbs, hFr, hWd⟩ := id X
  obtain ⟨hl, hW, hS, hc1, hc2, hc3, hc4⟩ := id Y
  subst hbb
  have hc1 : cells + (b'.1 + 1) = mc := hc1
  have hc2 : slots + (b'.2 + n) = ms := hc2
  have hN2 : n ≤ 100000 := Nat.le_of_ble_eq_true hN
  have e9 : (nI n).toNatClampNeg = n := nI_clamp (by omega)
  subst hi
  refine va_newaK (atype := .int) hx hb (hts _ hw) rfl hd rfl (nI_pos (by omega)) e9 (by simp only [newarray.typeOf, componentBytes]; omega) (by omega) (by omega) hW.1 fun H1 cA e1 z1 o1 hAr hNm => ?_
  have hcA : ((oT G).getD t (0, .int)).1 = cA := Option.some.inj (((hK.2 t _ (oTy_at hTy ht)).2 : s.vm.findClass _ = some _).symm.trans hNm)
  refine kk p e R s mid args below meth c H1 _ (cells + 1) (slots + n) mc ms ls X ⟨hl, hW.new ?_ (by rw [z1, hW.1]) (fun q hq => o1 q (by rw [← hW.1]; exact hq)), ?_, by omega, by omega, hc3, hc4⟩
  · show H1[_]? = some (vp_cell _ _)
    rw [hcA]
    exact e1
  · have hz := hS.1
    rw [hW.1] at hz
    exact ⟨by rw [z1]; omega, fun x h1 h2 => (o1 x (by omega)).trans (hS.2.1 x h1 h2), hS.2.2⟩
theorem o_newz {t : Nat} {i : Int32} (n : Nat) (b' : Nat × Nat) (hd : decode (oCd M) pc = .ok (.newarray .boolean, 2)) (ht : oTyL[t]? = some .boolean) (hw : Cond.arrayClass .boolean ∈ oAll) (hi : i = nI n) (hN : Nat.ble n 100000 = true) (hbb : b = (b'.1 + 1, b'.2 + n)) (kk : Ok G M (pc + 2) lv (.inr (some (H.1 + 1)) :: st) (oNw H (.inl (t, n, fun _ => 0))) b' Q) : Ok G M pc lv (.inl i :: st) H b Q := by
  intro p e R s mid args below meth c hp locs cells slots mc ms ls X Y
  obtain ⟨hx, hb, hml, hrt, hlk, hnm, hown, hts, hK, hNs, hTy, hX, hsb, hbs, hFr, hWd⟩ := id X
  obtain ⟨hl, hW, hS, hc1, hc2, hc3, hc4⟩ := id Y
  subst hbb
  have hc1 : cells + (b'.1 + 1) = mc := hc1
  have hc2 : slots + (b'.2 + n) = ms := hc2
  have hN2 : n ≤ 100000 := Nat.le_of_ble_eq_true hN
  have e9 : (nI n).toNatClampNeg = n := nI_clamp (by omega)
  subst hi
  refine va_newaK (atype := .boolean) hx hb (hts _ hw) rfl hd rfl (nI_pos (by omega)) e9 (by simp only [newarray.typeOf, componentBytes]; omega) (by omega) (by omega) hW.1 fun H1 cA e1 z1 o1 hAr hNm => ?_
  have hcA : ((oT G).getD t (0, .int)).1 = cA := Option.some.inj (((hK.2 t _ (oTy_at hTy ht)).2 : s.vm.findClass _ = some _).symm.trans hNm)
  refine kk p e R s mid args below meth c H1 _ (cells + 1) (slots + n) mc ms ls X ⟨hl, hW.new ?_ (by rw [z1, hW.1]) (fun q hq => o1 q (by rw [← hW.1]; exact hq)), ?_, by omega, by omega, hc3, hc4⟩
  · show H1[_]? = some (vp_cell _ _)
    rw [hcA]
    exact e1
  · have hz := hS.1
    rw [hW.1] at hz
    exact ⟨by rw [z1]; omega, fun x h1 h2 => (o1 x (by omega)).trans (hS.2.1 x h1 h2), hS.2.2⟩
theorem o_anew {t idx : Nat} {i : Int32} {C : String} (n : Nat) (b' : Nat × Nat) (hd : decode (oCd M) pc = .ok (.anewarray idx, 3)) (ht : oTyL[t]? = some (.object C)) (hw : Cond.classLink M.1.cls idx C ∈ oAll) (hao : C ∈ oAO) (hi : i = nI n) (hN : Nat.ble n 100000 = true) (hbb : b = (b'.1 + 1, b'.2 + n)) (kk : Ok G M (pc + 3) lv (.inr (some (H.1 + 1)) :: st) (oNw H (.inr (.inl (t, n, fun _ => none)))) b' Q) : Ok G M pc lv (.inl i :: st) H b Q := by
  intro p e R s mid args below meth c hp locs cells slots mc ms ls X Y
  obtain ⟨hx, hb, hml, hrt, hlk, hnm, hown, hts, hK, hNs, hTy, hX, hsb, hbs, hFr, hWd⟩ := id X
  obtain ⟨hl, hW, hS, hc1, hc2, hc3, hc4⟩ := id Y
  subst hbb
  have hc1 : cells + (b'.1 + 1) = mc := hc1
  have hc2 : slots + (b'.2 + n) = ms := hc2
  have hN2 : n ≤ 100000 := Nat.le_of_ble_eq_true hN
  have e9 : (nI n).toNatClampNeg = n := nI_clamp (by omega)
  subst hi
  refine W.anew hx hb hown (hts _ hw) (va_AO.use (hNs.2.2 _ hao)) rfl hd rfl (nI_pos (by omega)) (by rw [e9]; omega) (by omega) (by rw [e9]; omega) fun cA kA comp f1 f2 f3 f4 => ?_
  rw [e9]
  obtain ⟨kA', comp', k1, k2, k3, k4⟩ := (hK.2 t _ (oTy_at hTy ht)).2
  have hcA : ((oT G).getD t (0, .int)).1 = cA := Option.some.inj (k4.symm.trans f1)
  have ha : oB G + H.1 = hp.size := hW.1.symm
  have hz := hS.1
  refine W.eq (g2 := F0 mid (pc + 3) ls ((.inr (some (H.1 + 1)) :: st).map (oV G))) (by show F0 mid (pc + 3) ls (.ref hp.size :: st.map (oV G)) = F0 mid (pc + 3) ls (.ref (oB G + H.1) :: st.map (oV G)); rw [ha]) ?_
  refine kk p e R s mid args below meth c _ _ (cells + 1) (slots + n) mc ms ls X ⟨hl, hW.new ?_ (by simp) (fun q hq => by rw [Array.getElem?_push, if_neg (Nat.ne_of_lt hq)]), ?_, by omega, by omega, hc3, hc4⟩
  · show (hp.push _)[_]? = some (vp_cell _ _)
    rw [hcA, ha, Array.getElem?_push_size, vp_cell_q, arrV_new]
    rfl
  · exact ⟨by simp; omega, fun x h1 h2 => by rw [Array.getElem?_push, if_neg (Nat.ne_of_lt (Nat.lt_of_lt_of_le h1 hz))]; exact hS.2.1 x h1 h2, hS.2.2⟩
theorem o_objInit {idx r : Nat} (hd : decode (oCd M) pc = .ok (.invokespecial idx, 3)) (hw : Cond.methodLink M.1.cls idx Lib.objectInit ∈ oAll) (hw2 : Cond.instanceMethod Lib.objectInit ∈ oAll) (hw3 : Cond.code Lib.objectInit ⟨#[0xb1]⟩ 1 none ∈ oAll) (hf : Nat.ble 1 (oFr M) = true) (hl9 : Nat.ble (st.length + 12) (oWd M) = true) (kk : Ok G M (pc + 3) lv st H b Q) : Ok G M pc lv (.inr (some r) :: st) H b Q := by
  intro p e R s mid args below meth c hp locs cells slots mc ms ls X Y
  obtain ⟨hx, hb, hml, hrt, hlk, hnm, hown, hts, hK, hNs, hTy, hX, hsb, hbs, hFr, hWd⟩ := id X
  obtain ⟨hl, hW, hS, hc1, hc2, hc3, hc4⟩ := id Y
  refine W.objInit hx hb hown (hts _ hw) (hts _ hw2) (hts _ hw3) rfl (by rw [hml]; exact hl.1) rfl hd (Nat.le_trans (Nat.le_of_ble_eq_true hf) hFr) ?_ (kk p e R s mid args below meth c hp locs cells slots mc ms ls X Y)
  have h1 := Nat.le_of_ble_eq_true hl9
  have h2 : ((st.map (oV G)).map fun v => v.category).sum = st.length := oSum G st
  show 2 * 0 + ((st.map (oV G)).map fun v => v.category).sum + 12 ≤ R.locals
  omega
theorem o_mmax {idx : Nat} {x y : Int32} (hd : decode (oCd M) pc = .ok (.invokestatic idx, 3)) (hw : Cond.methodLink M.1.cls idx Lib.Math.max.name ∈ oAll) (hw2 : Cond.static Lib.Math.max.name ∈ oAll) (hw3 : Cond.initialized "java/lang/Math" ∈ oAll) (hw4 : Cond.code Lib.Math.max.name Lib.Math.max.code 2 (some .int) ∈ oAll) (hf : Nat.ble 1 (oFr M) = true) (hl9 : Nat.ble (st.length + 13) (oWd M) = true) (kk : Ok G M (pc + 3) lv (.inl (if x < y then y else x) :: st) H b Q) : Ok G M pc lv (.inl y :: .inl x :: st) H b Q := by
  intro p e R s mid args below meth c hp locs cells slots mc ms ls X Y
  obtain ⟨hx, hb, hml, hrt, hlk, hnm, hown, hts, hK, hNs, hTy, hX, hsb, hbs, hFr, hWd⟩ := id X
  obtain ⟨hl, hW, hS, hc1, hc2, hc3, hc4⟩ := id Y
  refine va_mmax hx hb (by rw [hml]; exact hl.1.symm) hown (hts _ hw) (hts _ hw2) (hts _ hw3) (hts _ hw4) (Nat.le_trans (Nat.le_of_ble_eq_true hf) hFr) ?_ (by omega) (by omega) hd (kk p e R s mid args below meth c hp locs cells slots mc ms ls X Y)
  have h1 := Nat.le_of_ble_eq_true hl9
  have h2 : ((st.map (oV G)).map fun v => v.category).sum = st.length := oSum G st
  omega
theorem o_copy {t n0 n1 r0 r1 idx : Nat} {f g : Nat → Int32} {isp idp i : Int32} (sp dp n : Nat) (hd : decode (oCd M) pc = .ok (.invokestatic idx, 3)) (hw : Cond.methodLink M.1.cls idx arraycopyName ∈ oAll) (hw2 : Cond.native arraycopyName ∈ oAll) (hw3 : Cond.static arraycopyName ∈ oAll) (hw4 : Cond.initialized "java/lang/System" ∈ oAll) (hf : Nat.ble 1 (oFr M) = true) (hl9 : Nat.ble (st.length + (nativeFrameWords "java/lang/System" "arraycopy" 5 + 11)) (oWd M) = true)
    (he0 : H.2 r0 = some (.inl (t, n0, f))) (he1 : H.2 r1 = some (.inl (t, n1, g))) (ht : oTyL[t]? = some .int) (hN0 : Nat.ble n0 100000 = true) (hN1 : Nat.ble n1 100000 = true) (h1 : isp = nI sp) (h2 : idp = nI dp) (h3 : i = nI n) (h4 : sp + n ≤ n0) (h5 : dp + n ≤ n1)
    (kk : Ok G M (pc + 3) lv st (oUp H r1 (.inl (t, n1, va_cpy f g sp dp n))) b Q) : Ok G M pc lv (.inl i :: .inl idp :: .inr (some r1) :: .inl isp :: .inr (some r0) :: st) H b Q := by
  intro p e R s mid args below meth c hp locs cells slots mc ms ls X Y
  obtain ⟨hx, hb, hml, hrt, hlk, hnm, hown, hts, hK, hNs, hTy, hX, hsb, hbs, hFr, hWd⟩ := id X
  obtain ⟨hl, hW, hS, hc1, hc2, hc3, hc4⟩ := id Y
  have hN2 := Nat.le_of_ble_eq_true hN0
  have hN3 := Nat.le_of_ble_eq_true hN1
  subst h1; subst h2; subst h3
  have e1 : (nI sp).toNatClampNeg = sp := nI_clamp (by omega)
  have e2 : (nI dp).toNatClampNeg = dp := nI_clamp (by omega)
  have e3 : (nI n).toNatClampNeg = n := nI_clamp (by omega)
  have i1 : (nI sp).toInt = (sp : Int) := nI_toInt (by omega)
  have i2 : (nI dp).toInt = (dp : Int) := nI_toInt (by omega)
  have i3 : (nI n).toInt = (n : Int) := nI_toInt (by omega)
  intro T hT XX
  have c0 : hp[oAd G r0]? = some (vp_cell ((oT G).getD t (0, .int)).1 (n0, .inl f)) := hW.one he0 0 _ rfl
  have c1 : hp[oAd G r1]? = some (vp_cell ((oT G).getD t (0, .int)).1 (n1, .inl g)) := hW.one he1 0 _ rfl
  obtain ⟨-, k0, hk0, cm0, hkk0⟩ := (hK.2 t _ (oTy_at hTy ht)).1 n0 (fun j => .int (f j))
  have hlr : 2 * 0 + ((st.map (oV G)).map fun v => v.category).sum + (nativeFrameWords "java/lang/System" "arraycopy" 5 + 11) ≤ R.locals := by
    have h8 := Nat.le_of_ble_eq_true hl9
    have h9 : ((st.map (oV G)).map fun v => v.category).sum = st.length := oSum G st
    omega
  obtain ⟨vm', X', step⟩ := XX.arraycopy hx hown (hts _ hw) (hts _ hw2) (hts _ hw3) (hts _ hw4) (src := oAd G r0) (dst := oAd G r1) (cs := vp_cell ((oT G).getD t (0, .int)).1 (n0, .inl f)) (cd := vp_cell ((oT G).getD t (0, .int)).1 (n1, .inl g)) (srcPos := nI sp) (destPos := nI dp) (n := nI n) (by rw [hT]; exact c0) (by rw [hT]; exact c1)
    (fun _ h => by cases h) (fun _ h => by cases h) (fun h => by cases h) (fun h => by cases h) hk0 hk0 hkk0 hkk0 (by simp [refKind]) (nI_pos (by omega)) (nI_pos (by omega)) (nI_pos (by omega))
    (by rw [i1, i3]; show ¬ _ > ((arrV _ n0 (fun j => .int (f j))).slots.size : Int); rw [arrV_size]; omega)
    (by rw [i2, i3]; show ¬ _ > ((arrV _ n1 (fun j => .int (g j))).slots.size : Int); rw [arrV_size]; omega)
    (fun vm₁ _ j hj => by
      rw [e3] at hj
      have e8 : (vp_cell ((oT G).getD t (0, .int)).1 (n0, .inl f)).slots.getD ((nI sp).toNatClampNeg + j) .null = .int (f (sp + j)) := by
        show (arrV _ n0 (fun j => .int (f j))).slots.getD _ _ = _
        rw [e1, Array.getD_eq_getD_getElem?, arrV_read _ _ (by omega)]
        rfl
      rw [e8]
      exact ⟨rfl, trivial⟩)
    (g := F0 mid pc ls (.int (nI n) :: .int (nI dp) :: .ref (oAd G r1) :: .int (nI sp) :: .ref (oAd G r0) :: st.map (oV G))) rfl (by rw [hml]; exact hl.1) (rest := st.map (oV G)) rfl (by rw [hb]; exact hd) (Nat.le_trans (Nat.le_of_ble_eq_true hf) hFr) hlr
  have ecp : copied (vp_cell ((oT G).getD t (0, .int)).1 (n0, .inl f)) (vp_cell ((oT G).getD t (0, .int)).1 (n1, .inl g)) (nI sp) (nI dp) (nI n) = vp_cell ((oT G).getD t (0, .int)).1 (n1, .inl (va_cpy f g sp dp n)) := by
    have h8 := va_copied (fun z => Value.int z) ((oT G).getD t (0, .int)).1 ((oT G).getD t (0, .int)).1 (n1 := n1) (sp := sp) (dp := dp) (n := n) f g h4
    refine Eq.trans ?_ h8
    show Cell.storeRun _ (nI dp).toNatClampNeg (Cell.stretch _ (nI sp).toNatClampNeg (nI n).toNatClampNeg) = _
    rw [e1, e2, e3]
    rfl
  rw [ecp] at X' step
  have hlt : oAd G r1 < hp.size := (Array.getElem?_eq_some_iff.mp c1).1
  have oq : ∀ q : Nat, q ≠ oAd G r1 → (hp.setIfInBounds (oAd G r1) (vp_cell ((oT G).getD t (0, .int)).1 (n1, .inl (va_cpy f g sp dp n))))[q]? = hp[q]? := fun q hq => by simp [Array.getElem?_setIfInBounds, Ne.symm hq]
  obtain ⟨t9, a1, b1⟩ := kk p e R s mid args below meth c (hp.setIfInBounds (oAd G r1) (vp_cell ((oT G).getD t (0, .int)).1 (n1, .inl (va_cpy f g sp dp n)))) _ cells slots mc ms ls X ⟨hl, hW.up he1 (show (hp.setIfInBounds _ _)[_]? = some _ by simp [Array.getElem?_setIfInBounds, hlt]) (by simp) oq, ⟨by simp; exact hS.1, fun q g1 g2 => by
      rw [oq q (fun e => g2 (by rw [e]; exact hW.own he1))]
      exact hS.2.1 q g1 g2, fun q hq => by
      rcases List.mem_append.mp hq with h | h
      · exact hS.2.2 q h
      · obtain ⟨z, -, hz⟩ := List.mem_map.mp h
        rw [← hz]
        exact hW.own he1⟩, hc1, hc2, hc3, hc4⟩ _ (by rw [← hT]; rfl) X'
  exact ⟨t9, step t9 a1, b1⟩
theorem o_iret {v : Int32} {ty : FieldType} (hd : decode (oCd M) pc = .ok (.ireturn, 1)) (hr : oRt M = some ty) (hn : narrow ty (.int v) = .int v) (hq : Q (some (.inl v)) H) : Ok G M pc lv [.inl v] H b Q := by
  intro p e R s mid args below meth c hp locs cells slots mc ms ls X Y
  obtain ⟨hx, hb, hml, hrt, hlk, hnm, hown, hts, hK, hNs, hTy, hX, hsb, hbs, hFr, hWd⟩ := id X
  obtain ⟨hl, hW, hS, hc1, hc2, hc3, hc4⟩ := id Y
  exact W.widen (k := mc) (n := ms) (by omega) (by omega) (W.zret hx hb (hrt.trans hr) hn (fun t ht _ => ⟨⟨some (.inl v), H, rfl, hq, by rw [ht]; exact hW⟩, hS.F ht⟩) hS.2.2 hd hlk)
theorem o_vret (hd : decode (oCd M) pc = .ok (.return_, 1)) (hr : oRt M = none) (hq : Q none H) : Ok G M pc lv [] H b Q := by
  intro p e R s mid args below meth c hp locs cells slots mc ms ls X Y
  obtain ⟨hx, hb, hml, hrt, hlk, hnm, hown, hts, hK, hNs, hTy, hX, hsb, hbs, hFr, hWd⟩ := id X
  obtain ⟨hl, hW, hS, hc1, hc2, hc3, hc4⟩ := id Y
  exact W.widen (k := mc) (n := ms) (by omega) (by omega) (W.vret hx hb (hrt.trans hr) (fun t ht _ => ⟨⟨none, H, rfl, hq, by rw [ht]; exact hW⟩, hS.F ht⟩) hS.2.2 hd hlk)
theorem o_aret {r : Nat} {ty : FieldType} (hd : decode (oCd M) pc = .ok (.areturn, 1)) (hr : oRt M = some ty) (hrt9 : (∃ n, ty = .object n) ∨ ∃ t, ty = .array t) (hq : Q (some (.inr (some r))) H) : Ok G M pc lv [.inr (some r)] H b Q := by
  intro p e R s mid args below meth c hp locs cells slots mc ms ls X Y
  obtain ⟨hx, hb, hml, hrt, hlk, hnm, hown, hts, hK, hNs, hTy, hX, hsb, hbs, hFr, hWd⟩ := id X
  obtain ⟨hl, hW, hS, hc1, hc2, hc3, hc4⟩ := id Y
  exact W.widen (k := mc) (n := ms) (by omega) (by omega) (W.aret hx hb (hrt.trans hr) hrt9 (Or.inr ⟨_, rfl⟩) (fun t ht _ => ⟨⟨some (.inr (some r)), H, rfl, hq, by rw [ht]; exact hW⟩, hS.F ht⟩) hS.2.2 hd hlk)
end MB
end
section
/-! The machine's calls. -/
def oArgs : Nat → List oU → oL
  | _, [] => []
  | i, v :: vs => (i, v) :: oArgs (i + 1) vs
theorem oArgs_eq (G : oG) : ∀ (As : List oU) (i : Nat), (oArgs i As).map (fun q => (q.1, oV G q.2)) = lv_args i (As.map (oV G))
  | [], _ => rfl
  | v :: vs, i => by
    rw [List.map_cons]
    show (i, oV G v) :: (oArgs (i + 1) vs).map (fun q => (q.1, oV G q.2)) = (i, oV G v) :: lv_args (if (oV G v).category = 2 then i + 2 else i + 1) (vs.map (oV G))
    rw [oV_cat, if_neg (by decide), oArgs_eq G vs (i + 1)]
theorem oSl_len (G : oG) : ∀ As : List oU, (lg_sl (As.map (oV G))).length = As.length
  | [] => rfl
  | v :: vs => by
    have h := oSl_len G vs
    simp only [lg_sl, List.map_cons, List.flatMap_cons, List.length_append, List.length_cons] at h ⊢
    rw [h, oV_cat, if_neg (by decide)]
    simp
    omega
def oWs (M : oM) : List Cond := Cond.code M.1 (oCd M) (oMx M) (oRt M) :: oAll
theorem oNs.same {u U : State} (h : u.vm = U.vm) (hN : oNs u) : oNs U := ⟨fun q hq => va_Nw.same rfl h (hN.1 q hq), fun q hq => va_Nw.same rfl h (hN.2.1 q hq), fun C hC => va_AO.moved (by rw [h]; exact Vm.Alike.refl _) (hN.2.2 C hC)⟩
theorem oNs.warm {s U : State} (hW : s.WarmedH U.vm) (hN : oNs s) : oNs U := ⟨fun q hq => va_Nw.warmF hW (hN.1 q hq), fun q hq => va_Nw.warmM hW (hN.2.1 q hq), fun C hC => va_AO.moved hW.alike (hN.2.2 C hC)⟩
theorem oMet {G : oG} {M : oM} {As : List oU} {H : oH} {b : Nat × Nat} {Q : oP} (hpl : plainName M.1.cls = true) (hlen : As.length ≤ oMx M) (hok : Ok G M 0 (oArgs 0 As) [] H b Q) : Met (oLa G) M.1 (oWs M) { frames := oFr M, cells := b.1, slots := b.2, locals := oWd M } (va_Pc (As.map (oV G)) (oSt G H)) (oQ G Q) b.1 b.2 (oA G) := by
  refine Met.ofW (cc := oCd M) (maxL := oMx M) (ret := oRt M) hpl rfl ?_
  intro p e s m args below meth c s₁ B hml hv
  obtain ⟨rfl, hK, hNs, hTy, hX, hsb, hbs, hW⟩ := hv
  have hts := atoms_spec (ws := oWs M) B.pre
  have hl := lv_entry (As.map (oV G)) (n := oMx M) (by rw [oSl_len]; exact hlen)
  rw [← oArgs_eq] at hl
  rw [lg_entry_eq]
  exact hok p e _ s m _ below meth c s.heap [] 0 0 b.1 b.2 _ ⟨B.exec, B.bytes, hml, B.returns, B.notSynchronized, (name_of_methodNamed B.named B.method).1, findClass_of_methodNamed B.named, fun w h => hts w (List.mem_cons_of_mem _ h), hK, hNs, hTy, hX, hsb, hbs, Nat.le_refl _, Nat.le_refl _⟩ ⟨hl, hW, va_S.rf, Nat.zero_add _, Nat.zero_add _, Nat.le_refl _, Nat.le_refl _⟩
theorem oBlind {G : oG} {H : oH} {av : List Value} : FrameBlind (va_Pc av (oSt G H)) := by
  intro a U g mk q
  obtain ⟨q0, qK, qN, qT, qX, h1, h2, qW⟩ := q
  exact ⟨q0, va_K.moved (u := U) (U := U.calling g mk a) (Vm.Alike.refl U.vm) qK, oNs.same (u := U) (U := U.calling g mk a) rfl qN, qT, va_X.moved (u := U) (U := U.calling g mk a) (Vm.Alike.refl U.vm) qX, h1, h2, qW⟩
theorem oPre {G : oG} {M : oM} {lv : oL} {H : oH} {b : Nat × Nat} {p : Program} {R : Room} {s : State} {mid : MethodId} {args : Array Value} {meth : Method} {c : Code} {hp : Heap} {locs : List Loc} {cells slots mc ms : Nat} {ls : Array Slot} (X : oCx G M p R s mid args meth c) (Y : oDy G M lv H b R s hp locs cells slots mc ms ls) {U : State} (hU : U.heap = hp) (hWm : s.WarmedH U.vm) : oSt G H U := by
  obtain ⟨hx, hb, hml, hrt, hlk, hnm, hown, hts, hK, hNs, hTy, hX, hsb, hbs, hFr, hWd⟩ := X
  obtain ⟨hl, hW, hS, hc1, hc2, hc3, hc4⟩ := Y
  subst hU
  refine ⟨va_K.moved hWm.alike hK, oNs.warm hWm hNs, hTy, (hX.kept (hS.2.1 _ (Nat.lt_of_lt_of_le hsb hbs) (fun h => Nat.not_le.mpr hsb h))).moved hWm.alike, hsb, Nat.le_trans hbs hS.1, hW⟩
theorem oCont {G : oG} {p : Program} {e : Env} {R : Room} {s : State} {mid : MethodId} {args a : Array Value} {below : List Frame} {meth : Method} {c : Code} {hp : Heap} {locs : List Loc} {cells slots k n pc : Nat} {ls : Array Slot} {st : List oU} {st0 : List Value} {Qc : oP} {Qf : State → Prop} (hr : va_Run p (oLa G) e R s mid args below meth c hp locs cells slots k n (F0 mid pc ls st0) (st.map (oV G)) (oQ G Qc a) (oA G)) (hS : va_S (oA G) s.heap hp locs)
    (kk : ∀ (r : Option oU) (H' : oH) (H1 : Heap) (locs1 : List Loc), Qc r H' → oW G H' H1 → va_S (oA G) s.heap H1 locs1 → W p (oLa G) e R s mid args below meth c H1 locs1 (cells + k) (slots + n) Qf (F0 mid (pc + 3) ls ((r.toList ++ st).map (oV G)))) : W p (oLa G) e R s mid args below meth c hp locs cells slots Qf (F0 mid pc ls st0) := by
  intro T hT XX
  obtain ⟨v, st₀, t, T', L, h0, X', hL, e1, e2, ⟨⟨r, H', hv, hq, hw⟩, hz, hk⟩, stp⟩ := hr T hT XX
  have hv : v = r.map (oV G) := by injection hv
  subst hv
  rw [h0] at hz hk
  have hS' : va_S (oA G) s.heap T'.heap (locs ++ L) := ⟨Nat.le_trans hS.1 (by rw [e1]; exact hz), fun q h1 h2 => by rw [e1, hk q (Nat.lt_of_lt_of_le h1 hS.1) h2]; exact hS.2.1 q h1 h2, fun q hq => by
    rcases List.mem_append.mp hq with h | h
    · exact hS.2.2 q h
    · exact hL q h⟩
  have ef : (r.toList ++ st).map (oV G) = (r.map (oV G)).toList ++ st.map (oV G) := by cases r <;> rfl
  have kz := kk r H' T'.heap (locs ++ L) hq (by rw [e1]; exact hw) hS'
  rw [ef] at kz
  obtain ⟨t2, a1, b1⟩ := kz T' rfl X'
  exact ⟨t2, stp t2 a1, b1⟩
def oMk (N : oM) (n : Nat) : Prop := Cond.code N.1 (oCd N) (oMx N) (oRt N) ∈ oAll ∧ Cond.initialized N.1.cls ∈ oAll ∧ plainName N.1.cls = true ∧ (N.1.cls ≠ "java/lang/invoke/MethodHandle" ∧ N.1.cls ≠ "java/lang/invoke/VarHandle" ∧ (parseMethodDescriptor N.1.desc).map (fun d => d.parameters.length) = some n)
def oMl (own : String) (idx : Nat) (N : oM) : Prop := Cond.methodLink own idx N.1 ∈ oAll ∨ ∃ host : String, (own, idx, N.1, host) ∈ oNwM
def oFitsIn (N M : oM) : Bool := Nat.ble (oFr N + 1) (oFr M) && Nat.ble (8 + (oMx N + 11) + oWd N) (oWd M)
theorem oFitsIn.le {N M : oM} (h : oFitsIn N M = true) : oFr N + 1 ≤ oFr M ∧ 8 + (oMx N + 11) + oWd N ≤ oWd M := by
  unfold oFitsIn at h
  rw [Bool.and_eq_true] at h
  exact ⟨Nat.le_of_ble_eq_true h.1, Nat.le_of_ble_eq_true h.2⟩
theorem oGoodW {N : oM} (h : Cond.code N.1 (oCd N) (oMx N) (oRt N) ∈ oAll) : GoodIn oAll (oWs N) := by
  intro w hw
  rcases List.mem_cons.mp hw with rfl | hw
  · exact ⟨h, oGood _ h⟩
  · exact ⟨hw, oGood _ hw⟩
section MC
variable {G : oG} {M : oM} {pc : Nat} {lv : oL} {H : oH} {b : Nat × Nat} {Q : oP}
theorem o_callS {idx n : Nat} {st0 : List oU} (N : oM) (As st : List oU) (b1 b2 : Nat × Nat) (hd : decode (oCd M) pc = .ok (.invokestatic idx, 3)) (hm : oMk N n) (hs : Cond.static N.1 ∈ oAll) (hlk9 : oMl M.1.cls idx N) (hfi : oFitsIn N M = true) (hs0 : st0 = As.reverse ++ st) (hn : As.length = n) (hnm9 : As.length ≤ oMx N) (hst : Nat.ble st.length 8 = true) (hbb : b = (b1.1 + b2.1, b1.2 + b2.2))
    (kk : Ok G N 0 (oArgs 0 As) [] H b1 (fun r H' => Ok G M (pc + 3) lv (r.toList ++ st) H' b2 Q)) : Ok G M pc lv st0 H b Q := by
  intro p e R s mid args below meth c hp locs cells slots mc ms ls X Y
  obtain ⟨hx, hb, hml, hrt, hlk, hnm, hown, hts, hK, hNs, hTy, hX, hsb, hbs, hFr, hWd⟩ := id X
  obtain ⟨hl, hW, hS, hc1, hc2, hc3, hc4⟩ := id Y
  subst hs0; subst hbb
  have hc1 : cells + (b1.1 + b2.1) = mc := hc1
  have hc2 : slots + (b1.2 + b2.2) = ms := hc2
  obtain ⟨f1, f2⟩ := oFitsIn.le hfi
  have hM := oMet hm.2.2.1 hnm9 kk
  have hG := oGoodW hm.1
  have hR : oFr N + 1 ≤ R.frames ∧ 8 + (oMx N + 11) + oWd N ≤ R.locals := ⟨Nat.le_trans f1 hFr, Nat.le_trans f2 hWd⟩
  have hrm : 2 * (F0 mid pc ls ((As.reverse ++ st).map (oV G))).monitorRoom + ((st.map (oV G)).map fun v => v.category).sum ≤ 8 := lv_room (by rw [oSum]; exact Nat.le_of_ble_eq_true hst)
  have hf9 : cells + b1.1 ≤ R.cells ∧ slots + b1.2 ≤ R.slots := ⟨by omega, by omega⟩
  have hn9 : (As.map (oV G)).length = n := by rw [List.length_map]; exact hn
  have hsk : (F0 mid pc ls ((As.reverse ++ st).map (oV G))).stack = (As.map (oV G)).reverse ++ st.map (oV G) := by show (As.reverse ++ st).map (oV G) = _; rw [List.map_append, List.map_reverse]
  have hpre : PreS s hp (va_Pc (As.map (oV G)) (oSt G H)) (As.map (oV G)) := ⟨oBlind, fun U hU hWm => ⟨rfl, oPre X Y hU hWm⟩⟩
  refine oCont (Qc := fun r H' => Ok G M (pc + 3) lv (r.toList ++ st) H' b2 Q) (st := st) (k := b1.1) (n := b1.2) (a := (As.map (oV G)).toArray) ?_ hS fun r H' H1 locs1 hq hw hS1 => hq p e R s mid args below meth c H1 locs1 (cells + b1.1) (slots + b1.2) mc ms ls X ⟨hl, hw, hS1, by omega, by omega, hc3, hc4⟩
  rcases hlk9 with hlk9 | ⟨host, hlk9⟩
  · exact va_runS ⟨hx, hb, hml, hown, hts⟩ hM ⟨callB_of n hts hG rfl rfl rfl (hts _ hm.2.1) (hts _ hlk9) hm.2.2.2 hR, hts _ hs⟩ hpre rfl hn9 hl.1 hsk hrm hd hf9
  · exact va_runSN ⟨hx, hb, hml, hown, hts⟩ hM ⟨va_cnB n hts hG rfl rfl rfl (hNs.2.1 _ hlk9) (hts _ hm.2.1) hm.2.2.2 hR, hts _ hs, trivial⟩ hpre rfl hn9 hl.1 hsk hrm hd hf9
theorem o_callV {r0 ci : Nat} {fs : List oU} {q9 : vw_C} {idx n : Nat} {st0 : List oU} (N : oM) (As st : List oU) (b1 b2 : Nat × Nat) (hd : decode (oCd M) pc = .ok (.invokevirtual idx, 3)) (hm : oMk N n) (hs : Cond.instanceMethod N.1 ∈ oAll) (hs2 : Cond.selects N.1.cls N.1 N.1 ∈ oAll) (he : H.2 r0 = some (.inr (.inr (ci, fs)))) (hcl : vwCl[ci]? = some q9) (hq9 : q9.1 = N.1.cls) (hlk9 : oMl M.1.cls idx N) (hfi : oFitsIn N M = true) (hs0 : st0 = As.reverse ++ .inr (some r0) :: st) (hn : As.length = n) (hnm9 : As.length + 1 ≤ oMx N) (hst : Nat.ble st.length 8 = true) (hbb : b = (b1.1 + b2.1, b1.2 + b2.2))
    (kk : Ok G N 0 (oArgs 0 (.inr (some r0) :: As)) [] H b1 (fun r H' => Ok G M (pc + 3) lv (r.toList ++ st) H' b2 Q)) : Ok G M pc lv st0 H b Q := by
  intro p e R s mid args below meth c hp locs cells slots mc ms ls X Y
  obtain ⟨hx, hb, hml, hrt, hlk, hnm, hown, hts, hK, hNs, hTy, hX, hsb, hbs, hFr, hWd⟩ := id X
  obtain ⟨hl, hW, hS, hc1, hc2, hc3, hc4⟩ := id Y
  subst hs0; subst hbb
  have hc1 : cells + (b1.1 + b2.1) = mc := hc1
  have hc2 : slots + (b1.2 + b2.2) = ms := hc2
  obtain ⟨f1, f2⟩ := oFitsIn.le hfi
  have hM := oMet hm.2.2.1 (by rw [List.length_cons]; exact hnm9) kk
  have hG := oGoodW hm.1
  have hR : oFr N + 1 ≤ R.frames ∧ 8 + (oMx N + 11) + oWd N ≤ R.locals := ⟨Nat.le_trans f1 hFr, Nat.le_trans f2 hWd⟩
  have hrm : 2 * (F0 mid pc ls ((As.reverse ++ .inr (some r0) :: st).map (oV G))).monitorRoom + ((st.map (oV G)).map fun v => v.category).sum ≤ 8 := lv_room (by rw [oSum]; exact Nat.le_of_ble_eq_true hst)
  have hf9 : cells + b1.1 ≤ R.cells ∧ slots + b1.2 ≤ R.slots := ⟨by omega, by omega⟩
  have hn9 : (As.map (oV G)).length = n := by rw [List.length_map]; exact hn
  have hsk : (F0 mid pc ls ((As.reverse ++ .inr (some r0) :: st).map (oV G))).stack = (As.map (oV G)).reverse ++ .ref (oAd G r0) :: st.map (oV G) := by
    show (As.reverse ++ .inr (some r0) :: st).map (oV G) = _
    rw [List.map_append, List.map_reverse]
    rfl
  have hpre : PreV s hp N.1.cls (oAd G r0) (va_Pc (((.inr (some r0) : oU) :: As).map (oV G)) (oSt G H)) (As.map (oV G)) := ⟨oBlind, by rw [← hq9]; exact va_recv hK (hW.one he) hcl (q0 := 0) rfl, fun U hU hWm => ⟨rfl, oPre X Y hU hWm⟩⟩
  refine oCont (Qc := fun r H' => Ok G M (pc + 3) lv (r.toList ++ st) H' b2 Q) (st := st) (k := b1.1) (n := b1.2) (a := (((.inr (some r0) : oU) :: As).map (oV G)).toArray) ?_ hS fun r H' H1 locs1 hq hw hS1 => hq p e R s mid args below meth c H1 locs1 (cells + b1.1) (slots + b1.2) mc ms ls X ⟨hl, hw, hS1, by omega, by omega, hc3, hc4⟩
  rcases hlk9 with hlk9 | ⟨host, hlk9⟩
  · exact va_runV ⟨hx, hb, hml, hown, hts⟩ hM ⟨callB_of n hts hG rfl rfl rfl (hts _ hm.2.1) (hts _ hlk9) hm.2.2.2 hR, hts _ hs, hts _ hs2⟩ hpre rfl hn9 hl.1 hsk hrm hd hf9
  · exact va_runVN ⟨hx, hb, hml, hown, hts⟩ hM ⟨va_cnB n hts hG rfl rfl rfl (hNs.2.1 _ hlk9) (hts _ hm.2.1) hm.2.2.2 hR, hts _ hs, hts _ hs2⟩ hpre rfl hn9 hl.1 hsk hrm hd hf9
theorem o_callI {r0 : Nat} {idx n : Nat} {st0 : List oU} (N : oM) (As st : List oU) (b1 b2 : Nat × Nat) (hd : decode (oCd M) pc = .ok (.invokespecial idx, 3)) (hm : oMk N n) (hs : Cond.instanceMethod N.1 ∈ oAll) (hs2 : N.1.name = "<init>") (hrv : oRt N = none) (hlk9 : oMl M.1.cls idx N) (hfi : oFitsIn N M = true) (hs0 : st0 = As.reverse ++ .inr (some r0) :: st) (hn : As.length = n) (hnm9 : As.length + 1 ≤ oMx N) (hst : Nat.ble st.length 8 = true) (hbb : b = (b1.1 + b2.1, b1.2 + b2.2))
    (kk : Ok G N 0 (oArgs 0 (.inr (some r0) :: As)) [] H b1 (fun r H' => Ok G M (pc + 3) lv (r.toList ++ st) H' b2 Q)) : Ok G M pc lv st0 H b Q := by
  intro p e R s mid args below meth c hp locs cells slots mc ms ls X Y
  obtain ⟨hx, hb, hml, hrt, hlk, hnm, hown, hts, hK, hNs, hTy, hX, hsb, hbs, hFr, hWd⟩ := id X
  obtain ⟨hl, hW, hS, hc1, hc2, hc3, hc4⟩ := id Y
  subst hs0; subst hbb
  have hc1 : cells + (b1.1 + b2.1) = mc := hc1
  have hc2 : slots + (b1.2 + b2.2) = ms := hc2
  obtain ⟨f1, f2⟩ := oFitsIn.le hfi
  have hM := oMet hm.2.2.1 (by rw [List.length_cons]; exact hnm9) kk
  have hG := oGoodW hm.1
  have hR : oFr N + 1 ≤ R.frames ∧ 8 + (oMx N + 11) + oWd N ≤ R.locals := ⟨Nat.le_trans f1 hFr, Nat.le_trans f2 hWd⟩
  have hrm : 2 * (F0 mid pc ls ((As.reverse ++ .inr (some r0) :: st).map (oV G))).monitorRoom + ((st.map (oV G)).map fun v => v.category).sum ≤ 8 := lv_room (by rw [oSum]; exact Nat.le_of_ble_eq_true hst)
  have hf9 : cells + b1.1 ≤ R.cells ∧ slots + b1.2 ≤ R.slots := ⟨by omega, by omega⟩
  have hn9 : (As.map (oV G)).length = n := by rw [List.length_map]; exact hn
  have hsk : (F0 mid pc ls ((As.reverse ++ .inr (some r0) :: st).map (oV G))).stack = (As.map (oV G)).reverse ++ .ref (oAd G r0) :: st.map (oV G) := by
    show (As.reverse ++ .inr (some r0) :: st).map (oV G) = _
    rw [List.map_append, List.map_reverse]
    rfl
  have hpre : PreS s hp (va_Pc (((.inr (some r0) : oU) :: As).map (oV G)) (oSt G H)) (.ref (oAd G r0) :: As.map (oV G)) := ⟨oBlind, fun U hU hWm => ⟨rfl, oPre X Y hU hWm⟩⟩
  refine oCont (Qc := fun r H' => Ok G M (pc + 3) lv (r.toList ++ st) H' b2 Q) (st := st) (k := b1.1) (n := b1.2) (a := (((.inr (some r0) : oU) :: As).map (oV G)).toArray) ?_ hS fun r H' H1 locs1 hq hw hS1 => hq p e R s mid args below meth c H1 locs1 (cells + b1.1) (slots + b1.2) mc ms ls X ⟨hl, hw, hS1, by omega, by omega, hc3, hc4⟩
  have hw9 : oWs N = Cond.code N.1 (oCd N) (oMx N) none :: oAll := by unfold oWs; rw [hrv]
  rcases hlk9 with hlk9 | ⟨host, hlk9⟩
  · exact va_runI ⟨hx, hb, hml, hown, hts⟩ hM ⟨callB_of n hts hG hw9 rfl rfl (hts _ hm.2.1) (hts _ hlk9) hm.2.2.2 hR, hs2, hts _ hs⟩ hpre rfl hn9 hl.1 hsk hrm hd hf9
  · exact va_runIN ⟨hx, hb, hml, hown, hts⟩ hM ⟨va_cnB n hts hG hw9 rfl rfl (hNs.2.1 _ hlk9) (hts _ hm.2.1) hm.2.2.2 hR, hs2, hts _ hs⟩ hpre rfl hn9 hl.1 hsk hrm hd hf9
end MC
end
section
/-! The cells of a store and of a reference, by names (tag, number); a memory mu tag number place; Om: Ok where the heap is that of a memory. -/
abbrev oSh : Type := (Nat × Nat) ⊕ (Nat × List Nat) ⊕ (Nat × List (Option Nat))
abbrev oMu : Type := Nat → Nat → Nat → Int32
def cnt (t : Nat) : Nat := match t with
  | 5 => 40
  | 6 => 40
  | 7 => 3
  | 8 => 3
  | 9 => 3
  | 10 => 3
  | 11 => 3
  | 12 => 6
  | 13 => 6
  | 14 => 6
  | 15 => 6
  | 16 => 6
  | 17 => 6
  | 18 => 9
  | 19 => 9
  | t => bif Nat.blt t 39 then 1 else 0
def ad (t i : Nat) : Nat := match t with
  | 0 => 1
  | 1 => 2
  | 2 => 3
  | 3 => 4
  | 4 => 5
  | 5 => 6 + 2 * i
  | 6 => 7 + 2 * i
  | 7 => 86 + 9 * i
  | 8 => 87 + 9 * i
  | 9 => 88 + 9 * i
  | 10 => 89 + 9 * i
  | 11 => 90 + 9 * i
  | 12 => 91 + 9 * (i / 2) + 2 * (i % 2)
  | 13 => 92 + 9 * (i / 2) + 2 * (i % 2)
  | 14 => 113 + 4 * i
  | 15 => 114 + 4 * i
  | 16 => 115 + 4 * i
  | 17 => 116 + 4 * i
  | 18 => 137 + 2 * i
  | 19 => 138 + 2 * i
  | t => 135 + t
def sh (t i : Nat) : oSh := match t with
  | 0 => .inr (.inr (ciStore, [some (ad 1 0), some (ad 2 0), some (ad 3 0), some (ad 4 0), none]))
  | 1 => .inr (.inl (tyWrite, (List.range 40).map (ad 5)))
  | 2 => .inr (.inl (tyCenter, (List.range 3).map (ad 7)))
  | 3 => .inr (.inl (tyClient, (List.range 6).map (ad 14)))
  | 4 => .inr (.inl (tyRow, (List.range 9).map (ad 18)))
  | 5 => .inr (.inr (ciWrite, [some (ad 6 i), none, none, none, none, none]))
  | 6 => .inl (tyInt, 6)
  | 7 => .inr (.inr (ciCenter, [some (ad 8 i), some (ad 9 i), some (ad 10 i), some (ad 11 i)]))
  | 8 => .inl (tyBool, 40)
  | 9 => .inl (tyInt, 6)
  | 10 => .inl (tyInt, 2)
  | 11 => .inr (.inl (tyRow, [ad 12 (2 * i), ad 12 (2 * i + 1)]))
  | 12 => .inr (.inr (ciRow, [some (ad 13 i), none]))
  | 13 => .inl (tyInt, 40)
  | 14 => .inr (.inr (ciClient, [none, some (ad 15 i), some (ad 16 i), some (ad 17 i), none, none, none]))
  | 15 => .inl (tyInt, 6)
  | 16 => .inl (tyInt, 6)
  | 17 => .inl (tyInt, 6)
  | 18 => .inr (.inr (ciRow, [some (ad 19 i), none]))
  | 19 => .inl (tyInt, 40)
  | 20 => .inr (.inr (ciModel, [none, some (ad 21 0), some (ad 22 0), some (ad 23 0), some (ad 24 0), some (ad 25 0), some (ad 26 0), some (ad 27 0), some (ad 28 0), some (ad 29 0), some (ad 30 0), some (ad 31 0), some (ad 32 0), some (ad 33 0), some (ad 34 0), some (ad 35 0), some (ad 36 0), some (ad 37 0), some (ad 38 0)]))
  | 21 => .inl (tyInt, 40)
  | 22 => .inl (tyInt, 40)
  | 23 => .inl (tyInt, 40)
  | 24 => .inl (tyInt, 240)
  | 25 => .inl (tyInt, 40)
  | 26 => .inl (tyBool, 120)
  | 27 => .inl (tyInt, 6)
  | 28 => .inl (tyInt, 6)
  | 29 => .inl (tyInt, 240)
  | 30 => .inl (tyInt, 9)
  | 31 => .inl (tyInt, 360)
  | 32 => .inl (tyInt, 36)
  | 33 => .inl (tyInt, 6)
  | 34 => .inl (tyInt, 6)
  | 35 => .inl (tyInt, 6)
  | 36 => .inl (tyInt, 6)
  | 37 => .inl (tyInt, 36)
  | 38 => .inl (tyInt, 36)
  | _ => .inl (tyInt, 0)
def nmL : List (Nat × Nat) := (List.range 39).flatMap fun t => (List.range (cnt t)).map fun i => (t, i)
def nm (r : Nat) : Option (Nat × Nat) := nmL.find? fun q => ad q.1 q.2 == r
set_option maxRecDepth 100000 in
theorem nm_ad9 : ∀ t, t < 39 → ∀ i, i < cnt t → nm (ad t i) = some (t, i) := by decide +kernel
theorem cnt_lt {t i : Nat} (h : i < cnt t) : t < 39 := by
  rcases Nat.lt_or_ge t 39 with h1 | h1
  · exact h1
  · exfalso
    have h2 : cnt t = 0 := by
      match t, h1 with
      | t + 39, _ =>
        show (bif Nat.blt (t + 39) 39 then 1 else 0) = 0
        have h3 : Nat.blt (t + 39) 39 = false := by
          cases h4 : Nat.blt (t + 39) 39 with
          | false => rfl
          | true =>
            have h5 : t + 39 < 39 := Nat.le_of_ble_eq_true h4
            omega
        rw [h3]
        rfl
    omega
theorem nm_ad {t i : Nat} (h : i < cnt t) : nm (ad t i) = some (t, i) := nm_ad9 t (cnt_lt h) i h
theorem nm_some {r t i : Nat} (h : nm r = some (t, i)) : i < cnt t ∧ ad t i = r := by
  have h1 := List.find?_some h
  have h2 := List.mem_of_find?_eq_some h
  refine ⟨?_, by simpa using h1⟩
  obtain ⟨t', -, h3⟩ := List.mem_flatMap.mp h2
  obtain ⟨i', h4, h5⟩ := List.mem_map.mp h3
  cases h5
  exact List.mem_range.mp h4
set_option maxRecDepth 100000 in
theorem ad_in9 : ∀ t, t < 39 → ∀ i, i < cnt t → 1 ≤ ad t i ∧ ad t i ≤ 173 := by decide +kernel
def oFld : List (Option Nat) → Nat → (Nat → Int32) → List oU
  | [], _, _ => []
  | some r :: l, k, x => .inr (some r) :: oFld l (k + 1) x
  | none :: l, k, x => .inl (x k) :: oFld l (k + 1) x
theorem oFld_len : ∀ (l : List (Option Nat)) (i : Nat) (x : Nat → Int32), (oFld l i x).length = l.length
  | [], _, _ => rfl
  | some r :: l, k, x => by rw [oFld, List.length_cons, oFld_len l (k + 1) x, List.length_cons]
  | none :: l, k, x => by rw [oFld, List.length_cons, oFld_len l (k + 1) x, List.length_cons]
theorem oFld_i : ∀ (l : List (Option Nat)) (i k : Nat) (x : Nat → Int32), l[k]? = some none → (oFld l i x)[k]? = some (.inl (x (i + k)))
  | [], _, _, _, h => by simp at h
  | some r :: l, i, 0, x, h => by simp at h
  | some r :: l, i, k + 1, x, h => by
    rw [List.getElem?_cons_succ] at h
    rw [oFld, List.getElem?_cons_succ, oFld_i l (i + 1) k x h, show i + 1 + k = i + (k + 1) by omega]
  | none :: l, i, 0, x, h => rfl
  | none :: l, i, k + 1, x, h => by
    rw [List.getElem?_cons_succ] at h
    rw [oFld, List.getElem?_cons_succ, oFld_i l (i + 1) k x h, show i + 1 + k = i + (k + 1) by omega]
theorem oFld_r : ∀ (l : List (Option Nat)) (i k : Nat) (x : Nat → Int32) (r : Nat), l[k]? = some (some r) → (oFld l i x)[k]? = some (.inr (some r))
  | [], _, _, _, _, h => by simp at h
  | some r' :: l, i, 0, x, r, h => by
    have h : some (some r') = some (some r) := h
    cases h
    rfl
  | none :: l, i, 0, x, r, h => by simp at h
  | some r' :: l, i, k + 1, x, r, h => by
    rw [List.getElem?_cons_succ] at h
    rw [oFld, List.getElem?_cons_succ, oFld_r l (i + 1) k x r h]
  | none :: l, i, k + 1, x, r, h => by
    rw [List.getElem?_cons_succ] at h
    rw [oFld, List.getElem?_cons_succ, oFld_r l (i + 1) k x r h]
theorem oFld_lo : ∀ (l : List (Option Nat)) (i j : Nat) (x : Nat → Int32) (v : Int32), j < i → oFld l i (upd x j v) = oFld l i x
  | [], _, _, _, _, _ => rfl
  | some r :: l, i, j, x, v, h => by rw [oFld, oFld, oFld_lo l (i + 1) j x v (by omega)]
  | none :: l, i, j, x, v, h => by
    rw [oFld, oFld, oFld_lo l (i + 1) j x v (by omega)]
    simp [upd, Nat.ne_of_gt h]
theorem oFld_set : ∀ (l : List (Option Nat)) (i k : Nat) (x : Nat → Int32) (v : Int32), l[k]? = some none → (oFld l i x).set k (.inl v) = oFld l i (upd x (i + k) v)
  | [], _, _, _, _, h => by simp at h
  | some r :: l, i, 0, x, v, h => by simp at h
  | some r :: l, i, k + 1, x, v, h => by
    rw [List.getElem?_cons_succ] at h
    rw [oFld, List.set_cons_succ, oFld_set l (i + 1) k x v h, oFld, show i + 1 + k = i + (k + 1) by omega]
  | none :: l, i, 0, x, v, h => by
    rw [oFld, List.set_cons_zero, oFld, oFld_lo l (i + 1) (i + 0) x v (by omega)]
    simp [upd]
  | none :: l, i, k + 1, x, v, h => by
    rw [List.getElem?_cons_succ] at h
    rw [oFld, List.set_cons_succ, oFld_set l (i + 1) k x v h, oFld, show i + 1 + k = i + (k + 1) by omega]
    have h2 : ¬ i = i + (k + 1) := by omega
    simp [upd, h2]
def oCt (s : oSh) (x : Nat → Int32) : oC := match s with
  | .inl a => .inl (a.1, a.2, x)
  | .inr (.inl a) => .inr (.inl (a.1, a.2.length, fun j => a.2[j]?))
  | .inr (.inr a) => .inr (.inr (a.1, oFld a.2 0 x))
def enc (mu : oMu) (r : Nat) : Option oC := (nm r).map fun q => oCt (sh q.1 q.2) (mu q.1 q.2)
def oHm (mu : oMu) : oH := (173, enc mu)
def up2 (mu : oMu) (t i : Nat) (x : Nat → Int32) : oMu := fun t' i' => if t' = t ∧ i' = i then x else mu t' i'
theorem up2_s {mu : oMu} {t i : Nat} {x : Nat → Int32} : up2 mu t i x t i = x := if_pos ⟨rfl, rfl⟩
theorem up2_t {mu : oMu} {t i t' i' : Nat} {x : Nat → Int32} (h : ¬ t' = t) : up2 mu t i x t' i' = mu t' i' := if_neg fun q => h q.1
theorem up2_i {mu : oMu} {t i t' i' : Nat} {x : Nat → Int32} (h : ¬ i' = i) : up2 mu t i x t' i' = mu t' i' := if_neg fun q => h q.2
theorem enc_ad {mu : oMu} {t i : Nat} (h : i < cnt t) : (oHm mu).2 (ad t i) = some (oCt (sh t i) (mu t i)) := by
  show enc mu (ad t i) = _
  rw [enc, nm_ad h]
  rfl
theorem enc_up {mu : oMu} {t i : Nat} {x : Nat → Int32} (h : i < cnt t) : oUp (oHm mu) (ad t i) (oCt (sh t i) x) = oHm (up2 mu t i x) := by
  refine Prod.ext rfl (funext fun r => ?_)
  show va_up (enc mu) (ad t i) (some (oCt (sh t i) x)) r = enc (up2 mu t i x) r
  by_cases hr : r = ad t i
  · subst hr
    rw [enc, nm_ad h]
    simp [va_up, up2]
  · rw [enc]
    have e : va_up (enc mu) (ad t i) (some (oCt (sh t i) x)) r = enc mu r := if_neg hr
    rw [e, enc]
    cases hn : nm r with
    | none => rfl
    | some q =>
      obtain ⟨t', i'⟩ := q
      have h2 := (nm_some hn).2
      have h3 : ¬ (t' = t ∧ i' = i) := fun z => hr (by rw [← h2, z.1, z.2])
      show some (oCt (sh t' i') (mu t' i')) = some (oCt (sh t' i') (up2 mu t i x t' i'))
      rw [up2, if_neg h3]
abbrev oPm : Type := Option oU → oMu → Prop
def oHQ (Q : oPm) : oP := fun r H => ∃ mu : oMu, H = oHm mu ∧ Q r mu
abbrev Om (G : oG) (M : oM) (pc : Nat) (lv : oL) (st : List oU) (mu : oMu) (Q : oPm) : Prop := Ok G M pc lv st (oHm mu) (0, 0) (oHQ Q)
theorem Ok.mono {G : oG} {M : oM} {pc : Nat} {lv : oL} {st : List oU} {H : oH} {b : Nat × Nat} {Q Q' : oP} (h : ∀ r H', Q r H' → Q' r H') (k : Ok G M pc lv st H b Q) : Ok G M pc lv st H b Q' := by
  intro p e R s mid args below meth c hp locs cells slots mc ms ls X Y T hT XX
  obtain ⟨t, a1, o, b1, b2, ⟨⟨r, H', e1, e2, e3⟩, e4⟩, b3⟩ := k p e R s mid args below meth c hp locs cells slots mc ms ls X Y T hT XX
  exact ⟨t, a1, o, b1, b2, ⟨⟨r, H', e1, h r H' e2, e3⟩, e4⟩, b3⟩
section ML
variable {G : oG} {M : oM} {pc : Nat} {lv : oL} {st : List oU} {mu : oMu} {Q : oPm}
theorem m_geti {ci idx k t i : Nat} {l : List (Option Nat)} (hd : decode (oCd M) pc = .ok (.getfield idx, 3)) (hf : oF M.1.cls idx ci k) (hs : sh t i = .inr (.inr (ci, l))) (hk : l[k]? = some none) (hv : i < cnt t) (kk : Om G M (pc + 3) lv (.inl (mu t i k) :: st) mu Q) : Om G M pc lv (.inr (some (ad t i)) :: st) mu Q := by
  refine o_get hd hf (by rw [enc_ad hv, hs]; rfl) (v := .inl (mu t i k)) ?_ kk
  have h := oFld_i l 0 k (mu t i) hk
  rw [Nat.zero_add] at h
  exact h
theorem m_getr {ci idx k t i r : Nat} {l : List (Option Nat)} (hd : decode (oCd M) pc = .ok (.getfield idx, 3)) (hf : oF M.1.cls idx ci k) (hs : sh t i = .inr (.inr (ci, l))) (hk : l[k]? = some (some r)) (hv : i < cnt t) (kk : Om G M (pc + 3) lv (.inr (some r) :: st) mu Q) : Om G M pc lv (.inr (some (ad t i)) :: st) mu Q :=
  o_get hd hf (by rw [enc_ad hv, hs]; rfl) (oFld_r l 0 k (mu t i) r hk) kk
theorem m_puti {ci idx k t i : Nat} {l : List (Option Nat)} {x : Int32} (hd : decode (oCd M) pc = .ok (.putfield idx, 3)) (hf : oFs M.1.cls idx ci k .int) (hs : sh t i = .inr (.inr (ci, l))) (hk : l[k]? = some none) (hv : i < cnt t) (kk : ∀ mu' : oMu, mu' = up2 mu t i (upd (mu t i) k x) → Om G M (pc + 3) lv st mu' Q) : Om G M pc lv (.inl x :: .inr (some (ad t i)) :: st) mu Q := by
  refine o_put hd hf (oFit_i x) (by rw [enc_ad hv, hs]; rfl) (by rw [oFld_len]; exact (List.getElem?_eq_some_iff.mp hk).1) ?_
  rw [oFld_set l 0 k (mu t i) x hk, Nat.zero_add]
  have e : (.inr (.inr (ci, oFld l 0 (upd (mu t i) k x))) : oC) = oCt (sh t i) (upd (mu t i) k x) := by rw [hs]; rfl
  rw [e, enc_up hv]
  exact kk _ rfl
theorem m_iald {ty n t i : Nat} {x : Int32} (j : Nat) (hd : decode (oCd M) pc = .ok (.iaload, 1)) (hs : sh t i = .inl (ty, n)) (ht : oTyL[ty]? = some .int) (hN : Nat.blt n 2147483648 = true) (hv : i < cnt t) (hi : x = nI j) (hj : j < n) (kk : Om G M (pc + 1) lv (.inl (mu t i j) :: st) mu Q) : Om G M pc lv (.inl x :: .inr (some (ad t i)) :: st) mu Q :=
  o_iald j hd (by rw [enc_ad hv, hs]; rfl) ht hN hi hj kk
theorem m_zald {ty n t i : Nat} {x : Int32} (j : Nat) (hd : decode (oCd M) pc = .ok (.baload, 1)) (hs : sh t i = .inl (ty, n)) (ht : oTyL[ty]? = some .boolean) (hN : Nat.blt n 2147483648 = true) (hv : i < cnt t) (hi : x = nI j) (hj : j < n) (kk : Om G M (pc + 1) lv (.inl (mu t i j) :: st) mu Q) : Om G M pc lv (.inl x :: .inr (some (ad t i)) :: st) mu Q :=
  o_zald j hd (by rw [enc_ad hv, hs]; rfl) ht hN hi hj kk
theorem m_iast {ty n t i : Nat} {x y : Int32} (j : Nat) (hd : decode (oCd M) pc = .ok (.iastore, 1)) (hs : sh t i = .inl (ty, n)) (ht : oTyL[ty]? = some .int) (hN : Nat.blt n 2147483648 = true) (hv : i < cnt t) (hi : x = nI j) (hj : j < n) (kk : ∀ mu' : oMu, mu' = up2 mu t i (upd (mu t i) j y) → Om G M (pc + 1) lv st mu' Q) : Om G M pc lv (.inl y :: .inl x :: .inr (some (ad t i)) :: st) mu Q := by
  refine o_iast j hd (by rw [enc_ad hv, hs]; rfl) ht hN hi hj ?_
  have e : (.inl (ty, n, upd (mu t i) j y) : oC) = oCt (sh t i) (upd (mu t i) j y) := by rw [hs]; rfl
  rw [e, enc_up hv]
  exact kk _ rfl
theorem m_zast {ty n t i : Nat} {x y : Int32} (j : Nat) (hd : decode (oCd M) pc = .ok (.bastore, 1)) (hs : sh t i = .inl (ty, n)) (ht : oTyL[ty]? = some .boolean) (hN : Nat.blt n 2147483648 = true) (hv : i < cnt t) (hi : x = nI j) (hj : j < n) (hy : vp_nar .boolean y = y) (kk : ∀ mu' : oMu, mu' = up2 mu t i (upd (mu t i) j y) → Om G M (pc + 1) lv st mu' Q) : Om G M pc lv (.inl y :: .inl x :: .inr (some (ad t i)) :: st) mu Q := by
  refine o_zast j hd (by rw [enc_ad hv, hs]; rfl) ht hN hi hj ?_
  rw [hy]
  have e : (.inl (ty, n, upd (mu t i) j y) : oC) = oCt (sh t i) (upd (mu t i) j y) := by rw [hs]; rfl
  rw [e, enc_up hv]
  exact kk _ rfl
theorem m_aald {ty t i r : Nat} {l : List Nat} {x : Int32} {C : String} (j : Nat) (hd : decode (oCd M) pc = .ok (.aaload, 1)) (hs : sh t i = .inr (.inl (ty, l))) (ht : oTyL[ty]? = some (.object C)) (hN : Nat.blt l.length 2147483648 = true) (hv : i < cnt t) (hi : x = nI j) (hr : l[j]? = some r) (kk : Om G M (pc + 1) lv (.inr (some r) :: st) mu Q) : Om G M pc lv (.inl x :: .inr (some (ad t i)) :: st) mu Q :=
  o_aald j hd (by rw [enc_ad hv, hs]; rfl) ht hN hi (List.getElem?_eq_some_iff.mp hr).1 hr kk
theorem m_alen {ty n t i : Nat} (hd : decode (oCd M) pc = .ok (.arraylength, 1)) (hs : sh t i = .inl (ty, n)) (ht : oTyL[ty]? = some .int) (hv : i < cnt t) (kk : Om G M (pc + 1) lv (.inl (nI n) :: st) mu Q) : Om G M pc lv (.inr (some (ad t i)) :: st) mu Q :=
  o_alen hd (by rw [enc_ad hv, hs]; rfl) ht kk
theorem m_copy {ty n0 n1 t0 i0 t1 i1 idx : Nat} {isp idp x : Int32} (sp dp n : Nat) (hd : decode (oCd M) pc = .ok (.invokestatic idx, 3)) (hw : Cond.methodLink M.1.cls idx arraycopyName ∈ oAll) (hw2 : Cond.native arraycopyName ∈ oAll) (hw3 : Cond.static arraycopyName ∈ oAll) (hw4 : Cond.initialized "java/lang/System" ∈ oAll) (hf : Nat.ble 1 (oFr M) = true) (hl9 : Nat.ble (st.length + (nativeFrameWords "java/lang/System" "arraycopy" 5 + 11)) (oWd M) = true) (hs0 : sh t0 i0 = .inl (ty, n0)) (hs1 : sh t1 i1 = .inl (ty, n1)) (ht : oTyL[ty]? = some .int) (hN0 : Nat.ble n0 100000 = true) (hN1 : Nat.ble n1 100000 = true) (hv0 : i0 < cnt t0) (hv1 : i1 < cnt t1) (h1 : isp = nI sp) (h2 : idp = nI dp) (h3 : x = nI n) (h4 : sp + n ≤ n0) (h5 : dp + n ≤ n1)
    (kk : ∀ mu' : oMu, mu' = up2 mu t1 i1 (va_cpy (mu t0 i0) (mu t1 i1) sp dp n) → Om G M (pc + 3) lv st mu' Q) : Om G M pc lv (.inl x :: .inl idp :: .inr (some (ad t1 i1)) :: .inl isp :: .inr (some (ad t0 i0)) :: st) mu Q := by
  refine o_copy sp dp n hd hw hw2 hw3 hw4 hf hl9 (by rw [enc_ad hv0, hs0]; rfl) (by rw [enc_ad hv1, hs1]; rfl) ht hN0 hN1 h1 h2 h3 h4 h5 ?_
  have e : (.inl (ty, n1, va_cpy (mu t0 i0) (mu t1 i1) sp dp n) : oC) = oCt (sh t1 i1) (va_cpy (mu t0 i0) (mu t1 i1) sp dp n) := by rw [hs1]; rfl
  rw [e, enc_up hv1]
  exact kk _ rfl
theorem m_iret {v : Int32} (hd : decode (oCd M) pc = .ok (.ireturn, 1)) (hr : oRt M = some .int) (hq : Q (some (.inl v)) mu) : Om G M pc lv [.inl v] mu Q := o_iret hd hr rfl ⟨mu, rfl, hq⟩
theorem m_zret {v : Int32} (hd : decode (oCd M) pc = .ok (.ireturn, 1)) (hr : oRt M = some .boolean) (hn : narrow .boolean (.int v) = .int v) (hq : Q (some (.inl v)) mu) : Om G M pc lv [.inl v] mu Q := o_iret hd hr hn ⟨mu, rfl, hq⟩
theorem m_vret (hd : decode (oCd M) pc = .ok (.return_, 1)) (hr : oRt M = none) (hq : Q none mu) : Om G M pc lv [] mu Q := o_vret hd hr ⟨mu, rfl, hq⟩
theorem m_callS {idx n : Nat} {st0 : List oU} (N : oM) (As st : List oU) (hd : decode (oCd M) pc = .ok (.invokestatic idx, 3)) (hm : oMk N n) (hs : Cond.static N.1 ∈ oAll) (hlk9 : oMl M.1.cls idx N) (hfi : oFitsIn N M = true) (hs0 : st0 = As.reverse ++ st) (hn : As.length = n) (hnm9 : As.length ≤ oMx N) (hst : Nat.ble st.length 8 = true) (kk : Om G N 0 (oArgs 0 As) [] mu (fun r mu' => Om G M (pc + 3) lv (r.toList ++ st) mu' Q)) : Om G M pc lv st0 mu Q :=
  o_callS N As st (0, 0) (0, 0) hd hm hs hlk9 hfi hs0 hn hnm9 hst rfl (Ok.mono (fun r H' h => by obtain ⟨mu', rfl, h⟩ := h; exact h) kk)
theorem m_callV {t i ci idx n : Nat} {l : List (Option Nat)} {st0 : List oU} {q9 : vw_C} (N : oM) (As st : List oU) (hd : decode (oCd M) pc = .ok (.invokevirtual idx, 3)) (hm : oMk N n) (hs : Cond.instanceMethod N.1 ∈ oAll) (hs2 : Cond.selects N.1.cls N.1 N.1 ∈ oAll) (hsh : sh t i = .inr (.inr (ci, l))) (hv : i < cnt t) (hcl : vwCl[ci]? = some q9) (hq9 : q9.1 = N.1.cls) (hlk9 : oMl M.1.cls idx N) (hfi : oFitsIn N M = true) (hs0 : st0 = As.reverse ++ .inr (some (ad t i)) :: st) (hn : As.length = n) (hnm9 : As.length + 1 ≤ oMx N) (hst : Nat.ble st.length 8 = true) (kk : Om G N 0 (oArgs 0 (.inr (some (ad t i)) :: As)) [] mu (fun r mu' => Om G M (pc + 3) lv (r.toList ++ st) mu' Q)) : Om G M pc lv st0 mu Q :=
  o_callV N As st (0, 0) (0, 0) hd hm hs hs2 (by rw [enc_ad hv, hsh]; rfl) hcl hq9 hlk9 hfi hs0 hn hnm9 hst rfl (Ok.mono (fun r H' h => by obtain ⟨mu', rfl, h⟩ := h; exact h) kk)
theorem sh_q1 {j : Nat} (h : j < 40) : ((List.range 40).map (ad 5))[j]? = some (ad 5 j) := by rw [List.getElem?_map, List.getElem?_range h]; rfl
theorem sh_q2 {j : Nat} (h : j < 3) : ((List.range 3).map (ad 7))[j]? = some (ad 7 j) := by rw [List.getElem?_map, List.getElem?_range h]; rfl
theorem sh_q3 {j : Nat} (h : j < 6) : ((List.range 6).map (ad 14))[j]? = some (ad 14 j) := by rw [List.getElem?_map, List.getElem?_range h]; rfl
theorem sh_q4 {j : Nat} (h : j < 9) : ((List.range 9).map (ad 18))[j]? = some (ad 18 j) := by rw [List.getElem?_map, List.getElem?_range h]; rfl
theorem sh_wait {i j : Nat} (h : j < 2) : [ad 12 (2 * i), ad 12 (2 * i + 1)][j]? = some (ad 12 (2 * i + j)) := by
  match j, h with
  | 0, _ => rfl
  | 1, _ => rfl
theorem o_top {H : oH} {b : Nat × Nat} {Q : oP} {x : Int32} (y : Int32) (e : x = y) (k : Ok G M pc lv (.inl y :: st) H b Q) : Ok G M pc lv (.inl x :: st) H b Q := e ▸ k
end ML
end
section
/-! Numbers: compares of naturals; a write or none. -/
def dec (n : Nat) : Int32 := match n with
  | 0 => -4
  | n + 1 => nI n
theorem dec_s (n : Nat) : dec (n + 1) = nI n := rfl
theorem dec_0 : dec 0 = -4 := rfl
theorem nInc (a : Nat) : nI a + Int32.ofInt 1 = nI (a + 1) := nI_1 a
theorem nDec (a : Nat) : nI (a + 1) + Int32.ofInt (-1) = nI a := pk_m1 a
section NM
variable {G : oG} {M : oM} {pc : Nat} {lv : oL} {st : List oU} {H : oH} {b : Nat × Nat} {Q : oP}
theorem n_icmp_ge {a c : Nat} {off : Int} (tgt : Nat) (hd : decode (oCd M) pc = .ok (.if_icmp .ge off, 3)) (ht : (pc : Int) + off = (tgt : Int)) (ha : a < 2147483648) (hc : c < 2147483648) (kt : c ≤ a → Ok G M tgt lv st H b Q) (kf : a < c → Ok G M (pc + 3) lv st H b Q) : Ok G M pc lv (.inl (nI c) :: .inl (nI a) :: st) H b Q :=
  o_icmp_ge tgt hd ht (fun h => kt ((nI_leI hc ha).mp h)) (fun h => kf (Nat.lt_of_not_le fun q => h ((nI_leI hc ha).mpr q)))
theorem n_if_ge {a : Nat} {off : Int} (tgt : Nat) (hd : decode (oCd M) pc = .ok (.ifCond .ge off, 3)) (ht : (pc : Int) + off = (tgt : Int)) (ha : a < 2147483648) (kt : 0 ≤ a → Ok G M tgt lv st H b Q) (kf : a < 0 → Ok G M (pc + 3) lv st H b Q) : Ok G M pc lv (.inl (nI a) :: st) H b Q :=
  have hc : 0 < 2147483648 := by decide
  o_if_ge tgt hd ht (fun h => kt ((nI_leI hc ha).mp h)) (fun h => kf (Nat.lt_of_not_le fun q => h ((nI_leI hc ha).mpr q)))
theorem n_icmp_lt {a c : Nat} {off : Int} (tgt : Nat) (hd : decode (oCd M) pc = .ok (.if_icmp .lt off, 3)) (ht : (pc : Int) + off = (tgt : Int)) (ha : a < 2147483648) (hc : c < 2147483648) (kt : a < c → Ok G M tgt lv st H b Q) (kf : c ≤ a → Ok G M (pc + 3) lv st H b Q) : Ok G M pc lv (.inl (nI c) :: .inl (nI a) :: st) H b Q :=
  o_icmp_lt tgt hd ht (fun h => kt ((nI_ltI ha hc).mp h)) (fun h => kf (Nat.le_of_not_lt fun q => h ((nI_ltI ha hc).mpr q)))
theorem n_if_lt {a : Nat} {off : Int} (tgt : Nat) (hd : decode (oCd M) pc = .ok (.ifCond .lt off, 3)) (ht : (pc : Int) + off = (tgt : Int)) (ha : a < 2147483648) (kt : a < 0 → Ok G M tgt lv st H b Q) (kf : 0 ≤ a → Ok G M (pc + 3) lv st H b Q) : Ok G M pc lv (.inl (nI a) :: st) H b Q :=
  have hc : 0 < 2147483648 := by decide
  o_if_lt tgt hd ht (fun h => kt ((nI_ltI ha hc).mp h)) (fun h => kf (Nat.le_of_not_lt fun q => h ((nI_ltI ha hc).mpr q)))
theorem n_icmp_gt {a c : Nat} {off : Int} (tgt : Nat) (hd : decode (oCd M) pc = .ok (.if_icmp .gt off, 3)) (ht : (pc : Int) + off = (tgt : Int)) (ha : a < 2147483648) (hc : c < 2147483648) (kt : c < a → Ok G M tgt lv st H b Q) (kf : a ≤ c → Ok G M (pc + 3) lv st H b Q) : Ok G M pc lv (.inl (nI c) :: .inl (nI a) :: st) H b Q :=
  o_icmp_gt tgt hd ht (fun h => kt ((nI_ltI hc ha).mp h)) (fun h => kf (Nat.le_of_not_lt fun q => h ((nI_ltI hc ha).mpr q)))
theorem n_if_gt {a : Nat} {off : Int} (tgt : Nat) (hd : decode (oCd M) pc = .ok (.ifCond .gt off, 3)) (ht : (pc : Int) + off = (tgt : Int)) (ha : a < 2147483648) (kt : 0 < a → Ok G M tgt lv st H b Q) (kf : a ≤ 0 → Ok G M (pc + 3) lv st H b Q) : Ok G M pc lv (.inl (nI a) :: st) H b Q :=
  have hc : 0 < 2147483648 := by decide
  o_if_gt tgt hd ht (fun h => kt ((nI_ltI hc ha).mp h)) (fun h => kf (Nat.le_of_not_lt fun q => h ((nI_ltI hc ha).mpr q)))
theorem n_icmp_le {a c : Nat} {off : Int} (tgt : Nat) (hd : decode (oCd M) pc = .ok (.if_icmp .le off, 3)) (ht : (pc : Int) + off = (tgt : Int)) (ha : a < 2147483648) (hc : c < 2147483648) (kt : a ≤ c → Ok G M tgt lv st H b Q) (kf : c < a → Ok G M (pc + 3) lv st H b Q) : Ok G M pc lv (.inl (nI c) :: .inl (nI a) :: st) H b Q :=
  o_icmp_le tgt hd ht (fun h => kt ((nI_leI ha hc).mp h)) (fun h => kf (Nat.lt_of_not_le fun q => h ((nI_leI ha hc).mpr q)))
theorem n_if_le {a : Nat} {off : Int} (tgt : Nat) (hd : decode (oCd M) pc = .ok (.ifCond .le off, 3)) (ht : (pc : Int) + off = (tgt : Int)) (ha : a < 2147483648) (kt : a ≤ 0 → Ok G M tgt lv st H b Q) (kf : 0 < a → Ok G M (pc + 3) lv st H b Q) : Ok G M pc lv (.inl (nI a) :: st) H b Q :=
  have hc : 0 < 2147483648 := by decide
  o_if_le tgt hd ht (fun h => kt ((nI_leI ha hc).mp h)) (fun h => kf (Nat.lt_of_not_le fun q => h ((nI_leI ha hc).mpr q)))
theorem n_icmp_eq {a c : Nat} {off : Int} (tgt : Nat) (hd : decode (oCd M) pc = .ok (.if_icmp .eq off, 3)) (ht : (pc : Int) + off = (tgt : Int)) (ha : a < 2147483648) (hc : c < 2147483648) (kt : a = c → Ok G M tgt lv st H b Q) (kf : ¬ a = c → Ok G M (pc + 3) lv st H b Q) : Ok G M pc lv (.inl (nI c) :: .inl (nI a) :: st) H b Q :=
  o_icmp_eq tgt hd ht (fun h => kt ((nI_eq ha hc).mp h)) (fun h => kf fun q => h ((nI_eq ha hc).mpr q))
theorem n_if_eq {a : Nat} {off : Int} (tgt : Nat) (hd : decode (oCd M) pc = .ok (.ifCond .eq off, 3)) (ht : (pc : Int) + off = (tgt : Int)) (ha : a < 2147483648) (kt : a = 0 → Ok G M tgt lv st H b Q) (kf : ¬ a = 0 → Ok G M (pc + 3) lv st H b Q) : Ok G M pc lv (.inl (nI a) :: st) H b Q :=
  have hc : 0 < 2147483648 := by decide
  o_if_eq tgt hd ht (fun h => kt ((nI_eq ha hc).mp h)) (fun h => kf fun q => h ((nI_eq ha hc).mpr q))
theorem n_icmp_ne {a c : Nat} {off : Int} (tgt : Nat) (hd : decode (oCd M) pc = .ok (.if_icmp .ne off, 3)) (ht : (pc : Int) + off = (tgt : Int)) (ha : a < 2147483648) (hc : c < 2147483648) (kt : ¬ a = c → Ok G M tgt lv st H b Q) (kf : a = c → Ok G M (pc + 3) lv st H b Q) : Ok G M pc lv (.inl (nI c) :: .inl (nI a) :: st) H b Q :=
  o_icmp_ne tgt hd ht (fun h => kt fun q => h ((nI_eq ha hc).mpr q)) (fun h => kf ((nI_eq ha hc).mp h))
theorem n_if_ne {a : Nat} {off : Int} (tgt : Nat) (hd : decode (oCd M) pc = .ok (.ifCond .ne off, 3)) (ht : (pc : Int) + off = (tgt : Int)) (ha : a < 2147483648) (kt : ¬ a = 0 → Ok G M tgt lv st H b Q) (kf : a = 0 → Ok G M (pc + 3) lv st H b Q) : Ok G M pc lv (.inl (nI a) :: st) H b Q :=
  have hc : 0 < 2147483648 := by decide
  o_if_ne tgt hd ht (fun h => kt fun q => h ((nI_eq ha hc).mpr q)) (fun h => kf ((nI_eq ha hc).mp h))
end NM
end
