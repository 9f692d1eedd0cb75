section
-- ===== PART A: goes FIRST, ahead of the names: the tables' words, and 'selects' of the private methods out of them =====
/-- a private method of a class that the tables say can be made, by its rows of tables_1 -/
def lw_okq (q : MethodName × Nat) : Prop := (q.1.cls ≠ "java/lang/invoke/MethodHandle" ∧ q.1.cls ≠ "java/lang/invoke/VarHandle") ∧ Cond.instantiable q.1.cls q.2 ∈ tables_1 ∧ Cond.privateMethod q.1 ∈ tables_1 ∧ Cond.instanceMethod q.1 ∈ tables_1
theorem lw_p0 : lw_okq (⟨"CausalStore$Client", "isOpen", "()Z"⟩, 7) := ⟨⟨by decide +kernel, by decide +kernel⟩, List.mem_of_getElem? (i := 102) (by decide +kernel), List.mem_of_getElem? (i := 165) (by decide +kernel), List.mem_of_getElem? (i := 166) (by decide +kernel)⟩
theorem lw_p1 : lw_okq (⟨"CausalStore", "tick", "(LCausalStore$Client;I)I"⟩, 5) := ⟨⟨by decide +kernel, by decide +kernel⟩, List.mem_of_getElem? (i := 12) (by decide +kernel), List.mem_of_getElem? (i := 169) (by decide +kernel), List.mem_of_getElem? (i := 170) (by decide +kernel)⟩
theorem lw_p2 : lw_okq (⟨"CausalStore", "isWrite", "(I)Z"⟩, 5) := ⟨⟨by decide +kernel, by decide +kernel⟩, List.mem_of_getElem? (i := 12) (by decide +kernel), List.mem_of_getElem? (i := 173) (by decide +kernel), List.mem_of_getElem? (i := 174) (by decide +kernel)⟩
theorem lw_p3 : lw_okq (⟨"CausalStore$Write", "fill", "(IIII)V"⟩, 6) := ⟨⟨by decide +kernel, by decide +kernel⟩, List.mem_of_getElem? (i := 27) (by decide +kernel), List.mem_of_getElem? (i := 180) (by decide +kernel), List.mem_of_getElem? (i := 181) (by decide +kernel)⟩
theorem lw_p4 : lw_okq (⟨"CausalStore", "nearestKeys", "([I)I"⟩, 5) := ⟨⟨by decide +kernel, by decide +kernel⟩, List.mem_of_getElem? (i := 12) (by decide +kernel), List.mem_of_getElem? (i := 184) (by decide +kernel), List.mem_of_getElem? (i := 185) (by decide +kernel)⟩
theorem lw_p5 : lw_okq (⟨"CausalStore", "isCovered", "([II)Z"⟩, 5) := ⟨⟨by decide +kernel, by decide +kernel⟩, List.mem_of_getElem? (i := 12) (by decide +kernel), List.mem_of_getElem? (i := 188) (by decide +kernel), List.mem_of_getElem? (i := 189) (by decide +kernel)⟩
theorem lw_p6 : lw_okq (⟨"CausalStore$Write", "dependOn", "([II)V"⟩, 6) := ⟨⟨by decide +kernel, by decide +kernel⟩, List.mem_of_getElem? (i := 27) (by decide +kernel), List.mem_of_getElem? (i := 192) (by decide +kernel), List.mem_of_getElem? (i := 193) (by decide +kernel)⟩
theorem lw_p7 : lw_okq (⟨"CausalStore", "show", "(II)V"⟩, 5) := ⟨⟨by decide +kernel, by decide +kernel⟩, List.mem_of_getElem? (i := 12) (by decide +kernel), List.mem_of_getElem? (i := 199) (by decide +kernel), List.mem_of_getElem? (i := 200) (by decide +kernel)⟩
theorem lw_p8 : lw_okq (⟨"CausalStore", "greater", "(II)I"⟩, 5) := ⟨⟨by decide +kernel, by decide +kernel⟩, List.mem_of_getElem? (i := 12) (by decide +kernel), List.mem_of_getElem? (i := 203) (by decide +kernel), List.mem_of_getElem? (i := 204) (by decide +kernel)⟩
theorem lw_p9 : lw_okq (⟨"CausalStore", "send", "(II)V"⟩, 5) := ⟨⟨by decide +kernel, by decide +kernel⟩, List.mem_of_getElem? (i := 12) (by decide +kernel), List.mem_of_getElem? (i := 207) (by decide +kernel), List.mem_of_getElem? (i := 208) (by decide +kernel)⟩
theorem lw_p10 : lw_okq (⟨"CausalStore$Row", "append", "(I)V"⟩, 2) := ⟨⟨by decide +kernel, by decide +kernel⟩, List.mem_of_getElem? (i := 71) (by decide +kernel), List.mem_of_getElem? (i := 211) (by decide +kernel), List.mem_of_getElem? (i := 212) (by decide +kernel)⟩
theorem lw_p11 : lw_okq (⟨"CausalStore", "see", "(LCausalStore$Client;I)V"⟩, 5) := ⟨⟨by decide +kernel, by decide +kernel⟩, List.mem_of_getElem? (i := 12) (by decide +kernel), List.mem_of_getElem? (i := 215) (by decide +kernel), List.mem_of_getElem? (i := 216) (by decide +kernel)⟩
theorem lw_p12 : lw_okq (⟨"CausalStore$Client", "open", "(I)V"⟩, 7) := ⟨⟨by decide +kernel, by decide +kernel⟩, List.mem_of_getElem? (i := 102) (by decide +kernel), List.mem_of_getElem? (i := 227) (by decide +kernel), List.mem_of_getElem? (i := 228) (by decide +kernel)⟩
theorem lw_p13 : lw_okq (⟨"CausalStore", "readLowestKey", "(LCausalStore$Client;)V"⟩, 5) := ⟨⟨by decide +kernel, by decide +kernel⟩, List.mem_of_getElem? (i := 12) (by decide +kernel), List.mem_of_getElem? (i := 236) (by decide +kernel), List.mem_of_getElem? (i := 237) (by decide +kernel)⟩
theorem lw_p14 : lw_okq (⟨"CausalStore", "prepareSecondRound", "(LCausalStore$Client;)V"⟩, 5) := ⟨⟨by decide +kernel, by decide +kernel⟩, List.mem_of_getElem? (i := 12) (by decide +kernel), List.mem_of_getElem? (i := 243) (by decide +kernel), List.mem_of_getElem? (i := 244) (by decide +kernel)⟩
theorem lw_p15 : lw_okq (⟨"CausalStore", "dueWrite", "([II)I"⟩, 5) := ⟨⟨by decide +kernel, by decide +kernel⟩, List.mem_of_getElem? (i := 12) (by decide +kernel), List.mem_of_getElem? (i := 247) (by decide +kernel), List.mem_of_getElem? (i := 248) (by decide +kernel)⟩
def lw_privs_1 : List (MethodName × Nat) := [(⟨"CausalStore$Client", "isOpen", "()Z"⟩, 7), (⟨"CausalStore", "tick", "(LCausalStore$Client;I)I"⟩, 5), (⟨"CausalStore", "isWrite", "(I)Z"⟩, 5), (⟨"CausalStore$Write", "fill", "(IIII)V"⟩, 6), (⟨"CausalStore", "nearestKeys", "([I)I"⟩, 5), (⟨"CausalStore", "isCovered", "([II)Z"⟩, 5), (⟨"CausalStore$Write", "dependOn", "([II)V"⟩, 6), (⟨"CausalStore", "show", "(II)V"⟩, 5), (⟨"CausalStore", "greater", "(II)I"⟩, 5), (⟨"CausalStore", "send", "(II)V"⟩, 5), (⟨"CausalStore$Row", "append", "(I)V"⟩, 2), (⟨"CausalStore", "see", "(LCausalStore$Client;I)V"⟩, 5), (⟨"CausalStore$Client", "open", "(I)V"⟩, 7), (⟨"CausalStore", "readLowestKey", "(LCausalStore$Client;)V"⟩, 5), (⟨"CausalStore", "prepareSecondRound", "(LCausalStore$Client;)V"⟩, 5), (⟨"CausalStore", "dueWrite", "([II)I"⟩, 5)]
theorem lw_r1 : ∀ q ∈ lw_privs_1, lw_okq q := List.forall_mem_cons.mpr ⟨lw_p0, List.forall_mem_cons.mpr ⟨lw_p1, List.forall_mem_cons.mpr ⟨lw_p2, List.forall_mem_cons.mpr ⟨lw_p3, List.forall_mem_cons.mpr ⟨lw_p4, List.forall_mem_cons.mpr ⟨lw_p5, List.forall_mem_cons.mpr ⟨lw_p6, List.forall_mem_cons.mpr ⟨lw_p7, List.forall_mem_cons.mpr ⟨lw_p8, List.forall_mem_cons.mpr ⟨lw_p9, List.forall_mem_cons.mpr ⟨lw_p10, List.forall_mem_cons.mpr ⟨lw_p11, List.forall_mem_cons.mpr ⟨lw_p12, List.forall_mem_cons.mpr ⟨lw_p13, List.forall_mem_cons.mpr ⟨lw_p14, List.forall_mem_cons.mpr ⟨lw_p15, fun _ h => absurd h List.not_mem_nil⟩⟩⟩⟩⟩⟩⟩⟩⟩⟩⟩⟩⟩⟩⟩⟩
theorem lw_p16 : lw_okq (⟨"CausalStore", "seeFetched", "(LCausalStore$Client;)V"⟩, 5) := ⟨⟨by decide +kernel, by decide +kernel⟩, List.mem_of_getElem? (i := 12) (by decide +kernel), List.mem_of_getElem? (i := 251) (by decide +kernel), List.mem_of_getElem? (i := 252) (by decide +kernel)⟩
theorem lw_p17 : lw_okq (⟨"CausalStore$Row", "at", "(I)I"⟩, 2) := ⟨⟨by decide +kernel, by decide +kernel⟩, List.mem_of_getElem? (i := 71) (by decide +kernel), List.mem_of_getElem? (i := 280) (by decide +kernel), List.mem_of_getElem? (i := 281) (by decide +kernel)⟩
theorem lw_p18 : lw_okq (⟨"CausalStore$Row", "removeAt", "(I)V"⟩, 2) := ⟨⟨by decide +kernel, by decide +kernel⟩, List.mem_of_getElem? (i := 71) (by decide +kernel), List.mem_of_getElem? (i := 284) (by decide +kernel), List.mem_of_getElem? (i := 285) (by decide +kernel)⟩
theorem lw_p19 : lw_okq (⟨"CausalStore", "missingNeeds", "(II)I"⟩, 5) := ⟨⟨by decide +kernel, by decide +kernel⟩, List.mem_of_getElem? (i := 12) (by decide +kernel), List.mem_of_getElem? (i := 296) (by decide +kernel), List.mem_of_getElem? (i := 297) (by decide +kernel)⟩
theorem lw_p20 : lw_okq (⟨"CausalStoreModel", "open", "(I)Z"⟩, 19) := ⟨⟨by decide +kernel, by decide +kernel⟩, List.mem_of_getElem? (i := 342) (by decide +kernel), List.mem_of_getElem? (i := 413) (by decide +kernel), List.mem_of_getElem? (i := 414) (by decide +kernel)⟩
theorem lw_p21 : lw_okq (⟨"CausalStoreModel", "near", "(I)I"⟩, 19) := ⟨⟨by decide +kernel, by decide +kernel⟩, List.mem_of_getElem? (i := 342) (by decide +kernel), List.mem_of_getElem? (i := 417) (by decide +kernel), List.mem_of_getElem? (i := 418) (by decide +kernel)⟩
theorem lw_p22 : lw_okq (⟨"CausalStoreModel", "send", "(III)V"⟩, 19) := ⟨⟨by decide +kernel, by decide +kernel⟩, List.mem_of_getElem? (i := 342) (by decide +kernel), List.mem_of_getElem? (i := 421) (by decide +kernel), List.mem_of_getElem? (i := 422) (by decide +kernel)⟩
theorem lw_p23 : lw_okq (⟨"CausalStoreModel", "see", "(II)V"⟩, 19) := ⟨⟨by decide +kernel, by decide +kernel⟩, List.mem_of_getElem? (i := 342) (by decide +kernel), List.mem_of_getElem? (i := 425) (by decide +kernel), List.mem_of_getElem? (i := 426) (by decide +kernel)⟩
theorem lw_p24 : lw_okq (⟨"CausalStoreModel", "greater", "(II)I"⟩, 19) := ⟨⟨by decide +kernel, by decide +kernel⟩, List.mem_of_getElem? (i := 342) (by decide +kernel), List.mem_of_getElem? (i := 429) (by decide +kernel), List.mem_of_getElem? (i := 430) (by decide +kernel)⟩
theorem lw_p25 : lw_okq (⟨"CausalStoreModel", "latestOf", "(II)I"⟩, 19) := ⟨⟨by decide +kernel, by decide +kernel⟩, List.mem_of_getElem? (i := 342) (by decide +kernel), List.mem_of_getElem? (i := 437) (by decide +kernel), List.mem_of_getElem? (i := 438) (by decide +kernel)⟩
theorem lw_p26 : lw_okq (⟨"CausalStoreModel", "second", "(I)V"⟩, 19) := ⟨⟨by decide +kernel, by decide +kernel⟩, List.mem_of_getElem? (i := 342) (by decide +kernel), List.mem_of_getElem? (i := 452) (by decide +kernel), List.mem_of_getElem? (i := 453) (by decide +kernel)⟩
theorem lw_p27 : lw_okq (⟨"CausalStoreModel", "due", "(II)I"⟩, 19) := ⟨⟨by decide +kernel, by decide +kernel⟩, List.mem_of_getElem? (i := 342) (by decide +kernel), List.mem_of_getElem? (i := 456) (by decide +kernel), List.mem_of_getElem? (i := 457) (by decide +kernel)⟩
theorem lw_p28 : lw_okq (⟨"CausalStoreModel", "finish", "(I)V"⟩, 19) := ⟨⟨by decide +kernel, by decide +kernel⟩, List.mem_of_getElem? (i := 342) (by decide +kernel), List.mem_of_getElem? (i := 460) (by decide +kernel), List.mem_of_getElem? (i := 461) (by decide +kernel)⟩
theorem lw_p29 : lw_okq (⟨"CausalStoreModel", "link", "(II)Z"⟩, 19) := ⟨⟨by decide +kernel, by decide +kernel⟩, List.mem_of_getElem? (i := 342) (by decide +kernel), List.mem_of_getElem? (i := 479) (by decide +kernel), List.mem_of_getElem? (i := 480) (by decide +kernel)⟩
theorem lw_p30 : lw_okq (⟨"CausalStoreModel", "missing", "(II)I"⟩, 19) := ⟨⟨by decide +kernel, by decide +kernel⟩, List.mem_of_getElem? (i := 342) (by decide +kernel), List.mem_of_getElem? (i := 487) (by decide +kernel), List.mem_of_getElem? (i := 488) (by decide +kernel)⟩
def lw_privs_2 : List (MethodName × Nat) := [(⟨"CausalStore", "seeFetched", "(LCausalStore$Client;)V"⟩, 5), (⟨"CausalStore$Row", "at", "(I)I"⟩, 2), (⟨"CausalStore$Row", "removeAt", "(I)V"⟩, 2), (⟨"CausalStore", "missingNeeds", "(II)I"⟩, 5), (⟨"CausalStoreModel", "open", "(I)Z"⟩, 19), (⟨"CausalStoreModel", "near", "(I)I"⟩, 19), (⟨"CausalStoreModel", "send", "(III)V"⟩, 19), (⟨"CausalStoreModel", "see", "(II)V"⟩, 19), (⟨"CausalStoreModel", "greater", "(II)I"⟩, 19), (⟨"CausalStoreModel", "latestOf", "(II)I"⟩, 19), (⟨"CausalStoreModel", "second", "(I)V"⟩, 19), (⟨"CausalStoreModel", "due", "(II)I"⟩, 19), (⟨"CausalStoreModel", "finish", "(I)V"⟩, 19), (⟨"CausalStoreModel", "link", "(II)Z"⟩, 19), (⟨"CausalStoreModel", "missing", "(II)I"⟩, 19)]
theorem lw_r2 : ∀ q ∈ lw_privs_2, lw_okq q := List.forall_mem_cons.mpr ⟨lw_p16, List.forall_mem_cons.mpr ⟨lw_p17, List.forall_mem_cons.mpr ⟨lw_p18, List.forall_mem_cons.mpr ⟨lw_p19, List.forall_mem_cons.mpr ⟨lw_p20, List.forall_mem_cons.mpr ⟨lw_p21, List.forall_mem_cons.mpr ⟨lw_p22, List.forall_mem_cons.mpr ⟨lw_p23, List.forall_mem_cons.mpr ⟨lw_p24, List.forall_mem_cons.mpr ⟨lw_p25, List.forall_mem_cons.mpr ⟨lw_p26, List.forall_mem_cons.mpr ⟨lw_p27, List.forall_mem_cons.mpr ⟨lw_p28, List.forall_mem_cons.mpr ⟨lw_p29, List.forall_mem_cons.mpr ⟨lw_p30, fun _ h => absurd h List.not_mem_nil⟩⟩⟩⟩⟩⟩⟩⟩⟩⟩⟩⟩⟩⟩⟩
def lw_privs : List (MethodName × Nat) := lw_privs_1 ++ (lw_privs_2)
def lw_tbl : List Cond := k2_sels lw_privs ++ tables_1
theorem lw_privs_ok : ∀ q ∈ lw_privs, lw_okq q := by
  show ∀ q ∈ lw_privs_1 ++ (lw_privs_2), lw_okq q
  exact List.forall_mem_append.mpr ⟨lw_r1, lw_r2⟩
end
section
/-! Names: classes, their fields, methods, code. -/
def RS : String := "CausalStore"
def TS : u_T := fun k => match k with
  | 0 => ("CausalStore", "writes", "[LCausalStore$Write;", true)
  | 1 => ("CausalStore", "centers", "[LCausalStore$Center;", true)
  | 2 => ("CausalStore", "clients", "[LCausalStore$Client;", true)
  | 3 => ("CausalStore", "flights", "[LCausalStore$Row;", true)
  | _ => ("CausalStore", "made", "I", false)
def tyS : Nat → FieldType := fun k => match k with
  | 0 => .array (.object "CausalStore$Write")
  | 1 => .array (.object "CausalStore$Center")
  | 2 => .array (.object "CausalStore$Client")
  | 3 => .array (.object "CausalStore$Row")
  | _ => .int
abbrev wsS0 : List Cond := u_ws RS TS 5
theorem nmS : ∀ a, a < 5 → ∀ b, b < 5 → a ≠ b → (TS a).2.1 ≠ (TS b).2.1 := by decide +kernel
theorem tyS_ok : ∀ k, k < 5 → parseFieldDescriptor (TS k).2.2.1 = some (tyS k) := by decide +kernel
theorem inS : ∀ w ∈ wsS0, w ∈ tables_1 := by decide +kernel
def RW : String := "CausalStore$Write"
def TW : u_T := fun k => match k with
  | 0 => ("CausalStore$Write", "depends", "[I", true)
  | 1 => ("CausalStore$Write", "key", "I", false)
  | 2 => ("CausalStore$Write", "value", "I", false)
  | 3 => ("CausalStore$Write", "time", "I", false)
  | 4 => ("CausalStore$Write", "version", "I", false)
  | _ => ("CausalStore$Write", "needs", "I", false)
def tyW : Nat → FieldType := fun k => match k with
  | 0 => .array .int
  | 1 => .int
  | 2 => .int
  | 3 => .int
  | 4 => .int
  | _ => .int
abbrev wsW0 : List Cond := u_ws RW TW 6
theorem nmW : ∀ a, a < 6 → ∀ b, b < 6 → a ≠ b → (TW a).2.1 ≠ (TW b).2.1 := by decide +kernel
theorem tyW_ok : ∀ k, k < 6 → parseFieldDescriptor (TW k).2.2.1 = some (tyW k) := by decide +kernel
theorem inW : ∀ w ∈ wsW0, w ∈ tables_1 := by decide +kernel
def RC : String := "CausalStore$Center"
def TC : u_T := fun k => match k with
  | 0 => ("CausalStore$Center", "shows", "[Z", true)
  | 1 => ("CausalStore$Center", "newest", "[I", true)
  | 2 => ("CausalStore$Center", "clocks", "[I", true)
  | _ => ("CausalStore$Center", "waiting", "[LCausalStore$Row;", true)
def tyC : Nat → FieldType := fun k => match k with
  | 0 => .array .boolean
  | 1 => .array .int
  | 2 => .array .int
  | _ => .array (.object "CausalStore$Row")
abbrev wsC0 : List Cond := u_ws RC TC 4
theorem nmC : ∀ a, a < 4 → ∀ b, b < 4 → a ≠ b → (TC a).2.1 ≠ (TC b).2.1 := by decide +kernel
theorem tyC_ok : ∀ k, k < 4 → parseFieldDescriptor (TC k).2.2.1 = some (tyC k) := by decide +kernel
theorem inC : ∀ w ∈ wsC0, w ∈ tables_1 := by decide +kernel
def RK : String := "CausalStore$Client"
def TK : u_T := fun k => match k with
  | 0 => ("CausalStore$Client", "center", "I", true)
  | 1 => ("CausalStore$Client", "depends", "[I", true)
  | 2 => ("CausalStore$Client", "fetched", "[I", true)
  | 3 => ("CausalStore$Client", "due", "[I", true)
  | 4 => ("CausalStore$Client", "set", "I", false)
  | 5 => ("CausalStore$Client", "left", "I", false)
  | _ => ("CausalStore$Client", "round", "I", false)
def tyK : Nat → FieldType := fun k => match k with
  | 0 => .int
  | 1 => .array .int
  | 2 => .array .int
  | 3 => .array .int
  | 4 => .int
  | 5 => .int
  | _ => .int
abbrev wsK0 : List Cond := u_ws RK TK 7
theorem nmK : ∀ a, a < 7 → ∀ b, b < 7 → a ≠ b → (TK a).2.1 ≠ (TK b).2.1 := by decide +kernel
theorem tyK_ok : ∀ k, k < 7 → parseFieldDescriptor (TK k).2.2.1 = some (tyK k) := by decide +kernel
theorem inK : ∀ w ∈ wsK0, w ∈ tables_1 := by decide +kernel
def RR : String := "CausalStore$Row"
def TR : u_T := fun k => match k with
  | 0 => ("CausalStore$Row", "writes", "[I", true)
  | _ => ("CausalStore$Row", "size", "I", false)
def tyR : Nat → FieldType := fun k => match k with
  | 0 => .array .int
  | _ => .int
abbrev wsR0 : List Cond := u_ws RR TR 2
theorem nmR : ∀ a, a < 2 → ∀ b, b < 2 → a ≠ b → (TR a).2.1 ≠ (TR b).2.1 := by decide +kernel
theorem tyR_ok : ∀ k, k < 2 → parseFieldDescriptor (TR k).2.2.1 = some (tyR k) := by decide +kernel
theorem inR : ∀ w ∈ wsR0, w ∈ tables_1 := by decide +kernel
def RN : String := "CausalStoreModel"
def TN : u_T := fun k => match k with
  | 0 => ("CausalStoreModel", "writes", "I", false)
  | 1 => ("CausalStoreModel", "keyOf", "[I", true)
  | 2 => ("CausalStoreModel", "valueOf", "[I", true)
  | 3 => ("CausalStoreModel", "version", "[I", true)
  | 4 => ("CausalStoreModel", "depends", "[I", true)
  | 5 => ("CausalStoreModel", "needs", "[I", true)
  | 6 => ("CausalStoreModel", "seen", "[Z", true)
  | 7 => ("CausalStoreModel", "clocks", "[I", true)
  | 8 => ("CausalStoreModel", "waiting", "[I", true)
  | 9 => ("CausalStoreModel", "row", "[I", true)
  | 10 => ("CausalStoreModel", "flying", "[I", true)
  | 11 => ("CausalStoreModel", "air", "[I", true)
  | 12 => ("CausalStoreModel", "context", "[I", true)
  | 13 => ("CausalStoreModel", "phase", "[I", true)
  | 14 => ("CausalStoreModel", "set", "[I", true)
  | 15 => ("CausalStoreModel", "round", "[I", true)
  | 16 => ("CausalStoreModel", "left", "[I", true)
  | 17 => ("CausalStoreModel", "have", "[I", true)
  | _ => ("CausalStoreModel", "owed", "[I", true)
def tyN : Nat → FieldType := fun k => match k with
  | 0 => .int
  | 1 => .array .int
  | 2 => .array .int
  | 3 => .array .int
  | 4 => .array .int
  | 5 => .array .int
  | 6 => .array .boolean
  | 7 => .array .int
  | 8 => .array .int
  | 9 => .array .int
  | 10 => .array .int
  | 11 => .array .int
  | 12 => .array .int
  | 13 => .array .int
  | 14 => .array .int
  | 15 => .array .int
  | 16 => .array .int
  | 17 => .array .int
  | _ => .array .int
abbrev wsN0 : List Cond := u_ws RN TN 19
theorem nmN : ∀ a, a < 19 → ∀ b, b < 19 → a ≠ b → (TN a).2.1 ≠ (TN b).2.1 := by decide +kernel
theorem tyN_ok : ∀ k, k < 19 → parseFieldDescriptor (TN k).2.2.1 = some (tyN k) := by decide +kernel
theorem inN : ∀ w ∈ wsN0, w ∈ tables_1 := by decide +kernel
def RL : String := "CausalStoreLaw"
def RJI : String := "java/lang/Integer"
def RJA : String := "java/util/Arrays"
abbrev cS_init : ByteArray := prog_1_method_1_code
def yS_init : MethodName := ⟨RS, "<init>", "()V"⟩
-- .code yS_init cS_init 2 none
abbrev cW_init : ByteArray := prog_5_method_1_code
def yW_init : MethodName := ⟨RW, "<init>", "()V"⟩
-- .code yW_init cW_init 1 none
abbrev cS_noWrites : ByteArray := prog_1_method_39_code
def yS_noWrites : MethodName := ⟨RS, "noWrites", "()[I"⟩
-- .code yS_noWrites cS_noWrites 1 (some (.array .int))
abbrev cJA_fill : ByteArray := prog_11_method_103_code
def yJA_fill : MethodName := ⟨RJA, "fill", "([II)V"⟩
-- .code yJA_fill cJA_fill 4 none
abbrev cC_init : ByteArray := prog_2_method_1_code
def yC_init : MethodName := ⟨RC, "<init>", "()V"⟩
-- .code yC_init cC_init 2 none
abbrev cR_init : ByteArray := prog_4_method_1_code
def yR_init : MethodName := ⟨RR, "<init>", "()V"⟩
-- .code yR_init cR_init 1 none
abbrev cK_init : ByteArray := prog_3_method_1_code
def yK_init : MethodName := ⟨RK, "<init>", "(I)V"⟩
-- .code yK_init cK_init 2 none
abbrev cS_put : ByteArray := prog_1_method_2_code
def yS_put : MethodName := ⟨RS, "put", "(III)I"⟩
-- .code yS_put cS_put 7 (some .int)
abbrev cS_isClient : ByteArray := prog_1_method_21_code
def yS_isClient : MethodName := ⟨RS, "isClient", "(I)Z"⟩
-- .code yS_isClient cS_isClient 1 (some .boolean)
abbrev cS_isKey : ByteArray := prog_1_method_22_code
def yS_isKey : MethodName := ⟨RS, "isKey", "(I)Z"⟩
-- .code yS_isKey cS_isKey 1 (some .boolean)
abbrev cK_isOpen : ByteArray := prog_3_method_2_code
def yK_isOpen : MethodName := ⟨RK, "isOpen", "()Z"⟩
-- .code yK_isOpen cK_isOpen 1 (some .boolean)
abbrev cS_tick : ByteArray := prog_1_method_27_code
def yS_tick : MethodName := ⟨RS, "tick", "(LCausalStore$Client;I)I"⟩
-- .code yS_tick cS_tick 7 (some .int)
abbrev cS_isWrite : ByteArray := prog_1_method_25_code
def yS_isWrite : MethodName := ⟨RS, "isWrite", "(I)Z"⟩
-- .code yS_isWrite cS_isWrite 2 (some .boolean)
abbrev cW_fill : ByteArray := prog_5_method_2_code
def yW_fill : MethodName := ⟨RW, "fill", "(IIII)V"⟩
-- .code yW_fill cW_fill 5 none
abbrev cS_nearestKeys : ByteArray := prog_1_method_32_code
def yS_nearestKeys : MethodName := ⟨RS, "nearestKeys", "([I)I"⟩
-- .code yS_nearestKeys cS_nearestKeys 4 (some .int)
abbrev cS_isCovered : ByteArray := prog_1_method_33_code
def yS_isCovered : MethodName := ⟨RS, "isCovered", "([II)Z"⟩
-- .code yS_isCovered cS_isCovered 5 (some .boolean)
abbrev cW_dependOn : ByteArray := prog_5_method_3_code
def yW_dependOn : MethodName := ⟨RW, "dependOn", "([II)V"⟩
-- .code yW_dependOn cW_dependOn 3 none
abbrev cS_show : ByteArray := prog_1_method_28_code
def yS_show : MethodName := ⟨RS, "show", "(II)V"⟩
-- .code yS_show cS_show 5 none
abbrev cS_greater : ByteArray := prog_1_method_31_code
def yS_greater : MethodName := ⟨RS, "greater", "(II)I"⟩
-- .code yS_greater cS_greater 3 (some .int)
abbrev cS_send : ByteArray := prog_1_method_29_code
def yS_send : MethodName := ⟨RS, "send", "(II)V"⟩
-- .code yS_send cS_send 4 none
abbrev cR_append : ByteArray := prog_4_method_3_code
def yR_append : MethodName := ⟨RR, "append", "(I)V"⟩
-- .code yR_append cR_append 2 none
abbrev cS_see : ByteArray := prog_1_method_30_code
def yS_see : MethodName := ⟨RS, "see", "(LCausalStore$Client;I)V"⟩
-- .code yS_see cS_see 5 none
abbrev cS_get : ByteArray := prog_1_method_3_code
def yS_get : MethodName := ⟨RS, "get", "(II)I"⟩
-- .code yS_get cS_get 5 (some .int)
abbrev cS_begin : ByteArray := prog_1_method_4_code
def yS_begin : MethodName := ⟨RS, "begin", "(II)Z"⟩
-- .code yS_begin cS_begin 3 (some .boolean)
abbrev cK_open : ByteArray := prog_3_method_3_code
def yK_open : MethodName := ⟨RK, "open", "(I)V"⟩
-- .code yK_open cK_open 2 none
abbrev cS_read : ByteArray := prog_1_method_5_code
def yS_read : MethodName := ⟨RS, "read", "(I)I"⟩
-- .code yS_read cS_read 3 (some .int)
abbrev cS_readLowestKey : ByteArray := prog_1_method_35_code
def yS_readLowestKey : MethodName := ⟨RS, "readLowestKey", "(LCausalStore$Client;)V"⟩
-- .code yS_readLowestKey cS_readLowestKey 4 none
abbrev cS_hasKey : ByteArray := prog_1_method_26_code
def yS_hasKey : MethodName := ⟨RS, "hasKey", "(II)Z"⟩
-- .code yS_hasKey cS_hasKey 2 (some .boolean)
abbrev cS_prepareSecondRound : ByteArray := prog_1_method_36_code
def yS_prepareSecondRound : MethodName := ⟨RS, "prepareSecondRound", "(LCausalStore$Client;)V"⟩
-- .code yS_prepareSecondRound cS_prepareSecondRound 3 none
abbrev cS_dueWrite : ByteArray := prog_1_method_37_code
def yS_dueWrite : MethodName := ⟨RS, "dueWrite", "([II)I"⟩
-- .code yS_dueWrite cS_dueWrite 5 (some .int)
abbrev cS_seeFetched : ByteArray := prog_1_method_38_code
def yS_seeFetched : MethodName := ⟨RS, "seeFetched", "(LCausalStore$Client;)V"⟩
-- .code yS_seeFetched cS_seeFetched 3 none
abbrev cJI_bitCount : ByteArray := prog_8_method_49_code
def yJI_bitCount : MethodName := ⟨RJI, "bitCount", "(I)I"⟩
-- .code yJI_bitCount cJI_bitCount 1 (some .int)
abbrev cS_got : ByteArray := prog_1_method_6_code
def yS_got : MethodName := ⟨RS, "got", "(II)I"⟩
-- .code yS_got cS_got 3 (some .int)
abbrev cS_rounds : ByteArray := prog_1_method_7_code
def yS_rounds : MethodName := ⟨RS, "rounds", "(I)I"⟩
-- .code yS_rounds cS_rounds 2 (some .int)
abbrev cS_deliver : ByteArray := prog_1_method_8_code
def yS_deliver : MethodName := ⟨RS, "deliver", "(III)Z"⟩
-- .code yS_deliver cS_deliver 7 (some .boolean)
abbrev cS_sent : ByteArray := prog_1_method_11_code
def yS_sent : MethodName := ⟨RS, "sent", "(III)I"⟩
-- .code yS_sent cS_sent 4 (some .int)
abbrev cS_isCenter : ByteArray := prog_1_method_23_code
def yS_isCenter : MethodName := ⟨RS, "isCenter", "(I)Z"⟩
-- .code yS_isCenter cS_isCenter 1 (some .boolean)
abbrev cR_at : ByteArray := prog_4_method_2_code
def yR_at : MethodName := ⟨RR, "at", "(I)I"⟩
-- .code yR_at cR_at 2 (some .int)
abbrev cR_removeAt : ByteArray := prog_4_method_4_code
def yR_removeAt : MethodName := ⟨RR, "removeAt", "(I)V"⟩
-- .code yR_removeAt cR_removeAt 2 none
abbrev cS_serve : ByteArray := prog_1_method_9_code
def yS_serve : MethodName := ⟨RS, "serve", "(II)I"⟩
-- .code yS_serve cS_serve 9 (some .int)
abbrev cS_isPartition : ByteArray := prog_1_method_24_code
def yS_isPartition : MethodName := ⟨RS, "isPartition", "(I)Z"⟩
-- .code yS_isPartition cS_isPartition 1 (some .boolean)
abbrev cS_missingNeeds : ByteArray := prog_1_method_34_code
def yS_missingNeeds : MethodName := ⟨RS, "missingNeeds", "(II)I"⟩
-- .code yS_missingNeeds cS_missingNeeds 5 (some .int)
abbrev cS_visible : ByteArray := prog_1_method_15_code
def yS_visible : MethodName := ⟨RS, "visible", "(II)Z"⟩
-- .code yS_visible cS_visible 3 (some .boolean)
abbrev cS_flight : ByteArray := prog_1_method_10_code
def yS_flight : MethodName := ⟨RS, "flight", "(II)I"⟩
-- .code yS_flight cS_flight 3 (some .int)
abbrev cS_pending : ByteArray := prog_1_method_12_code
def yS_pending : MethodName := ⟨RS, "pending", "(II)I"⟩
-- .code yS_pending cS_pending 3 (some .int)
abbrev cS_lacks : ByteArray := prog_1_method_13_code
def yS_lacks : MethodName := ⟨RS, "lacks", "(III)I"⟩
-- .code yS_lacks cS_lacks 5 (some .int)
abbrev cS_latest : ByteArray := prog_1_method_14_code
def yS_latest : MethodName := ⟨RS, "latest", "(II)I"⟩
-- .code yS_latest cS_latest 3 (some .int)
abbrev cS_clock : ByteArray := prog_1_method_16_code
def yS_clock : MethodName := ⟨RS, "clock", "(II)I"⟩
-- .code yS_clock cS_clock 3 (some .int)
abbrev cS_context : ByteArray := prog_1_method_17_code
def yS_context : MethodName := ⟨RS, "context", "(II)I"⟩
-- .code yS_context cS_context 3 (some .int)
abbrev cS_nearest : ByteArray := prog_1_method_18_code
def yS_nearest : MethodName := ⟨RS, "nearest", "(I)I"⟩
-- .code yS_nearest cS_nearest 2 (some .int)
abbrev cS_about : ByteArray := prog_1_method_19_code
def yS_about : MethodName := ⟨RS, "about", "(II)I"⟩
-- .code yS_about cS_about 3 (some .int)
abbrev cS_dependency : ByteArray := prog_1_method_20_code
def yS_dependency : MethodName := ⟨RS, "dependency", "(II)I"⟩
-- .code yS_dependency cS_dependency 3 (some .int)
abbrev cN_init : ByteArray := prog_7_method_1_code
def yN_init : MethodName := ⟨RN, "<init>", "()V"⟩
-- .code yN_init cN_init 1 none
abbrev cN_put : ByteArray := prog_7_method_11_code
def yN_put : MethodName := ⟨RN, "put", "(III)I"⟩
-- .code yN_put cN_put 9 (some .int)
abbrev cN_out : ByteArray := prog_7_method_2_code
def yN_out : MethodName := ⟨RN, "out", "(II)Z"⟩
-- .code yN_out cN_out 2 (some .boolean)
abbrev cN_open : ByteArray := prog_7_method_5_code
def yN_open : MethodName := ⟨RN, "open", "(I)Z"⟩
-- .code yN_open cN_open 2 (some .boolean)
abbrev cN_near : ByteArray := prog_7_method_8_code
def yN_near : MethodName := ⟨RN, "near", "(I)I"⟩
-- .code yN_near cN_near 8 (some .int)
abbrev cN_send : ByteArray := prog_7_method_10_code
def yN_send : MethodName := ⟨RN, "send", "(III)V"⟩
-- .code yN_send cN_send 5 none
abbrev cN_see : ByteArray := prog_7_method_9_code
def yN_see : MethodName := ⟨RN, "see", "(II)V"⟩
-- .code yN_see cN_see 4 none
abbrev cN_greater : ByteArray := prog_7_method_6_code
def yN_greater : MethodName := ⟨RN, "greater", "(II)I"⟩
-- .code yN_greater cN_greater 3 (some .int)
abbrev cN_get : ByteArray := prog_7_method_12_code
def yN_get : MethodName := ⟨RN, "get", "(II)I"⟩
-- .code yN_get cN_get 4 (some .int)
abbrev cN_latestOf : ByteArray := prog_7_method_7_code
def yN_latestOf : MethodName := ⟨RN, "latestOf", "(II)I"⟩
-- .code yN_latestOf cN_latestOf 5 (some .int)
abbrev cN_begin : ByteArray := prog_7_method_13_code
def yN_begin : MethodName := ⟨RN, "begin", "(II)Z"⟩
-- .code yN_begin cN_begin 4 (some .boolean)
abbrev cN_read : ByteArray := prog_7_method_17_code
def yN_read : MethodName := ⟨RN, "read", "(I)I"⟩
-- .code yN_read cN_read 3 (some .int)
abbrev cN_lowest : ByteArray := prog_7_method_4_code
def yN_lowest : MethodName := ⟨RN, "lowest", "(I)I"⟩
-- .code yN_lowest cN_lowest 3 (some .int)
abbrev cN_second : ByteArray := prog_7_method_16_code
def yN_second : MethodName := ⟨RN, "second", "(I)V"⟩
-- .code yN_second cN_second 5 none
abbrev cN_due : ByteArray := prog_7_method_14_code
def yN_due : MethodName := ⟨RN, "due", "(II)I"⟩
-- .code yN_due cN_due 6 (some .int)
abbrev cN_finish : ByteArray := prog_7_method_15_code
def yN_finish : MethodName := ⟨RN, "finish", "(I)V"⟩
-- .code yN_finish cN_finish 3 none
abbrev cN_count : ByteArray := prog_7_method_3_code
def yN_count : MethodName := ⟨RN, "count", "(I)I"⟩
-- .code yN_count cN_count 3 (some .int)
abbrev cN_got : ByteArray := prog_7_method_18_code
def yN_got : MethodName := ⟨RN, "got", "(II)I"⟩
-- .code yN_got cN_got 3 (some .int)
abbrev cN_rounds : ByteArray := prog_7_method_19_code
def yN_rounds : MethodName := ⟨RN, "rounds", "(I)I"⟩
-- .code yN_rounds cN_rounds 2 (some .int)
abbrev cN_deliver : ByteArray := prog_7_method_21_code
def yN_deliver : MethodName := ⟨RN, "deliver", "(III)Z"⟩
-- .code yN_deliver cN_deliver 7 (some .boolean)
abbrev cN_link : ByteArray := prog_7_method_20_code
def yN_link : MethodName := ⟨RN, "link", "(II)Z"⟩
-- .code yN_link cN_link 3 (some .boolean)
abbrev cN_serve : ByteArray := prog_7_method_23_code
def yN_serve : MethodName := ⟨RN, "serve", "(II)I"⟩
-- .code yN_serve cN_serve 8 (some .int)
abbrev cN_missing : ByteArray := prog_7_method_22_code
def yN_missing : MethodName := ⟨RN, "missing", "(II)I"⟩
-- .code yN_missing cN_missing 6 (some .int)
abbrev cN_flight : ByteArray := prog_7_method_24_code
def yN_flight : MethodName := ⟨RN, "flight", "(II)I"⟩
-- .code yN_flight cN_flight 3 (some .int)
abbrev cN_sent : ByteArray := prog_7_method_25_code
def yN_sent : MethodName := ⟨RN, "sent", "(III)I"⟩
-- .code yN_sent cN_sent 4 (some .int)
abbrev cN_pending : ByteArray := prog_7_method_26_code
def yN_pending : MethodName := ⟨RN, "pending", "(II)I"⟩
-- .code yN_pending cN_pending 3 (some .int)
abbrev cN_lacks : ByteArray := prog_7_method_27_code
def yN_lacks : MethodName := ⟨RN, "lacks", "(III)I"⟩
-- .code yN_lacks cN_lacks 5 (some .int)
abbrev cN_latest : ByteArray := prog_7_method_28_code
def yN_latest : MethodName := ⟨RN, "latest", "(II)I"⟩
-- .code yN_latest cN_latest 4 (some .int)
abbrev cN_visible : ByteArray := prog_7_method_29_code
def yN_visible : MethodName := ⟨RN, "visible", "(II)Z"⟩
-- .code yN_visible cN_visible 3 (some .boolean)
abbrev cN_clock : ByteArray := prog_7_method_30_code
def yN_clock : MethodName := ⟨RN, "clock", "(II)I"⟩
-- .code yN_clock cN_clock 3 (some .int)
abbrev cN_context : ByteArray := prog_7_method_31_code
def yN_context : MethodName := ⟨RN, "context", "(II)I"⟩
-- .code yN_context cN_context 3 (some .int)
abbrev cN_nearest : ByteArray := prog_7_method_32_code
def yN_nearest : MethodName := ⟨RN, "nearest", "(I)I"⟩
-- .code yN_nearest cN_nearest 2 (some .int)
abbrev cN_about : ByteArray := prog_7_method_33_code
def yN_about : MethodName := ⟨RN, "about", "(II)I"⟩
-- .code yN_about cN_about 3 (some .int)
abbrev cN_dependency : ByteArray := prog_7_method_34_code
def yN_dependency : MethodName := ⟨RN, "dependency", "(II)I"⟩
-- .code yN_dependency cN_dependency 3 (some .int)
abbrev cL_law : ByteArray := code
def yL_law : MethodName := ⟨RL, "law", "([I)Z"⟩
-- .code yL_law cL_law 4 (some .boolean)
abbrev vwCl : List vw_C := [(RS, TS, 5), (RW, TW, 6), (RC, TC, 4), (RK, TK, 7), (RR, TR, 2), (RN, TN, 19)]
end
section
/-! The words that all methods share: the good ones of the tables; links of nest mates; array classes. -/
def oAll : List Cond := lw_tbl.filter goodWord
theorem oGood : ∀ w ∈ oAll, (w.onTables && w.keeps) = true ∨ ∃ ty, w = .arrayClass ty := fun _ h => good_of_word (List.mem_filter.mp h).2
theorem oMem1 {i : Nat} {w : Cond} (h : tables_1_1[i]? = some w) (hg : goodWord w = true) : w ∈ oAll := List.mem_filter.mpr ⟨List.mem_append_right _ (List.mem_append_left _ (List.mem_of_getElem? h)), hg⟩
theorem oMem2 {i : Nat} {w : Cond} (h : tables_1_2[i]? = some w) (hg : goodWord w = true) : w ∈ oAll := List.mem_filter.mpr ⟨List.mem_append_right _ (List.mem_append_right _ (List.mem_append_left _ (List.mem_of_getElem? h))), hg⟩
theorem oMem3 {i : Nat} {w : Cond} (h : tables_1_3[i]? = some w) (hg : goodWord w = true) : w ∈ oAll := List.mem_filter.mpr ⟨List.mem_append_right _ (List.mem_append_right _ (List.mem_append_right _ (List.mem_of_getElem? h))), hg⟩
theorem oMemS {i : Nat} {w : Cond} (h : (k2_sels lw_privs)[i]? = some w) (hg : goodWord w = true) : w ∈ oAll := List.mem_filter.mpr ⟨List.mem_append_left _ (List.mem_of_getElem? h), hg⟩
def oNwF : List (String × Nat × String × String × String × String) := [("CausalStore", 178, "CausalStore$Write", "depends", "[I", "CausalStore"), ("CausalStore", 129, "CausalStore$Write", "key", "I", "CausalStore"), ("CausalStore", 172, "CausalStore$Write", "value", "I", "CausalStore"), ("CausalStore", 135, "CausalStore$Write", "time", "I", "CausalStore"), ("CausalStore", 169, "CausalStore$Write", "version", "I", "CausalStore"), ("CausalStore", 175, "CausalStore$Write", "needs", "I", "CausalStore"), ("CausalStore", 156, "CausalStore$Row", "size", "I", "CausalStore"), ("CausalStore", 165, "CausalStore$Center", "shows", "[Z", "CausalStore"), ("CausalStore", 88, "CausalStore$Center", "newest", "[I", "CausalStore"), ("CausalStore", 132, "CausalStore$Center", "clocks", "[I", "CausalStore"), ("CausalStore", 144, "CausalStore$Center", "waiting", "[LCausalStore$Row;", "CausalStore"), ("CausalStore", 58, "CausalStore$Client", "center", "I", "CausalStore"), ("CausalStore", 65, "CausalStore$Client", "depends", "[I", "CausalStore"), ("CausalStore", 116, "CausalStore$Client", "fetched", "[I", "CausalStore"), ("CausalStore", 193, "CausalStore$Client", "due", "[I", "CausalStore"), ("CausalStore", 200, "CausalStore$Client", "set", "I", "CausalStore"), ("CausalStore", 98, "CausalStore$Client", "left", "I", "CausalStore"), ("CausalStore", 101, "CausalStore$Client", "round", "I", "CausalStore")]
def oNwM : List (String × Nat × MethodName × String) := [("CausalStore", 33, ⟨"CausalStore$Write", "<init>", "()V"⟩, "CausalStore"), ("CausalStore$Write", 9, ⟨"CausalStore", "noWrites", "()[I"⟩, "CausalStore"), ("CausalStore", 34, ⟨"CausalStore$Center", "<init>", "()V"⟩, "CausalStore"), ("CausalStore$Center", 15, ⟨"CausalStore", "noWrites", "()[I"⟩, "CausalStore"), ("CausalStore$Center", 32, ⟨"CausalStore$Row", "<init>", "()V"⟩, "CausalStore"), ("CausalStore", 35, ⟨"CausalStore$Client", "<init>", "(I)V"⟩, "CausalStore"), ("CausalStore$Client", 9, ⟨"CausalStore", "noWrites", "()[I"⟩, "CausalStore"), ("CausalStore", 38, ⟨"CausalStore$Row", "<init>", "()V"⟩, "CausalStore"), ("CausalStore", 46, ⟨"CausalStore$Client", "isOpen", "()Z"⟩, "CausalStore"), ("CausalStore", 61, ⟨"CausalStore$Write", "fill", "(IIII)V"⟩, "CausalStore"), ("CausalStore", 73, ⟨"CausalStore$Write", "dependOn", "([II)V"⟩, "CausalStore"), ("CausalStore", 147, ⟨"CausalStore$Row", "append", "(I)V"⟩, "CausalStore"), ("CausalStore", 91, ⟨"CausalStore$Client", "open", "(I)V"⟩, "CausalStore"), ("CausalStore", 159, ⟨"CausalStore$Row", "at", "(I)I"⟩, "CausalStore"), ("CausalStore", 126, ⟨"CausalStore$Row", "removeAt", "(I)V"⟩, "CausalStore")]
def oAO : List String := ["CausalStore$Write", "CausalStore$Center", "CausalStore$Client", "CausalStore$Row"]
def oTyL : List FieldType := [.int, .boolean, .object "CausalStore$Write", .object "CausalStore$Center", .object "CausalStore$Client", .object "CausalStore$Row"]
abbrev tyInt : Nat := 0
abbrev tyBool : Nat := 1
abbrev tyWrite : Nat := 2
abbrev tyCenter : Nat := 3
abbrev tyClient : Nat := 4
abbrev tyRow : Nat := 5
abbrev ciStore : Nat := 0
abbrev ciWrite : Nat := 1
abbrev ciCenter : Nat := 2
abbrev ciClient : Nat := 3
abbrev ciRow : Nat := 4
abbrev ciModel : Nat := 5
theorem oIn_0 : ∀ w ∈ wsS0, w ∈ oAll := fun w h => List.mem_filter.mpr ⟨List.mem_append_right _ (inS w h), List.all_eq_true.mp (show (wsS0).all goodWord = true by decide +kernel) w h⟩
theorem oIn_1 : ∀ w ∈ wsW0, w ∈ oAll := fun w h => List.mem_filter.mpr ⟨List.mem_append_right _ (inW w h), List.all_eq_true.mp (show (wsW0).all goodWord = true by decide +kernel) w h⟩
theorem oIn_2 : ∀ w ∈ wsC0, w ∈ oAll := fun w h => List.mem_filter.mpr ⟨List.mem_append_right _ (inC w h), List.all_eq_true.mp (show (wsC0).all goodWord = true by decide +kernel) w h⟩
theorem oIn_3 : ∀ w ∈ wsK0, w ∈ oAll := fun w h => List.mem_filter.mpr ⟨List.mem_append_right _ (inK w h), List.all_eq_true.mp (show (wsK0).all goodWord = true by decide +kernel) w h⟩
theorem oIn_4 : ∀ w ∈ wsR0, w ∈ oAll := fun w h => List.mem_filter.mpr ⟨List.mem_append_right _ (inR w h), List.all_eq_true.mp (show (wsR0).all goodWord = true by decide +kernel) w h⟩
theorem oIn_5 : ∀ w ∈ wsN0, w ∈ oAll := fun w h => List.mem_filter.mpr ⟨List.mem_append_right _ (inN w h), List.all_eq_true.mp (show (wsN0).all goodWord = true by decide +kernel) w h⟩
theorem oIn : ∀ (ci : Nat) (q : vw_C), vwCl[ci]? = some q → ∀ w ∈ u_ws q.1 q.2.1 q.2.2, w ∈ oAll
  | 0, _, h => by
    cases h
    exact oIn_0
  | 1, _, h => by
    cases h
    exact oIn_1
  | 2, _, h => by
    cases h
    exact oIn_2
  | 3, _, h => by
    cases h
    exact oIn_3
  | 4, _, h => by
    cases h
    exact oIn_4
  | 5, _, h => by
    cases h
    exact oIn_5
  | k + 6, _, h => by simp [vwCl] at h
theorem oTyp : ∀ (ci : Nat) (q : vw_C), vwCl[ci]? = some q → ∃ ty0 : Nat → FieldType, (∀ k, k < q.2.2 → parseFieldDescriptor (q.2.1 k).2.2.1 = some (ty0 k)) ∧ ∀ a, a < q.2.2 → ∀ b, b < q.2.2 → a ≠ b → (q.2.1 a).2.1 ≠ (q.2.1 b).2.1
  | 0, _, h => by
    cases h
    exact ⟨tyS, tyS_ok, nmS⟩
  | 1, _, h => by
    cases h
    exact ⟨tyW, tyW_ok, nmW⟩
  | 2, _, h => by
    cases h
    exact ⟨tyC, tyC_ok, nmC⟩
  | 3, _, h => by
    cases h
    exact ⟨tyK, tyK_ok, nmK⟩
  | 4, _, h => by
    cases h
    exact ⟨tyR, tyR_ok, nmR⟩
  | 5, _, h => by
    cases h
    exact ⟨tyN, tyN_ok, nmN⟩
  | k + 6, _, h => by simp [vwCl] at h
end
section
/-! The reading machine. Ok G M pc lv st H b Q: wherever method M stands at pc with locals lv, stack st, abstract heap H and room b left, it ends, and its answer and heap have Q. Reference 0 is the script, reference k + 1 the k-th cell that we made. -/
abbrev oU : Type := Int32 ⊕ Option Nat
abbrev oC : Type := (Nat × Nat × (Nat → Int32)) ⊕ (Nat × Nat × (Nat → Option Nat)) ⊕ (Nat × List oU)
abbrev oH : Type := Nat × (Nat → Option oC)
abbrev oG : Type := Launch × va_G × List (ClassId × FieldType) × Nat × Nat × Nat × (Nat → Int32)
abbrev oM : Type := MethodName × ByteArray × Nat × Option FieldType × Nat × Nat
abbrev oL : Type := List (Nat × oU)
abbrev oP : Type := Option oU → oH → Prop
abbrev oLa (G : oG) : Launch := G.1
abbrev oD (G : oG) : va_G := G.2.1
abbrev oT (G : oG) : List (ClassId × FieldType) := G.2.2.1
abbrev oB (G : oG) : Nat := G.2.2.2.1
abbrev oS (G : oG) : Nat := G.2.2.2.2.1
abbrev oN (G : oG) : Nat := G.2.2.2.2.2.1
abbrev oX (G : oG) : Nat → Int32 := G.2.2.2.2.2.2
def oAd (G : oG) (r : Nat) : Nat := match r with
  | 0 => oS G
  | k + 1 => oB G + k
def oV (G : oG) (v : oU) : Value := match v with
  | .inl x => .int x
  | .inr none => .null
  | .inr (some r) => .ref (oAd G r)
def oE (G : oG) (c : oC) : va_E := match c with
  | .inl a => .inl (((oT G).getD a.1 (0, .int)).1, a.2.1, .inl a.2.2)
  | .inr (.inl a) => .inl (((oT G).getD a.1 (0, .int)).1, a.2.1, .inr (.inr (.inr (.inr fun k => (a.2.2 k).map (oAd G)))))
  | .inr (.inr a) => .inr (a.1, a.2.map (oV G))
def oW (G : oG) (H : oH) (hp : Heap) : Prop := hp.size = oB G + H.1 ∧ ∀ (r : Nat) (c : oC), H.2 r = some c → (∃ k, r = k + 1 ∧ k < H.1) ∧ va_at (oD G) vwCl (oAd G r, oE G c) hp
def oA (G : oG) : Nat → Prop := fun q => oB G ≤ q
def oNs (s : State) : Prop := (∀ q ∈ oNwF, va_Nw (.fieldLinkNest q.1 q.2.1 q.2.2.1 q.2.2.2.1 q.2.2.2.2.1 q.2.2.2.2.2) s) ∧ (∀ q ∈ oNwM, va_Nw (.methodLinkNest q.1 q.2.1 q.2.2.1 q.2.2.2) s) ∧ ∀ C ∈ oAO, va_AO C s
def oSt (G : oG) (H : oH) (U : State) : Prop := va_K (oD G) vwCl (oT G) U ∧ oNs U ∧ (oT G).map (fun q => q.2) = oTyL ∧ va_X (oS G) (oN G) (oX G) U U.heap ∧ oS G < oB G ∧ oB G ≤ U.heap.size ∧ oW G H U.heap
def oQ (G : oG) (Q : oP) : Array Value → State → Outcome → State → Prop := fun _ st oc t => (∃ (r : Option oU) (H' : oH), oc = .returned (r.map (oV G)) ∧ Q r H' ∧ oW G H' t.heap) ∧ va_F (oA G) st t
abbrev oCd (M : oM) : ByteArray := M.2.1
abbrev oMx (M : oM) : Nat := M.2.2.1
abbrev oRt (M : oM) : Option FieldType := M.2.2.2.1
abbrev oFr (M : oM) : Nat := M.2.2.2.2.1
abbrev oWd (M : oM) : Nat := M.2.2.2.2.2
def oCx (G : oG) (M : oM) (p : Program) (R : Room) (s : State) (mid : MethodId) (args : Array Value) (meth : Method) (c : Code) : Prop :=
  p.tables.exec = Jvm.exec ∧ c.code = oCd M ∧ c.maxLocals = oMx M ∧ meth.sig.returnType = oRt M ∧ meth.locks = false ∧ meth.name = M.1.name ∧ s.vm.findClass M.1.cls = some mid.cls ∧
  (∀ w ∈ oAll, w.before args s = true) ∧ va_K (oD G) vwCl (oT G) s ∧ oNs s ∧ (oT G).map (fun q => q.2) = oTyL ∧ va_X (oS G) (oN G) (oX G) s s.heap ∧ oS G < oB G ∧ oB G ≤ s.heap.size ∧ oFr M ≤ R.frames ∧ oWd M ≤ R.locals
def oDy (G : oG) (M : oM) (lv : oL) (H : oH) (b : Nat × Nat) (R : Room) (s : State) (hp : Heap) (locs : List Loc) (cells slots mc ms : Nat) (ls : Array Slot) : Prop :=
  lv_has ls (oMx M) (lv.map fun q => (q.1, oV G q.2)) ∧ oW G H hp ∧ va_S (oA G) s.heap hp locs ∧ cells + b.1 = mc ∧ slots + b.2 = ms ∧ mc ≤ R.cells ∧ ms ≤ R.slots
def Ok (G : oG) (M : oM) (pc : Nat) (lv : oL) (st : List oU) (H : oH) (b : Nat × Nat) (Q : oP) : Prop :=
  ∀ (p : Program) (e : Env) (R : Room) (s : State) (mid : MethodId) (args : Array Value) (below : List Frame) (meth : Method) (c : Code) (hp : Heap) (locs : List Loc) (cells slots mc ms : Nat) (ls : Array Slot),
    oCx G M p R s mid args meth c → oDy G M lv H b R s hp locs cells slots mc ms ls →
    W p (oLa G) e R s mid args below meth c hp locs cells slots (MQ below (oQ G Q) args s mc ms (oA G)) (F0 mid pc ls (st.map (oV G)))
def oGet : oL → Nat → Option oU
  | [], _ => none
  | q :: l, i => bif Nat.beq q.1 i then some q.2 else oGet l i
def oSet : oL → Nat → oU → oL
  | [], i, v => [(i, v)]
  | q :: l, i, v => bif Nat.beq q.1 i then (i, v) :: l.filter (fun q => !(Nat.beq q.1 i)) else q :: oSet l i v
def oUp (H : oH) (r : Nat) (c : oC) : oH := (H.1, va_up H.2 r (some c))
def oNw (H : oH) (c : oC) : oH := (H.1 + 1, va_up H.2 (H.1 + 1) (some c))
theorem oGet_mem : ∀ (l : oL) (i : Nat) (v : oU), oGet l i = some v → (i, v) ∈ l
  | [], _, _, h => by cases h
  | q :: l, i, v, h => by
    cases hb : Nat.beq q.1 i with
    | true =>
      simp only [oGet, hb, cond_true, Option.some.injEq] at h
      have e := Nat.eq_of_beq_eq_true hb
      subst h; subst e
      exact List.mem_cons_self
    | false =>
      simp only [oGet, hb, cond_false] at h
      exact List.mem_cons_of_mem _ (oGet_mem l i v h)
theorem oSet_mem : ∀ (l : oL) (i : Nat) (v : oU) (q : Nat × oU), q ∈ oSet l i v → q = (i, v) ∨ (q ∈ l ∧ ¬ q.1 = i)
  | [], i, v, q, h => Or.inl (List.mem_singleton.mp h)
  | a :: l, i, v, q, h => by
    cases hb : Nat.beq a.1 i with
    | true =>
      simp only [oSet, hb, cond_true] at h
      rcases List.mem_cons.mp h with h | h
      · exact Or.inl h
      · have h2 := List.mem_filter.mp h
        refine Or.inr ⟨List.mem_cons_of_mem _ h2.1, fun e => ?_⟩
        have h3 := h2.2
        rw [e] at h3
        simp at h3
    | false =>
      simp only [oSet, hb, cond_false] at h
      rcases List.mem_cons.mp h with h | h
      · refine Or.inr ⟨by rw [h]; exact List.mem_cons_self, fun e => ?_⟩
        rw [h] at e
        rw [e] at hb
        simp at hb
      · rcases oSet_mem l i v q h with h | ⟨h1, h2⟩
        · exact Or.inl h
        · exact Or.inr ⟨List.mem_cons_of_mem _ h1, h2⟩
theorem oV_cat (G : oG) (v : oU) : (oV G v).category = 1 := by
  obtain x | (_ | r) := v <;> rfl
theorem oSum (G : oG) : ∀ st : List oU, ((st.map (oV G)).map fun v => v.category).sum = st.length
  | [] => rfl
  | v :: st => by
    rw [List.map_cons, List.map_cons, List.sum_cons, oSum G st, oV_cat, List.length_cons]
    omega
theorem oHas_at {G : oG} {ls : Array Slot} {n : Nat} {lv : oL} (h : lv_has ls n (lv.map fun q => (q.1, oV G q.2))) {i : Nat} {v : oU} (hg : oGet lv i = some v) : ls[i]? = some (.val (oV G v)) :=
  h.2.2 (i, oV G v) (List.mem_map.mpr ⟨(i, v), oGet_mem lv i v hg, rfl⟩)
theorem oHas_set {G : oG} {ls : Array Slot} {n : Nat} {lv lv' : oL} {i : Nat} {v : oU} (hl : oSet lv i v = lv') (h : lv_has ls n ((i, oV G v) :: (lv.map fun q => (q.1, oV G q.2)).filter (fun q => !(q.1 == i) && !(q.1 + 1 == i && q.2.category == 2)))) : lv_has ls n (lv'.map fun q => (q.1, oV G q.2)) := by
  subst hl
  refine ⟨h.1, h.2.1, fun q hq => ?_⟩
  obtain ⟨a, ha, rfl⟩ := List.mem_map.mp hq
  rcases oSet_mem lv i v a ha with rfl | ⟨h1, h2⟩
  · exact h.2.2 _ List.mem_cons_self
  · refine h.2.2 _ (List.mem_cons_of_mem _ (List.mem_filter.mpr ⟨List.mem_map.mpr ⟨a, h1, rfl⟩, ?_⟩))
    have h3 : ((oV G a.2).category == 2) = false := by rw [oV_cat]; rfl
    simp [h2, h3]
theorem oHas_sub {G : oG} {ls : Array Slot} {n : Nat} {lv lv' : oL} (ks : List Nat) (hl : ks.filterMap (fun k => lv[k]?) = lv') (h : lv_has ls n (lv.map fun q => (q.1, oV G q.2))) : lv_has ls n (lv'.map fun q => (q.1, oV G q.2)) := by
  subst hl
  refine ⟨h.1, h.2.1, fun q hq => ?_⟩
  obtain ⟨a, ha, rfl⟩ := List.mem_map.mp hq
  obtain ⟨k, -, hk⟩ := List.mem_filterMap.mp ha
  exact h.2.2 _ (List.mem_map.mpr ⟨a, List.mem_of_getElem? hk, rfl⟩)
section MA
variable {G : oG} {M : oM} {pc : Nat} {lv : oL} {st : List oU} {H : oH} {b : Nat × Nat} {Q : oP}
theorem o_iadd {x y : Int32} (hd : decode (oCd M) pc = .ok (.iadd, 1)) (k : Ok G M (pc + 1) lv (.inl (x + y) :: st) H b Q) : Ok G M pc lv (.inl y :: .inl x :: st) H b Q :=
  fun p e R s mid args below meth c hp locs cells slots mc ms ls X Y => lv_iadd X.1 X.2.1 hd (k p e R s mid args below meth c hp locs cells slots mc ms ls X Y)
theorem o_isub {x y : Int32} (hd : decode (oCd M) pc = .ok (.isub, 1)) (k : Ok G M (pc + 1) lv (.inl (x - y) :: st) H b Q) : Ok G M pc lv (.inl y :: .inl x :: st) H b Q :=
  fun p e R s mid args below meth c hp locs cells slots mc ms ls X Y => lv_isub X.1 X.2.1 hd (k p e R s mid args below meth c hp locs cells slots mc ms ls X Y)
theorem o_imul {x y : Int32} (hd : decode (oCd M) pc = .ok (.imul, 1)) (k : Ok G M (pc + 1) lv (.inl (x * y) :: st) H b Q) : Ok G M pc lv (.inl y :: .inl x :: st) H b Q :=
  fun p e R s mid args below meth c hp locs cells slots mc ms ls X Y => lv_imul X.1 X.2.1 hd (k p e R s mid args below meth c hp locs cells slots mc ms ls X Y)
theorem o_iand {x y : Int32} (hd : decode (oCd M) pc = .ok (.iand, 1)) (k : Ok G M (pc + 1) lv (.inl (x &&& y) :: st) H b Q) : Ok G M pc lv (.inl y :: .inl x :: st) H b Q :=
  fun p e R s mid args below meth c hp locs cells slots mc ms ls X Y => lv_iand X.1 X.2.1 hd (k p e R s mid args below meth c hp locs cells slots mc ms ls X Y)
theorem o_ior {x y : Int32} (hd : decode (oCd M) pc = .ok (.ior, 1)) (k : Ok G M (pc + 1) lv (.inl (x ||| y) :: st) H b Q) : Ok G M pc lv (.inl y :: .inl x :: st) H b Q :=
  fun p e R s mid args below meth c hp locs cells slots mc ms ls X Y => lv_ior X.1 X.2.1 hd (k p e R s mid args below meth c hp locs cells slots mc ms ls X Y)
theorem o_ixor {x y : Int32} (hd : decode (oCd M) pc = .ok (.ixor, 1)) (k : Ok G M (pc + 1) lv (.inl (x ^^^ y) :: st) H b Q) : Ok G M pc lv (.inl y :: .inl x :: st) H b Q :=
  fun p e R s mid args below meth c hp locs cells slots mc ms ls X Y => lv_ixor X.1 X.2.1 hd (k p e R s mid args below meth c hp locs cells slots mc ms ls X Y)
theorem o_ishl {x y : Int32} (hd : decode (oCd M) pc = .ok (.ishl, 1)) (k : Ok G M (pc + 1) lv (.inl (x <<< (y &&& 31)) :: st) H b Q) : Ok G M pc lv (.inl y :: .inl x :: st) H b Q :=
  fun p e R s mid args below meth c hp locs cells slots mc ms ls X Y => lv_ishl X.1 X.2.1 hd (k p e R s mid args below meth c hp locs cells slots mc ms ls X Y)
theorem o_ishr {x y : Int32} (hd : decode (oCd M) pc = .ok (.ishr, 1)) (k : Ok G M (pc + 1) lv (.inl (x >>> (y &&& 31)) :: st) H b Q) : Ok G M pc lv (.inl y :: .inl x :: st) H b Q :=
  fun p e R s mid args below meth c hp locs cells slots mc ms ls X Y => lv_ishr X.1 X.2.1 hd (k p e R s mid args below meth c hp locs cells slots mc ms ls X Y)
theorem o_idiv {x y : Int32} (hd : decode (oCd M) pc = .ok (.idiv, 1)) (hne : ¬ y = 0) (k : Ok G M (pc + 1) lv (.inl (x / y) :: st) H b Q) : Ok G M pc lv (.inl y :: .inl x :: st) H b Q :=
  fun p e R s mid args below meth c hp locs cells slots mc ms ls X Y => lv_idiv X.1 X.2.1 hd hne (k p e R s mid args below meth c hp locs cells slots mc ms ls X Y)
theorem o_irem {x y : Int32} (hd : decode (oCd M) pc = .ok (.irem, 1)) (hne : ¬ y = 0) (k : Ok G M (pc + 1) lv (.inl (x - x / y * y) :: st) H b Q) : Ok G M pc lv (.inl y :: .inl x :: st) H b Q :=
  fun p e R s mid args below meth c hp locs cells slots mc ms ls X Y => lv_irem X.1 X.2.1 hd hne (k p e R s mid args below meth c hp locs cells slots mc ms ls X Y)
theorem o_iushr {x y : Int32} (hd : decode (oCd M) pc = .ok (.iushr, 1)) (k : Ok G M (pc + 1) lv (.inl ((x.toUInt32 >>> (y.toUInt32 &&& Int32.toUInt32 31)).toInt32) :: st) H b Q) : Ok G M pc lv (.inl y :: .inl x :: st) H b Q :=
  fun p e R s mid args below meth c hp locs cells slots mc ms ls X Y => lv_iushr X.1 X.2.1 hd rfl (k p e R s mid args below meth c hp locs cells slots mc ms ls X Y)
theorem o_iconst (v : Int32) {n : Int} (hd : decode (oCd M) pc = .ok (.iconst n, 1)) (hv : Int32.ofInt n = v) (k : Ok G M (pc + 1) lv (.inl v :: st) H b Q) : Ok G M pc lv (st) H b Q :=
  fun p e R s mid args below meth c hp locs cells slots mc ms ls X Y => lv_iconst X.1 X.2.1 hd hv (k p e R s mid args below meth c hp locs cells slots mc ms ls X Y)
theorem o_bipush (v : Int32) {n : Int} (hd : decode (oCd M) pc = .ok (.bipush n, 2)) (hv : (Int8.ofInt n).toInt32 = v) (k : Ok G M (pc + 2) lv (.inl v :: st) H b Q) : Ok G M pc lv (st) H b Q :=
  fun p e R s mid args below meth c hp locs cells slots mc ms ls X Y => lv_bipush X.1 X.2.1 hd hv (k p e R s mid args below meth c hp locs cells slots mc ms ls X Y)
theorem o_sipush (v : Int32) {n : Int} (hd : decode (oCd M) pc = .ok (.sipush n, 3)) (hv : (Int16.ofInt n).toInt32 = v) (k : Ok G M (pc + 3) lv (.inl v :: st) H b Q) : Ok G M pc lv (st) H b Q :=
  fun p e R s mid args below meth c hp locs cells slots mc ms ls X Y => lv_sipush X.1 X.2.1 hd hv (k p e R s mid args below meth c hp locs cells slots mc ms ls X Y)
theorem o_dup {v : oU} (hd : decode (oCd M) pc = .ok (.dup, 1)) (k : Ok G M (pc + 1) lv (v :: v :: st) H b Q) : Ok G M pc lv (v :: st) H b Q :=
  fun p e R s mid args below meth c hp locs cells slots mc ms ls X Y => lv_dup X.1 X.2.1 hd (oV_cat G v) (k p e R s mid args below meth c hp locs cells slots mc ms ls X Y)
theorem o_pop {v : oU} (hd : decode (oCd M) pc = .ok (.pop, 1)) (k : Ok G M (pc + 1) lv (st) H b Q) : Ok G M pc lv (v :: st) H b Q :=
  fun p e R s mid args below meth c hp locs cells slots mc ms ls X Y => lv_pop X.1 X.2.1 hd (oV_cat G v) (k p e R s mid args below meth c hp locs cells slots mc ms ls X Y)
theorem o_dup2 {v w : oU} (hd : decode (oCd M) pc = .ok (.dup2, 1)) (k : Ok G M (pc + 1) lv (v :: w :: v :: w :: st) H b Q) : Ok G M pc lv (v :: w :: st) H b Q :=
  fun p e R s mid args below meth c hp locs cells slots mc ms ls X Y => lv_dup2_11 X.1 X.2.1 hd (oV_cat G v) (oV_cat G w) (k p e R s mid args below meth c hp locs cells slots mc ms ls X Y)
theorem o_iload {i : Nat} {x : Int32} (hd : decode (oCd M) pc = .ok (.iload i, 2)) (hl : oGet lv i = some (.inl x)) (k : Ok G M (pc + 2) lv (.inl x :: st) H b Q) : Ok G M pc lv st H b Q :=
  fun p e R s mid args below meth c hp locs cells slots mc ms ls X Y => lv_iload X.1 X.2.1 hd (oHas_at Y.1 hl) (k p e R s mid args below meth c hp locs cells slots mc ms ls X Y)
theorem o_iload_n {j : Fin 4} {x : Int32} (hd : decode (oCd M) pc = .ok (.iload_n j, 1)) (hl : oGet lv (j : Nat) = some (.inl x)) (k : Ok G M (pc + 1) lv (.inl x :: st) H b Q) : Ok G M pc lv st H b Q :=
  fun p e R s mid args below meth c hp locs cells slots mc ms ls X Y => lv_iload_n X.1 X.2.1 hd rfl (oHas_at Y.1 hl) (k p e R s mid args below meth c hp locs cells slots mc ms ls X Y)
theorem o_aload {i : Nat} {x : Nat} (hd : decode (oCd M) pc = .ok (.aload i, 2)) (hl : oGet lv i = some (.inr (some x))) (k : Ok G M (pc + 2) lv (.inr (some x) :: st) H b Q) : Ok G M pc lv st H b Q :=
  fun p e R s mid args below meth c hp locs cells slots mc ms ls X Y => lv_aload X.1 X.2.1 hd (oHas_at Y.1 hl) (k p e R s mid args below meth c hp locs cells slots mc ms ls X Y)
theorem o_aload_n {j : Fin 4} {x : Nat} (hd : decode (oCd M) pc = .ok (.aload_n j, 1)) (hl : oGet lv (j : Nat) = some (.inr (some x))) (k : Ok G M (pc + 1) lv (.inr (some x) :: st) H b Q) : Ok G M pc lv st H b Q :=
  fun p e R s mid args below meth c hp locs cells slots mc ms ls X Y => lv_aload_n X.1 X.2.1 hd rfl (oHas_at Y.1 hl) (k p e R s mid args below meth c hp locs cells slots mc ms ls X Y)
theorem o_istore {i : Nat} {x : Int32} (lv' : oL) (hd : decode (oCd M) pc = .ok (.istore i, 2)) (hn : Nat.blt i (oMx M) = true) (hl : oSet lv i (.inl x) = lv') (k : Ok G M (pc + 2) lv' st H b Q) : Ok G M pc lv (.inl x :: st) H b Q :=
  fun p e R s mid args below meth c hp locs cells slots mc ms ls X Y => lv_istore X.1 X.2.1 hd Y.1 (Nat.le_of_ble_eq_true hn) rfl (fun ls h => k p e R s mid args below meth c hp locs cells slots mc ms ls X ⟨oHas_set hl h, Y.2⟩)
theorem o_istore_n {j : Fin 4} {x : Int32} (lv' : oL) (hd : decode (oCd M) pc = .ok (.istore_n j, 1)) (hn : Nat.blt (j : Nat) (oMx M) = true) (hl : oSet lv (j : Nat) (.inl x) = lv') (k : Ok G M (pc + 1) lv' st H b Q) : Ok G M pc lv (.inl x :: st) H b Q :=
  fun p e R s mid args below meth c hp locs cells slots mc ms ls X Y => lv_istore_n X.1 X.2.1 hd rfl Y.1 (Nat.le_of_ble_eq_true hn) rfl (fun ls h => k p e R s mid args below meth c hp locs cells slots mc ms ls X ⟨oHas_set hl h, Y.2⟩)
theorem o_astore {i : Nat} {x : Nat} (lv' : oL) (hd : decode (oCd M) pc = .ok (.astore i, 2)) (hn : Nat.blt i (oMx M) = true) (hl : oSet lv i (.inr (some x)) = lv') (k : Ok G M (pc + 2) lv' st H b Q) : Ok G M pc lv (.inr (some x) :: st) H b Q :=
  fun p e R s mid args below meth c hp locs cells slots mc ms ls X Y => lv_astore X.1 X.2.1 hd Y.1 (Nat.le_of_ble_eq_true hn) rfl (fun ls h => k p e R s mid args below meth c hp locs cells slots mc ms ls X ⟨oHas_set hl h, Y.2⟩)
theorem o_astore_n {j : Fin 4} {x : Nat} (lv' : oL) (hd : decode (oCd M) pc = .ok (.astore_n j, 1)) (hn : Nat.blt (j : Nat) (oMx M) = true) (hl : oSet lv (j : Nat) (.inr (some x)) = lv') (k : Ok G M (pc + 1) lv' st H b Q) : Ok G M pc lv (.inr (some x) :: st) H b Q :=
  fun p e R s mid args below meth c hp locs cells slots mc ms ls X Y => lv_astore_n X.1 X.2.1 hd rfl Y.1 (Nat.le_of_ble_eq_true hn) rfl (fun ls h => k p e R s mid args below meth c hp locs cells slots mc ms ls X ⟨oHas_set hl h, Y.2⟩)
theorem o_iinc {i : Nat} {n : Int} {x : Int32} (v : Int32) (lv' : oL) (hd : decode (oCd M) pc = .ok (.iinc i n, 3)) (hg : oGet lv i = some (.inl x)) (hv : x + Int32.ofInt n = v) (hn : Nat.blt i (oMx M) = true) (hl : oSet lv i (.inl v) = lv') (k : Ok G M (pc + 3) lv' st H b Q) : Ok G M pc lv st H b Q := by
  intro p e R s mid args below meth c hp locs cells slots mc ms ls X Y
  obtain ⟨z, hz⟩ := List.getElem?_of_mem (List.mem_map.mpr ⟨(i, .inl x), oGet_mem lv i _ hg, rfl⟩ : (i, oV G (.inl x)) ∈ lv.map fun q => (q.1, oV G q.2))
  exact lv_iinc X.1 X.2.1 hd Y.1 hz hv (Nat.le_of_ble_eq_true hn) rfl (fun ls h => k p e R s mid args below meth c hp locs cells slots mc ms ls X ⟨oHas_set (v := .inl v) hl h, Y.2⟩)
theorem o_lv (lv' : oL) (ks : List Nat) (hl : ks.filterMap (fun k => lv[k]?) = lv') (k : Ok G M pc lv' st H b Q) : Ok G M pc lv st H b Q :=
  fun p e R s mid args below meth c hp locs cells slots mc ms ls X Y => k p e R s mid args below meth c hp locs cells slots mc ms ls X ⟨oHas_sub ks hl Y.1, Y.2⟩
theorem o_if_eq {x : Int32} {off : Int} (tgt : Nat) (hd : decode (oCd M) pc = .ok (.ifCond .eq off, 3)) (ht : (pc : Int) + off = (tgt : Int)) (kt : x = 0 → Ok G M tgt lv st H b Q) (kf : ¬ x = 0 → Ok G M (pc + 3) lv st H b Q) : Ok G M pc lv (.inl x :: st) H b Q :=
  fun p e R s mid args below meth c hp locs cells slots mc ms ls X Y => lv_if_eq X.1 X.2.1 hd ht (fun h => kt h p e R s mid args below meth c hp locs cells slots mc ms ls X Y) (fun h => kf h p e R s mid args below meth c hp locs cells slots mc ms ls X Y)
theorem o_icmp_eq {x y : Int32} {off : Int} (tgt : Nat) (hd : decode (oCd M) pc = .ok (.if_icmp .eq off, 3)) (ht : (pc : Int) + off = (tgt : Int)) (kt : x = y → Ok G M tgt lv st H b Q) (kf : ¬ x = y → Ok G M (pc + 3) lv st H b Q) : Ok G M pc lv (.inl y :: .inl x :: st) H b Q :=
  fun p e R s mid args below meth c hp locs cells slots mc ms ls X Y => lv_icmp_eq X.1 X.2.1 hd ht (fun h => kt h p e R s mid args below meth c hp locs cells slots mc ms ls X Y) (fun h => kf h p e R s mid args below meth c hp locs cells slots mc ms ls X Y)
theorem o_if_ne {x : Int32} {off : Int} (tgt : Nat) (hd : decode (oCd M) pc = .ok (.ifCond .ne off, 3)) (ht : (pc : Int) + off = (tgt : Int)) (kt : ¬ x = 0 → Ok G M tgt lv st H b Q) (kf : x = 0 → Ok G M (pc + 3) lv st H b Q) : Ok G M pc lv (.inl x :: st) H b Q :=
  fun p e R s mid args below meth c hp locs cells slots mc ms ls X Y => lv_if_ne X.1 X.2.1 hd ht (fun h => kt h p e R s mid args below meth c hp locs cells slots mc ms ls X Y) (fun h => kf h p e R s mid args below meth c hp locs cells slots mc ms ls X Y)
theorem o_icmp_ne {x y : Int32} {off : Int} (tgt : Nat) (hd : decode (oCd M) pc = .ok (.if_icmp .ne off, 3)) (ht : (pc : Int) + off = (tgt : Int)) (kt : ¬ x = y → Ok G M tgt lv st H b Q) (kf : x = y → Ok G M (pc + 3) lv st H b Q) : Ok G M pc lv (.inl y :: .inl x :: st) H b Q :=
  fun p e R s mid args below meth c hp locs cells slots mc ms ls X Y => lv_icmp_ne X.1 X.2.1 hd ht (fun h => kt h p e R s mid args below meth c hp locs cells slots mc ms ls X Y) (fun h => kf h p e R s mid args below meth c hp locs cells slots mc ms ls X Y)
theorem o_if_lt {x : Int32} {off : Int} (tgt : Nat) (hd : decode (oCd M) pc = .ok (.ifCond .lt off, 3)) (ht : (pc : Int) + off = (tgt : Int)) (kt : x < 0 → Ok G M tgt lv st H b Q) (kf : ¬ x < 0 → Ok G M (pc + 3) lv st H b Q) : Ok G M pc lv (.inl x :: st) H b Q :=
  fun p e R s mid args below meth c hp locs cells slots mc ms ls X Y => lv_if_lt X.1 X.2.1 hd ht (fun h => kt h p e R s mid args below meth c hp locs cells slots mc ms ls X Y) (fun h => kf h p e R s mid args below meth c hp locs cells slots mc ms ls X Y)
theorem o_icmp_lt {x y : Int32} {off : Int} (tgt : Nat) (hd : decode (oCd M) pc = .ok (.if_icmp .lt off, 3)) (ht : (pc : Int) + off = (tgt : Int)) (kt : x < y → Ok G M tgt lv st H b Q) (kf : ¬ x < y → Ok G M (pc + 3) lv st H b Q) : Ok G M pc lv (.inl y :: .inl x :: st) H b Q :=
  fun p e R s mid args below meth c hp locs cells slots mc ms ls X Y => lv_icmp_lt X.1 X.2.1 hd ht (fun h => kt h p e R s mid args below meth c hp locs cells slots mc ms ls X Y) (fun h => kf h p e R s mid args below meth c hp locs cells slots mc ms ls X Y)
theorem o_if_ge {x : Int32} {off : Int} (tgt : Nat) (hd : decode (oCd M) pc = .ok (.ifCond .ge off, 3)) (ht : (pc : Int) + off = (tgt : Int)) (kt : 0 ≤ x → Ok G M tgt lv st H b Q) (kf : ¬ 0 ≤ x → Ok G M (pc + 3) lv st H b Q) : Ok G M pc lv (.inl x :: st) H b Q :=
  fun p e R s mid args below meth c hp locs cells slots mc ms ls X Y => lv_if_ge X.1 X.2.1 hd ht (fun h => kt h p e R s mid args below meth c hp locs cells slots mc ms ls X Y) (fun h => kf h p e R s mid args below meth c hp locs cells slots mc ms ls X Y)
theorem o_icmp_ge {x y : Int32} {off : Int} (tgt : Nat) (hd : decode (oCd M) pc = .ok (.if_icmp .ge off, 3)) (ht : (pc : Int) + off = (tgt : Int)) (kt : y ≤ x → Ok G M tgt lv st H b Q) (kf : ¬ y ≤ x → Ok G M (pc + 3) lv st H b Q) : Ok G M pc lv (.inl y :: .inl x :: st) H b Q :=
  fun p e R s mid args below meth c hp locs cells slots mc ms ls X Y => lv_icmp_ge X.1 X.2.1 hd ht (fun h => kt h p e R s mid args below meth c hp locs cells slots mc ms ls X Y) (fun h => kf h p e R s mid args below meth c hp locs cells slots mc ms ls X Y)
theorem o_if_gt {x : Int32} {off : Int} (tgt : Nat) (hd : decode (oCd M) pc = .ok (.ifCond .gt off, 3)) (ht : (pc : Int) + off = (tgt : Int)) (kt : 0 < x → Ok G M tgt lv st H b Q) (kf : ¬ 0 < x → Ok G M (pc + 3) lv st H b Q) : Ok G M pc lv (.inl x :: st) H b Q :=
  fun p e R s mid args below meth c hp locs cells slots mc ms ls X Y => lv_if_gt X.1 X.2.1 hd ht (fun h => kt h p e R s mid args below meth c hp locs cells slots mc ms ls X Y) (fun h => kf h p e R s mid args below meth c hp locs cells slots mc ms ls X Y)
theorem o_icmp_gt {x y : Int32} {off : Int} (tgt : Nat) (hd : decode (oCd M) pc = .ok (.if_icmp .gt off, 3)) (ht : (pc : Int) + off = (tgt : Int)) (kt : y < x → Ok G M tgt lv st H b Q) (kf : ¬ y < x → Ok G M (pc + 3) lv st H b Q) : Ok G M pc lv (.inl y :: .inl x :: st) H b Q :=
  fun p e R s mid args below meth c hp locs cells slots mc ms ls X Y => lv_icmp_gt X.1 X.2.1 hd ht (fun h => kt h p e R s mid args below meth c hp locs cells slots mc ms ls X Y) (fun h => kf h p e R s mid args below meth c hp locs cells slots mc ms ls X Y)
theorem o_if_le {x : Int32} {off : Int} (tgt : Nat) (hd : decode (oCd M) pc = .ok (.ifCond .le off, 3)) (ht : (pc : Int) + off = (tgt : Int)) (kt : x ≤ 0 → Ok G M tgt lv st H b Q) (kf : ¬ x ≤ 0 → Ok G M (pc + 3) lv st H b Q) : Ok G M pc lv (.inl x :: st) H b Q :=
  fun p e R s mid args below meth c hp locs cells slots mc ms ls X Y => lv_if_le X.1 X.2.1 hd ht (fun h => kt h p e R s mid args below meth c hp locs cells slots mc ms ls X Y) (fun h => kf h p e R s mid args below meth c hp locs cells slots mc ms ls X Y)
theorem o_icmp_le {x y : Int32} {off : Int} (tgt : Nat) (hd : decode (oCd M) pc = .ok (.if_icmp .le off, 3)) (ht : (pc : Int) + off = (tgt : Int)) (kt : x ≤ y → Ok G M tgt lv st H b Q) (kf : ¬ x ≤ y → Ok G M (pc + 3) lv st H b Q) : Ok G M pc lv (.inl y :: .inl x :: st) H b Q :=
  fun p e R s mid args below meth c hp locs cells slots mc ms ls X Y => lv_icmp_le X.1 X.2.1 hd ht (fun h => kt h p e R s mid args below meth c hp locs cells slots mc ms ls X Y) (fun h => kf h p e R s mid args below meth c hp locs cells slots mc ms ls X Y)
theorem o_goto {off : Int} (tgt : Nat) (hd : decode (oCd M) pc = .ok (.goto off, 3)) (ht : (pc : Int) + off = (tgt : Int)) (k : Ok G M tgt lv st H b Q) : Ok G M pc lv st H b Q :=
  fun p e R s mid args below meth c hp locs cells slots mc ms ls X Y => lv_goto X.1 X.2.1 hd ht (k p e R s mid args below meth c hp locs cells slots mc ms ls X Y)
theorem o_tabOut {dflt lo hi : Int} {offs : Array Int} {len : Nat} {x : Int32} (tgt : Nat) (hd : decode (oCd M) pc = .ok (.tableswitch dflt lo hi offs, len)) (h : x.toInt < lo ∨ hi < x.toInt) (ht : (pc : Int) + dflt = (tgt : Int)) (k : Ok G M tgt lv st H b Q) : Ok G M pc lv (.inl x :: st) H b Q :=
  fun p e R s mid args below meth c hp locs cells slots mc ms ls X Y => lv_tableOut X.1 X.2.1 hd h ht (k p e R s mid args below meth c hp locs cells slots mc ms ls X Y)
theorem o_tabIn {dflt lo hi off : Int} {offs : Array Int} {len : Nat} {x : Int32} (tgt : Nat) (hd : decode (oCd M) pc = .ok (.tableswitch dflt lo hi offs, len)) (h1 : ¬ x.toInt < lo) (h2 : ¬ hi < x.toInt) (ho : offs[(x.toInt - lo).toNat]? = some off) (ht : (pc : Int) + off = (tgt : Int)) (k : Ok G M tgt lv st H b Q) : Ok G M pc lv (.inl x :: st) H b Q :=
  fun p e R s mid args below meth c hp locs cells slots mc ms ls X Y => lv_tableIn X.1 X.2.1 hd h1 h2 ho ht (k p e R s mid args below meth c hp locs cells slots mc ms ls X Y)
end MA
end
section
def oDef (ci : Nat) : List oU := match ci with
  | 0 => [.inr none, .inr none, .inr none, .inr none, .inl 0]
  | 1 => [.inr none, .inl 0, .inl 0, .inl 0, .inl 0, .inl 0]
  | 2 => [.inr none, .inr none, .inr none, .inr none]
  | 3 => [.inl 0, .inr none, .inr none, .inr none, .inl 0, .inl 0, .inl 0]
  | 4 => [.inr none, .inl 0]
  | 5 => [.inl 0, .inr none, .inr none, .inr none, .inr none, .inr none, .inr none, .inr none, .inr none, .inr none, .inr none, .inr none, .inr none, .inr none, .inr none, .inr none, .inr none, .inr none, .inr none]
  | _ => []
theorem oDefs (G : oG) : ∀ (ci : Nat) (q : vw_C), vwCl[ci]? = some q → ∃ ty0 : Nat → FieldType, (∀ k, k < q.2.2 → parseFieldDescriptor (q.2.1 k).2.2.1 = some (ty0 k)) ∧ ∀ j, j < q.2.2 → defaultValue (ty0 j) = vp_V ((oDef ci).map (oV G)) j
  | 0, _, h => by
    cases h
    refine ⟨tyS, tyS_ok, fun j hj => ?_⟩
    match j, hj with
    | 0, _ => rfl
    | 1, _ => rfl
    | 2, _ => rfl
    | 3, _ => rfl
    | 4, _ => rfl
    | j + 5, hj => exact absurd hj (by show ¬ j + 5 < 5; omega)
  | 1, _, h => by
    cases h
    refine ⟨tyW, tyW_ok, fun j hj => ?_⟩
    match j, hj with
    | 0, _ => rfl
    | 1, _ => rfl
    | 2, _ => rfl
    | 3, _ => rfl
    | 4, _ => rfl
    | 5, _ => rfl
    | j + 6, hj => exact absurd hj (by show ¬ j + 6 < 6; omega)
  | 2, _, h => by
    cases h
    refine ⟨tyC, tyC_ok, fun j hj => ?_⟩
    match j, hj with
    | 0, _ => rfl
    | 1, _ => rfl
    | 2, _ => rfl
    | 3, _ => rfl
    | j + 4, hj => exact absurd hj (by show ¬ j + 4 < 4; omega)
  | 3, _, h => by
    cases h
    refine ⟨tyK, tyK_ok, fun j hj => ?_⟩
    match j, hj with
    | 0, _ => rfl
    | 1, _ => rfl
    | 2, _ => rfl
    | 3, _ => rfl
    | 4, _ => rfl
    | 5, _ => rfl
    | 6, _ => rfl
    | j + 7, hj => exact absurd hj (by show ¬ j + 7 < 7; omega)
  | 4, _, h => by
    cases h
    refine ⟨tyR, tyR_ok, fun j hj => ?_⟩
    match j, hj with
    | 0, _ => rfl
    | 1, _ => rfl
    | j + 2, hj => exact absurd hj (by show ¬ j + 2 < 2; omega)
  | 5, _, h => by
    cases h
    refine ⟨tyN, tyN_ok, fun j hj => ?_⟩
    match j, hj with
    | 0, _ => rfl
    | 1, _ => rfl
    | 2, _ => rfl
    | 3, _ => rfl
    | 4, _ => rfl
    | 5, _ => rfl
    | 6, _ => rfl
    | 7, _ => rfl
    | 8, _ => rfl
    | 9, _ => rfl
    | 10, _ => rfl
    | 11, _ => rfl
    | 12, _ => rfl
    | 13, _ => rfl
    | 14, _ => rfl
    | 15, _ => rfl
    | 16, _ => rfl
    | 17, _ => rfl
    | 18, _ => rfl
    | j + 19, hj => exact absurd hj (by show ¬ j + 19 < 19; omega)
  | k + 6, _, h => by simp [vwCl] at h
/-! The machine's rules of the heap. -/
theorem oW.one {G : oG} {H : oH} {hp : Heap} {r : Nat} {c : oC} (h : oW G H hp) (he : H.2 r = some c) : va_P (oD G) vwCl [(oAd G r, oE G c)] hp := by
  intro k q hk
  cases k with
  | zero =>
    have hk : some (oAd G r, oE G c) = some q := hk
    cases hk
    exact (h.2 r c he).2
  | succ k => simp at hk
theorem oW.own {G : oG} {H : oH} {hp : Heap} {r : Nat} {c : oC} (h : oW G H hp) (he : H.2 r = some c) : oA G (oAd G r) := by
  obtain ⟨⟨k, rfl, -⟩, -⟩ := h.2 r c he
  exact Nat.le_add_right _ _
theorem oW.up {G : oG} {H : oH} {hp hp1 : Heap} {r : Nat} {c0 c : oC} (h : oW G H hp) (he : H.2 r = some c0) (hat : va_at (oD G) vwCl (oAd G r, oE G c) hp1) (z : hp1.size = hp.size) (oq : ∀ q : Nat, q ≠ oAd G r → hp1[q]? = hp[q]?) : oW G (oUp H r c) hp1 := by
  refine ⟨z.trans h.1, fun r' c' hr' => ?_⟩
  by_cases hrr : r' = r
  · subst hrr
    have hc : c = c' := by
      have h1 : some c = some c' := by rw [← hr']; simp [oUp, va_up]
      exact Option.some.inj h1
    subst hc
    exact ⟨(h.2 r' c0 he).1, hat⟩
  · have h2 : H.2 r' = some c' := by
      rw [← hr']
      simp [oUp, va_up, hrr]
    obtain ⟨⟨k, e1, e2⟩, h3⟩ := h.2 r' c' h2
    obtain ⟨⟨k0, e3, -⟩, -⟩ := h.2 r c0 he
    refine ⟨⟨k, e1, e2⟩, h3.kept (oq _ ?_)⟩
    subst e1; subst e3
    show oB G + k ≠ oB G + k0
    omega
theorem oW.new {G : oG} {H : oH} {hp hp1 : Heap} {c : oC} (h : oW G H hp) (hat : va_at (oD G) vwCl (oB G + H.1, oE G c) hp1) (z : hp1.size = hp.size + 1) (oq : ∀ q : Nat, q < hp.size → hp1[q]? = hp[q]?) : oW G (oNw H c) hp1 := by
  refine ⟨by rw [z, h.1]; rfl, fun r' c' hr' => ?_⟩
  by_cases hrr : r' = H.1 + 1
  · subst hrr
    have hc : c = c' := by
      have h1 : some c = some c' := by rw [← hr']; simp [oNw, va_up]
      exact Option.some.inj h1
    subst hc
    exact ⟨⟨H.1, rfl, Nat.lt_succ_self _⟩, hat⟩
  · have h2 : H.2 r' = some c' := by
      rw [← hr']
      simp [oNw, va_up, hrr]
    obtain ⟨⟨k, e1, e2⟩, h3⟩ := h.2 r' c' h2
    exact ⟨⟨k, e1, Nat.lt_succ_of_lt e2⟩, h3.kept (oq _ h3.lt)⟩
theorem oTy_at {G : oG} (h : (oT G).map (fun q => q.2) = oTyL) {t : Nat} {ty : FieldType} (ht : oTyL[t]? = some ty) : (oT G)[t]? = some (((oT G).getD t (0, .int)).1, ty) := by
  rw [← h, List.getElem?_map] at ht
  cases e : (oT G)[t]? with
  | none => rw [e] at ht; cases ht
  | some q =>
    rw [e] at ht
    have h2 : q.2 = ty := Option.some.inj ht
    rw [List.getD_eq_getElem?_getD, e, ← h2]
    rfl
theorem oS_put {G : oG} {H : oH} {hp hp1 H0 : Heap} {locs : List Loc} {r k : Nat} {c0 : oC} (hS : va_S (oA G) H0 hp locs) (h : oW G H hp) (he : H.2 r = some c0) (z : hp1.size = hp.size) (oq : ∀ q : Nat, q ≠ oAd G r → hp1[q]? = hp[q]?) : va_S (oA G) H0 hp1 (locs ++ [⟨oAd G r, k⟩]) := hS.put z oq (h.own he)
/-- a field's place, by its own class's link or by a nest mate's -/
def oF (own : String) (idx ci k : Nat) : Prop := ∃ q : vw_C, vwCl[ci]? = some q ∧ k < q.2.2 ∧ (Cond.fieldLink own idx (q.2.1 k).1 (q.2.1 k).2.1 (q.2.1 k).2.2.1 ∈ oAll ∨ ∃ host : String, (own, idx, (q.2.1 k).1, (q.2.1 k).2.1, (q.2.1 k).2.2.1, host) ∈ oNwF)
def oFs (own : String) (idx ci k : Nat) (ty : FieldType) : Prop := oF own idx ci k ∧ ∀ q : vw_C, vwCl[ci]? = some q → (q.2.1 k).2.2.2 = false ∧ parseFieldDescriptor (q.2.1 k).2.2.1 = some ty
def oFf (own : String) (idx ci k : Nat) (ty : FieldType) : Prop := ∃ q : vw_C, vwCl[ci]? = some q ∧ k < q.2.2 ∧ Cond.fieldLink own idx (q.2.1 k).1 (q.2.1 k).2.1 (q.2.1 k).2.2.1 ∈ oAll ∧ (q.2.1 k).2.2.2 = true ∧ (q.2.1 k).1 = own ∧ parseFieldDescriptor (q.2.1 k).2.2.1 = some ty
def oFit (ty : FieldType) (v : oU) : Prop := ∀ G : oG, narrow ty (oV G v) = oV G v ∧ fits ty (oV G v) = true
theorem oFit_i (x : Int32) : oFit .int (.inl x) := fun _ => ⟨rfl, rfl⟩
theorem oFit_o (C : String) (r : Nat) : oFit (.object C) (.inr (some r)) := fun _ => ⟨rfl, rfl⟩
theorem oFit_a (t : FieldType) (r : Nat) : oFit (.array t) (.inr (some r)) := fun _ => ⟨rfl, rfl⟩
section MB
variable {G : oG} {M : oM} {pc : Nat} {lv : oL} {st : List oU} {H : oH} {b : Nat × Nat} {Q : oP}
theorem o_get {ci idx k r : Nat} {fs : List oU} {v : oU} (hd : decode (oCd M) pc = .ok (.getfield idx, 3)) (hf : oF M.1.cls idx ci k) (he : H.2 r = some (.inr (.inr (ci, fs)))) (hv : fs[k]? = some v) (kk : Ok G M (pc + 3) lv (v :: st) H b Q) : Ok G M pc lv (.inr (some r) :: st) H b Q := by
  intro p e R s mid args below meth c hp locs cells slots mc ms ls X Y
  obtain ⟨hx, hb, hml, hrt, hlk, hnm, hown, hts, hK, hNs, hTy, hX, hsb, hbs, hFr, hWd⟩ := id X
  obtain ⟨hl, hW, hS, hc1, hc2, hc3, hc4⟩ := id Y
  obtain ⟨⟨C, T, N⟩, hc, hk, hln⟩ := hf
  have hv' : (fs.map (oV G))[k]? = some (oV G v) := by rw [List.getElem?_map, hv]; rfl
  rcases hln with hln | ⟨host, hln⟩
  · exact va_get hx hb hts (oIn ci _ hc) hown hK (hW.one he) 0 rfl hc k hk (hts _ hln) (fun _ h => h) hv' hd (kk p e R s mid args below meth c hp locs cells slots mc ms ls X Y)
  · exact va_getN hx hb hts (oIn ci _ hc) hown hK (hW.one he) 0 rfl hc k hk (va_Nw.use rfl (hNs.1 _ hln)) (fun _ h => h) hv' hd (kk p e R s mid args below meth c hp locs cells slots mc ms ls X Y)
theorem o_put {ci idx k r : Nat} {ty : FieldType} {fs : List oU} {v : oU} (hd : decode (oCd M) pc = .ok (.putfield idx, 3)) (hf : oFs M.1.cls idx ci k ty) (hfit : oFit ty v) (he : H.2 r = some (.inr (.inr (ci, fs)))) (hln : k < fs.length) (kk : Ok G M (pc + 3) lv st (oUp H r (.inr (.inr (ci, fs.set k v)))) b Q) : Ok G M pc lv (v :: .inr (some r) :: st) H b Q := by
  intro p e R s mid args below meth c hp locs cells slots mc ms ls X Y
  obtain ⟨hx, hb, hml, hrt, hlk, hnm, hown, hts, hK, hNs, hTy, hX, hsb, hbs, hFr, hWd⟩ := id X
  obtain ⟨hl, hW, hS, hc1, hc2, hc3, hc4⟩ := id Y
  obtain ⟨⟨⟨C, T, N⟩, hc, hk, hlk2⟩, hff⟩ := hf
  obtain ⟨hfin, hpd⟩ := hff _ hc
  obtain ⟨ty0, hty, hnm2⟩ := oTyp ci _ hc
  have hin := oIn ci _ hc
  have hap := va_apart (own := M.1.cls) hts hin ty0 hty hnm2 hK hc
  obtain ⟨r9, h1, cell, q1, q2, q3, q4⟩ := hW.one he 0 _ rfl
  have hr9 : r9 = (C, T, N) := Option.some.inj (h1.symm.trans hc)
  subst hr9
  obtain ⟨hSl, hfc, kC, hkC, hkind⟩ := hK.1 ci _ hc
  obtain ⟨cf, kf, fi, f, hi, hsl⟩ := hSl k hk
  have hlay := hts _ (hin _ (u_in_lay hk))
  unfold u_lay at hlay
  rw [if_neg (by rw [hfin]; decide)] at hlay
  have hst := (u_facts hfc hkC (u_lays hts hin hk) hi).1
  have h6 := u_store hfc hkC hkind hlay hi hpd (hfit G).1 (hfit G).2
  have hlen : k < (fs.map (oV G)).length := by rw [List.length_map]; exact hln
  have done : ∀ H' : Heap, H'[oAd G r]? = some (cell.setSlot f.slot (oV G v)) → H'.size = hp.size → (∀ q : Nat, q ≠ oAd G r → H'[q]? = hp[q]?) → W p (oLa G) e R s mid args below meth c H' (locs ++ [⟨oAd G r, f.slot⟩]) cells slots (MQ below (oQ G Q) args s mc ms (oA G)) (F0 mid (pc + 3) ls (st.map (oV G))) := by
    intro H' e1 e2 e3
    refine kk p e R s mid args below meth c H' _ cells slots mc ms ls X ⟨hl, hW.up he ?_ e2 e3, oS_put hS hW he e2 e3, hc1, hc2, hc3, hc4⟩
    rw [hsl] at e1
    refine ⟨_, hc, t_OB.to (V := updV (vp_V (fs.map (oV G))) k (oV G v)) ⟨_, e1, q2, q3, t_set q4 hap hk (oV G v)⟩ (fun j _ => ?_)⟩
    rw [vp_updV_set hlen, List.map_set]
  rcases hlk2 with hlk2 | ⟨host, hlk2⟩
  · exact W.putK hx hb (f := f) ⟨hown, hts _ hlk2, ⟨_, _, _, hi⟩, hst⟩ (by rw [q2]; exact h6) q1 q3 (by rw [hsl]; exact k2_hasslot (q4 k hk)) rfl rfl hd done
  · exact va_WputK hx hb (f := f) hown (va_Nw.use rfl (hNs.1 _ hlk2)) hi hst (by rw [q2]; exact h6) q1 q3 (by rw [hsl]; exact k2_hasslot (q4 k hk)) rfl rfl hd done
theorem o_putF {ci idx k r : Nat} {ty : FieldType} {fs : List oU} {v : oU} (hd : decode (oCd M) pc = .ok (.putfield idx, 3)) (hf : oFf M.1.cls idx ci k ty) (hini : M.1.name = "<init>") (hfit : oFit ty v) (he : H.2 r = some (.inr (.inr (ci, fs)))) (hln : k < fs.length) (kk : Ok G M (pc + 3) lv st (oUp H r (.inr (.inr (ci, fs.set k v)))) b Q) : Ok G M pc lv (v :: .inr (some r) :: st) H b Q := by
  intro p e R s mid args below meth c hp locs cells slots mc ms ls X Y
  obtain ⟨hx, hb, hml, hrt, hlk, hnm, hown, hts, hK, hNs, hTy, hX, hsb, hbs, hFr, hWd⟩ := id X
  obtain ⟨hl, hW, hS, hc1, hc2, hc3, hc4⟩ := id Y
  obtain ⟨⟨C, T, N⟩, hc, hk, hlk2, hfin, hdecl, hpd⟩ := hf
  obtain ⟨ty0, hty, hnm2⟩ := oTyp ci _ hc
  have hin := oIn ci _ hc
  have hap := va_apart (own := M.1.cls) hts hin ty0 hty hnm2 hK hc
  obtain ⟨r9, h1, cell, q1, q2, q3, q4⟩ := hW.one he 0 _ rfl
  have hr9 : r9 = (C, T, N) := Option.some.inj (h1.symm.trans hc)
  subst hr9
  obtain ⟨hSl, hfc, kC, hkC, hkind⟩ := hK.1 ci _ hc
  obtain ⟨cf, kf, fi, f, hi, hsl⟩ := hSl k hk
  have hlay := hts _ (hin _ (u_in_lay hk))
  unfold u_lay at hlay
  rw [if_pos hfin] at hlay
  have hst := (u_facts hfc hkC (u_lays hts hin hk) hi).1
  have hcf : mid.cls = cf := by
    obtain ⟨_, _, c', _, _, _, -, -, hf', -, -, -, hown2, -⟩ := Cond.laysFinal_spec hlay
    have e1 : c' = cf := by have := hi.symm.trans hf'; simp at this; exact this.1.symm
    have hdecl2 : (T k).1 = M.1.cls := hdecl
    rw [hdecl2] at hown2
    rw [← e1]; exact Option.some.inj (hown.symm.trans hown2)
  have h6 := u_fits hfc hkC hkind (Or.inr hlay) hi hpd (hfit G).1 (hfit G).2
  have hlen : k < (fs.map (oV G)).length := by rw [List.length_map]; exact hln
  refine W.putFinK hx hb hown (hts _ hlk2) hi hst hcf (hnm.trans hini) (by rw [q2]; exact h6) q1 q3 (by rw [hsl]; exact k2_hasslot (q4 k hk)) rfl rfl hd fun H' e1 e2 e3 => ?_
  refine kk p e R s mid args below meth c H' _ cells slots mc ms ls X ⟨hl, hW.up he ?_ e2 e3, oS_put hS hW he e2 e3, hc1, hc2, hc3, hc4⟩
  rw [hsl] at e1
  refine ⟨_, hc, t_OB.to (V := updV (vp_V (fs.map (oV G))) k (oV G v)) ⟨_, e1, q2, q3, t_set q4 hap hk (oV G v)⟩ (fun j _ => ?_)⟩
  rw [vp_updV_set hlen, List.map_set]
theorem o_iald {t n r : Nat} {f : Nat → Int32} {i : Int32} (j : Nat) (hd : decode (oCd M) pc = .ok (.iaload, 1)) (he : H.2 r = some (.inl (t, n, f))) (ht : oTyL[t]? = some .int) (hN : Nat.blt n 2147483648 = true) (hi : i = nI j) (hj : j < n) (kk : Ok G M (pc + 1) lv (.inl (f j) :: st) H b Q) : Ok G M pc lv (.inl i :: .inr (some r) :: st) H b Q := by
  intro p e R s mid args below meth c hp locs cells slots mc ms ls X Y
  obtain ⟨hx, hb, hml, hrt, hlk, hnm, hown, hts, hK, hNs, hTy, hX, hsb, hbs, hFr, hWd⟩ := id X
  obtain ⟨hl, hW, hS, hc1, hc2, hc3, hc4⟩ := id Y
  have hN2 : n < 2147483648 := Nat.le_of_ble_eq_true hN
  have e9 : (nI j).toNatClampNeg = j := nI_clamp (Nat.lt_trans hj hN2)
  subst hi
  refine va_iald hx hb hK (hW.one he) 0 t rfl (oTy_at hTy ht) (vp_in_nI hj hN2) hd ?_
  rw [e9]
  exact kk p e R s mid args below meth c hp locs cells slots mc ms ls X Y
theorem o_zald {t n r : Nat} {f : Nat → Int32} {i : Int32} (j : Nat) (hd : decode (oCd M) pc = .ok (.baload, 1)) (he : H.2 r = some (.inl (t, n, f))) (ht : oTyL[t]? = some .boolean) (hN : Nat.blt n 2147483648 = true) (hi : i = nI j) (hj : j < n) (kk : Ok G M (pc + 1) lv (.inl (f j) :: st) H b Q) : Ok G M pc lv (.inl i :: .inr (some r) :: st) H b Q := by
  intro p e R s mid args below meth c hp locs cells slots mc ms ls X Y
  obtain ⟨hx, hb, hml, hrt, hlk, hnm, hown, hts, hK, hNs, hTy, hX, hsb, hbs, hFr, hWd⟩ := id X
  obtain ⟨hl, hW, hS, hc1, hc2, hc3, hc4⟩ := id Y
  have hN2 : n < 2147483648 := Nat.le_of_ble_eq_true hN
  have e9 : (nI j).toNatClampNeg = j := nI_clamp (Nat.lt_trans hj hN2)
  subst hi
  refine va_zald hx hb hK (hW.one he) 0 t rfl (oTy_at hTy ht) (vp_in_nI hj hN2) hd ?_
  rw [e9]
  exact kk p e R s mid args below meth c hp locs cells slots mc ms ls X Y
theorem o_iast {t n r : Nat} {f : Nat → Int32} {i x : Int32} (j : Nat) (hd : decode (oCd M) pc = .ok (.iastore, 1)) (he : H.2 r = some (.inl (t, n, f))) (ht : oTyL[t]? = some .int) (hN : Nat.blt n 2147483648 = true) (hi : i = nI j) (hj : j < n) (kk : Ok G M (pc + 1) lv st (oUp H r (.inl (t, n, upd f j (x)))) b Q) : Ok G M pc lv (.inl x :: .inl i :: .inr (some r) :: st) H b Q := by
  intro p e R s mid args below meth c hp locs cells slots mc ms ls X Y
  obtain ⟨hx, hb, hml, hrt, hlk, hnm, hown, hts, hK, hNs, hTy, hX, hsb, hbs, hFr, hWd⟩ := id X
  obtain ⟨hl, hW, hS, hc1, hc2, hc3, hc4⟩ := id Y
  have hN2 : n < 2147483648 := Nat.le_of_ble_eq_true hN
  have e9 : (nI j).toNatClampNeg = j := nI_clamp (Nat.lt_trans hj hN2)
  have hin : vp_in (nI j) n := vp_in_nI hj hN2
  subst hi
  refine W.iast hx hb (hW.one he 0 _ rfl) ((hK.2 t _ (oTy_at hTy ht)).1 n (fun j => .int (f j))) (fun q => by cases q) (by show ¬ (nI j < 0 ∨ (arrV _ _ _).slots.size ≤ _); rw [arrV_size]; exact hin) rfl rfl hd fun H1 e1 z oq => ?_
  refine kk p e R s mid args below meth c H1 _ cells slots mc ms ls X ⟨hl, hW.up he ?_ z oq, oS_put hS hW he z oq, hc1, hc2, hc3, hc4⟩
  show H1[oAd G r]? = some (vp_cell _ _)
  rw [e1]
  show some ((vp_cell _ _).setSlot _ _) = _
  rw [vp_cell_i, vp_cell_i, arrV_store, e9]
  congr 2
  funext q
  by_cases hq : q = j
  · subst hq
    simp [updV, upd, vp_nar]
    try rfl
  · simp [updV, upd, hq]
theorem o_zast {t n r : Nat} {f : Nat → Int32} {i x : Int32} (j : Nat) (hd : decode (oCd M) pc = .ok (.bastore, 1)) (he : H.2 r = some (.inl (t, n, f))) (ht : oTyL[t]? = some .boolean) (hN : Nat.blt n 2147483648 = true) (hi : i = nI j) (hj : j < n) (kk : Ok G M (pc + 1) lv st (oUp H r (.inl (t, n, upd f j (vp_nar .boolean x)))) b Q) : Ok G M pc lv (.inl x :: .inl i :: .inr (some r) :: st) H b Q := by
  intro p e R s mid args below meth c hp locs cells slots mc ms ls X Y
  obtain ⟨hx, hb, hml, hrt, hlk, hnm, hown, hts, hK, hNs, hTy, hX, hsb, hbs, hFr, hWd⟩ := id X
  obtain ⟨hl, hW, hS, hc1, hc2, hc3, hc4⟩ := id Y
  have hN2 : n < 2147483648 := Nat.le_of_ble_eq_true hN
  have e9 : (nI j).toNatClampNeg = j := nI_clamp (Nat.lt_trans hj hN2)
  have hin : vp_in (nI j) n := vp_in_nI hj hN2
  subst hi
  refine W.zast hx hb (hW.one he 0 _ rfl) ((hK.2 t _ (oTy_at hTy ht)).1 n (fun j => .int (f j))) (fun q => by cases q) (by show ¬ (nI j < 0 ∨ (arrV _ _ _).slots.size ≤ _); rw [arrV_size]; exact hin) rfl rfl hd fun H1 e1 z oq => ?_
  refine kk p e R s mid args below meth c H1 _ cells slots mc ms ls X ⟨hl, hW.up he ?_ z oq, oS_put hS hW he z oq, hc1, hc2, hc3, hc4⟩
  show H1[oAd G r]? = some (vp_cell _ _)
  rw [e1]
  show some ((vp_cell _ _).setSlot _ _) = _
  rw [vp_cell_i, vp_cell_i, arrV_store, e9]
  congr 2
  funext q
  by_cases hq : q = j
  · subst hq
    simp [updV, upd, vp_nar]
    try rfl
  · simp [updV, upd, hq]
theorem o_aald {t n r v : Nat} {f : Nat → Option Nat} {i : Int32} {C : String} (j : Nat) (hd : decode (oCd M) pc = .ok (.aaload, 1)) (he : H.2 r = some (.inr (.inl (t, n, f)))) (ht : oTyL[t]? = some (.object C)) (hN : Nat.blt n 2147483648 = true) (hi : i = nI j) (hj : j < n) (hv : f j = some v) (kk : Ok G M (pc + 1) lv (.inr (some v) :: st) H b Q) : Ok G M pc lv (.inl i :: .inr (some r) :: st) H b Q := by
  intro p e R s mid args below meth c hp locs cells slots mc ms ls X Y
  obtain ⟨hx, hb, hml, hrt, hlk, hnm, hown, hts, hK, hNs, hTy, hX, hsb, hbs, hFr, hWd⟩ := id X
  obtain ⟨hl, hW, hS, hc1, hc2, hc3, hc4⟩ := id Y
  have hN2 : n < 2147483648 := Nat.le_of_ble_eq_true hN
  have e9 : (nI j).toNatClampNeg = j := nI_clamp (Nat.lt_trans hj hN2)
  subst hi
  refine va_aldq hx hb hK (hW.one he) 0 t rfl (oTy_at hTy ht) (vp_in_nI hj hN2) hd ?_
  rw [e9]
  show W p (oLa G) e R s mid args below meth c hp locs cells slots (MQ below (oQ G Q) args s mc ms (oA G)) (F0 mid (pc + 1) ls (va_rf (Option.map (oAd G) (f j)) :: List.map (oV G) st))
  rw [hv]
  exact kk p e R s mid args below meth c hp locs cells slots mc ms ls X Y
theorem o_alen {t n r : Nat} {f : Nat → Int32} {ty : FieldType} (hd : decode (oCd M) pc = .ok (.arraylength, 1)) (he : H.2 r = some (.inl (t, n, f))) (ht : oTyL[t]? = some ty) (kk : Ok G M (pc + 1) lv (.inl (nI n) :: st) H b Q) : Ok G M pc lv (.inr (some r) :: st) H b Q := by
  intro p e R s mid args below meth c hp locs cells slots mc ms ls X Y
  obtain ⟨hx, hb, hml, hrt, hlk, hnm, hown, hts, hK, hNs, hTy, hX, hsb, hbs, hFr, hWd⟩ := id X
  obtain ⟨hl, hW, hS, hc1, hc2, hc3, hc4⟩ := id Y
  exact va_alen hx hb hK (hW.one he) 0 t rfl (oTy_at hTy ht) (v := nI n) rfl hd (kk p e R s mid args below meth c hp locs cells slots mc ms ls X Y)
theorem o_sld {i : Int32} (j : Nat) (hd : decode (oCd M) pc = .ok (.iaload, 1)) (hN : oN G < 2147483648) (hi : i = nI j) (hj : j < oN G) (kk : Ok G M (pc + 1) lv (.inl (oX G j) :: st) H b Q) : Ok G M pc lv (.inl i :: .inr (some 0) :: st) H b Q := by
  intro p e R s mid args below meth c hp locs cells slots mc ms ls X Y
  obtain ⟨hx, hb, hml, hrt, hlk, hnm, hown, hts, hK, hNs, hTy, hX, hsb, hbs, hFr, hWd⟩ := id X
  obtain ⟨hl, hW, hS, hc1, hc2, hc3, hc4⟩ := id Y
  have e9 : (nI j).toNatClampNeg = j := nI_clamp (Nat.lt_trans hj hN)
  subst hi
  refine va_sld hx hb hX (Nat.lt_of_lt_of_le hsb hbs) (fun h => Nat.not_le.mpr hsb h) hS (vp_in_nI hj hN) hd ?_
  rw [e9]
  exact kk p e R s mid args below meth c hp locs cells slots mc ms ls X Y
theorem o_slen (hd : decode (oCd M) pc = .ok (.arraylength, 1)) (kk : Ok G M (pc + 1) lv (.inl (nI (oN G)) :: st) H b Q) : Ok G M pc lv (.inr (some 0) :: st) H b Q := by
  intro p e R s mid args below meth c hp locs cells slots mc ms ls X Y
  obtain ⟨hx, hb, hml, hrt, hlk, hnm, hown, hts, hK, hNs, hTy, hX, hsb, hbs, hFr, hWd⟩ := id X
  obtain ⟨hl, hW, hS, hc1, hc2, hc3, hc4⟩ := id Y
  exact va_slen hx hb hX (Nat.lt_of_lt_of_le hsb hbs) (fun h => Nat.not_le.mpr hsb h) hS hd (kk p e R s mid args below meth c hp locs cells slots mc ms ls X Y)
theorem o_aast {t n r v ci : Nat} {f : Nat → Option Nat} {fs : List oU} {i : Int32} {q9 : vw_C} (j : Nat) (hd : decode (oCd M) pc = .ok (.aastore, 1)) (he : H.2 r = some (.inr (.inl (t, n, f)))) (hev : H.2 v = some (.inr (.inr (ci, fs)))) (hcl : vwCl[ci]? = some q9) (ht : oTyL[t]? = some (.object q9.1)) (hN : Nat.blt n 2147483648 = true) (hi : i = nI j) (hj : j < n) (kk : Ok G M (pc + 1) lv st (oUp H r (.inr (.inl (t, n, va_up f j (some v))))) b Q) : Ok G M pc lv (.inr (some v) :: .inl i :: .inr (some r) :: st) H b Q := by
  intro p e R s mid args below meth c hp locs cells slots mc ms ls X Y
  obtain ⟨hx, hb, hml, hrt, hlk, hnm, hown, hts, hK, hNs, hTy, hX, hsb, hbs, hFr, hWd⟩ := id X
  obtain ⟨hl, hW, hS, hc1, hc2, hc3, hc4⟩ := id Y
  have hN2 : n < 2147483648 := Nat.le_of_ble_eq_true hN
  have e9 : (nI j).toNatClampNeg = j := nI_clamp (Nat.lt_trans hj hN2)
  have hin : vp_in (nI j) n := vp_in_nI hj hN2
  subst hi
  obtain ⟨r', hr', cellV, g1, g2, g3, -⟩ := hW.one hev 0 _ rfl
  have hcls := (hK.1 ci q9 hcl).2
  obtain ⟨kA, comp, k1, k2, k3, -⟩ := (hK.2 t _ (oTy_at hTy ht)).2
  have hcomp : comp = (oD G).1 ci := Option.some.inj (k3.symm.trans hcls.1)
  subst hcomp
  obtain ⟨kC, hkC, -⟩ := hcls.2
  refine W.aast hx hb (hW.one he 0 _ rfl) (fun q h => by cases h) (fun h => by cases h) k1 k2 rfl hkC ⟨fun q => hin (Or.inl q), by show _ < (arrV _ _ _).slots.size; rw [arrV_size, e9]; exact hj⟩ g1 (fun q h => by rw [g3] at h; cases h) (by rw [g2]; exact hkC) (by rw [g2]; exact va_assign hcls) rfl rfl hd fun H1 e1 z oq => ?_
  refine kk p e R s mid args below meth c H1 _ cells slots mc ms ls X ⟨hl, hW.up he ?_ z oq, oS_put hS hW he z oq, hc1, hc2, hc3, hc4⟩
  show H1[oAd G r]? = some (vp_cell _ _)
  rw [e1]
  show some ((vp_cell _ _).setSlot _ _) = _
  rw [vp_cell_q, vp_cell_q, arrV_store, e9]
  congr 2
  funext q
  by_cases hq : q = j
  · subst hq
    simp [updV, va_up, va_rf]
  · simp [updV, va_up, hq]
theorem o_new {ci idx : Nat} {q9 : vw_C} (b' : Nat × Nat) (hd : decode (oCd M) pc = .ok (.new idx, 3)) (hcl : vwCl[ci]? = some q9) (hw : Cond.classLink M.1.cls idx q9.1 ∈ oAll) (hi : Cond.instantiable q9.1 q9.2.2 ∈ oAll) (hini : Cond.initialized q9.1 ∈ oAll) (hbb : b = (b'.1 + 1, b'.2 + q9.2.2)) (kk : Ok G M (pc + 3) lv (.inr (some (H.1 + 1)) :: st) (oNw H (.inr (.inr (ci, oDef ci)))) b' Q) : Ok G M pc lv st H b Q := by
  intro p e R s mid args below meth c hp locs cells slots mc ms ls X Y
  obtain ⟨hx, hb, hml, hrt, hlk, hnm, hown, hts, hK, hNs, hTy, hX, hsb, hbs, hFr, hWd⟩ := id X
  obtain ⟨hl, hW, hS, hc1, hc2, hc3, hc4⟩ := id Y
  subst hbb
  obtain ⟨C, T, N⟩ := q9
  have hc1 : cells + (b'.1 + 1) = mc := hc1
  have hc2 : slots + (b'.2 + N) = ms := hc2
  have hKn := hK.1 ci _ hcl
  obtain ⟨ty0, hty, hdf⟩ := oDefs G ci _ hcl
  refine W.newcK hx hb hown (hts _ hw) (hts _ hi) (hts _ hini) rfl hd (by omega) (by show slots + N ≤ R.slots; omega) hKn.2.1 hW.1 fun H1 kC hkC e1 z1 o1 => ?_
  refine kk p e R s mid args below meth c H1 _ (cells + 1) (slots + N) mc ms ls X ⟨hl, hW.new ?_ (by rw [z1, hW.1]) (fun q hq => o1 q (by rw [← hW.1]; exact hq)), ?_, by omega, by omega, hc3, hc4⟩
  · exact ⟨_, hcl, (u_born ty0 hts (oIn ci _ hcl) hKn hkC e1 hty).to hdf⟩
  · have hz := hS.1
    rw [hW.1] at hz
    exact ⟨by rw [z1]; omega, fun x h1 h2 => (o1 x (by omega)).trans (hS.2.1 x h1 h2), hS.2.2⟩
theorem o_newi {t : Nat} {i : Int32} (n : Nat) (b' : Nat × Nat) (hd : decode (oCd M) pc = .ok (.newarray .int, 2)) (ht : oTyL[t]? = some .int) (hw : Cond.arrayClass .int ∈ oAll) (hi : i = nI n) (hN : Nat.ble n 100000 = true) (hbb : b = (b'.1 + 1, b'.2 + n)) (kk : Ok G M (pc + 2) lv (.inr (some (H.1 + 1)) :: st) (oNw H (.inl (t, n, fun _ => 0))) b' Q) : Ok G M pc lv (.inl i :: st) H b Q := by
  intro p e R s mid args below meth c hp locs cells slots mc ms ls X Y
  obtain ⟨hx, hb, hml, hrt, hlk, hnm, hown, hts, hK, hNs, hTy, hX, hsb, hbs, hFr, hWd⟩ := id X
  obtain ⟨hl, hW, hS, hc1, hc2, hc3, hc4⟩ := id Y
  subst hbb
  have hc1 : cells + (b'.1 + 1) = mc := hc1
  have hc2 : slots + (b'.2 + n) = ms := hc2
  have hN2 : n ≤ 100000 := Nat.le_of_ble_eq_true hN
  have e9 : (nI n).toNatClampNeg = n := nI_clamp (by omega)
  subst hi
  refine va_newaK (atype := .int) hx hb (hts _ hw) rfl hd rfl (nI_pos (by omega)) e9 (by simp only [newarray.typeOf, componentBytes]; omega) (by omega) (by omega) hW.1 fun H1 cA e1 z1 o1 hAr hNm => ?_
  have hcA : ((oT G).getD t (0, .int)).1 = cA := Option.some.inj (((hK.2 t _ (oTy_at hTy ht)).2 : s.vm.findClass _ = some _).symm.trans hNm)
  refine kk p e R s mid args below meth c H1 _ (cells + 1) (slots + n) mc ms ls X ⟨hl, hW.new ?_ (by rw [z1, hW.1]) (fun q hq => o1 q (by rw [← hW.1]; exact hq)), ?_, by omega, by omega, hc3, hc4⟩
  · show H1[_]? = some (vp_cell _ _)
    rw [hcA]
    exact e1
  · have hz := hS.1
    rw [hW.1] at hz
    exact ⟨by rw [z1]; omega, fun x h1 h2 => (o1 x (by omega)).trans (hS.2.1 x h1 h2), hS.2.2⟩
theorem o_newz {t : Nat} {i : Int32} (n : Nat) (b' : Nat × Nat) (hd : decode (oCd M) pc = .ok (.newarray .boolean, 2)) (ht : oTyL[t]? = some .boolean) (hw : Cond.arrayClass .boolean ∈ oAll) (hi : i = nI n) (hN : Nat.ble n 100000 = true) (hbb : b = (b'.1 + 1, b'.2 + n)) (kk : Ok G M (pc + 2) lv (.inr (some (H.1 + 1)) :: st) (oNw H (.inl (t, n, fun _ => 0))) b' Q) : Ok G M pc lv (.inl i :: st) H b Q := by
  intro p e R s mid args below meth c hp locs cells slots mc ms ls X Y
  obtain ⟨hx, hb, hml, hrt, hlk, hnm, hown, hts, hK, hNs, hTy, hX, hsb, hbs, hFr, hWd⟩ := id X
  obtain ⟨hl, hW, hS, hc1, hc2, hc3, hc4⟩ := id Y
  subst hbb
  have hc1 : cells + (b'.1 + 1) = mc := hc1
  have hc2 : slots + (b'.2 + n) = ms := hc2
  have hN2 : n ≤ 100000 := Nat.le_of_ble_eq_true hN
  have e9 : (nI n).toNatClampNeg = n := nI_clamp (by omega)
  subst hi
  refine va_newaK (atype := .boolean) hx hb (hts _ hw) rfl hd rfl (nI_pos (by omega)) e9 (by simp only [newarray.typeOf, componentBytes]; omega) (by omega) (by omega) hW.1 fun H1 cA e1 z1 o1 hAr hNm => ?_
  have hcA : ((oT G).getD t (0, .int)).1 = cA := Option.some.inj (((hK.2 t _ (oTy_at hTy ht)).2 : s.vm.findClass _ = some _).symm.trans hNm)
  refine kk p e R s mid args below meth c H1 _ (cells + 1) (slots + n) mc ms ls X ⟨hl, hW.new ?_ (by rw [z1, hW.1]) (fun q hq => o1 q (by rw [← hW.1]; exact hq)), ?_, by omega, by omega, hc3, hc4⟩
  · show H1[_]? = some (vp_cell _ _)
    rw [hcA]
    exact e1
  · have hz := hS.1
    rw [hW.1] at hz
    exact ⟨by rw [z1]; omega, fun x h1 h2 => (o1 x (by omega)).trans (hS.2.1 x h1 h2), hS.2.2⟩
theorem o_anew {t idx : Nat} {i : Int32} {C : String} (n : Nat) (b' : Nat × Nat) (hd : decode (oCd M) pc = .ok (.anewarray idx, 3)) (ht : oTyL[t]? = some (.object C)) (hw : Cond.classLink M.1.cls idx C ∈ oAll) (hao : C ∈ oAO) (hi : i = nI n) (hN : Nat.ble n 100000 = true) (hbb : b = (b'.1 + 1, b'.2 + n)) (kk : Ok G M (pc + 3) lv (.inr (some (H.1 + 1)) :: st) (oNw H (.inr (.inl (t, n, fun _ => none)))) b' Q) : Ok G M pc lv (.inl i :: st) H b Q := by
  intro p e R s mid args below meth c hp locs cells slots mc ms ls X Y
  obtain ⟨hx, hb, hml, hrt, hlk, hnm, hown, hts, hK, hNs, hTy, hX, hsb, hbs, hFr, hWd⟩ := id X
  obtain ⟨hl, hW, hS, hc1, hc2, hc3, hc4⟩ := id Y
  subst hbb
  have hc1 : cells + (b'.1 + 1) = mc := hc1
  have hc2 : slots + (b'.2 + n) = ms := hc2
  have hN2 : n ≤ 100000 := Nat.le_of_ble_eq_true hN
  have e9 : (nI n).toNatClampNeg = n := nI_clamp (by omega)
  subst hi
  refine W.anew hx hb hown (hts _ hw) (va_AO.use (hNs.2.2 _ hao)) rfl hd rfl (nI_pos (by omega)) (by rw [e9]; omega) (by omega) (by rw [e9]; omega) fun cA kA comp f1 f2 f3 f4 => ?_
  rw [e9]
  obtain ⟨kA', comp', k1, k2, k3, k4⟩ := (hK.2 t _ (oTy_at hTy ht)).2
  have hcA : ((oT G).getD t (0, .int)).1 = cA := Option.some.inj (k4.symm.trans f1)
  have ha : oB G + H.1 = hp.size := hW.1.symm
  have hz := hS.1
  refine W.eq (g2 := F0 mid (pc + 3) ls ((.inr (some (H.1 + 1)) :: st).map (oV G))) (by show F0 mid (pc + 3) ls (.ref hp.size :: st.map (oV G)) = F0 mid (pc + 3) ls (.ref (oB G + H.1) :: st.map (oV G)); rw [ha]) ?_
  refine kk p e R s mid args below meth c _ _ (cells + 1) (slots + n) mc ms ls X ⟨hl, hW.new ?_ (by simp) (fun q hq => by rw [Array.getElem?_push, if_neg (Nat.ne_of_lt hq)]), ?_, by omega, by omega, hc3, hc4⟩
  · show (hp.push _)[_]? = some (vp_cell _ _)
    rw [hcA, ha, Array.getElem?_push_size, vp_cell_q, arrV_new]
    rfl
  · exact ⟨by simp; omega, fun x h1 h2 => by rw [Array.getElem?_push, if_neg (Nat.ne_of_lt (Nat.lt_of_lt_of_le h1 hz))]; exact hS.2.1 x h1 h2, hS.2.2⟩
theorem o_objInit {idx r : Nat} (hd : decode (oCd M) pc = .ok (.invokespecial idx, 3)) (hw : Cond.methodLink M.1.cls idx Lib.objectInit ∈ oAll) (hw2 : Cond.instanceMethod Lib.objectInit ∈ oAll) (hw3 : Cond.code Lib.objectInit ⟨#[0xb1]⟩ 1 none ∈ oAll) (hf : Nat.ble 1 (oFr M) = true) (hl9 : Nat.ble (st.length + 12) (oWd M) = true) (kk : Ok G M (pc + 3) lv st H b Q) : Ok G M pc lv (.inr (some r) :: st) H b Q := by
  intro p e R s mid args below meth c hp locs cells slots mc ms ls X Y
  obtain ⟨hx, hb, hml, hrt, hlk, hnm, hown, hts, hK, hNs, hTy, hX, hsb, hbs, hFr, hWd⟩ := id X
  obtain ⟨hl, hW, hS, hc1, hc2, hc3, hc4⟩ := id Y
  refine W.objInit hx hb hown (hts _ hw) (hts _ hw2) (hts _ hw3) rfl (by rw [hml]; exact hl.1) rfl hd (Nat.le_trans (Nat.le_of_ble_eq_true hf) hFr) ?_ (kk p e R s mid args below meth c hp locs cells slots mc ms ls X Y)
  have h1 := Nat.le_of_ble_eq_true hl9
  have h2 : ((st.map (oV G)).map fun v => v.category).sum = st.length := oSum G st
  show 2 * 0 + ((st.map (oV G)).map fun v => v.category).sum + 12 ≤ R.locals
  omega
theorem o_mmax {idx : Nat} {x y : Int32} (hd : decode (oCd M) pc = .ok (.invokestatic idx, 3)) (hw : Cond.methodLink M.1.cls idx Lib.Math.max.name ∈ oAll) (hw2 : Cond.static Lib.Math.max.name ∈ oAll) (hw3 : Cond.initialized "java/lang/Math" ∈ oAll) (hw4 : Cond.code Lib.Math.max.name Lib.Math.max.code 2 (some .int) ∈ oAll) (hf : Nat.ble 1 (oFr M) = true) (hl9 : Nat.ble (st.length + 13) (oWd M) = true) (kk : Ok G M (pc + 3) lv (.inl (if x < y then y else x) :: st) H b Q) : Ok G M pc lv (.inl y :: .inl x :: st) H b Q := by
  intro p e R s mid args below meth c hp locs cells slots mc ms ls X Y
  obtain ⟨hx, hb, hml, hrt, hlk, hnm, hown, hts, hK, hNs, hTy, hX, hsb, hbs, hFr, hWd⟩ := id X
  obtain ⟨hl, hW, hS, hc1, hc2, hc3, hc4⟩ := id Y
  refine va_mmax hx hb (by rw [hml]; exact hl.1.symm) hown (hts _ hw) (hts _ hw2) (hts _ hw3) (hts _ hw4) (Nat.le_trans (Nat.le_of_ble_eq_true hf) hFr) ?_ (by omega) (by omega) hd (kk p e R s mid args below meth c hp locs cells slots mc ms ls X Y)
  have h1 := Nat.le_of_ble_eq_true hl9
  have h2 : ((st.map (oV G)).map fun v => v.category).sum = st.length := oSum G st
  omega
theorem o_copy {t n0 n1 r0 r1 idx : Nat} {f g : Nat → Int32} {isp idp i : Int32} (sp dp n : Nat) (hd : decode (oCd M) pc = .ok (.invokestatic idx, 3)) (hw : Cond.methodLink M.1.cls idx arraycopyName ∈ oAll) (hw2 : Cond.native arraycopyName ∈ oAll) (hw3 : Cond.static arraycopyName ∈ oAll) (hw4 : Cond.initialized "java/lang/System" ∈ oAll) (hf : Nat.ble 1 (oFr M) = true) (hl9 : Nat.ble (st.length + (nativeFrameWords "java/lang/System" "arraycopy" 5 + 11)) (oWd M) = true)
    (he0 : H.2 r0 = some (.inl (t, n0, f))) (he1 : H.2 r1 = some (.inl (t, n1, g))) (ht : oTyL[t]? = some .int) (hN0 : Nat.ble n0 100000 = true) (hN1 : Nat.ble n1 100000 = true) (h1 : isp = nI sp) (h2 : idp = nI dp) (h3 : i = nI n) (h4 : sp + n ≤ n0) (h5 : dp + n ≤ n1)
    (kk : Ok G M (pc + 3) lv st (oUp H r1 (.inl (t, n1, va_cpy f g sp dp n))) b Q) : Ok G M pc lv (.inl i :: .inl idp :: .inr (some r1) :: .inl isp :: .inr (some r0) :: st) H b Q := by
  intro p e R s mid args below meth c hp locs cells slots mc ms ls X Y
  obtain ⟨hx, hb, hml, hrt, hlk, hnm, hown, hts, hK, hNs, hTy, hX, hsb, hbs, hFr, hWd⟩ := id X
  obtain ⟨hl, hW, hS, hc1, hc2, hc3, hc4⟩ := id Y
  have hN2 := Nat.le_of_ble_eq_true hN0
  have hN3 := Nat.le_of_ble_eq_true hN1
  subst h1; subst h2; subst h3
  have e1 : (nI sp).toNatClampNeg = sp := nI_clamp (by omega)
  have e2 : (nI dp).toNatClampNeg = dp := nI_clamp (by omega)
  have e3 : (nI n).toNatClampNeg = n := nI_clamp (by omega)
  have i1 : (nI sp).toInt = (sp : Int) := nI_toInt (by omega)
  have i2 : (nI dp).toInt = (dp : Int) := nI_toInt (by omega)
  have i3 : (nI n).toInt = (n : Int) := nI_toInt (by omega)
  intro T hT XX
  have c0 : hp[oAd G r0]? = some (vp_cell ((oT G).getD t (0, .int)).1 (n0, .inl f)) := hW.one he0 0 _ rfl
  have c1 : hp[oAd G r1]? = some (vp_cell ((oT G).getD t (0, .int)).1 (n1, .inl g)) := hW.one he1 0 _ rfl
  obtain ⟨-, k0, hk0, cm0, hkk0⟩ := (hK.2 t _ (oTy_at hTy ht)).1 n0 (fun j => .int (f j))
  have hlr : 2 * 0 + ((st.map (oV G)).map fun v => v.category).sum + (nativeFrameWords "java/lang/System" "arraycopy" 5 + 11) ≤ R.locals := by
    have h8 := Nat.le_of_ble_eq_true hl9
    have h9 : ((st.map (oV G)).map fun v => v.category).sum = st.length := oSum G st
    omega
  obtain ⟨vm', X', step⟩ := XX.arraycopy hx hown (hts _ hw) (hts _ hw2) (hts _ hw3) (hts _ hw4) (src := oAd G r0) (dst := oAd G r1) (cs := vp_cell ((oT G).getD t (0, .int)).1 (n0, .inl f)) (cd := vp_cell ((oT G).getD t (0, .int)).1 (n1, .inl g)) (srcPos := nI sp) (destPos := nI dp) (n := nI n) (by rw [hT]; exact c0) (by rw [hT]; exact c1)
    (fun _ h => by cases h) (fun _ h => by cases h) (fun h => by cases h) (fun h => by cases h) hk0 hk0 hkk0 hkk0 (by simp [refKind]) (nI_pos (by omega)) (nI_pos (by omega)) (nI_pos (by omega))
    (by rw [i1, i3]; show ¬ _ > ((arrV _ n0 (fun j => .int (f j))).slots.size : Int); rw [arrV_size]; omega)
    (by rw [i2, i3]; show ¬ _ > ((arrV _ n1 (fun j => .int (g j))).slots.size : Int); rw [arrV_size]; omega)
    (fun vm₁ _ j hj => by
      rw [e3] at hj
      have e8 : (vp_cell ((oT G).getD t (0, .int)).1 (n0, .inl f)).slots.getD ((nI sp).toNatClampNeg + j) .null = .int (f (sp + j)) := by
        show (arrV _ n0 (fun j => .int (f j))).slots.getD _ _ = _
        rw [e1, Array.getD_eq_getD_getElem?, arrV_read _ _ (by omega)]
        rfl
      rw [e8]
      exact ⟨rfl, trivial⟩)
    (g := F0 mid pc ls (.int (nI n) :: .int (nI dp) :: .ref (oAd G r1) :: .int (nI sp) :: .ref (oAd G r0) :: st.map (oV G))) rfl (by rw [hml]; exact hl.1) (rest := st.map (oV G)) rfl (by rw [hb]; exact hd) (Nat.le_trans (Nat.le_of_ble_eq_true hf) hFr) hlr
  have ecp : copied (vp_cell ((oT G).getD t (0, .int)).1 (n0, .inl f)) (vp_cell ((oT G).getD t (0, .int)).1 (n1, .inl g)) (nI sp) (nI dp) (nI n) = vp_cell ((oT G).getD t (0, .int)).1 (n1, .inl (va_cpy f g sp dp n)) := by
    have h8 := va_copied (fun z => Value.int z) ((oT G).getD t (0, .int)).1 ((oT G).getD t (0, .int)).1 (n1 := n1) (sp := sp) (dp := dp) (n := n) f g h4
    refine Eq.trans ?_ h8
    show Cell.storeRun _ (nI dp).toNatClampNeg (Cell.stretch _ (nI sp).toNatClampNeg (nI n).toNatClampNeg) = _
    rw [e1, e2, e3]
    rfl
  rw [ecp] at X' step
  have hlt : oAd G r1 < hp.size := (Array.getElem?_eq_some_iff.mp c1).1
  have oq : ∀ q : Nat, q ≠ oAd G r1 → (hp.setIfInBounds (oAd G r1) (vp_cell ((oT G).getD t (0, .int)).1 (n1, .inl (va_cpy f g sp dp n))))[q]? = hp[q]? := fun q hq => by simp [Array.getElem?_setIfInBounds, Ne.symm hq]
  obtain ⟨t9, a1, b1⟩ := kk p e R s mid args below meth c (hp.setIfInBounds (oAd G r1) (vp_cell ((oT G).getD t (0, .int)).1 (n1, .inl (va_cpy f g sp dp n)))) _ cells slots mc ms ls X ⟨hl, hW.up he1 (show (hp.setIfInBounds _ _)[_]? = some _ by simp [Array.getElem?_setIfInBounds, hlt]) (by simp) oq, ⟨by simp; exact hS.1, fun q g1 g2 => by
      rw [oq q (fun e => g2 (by rw [e]; exact hW.own he1))]
      exact hS.2.1 q g1 g2, fun q hq => by
      rcases List.mem_append.mp hq with h | h
      · exact hS.2.2 q h
      · obtain ⟨z, -, hz⟩ := List.mem_map.mp h
        rw [← hz]
        exact hW.own he1⟩, hc1, hc2, hc3, hc4⟩ _ (by rw [← hT]; rfl) X'
  exact ⟨t9, step t9 a1, b1⟩
theorem o_iret {v : Int32} {ty : FieldType} (hd : decode (oCd M) pc = .ok (.ireturn, 1)) (hr : oRt M = some ty) (hn : narrow ty (.int v) = .int v) (hq : Q (some (.inl v)) H) : Ok G M pc lv [.inl v] H b Q := by
  intro p e R s mid args below meth c hp locs cells slots mc ms ls X Y
  obtain ⟨hx, hb, hml, hrt, hlk, hnm, hown, hts, hK, hNs, hTy, hX, hsb, hbs, hFr, hWd⟩ := id X
  obtain ⟨hl, hW, hS, hc1, hc2, hc3, hc4⟩ := id Y
  exact W.widen (k := mc) (n := ms) (by omega) (by omega) (W.zret hx hb (hrt.trans hr) hn (fun t ht _ => ⟨⟨some (.inl v), H, rfl, hq, by rw [ht]; exact hW⟩, hS.F ht⟩) hS.2.2 hd hlk)
theorem o_vret (hd : decode (oCd M) pc = .ok (.return_, 1)) (hr : oRt M = none) (hq : Q none H) : Ok G M pc lv [] H b Q := by
  intro p e R s mid args below meth c hp locs cells slots mc ms ls X Y
  obtain ⟨hx, hb, hml, hrt, hlk, hnm, hown, hts, hK, hNs, hTy, hX, hsb, hbs, hFr, hWd⟩ := id X
  obtain ⟨hl, hW, hS, hc1, hc2, hc3, hc4⟩ := id Y
  exact W.widen (k := mc) (n := ms) (by omega) (by omega) (W.vret hx hb (hrt.trans hr) (fun t ht _ => ⟨⟨none, H, rfl, hq, by rw [ht]; exact hW⟩, hS.F ht⟩) hS.2.2 hd hlk)
theorem o_aret {r : Nat} {ty : FieldType} (hd : decode (oCd M) pc = .ok (.areturn, 1)) (hr : oRt M = some ty) (hrt9 : (∃ n, ty = .object n) ∨ ∃ t, ty = .array t) (hq : Q (some (.inr (some r))) H) : Ok G M pc lv [.inr (some r)] H b Q := by
  intro p e R s mid args below meth c hp locs cells slots mc ms ls X Y
  obtain ⟨hx, hb, hml, hrt, hlk, hnm, hown, hts, hK, hNs, hTy, hX, hsb, hbs, hFr, hWd⟩ := id X
  obtain ⟨hl, hW, hS, hc1, hc2, hc3, hc4⟩ := id Y
  exact W.widen (k := mc) (n := ms) (by omega) (by omega) (W.aret hx hb (hrt.trans hr) hrt9 (Or.inr ⟨_, rfl⟩) (fun t ht _ => ⟨⟨some (.inr (some r)), H, rfl, hq, by rw [ht]; exact hW⟩, hS.F ht⟩) hS.2.2 hd hlk)
end MB
end
section
/-! The machine's calls. -/
def oArgs : Nat → List oU → oL
  | _, [] => []
  | i, v :: vs => (i, v) :: oArgs (i + 1) vs
theorem oArgs_eq (G : oG) : ∀ (As : List oU) (i : Nat), (oArgs i As).map (fun q => (q.1, oV G q.2)) = lv_args i (As.map (oV G))
  | [], _ => rfl
  | v :: vs, i => by
    rw [List.map_cons]
    show (i, oV G v) :: (oArgs (i + 1) vs).map (fun q => (q.1, oV G q.2)) = (i, oV G v) :: lv_args (if (oV G v).category = 2 then i + 2 else i + 1) (vs.map (oV G))
    rw [oV_cat, if_neg (by decide), oArgs_eq G vs (i + 1)]
theorem oSl_len (G : oG) : ∀ As : List oU, (lg_sl (As.map (oV G))).length = As.length
  | [] => rfl
  | v :: vs => by
    have h := oSl_len G vs
    simp only [lg_sl, List.map_cons, List.flatMap_cons, List.length_append, List.length_cons] at h ⊢
    rw [h, oV_cat, if_neg (by decide)]
    simp
    omega
def oWs (M : oM) : List Cond := Cond.code M.1 (oCd M) (oMx M) (oRt M) :: oAll
theorem oNs.same {u U : State} (h : u.vm = U.vm) (hN : oNs u) : oNs U := ⟨fun q hq => va_Nw.same rfl h (hN.1 q hq), fun q hq => va_Nw.same rfl h (hN.2.1 q hq), fun C hC => va_AO.moved (by rw [h]; exact Vm.Alike.refl _) (hN.2.2 C hC)⟩
theorem oNs.warm {s U : State} (hW : s.WarmedH U.vm) (hN : oNs s) : oNs U := ⟨fun q hq => va_Nw.warmF hW (hN.1 q hq), fun q hq => va_Nw.warmM hW (hN.2.1 q hq), fun C hC => va_AO.moved hW.alike (hN.2.2 C hC)⟩
theorem oMet {G : oG} {M : oM} {As : List oU} {H : oH} {b : Nat × Nat} {Q : oP} (hpl : plainName M.1.cls = true) (hlen : As.length ≤ oMx M) (hok : Ok G M 0 (oArgs 0 As) [] H b Q) : Met (oLa G) M.1 (oWs M) { frames := oFr M, cells := b.1, slots := b.2, locals := oWd M } (va_Pc (As.map (oV G)) (oSt G H)) (oQ G Q) b.1 b.2 (oA G) := by
  refine Met.ofW (cc := oCd M) (maxL := oMx M) (ret := oRt M) hpl rfl ?_
  intro p e s m args below meth c s₁ B hml hv
  obtain ⟨rfl, hK, hNs, hTy, hX, hsb, hbs, hW⟩ := hv
  have hts := atoms_spec (ws := oWs M) B.pre
  have hl := lv_entry (As.map (oV G)) (n := oMx M) (by rw [oSl_len]; exact hlen)
  rw [← oArgs_eq] at hl
  rw [lg_entry_eq]
  exact hok p e _ s m _ below meth c s.heap [] 0 0 b.1 b.2 _ ⟨B.exec, B.bytes, hml, B.returns, B.notSynchronized, (name_of_methodNamed B.named B.method).1, findClass_of_methodNamed B.named, fun w h => hts w (List.mem_cons_of_mem _ h), hK, hNs, hTy, hX, hsb, hbs, Nat.le_refl _, Nat.le_refl _⟩ ⟨hl, hW, va_S.rf, Nat.zero_add _, Nat.zero_add _, Nat.le_refl _, Nat.le_refl _⟩
theorem oBlind {G : oG} {H : oH} {av : List Value} : FrameBlind (va_Pc av (oSt G H)) := by
  intro a U g mk q
  obtain ⟨q0, qK, qN, qT, qX, h1, h2, qW⟩ := q
  exact ⟨q0, va_K.moved (u := U) (U := U.calling g mk a) (Vm.Alike.refl U.vm) qK, oNs.same (u := U) (U := U.calling g mk a) rfl qN, qT, va_X.moved (u := U) (U := U.calling g mk a) (Vm.Alike.refl U.vm) qX, h1, h2, qW⟩
theorem oPre {G : oG} {M : oM} {lv : oL} {H : oH} {b : Nat × Nat} {p : Program} {R : Room} {s : State} {mid : MethodId} {args : Array Value} {meth : Method} {c : Code} {hp : Heap} {locs : List Loc} {cells slots mc ms : Nat} {ls : Array Slot} (X : oCx G M p R s mid args meth c) (Y : oDy G M lv H b R s hp locs cells slots mc ms ls) {U : State} (hU : U.heap = hp) (hWm : s.WarmedH U.vm) : oSt G H U := by
  obtain ⟨hx, hb, hml, hrt, hlk, hnm, hown, hts, hK, hNs, hTy, hX, hsb, hbs, hFr, hWd⟩ := X
  obtain ⟨hl, hW, hS, hc1, hc2, hc3, hc4⟩ := Y
  subst hU
  refine ⟨va_K.moved hWm.alike hK, oNs.warm hWm hNs, hTy, (hX.kept (hS.2.1 _ (Nat.lt_of_lt_of_le hsb hbs) (fun h => Nat.not_le.mpr hsb h))).moved hWm.alike, hsb, Nat.le_trans hbs hS.1, hW⟩
theorem oCont {G : oG} {p : Program} {e : Env} {R : Room} {s : State} {mid : MethodId} {args a : Array Value} {below : List Frame} {meth : Method} {c : Code} {hp : Heap} {locs : List Loc} {cells slots k n pc : Nat} {ls : Array Slot} {st : List oU} {st0 : List Value} {Qc : oP} {Qf : State → Prop} (hr : va_Run p (oLa G) e R s mid args below meth c hp locs cells slots k n (F0 mid pc ls st0) (st.map (oV G)) (oQ G Qc a) (oA G)) (hS : va_S (oA G) s.heap hp locs)
    (kk : ∀ (r : Option oU) (H' : oH) (H1 : Heap) (locs1 : List Loc), Qc r H' → oW G H' H1 → va_S (oA G) s.heap H1 locs1 → W p (oLa G) e R s mid args below meth c H1 locs1 (cells + k) (slots + n) Qf (F0 mid (pc + 3) ls ((r.toList ++ st).map (oV G)))) : W p (oLa G) e R s mid args below meth c hp locs cells slots Qf (F0 mid pc ls st0) := by
  intro T hT XX
  obtain ⟨v, st₀, t, T', L, h0, X', hL, e1, e2, ⟨⟨r, H', hv, hq, hw⟩, hz, hk⟩, stp⟩ := hr T hT XX
  have hv : v = r.map (oV G) := by injection hv
  subst hv
  rw [h0] at hz hk
  have hS' : va_S (oA G) s.heap T'.heap (locs ++ L) := ⟨Nat.le_trans hS.1 (by rw [e1]; exact hz), fun q h1 h2 => by rw [e1, hk q (Nat.lt_of_lt_of_le h1 hS.1) h2]; exact hS.2.1 q h1 h2, fun q hq => by
    rcases List.mem_append.mp hq with h | h
    · exact hS.2.2 q h
    · exact hL q h⟩
  have ef : (r.toList ++ st).map (oV G) = (r.map (oV G)).toList ++ st.map (oV G) := by cases r <;> rfl
  have kz := kk r H' T'.heap (locs ++ L) hq (by rw [e1]; exact hw) hS'
  rw [ef] at kz
  obtain ⟨t2, a1, b1⟩ := kz T' rfl X'
  exact ⟨t2, stp t2 a1, b1⟩
def oMk (N : oM) (n : Nat) : Prop := Cond.code N.1 (oCd N) (oMx N) (oRt N) ∈ oAll ∧ Cond.initialized N.1.cls ∈ oAll ∧ plainName N.1.cls = true ∧ (N.1.cls ≠ "java/lang/invoke/MethodHandle" ∧ N.1.cls ≠ "java/lang/invoke/VarHandle" ∧ (parseMethodDescriptor N.1.desc).map (fun d => d.parameters.length) = some n)
def oMl (own : String) (idx : Nat) (N : oM) : Prop := Cond.methodLink own idx N.1 ∈ oAll ∨ ∃ host : String, (own, idx, N.1, host) ∈ oNwM
def oFitsIn (N M : oM) : Bool := Nat.ble (oFr N + 1) (oFr M) && Nat.ble (8 + (oMx N + 11) + oWd N) (oWd M)
theorem oFitsIn.le {N M : oM} (h : oFitsIn N M = true) : oFr N + 1 ≤ oFr M ∧ 8 + (oMx N + 11) + oWd N ≤ oWd M := by
  unfold oFitsIn at h
  rw [Bool.and_eq_true] at h
  exact ⟨Nat.le_of_ble_eq_true h.1, Nat.le_of_ble_eq_true h.2⟩
theorem oGoodW {N : oM} (h : Cond.code N.1 (oCd N) (oMx N) (oRt N) ∈ oAll) : GoodIn oAll (oWs N) := by
  intro w hw
  rcases List.mem_cons.mp hw with rfl | hw
  · exact ⟨h, oGood _ h⟩
  · exact ⟨hw, oGood _ hw⟩
section MC
variable {G : oG} {M : oM} {pc : Nat} {lv : oL} {H : oH} {b : Nat × Nat} {Q : oP}
theorem o_callS {idx n : Nat} {st0 : List oU} (N : oM) (As st : List oU) (b1 b2 : Nat × Nat) (hd : decode (oCd M) pc = .ok (.invokestatic idx, 3)) (hm : oMk N n) (hs : Cond.static N.1 ∈ oAll) (hlk9 : oMl M.1.cls idx N) (hfi : oFitsIn N M = true) (hs0 : st0 = As.reverse ++ st) (hn : As.length = n) (hnm9 : As.length ≤ oMx N) (hst : Nat.ble st.length 8 = true) (hbb : b = (b1.1 + b2.1, b1.2 + b2.2))
    (kk : Ok G N 0 (oArgs 0 As) [] H b1 (fun r H' => Ok G M (pc + 3) lv (r.toList ++ st) H' b2 Q)) : Ok G M pc lv st0 H b Q := by
  intro p e R s mid args below meth c hp locs cells slots mc ms ls X Y
  obtain ⟨hx, hb, hml, hrt, hlk, hnm, hown, hts, hK, hNs, hTy, hX, hsb, hbs, hFr, hWd⟩ := id X
  obtain ⟨hl, hW, hS, hc1, hc2, hc3, hc4⟩ := id Y
  subst hs0; subst hbb
  have hc1 : cells + (b1.1 + b2.1) = mc := hc1
  have hc2 : slots + (b1.2 + b2.2) = ms := hc2
  obtain ⟨f1, f2⟩ := oFitsIn.le hfi
  have hM := oMet hm.2.2.1 hnm9 kk
  have hG := oGoodW hm.1
  have hR : oFr N + 1 ≤ R.frames ∧ 8 + (oMx N + 11) + oWd N ≤ R.locals := ⟨Nat.le_trans f1 hFr, Nat.le_trans f2 hWd⟩
  have hrm : 2 * (F0 mid pc ls ((As.reverse ++ st).map (oV G))).monitorRoom + ((st.map (oV G)).map fun v => v.category).sum ≤ 8 := lv_room (by rw [oSum]; exact Nat.le_of_ble_eq_true hst)
  have hf9 : cells + b1.1 ≤ R.cells ∧ slots + b1.2 ≤ R.slots := ⟨by omega, by omega⟩
  have hn9 : (As.map (oV G)).length = n := by rw [List.length_map]; exact hn
  have hsk : (F0 mid pc ls ((As.reverse ++ st).map (oV G))).stack = (As.map (oV G)).reverse ++ st.map (oV G) := by show (As.reverse ++ st).map (oV G) = _; rw [List.map_append, List.map_reverse]
  have hpre : PreS s hp (va_Pc (As.map (oV G)) (oSt G H)) (As.map (oV G)) := ⟨oBlind, fun U hU hWm => ⟨rfl, oPre X Y hU hWm⟩⟩
  refine oCont (Qc := fun r H' => Ok G M (pc + 3) lv (r.toList ++ st) H' b2 Q) (st := st) (k := b1.1) (n := b1.2) (a := (As.map (oV G)).toArray) ?_ hS fun r H' H1 locs1 hq hw hS1 => hq p e R s mid args below meth c H1 locs1 (cells + b1.1) (slots + b1.2) mc ms ls X ⟨hl, hw, hS1, by omega, by omega, hc3, hc4⟩
  rcases hlk9 with hlk9 | ⟨host, hlk9⟩
  · exact va_runS ⟨hx, hb, hml, hown, hts⟩ hM ⟨callB_of n hts hG rfl rfl rfl (hts _ hm.2.1) (hts _ hlk9) hm.2.2.2 hR, hts _ hs⟩ hpre rfl hn9 hl.1 hsk hrm hd hf9
  · exact va_runSN ⟨hx, hb, hml, hown, hts⟩ hM ⟨va_cnB n hts hG rfl rfl rfl (hNs.2.1 _ hlk9) (hts _ hm.2.1) hm.2.2.2 hR, hts _ hs, trivial⟩ hpre rfl hn9 hl.1 hsk hrm hd hf9
theorem o_callV {r0 ci : Nat} {fs : List oU} {q9 : vw_C} {idx n : Nat} {st0 : List oU} (N : oM) (As st : List oU) (b1 b2 : Nat × Nat) (hd : decode (oCd M) pc = .ok (.invokevirtual idx, 3)) (hm : oMk N n) (hs : Cond.instanceMethod N.1 ∈ oAll) (hs2 : Cond.selects N.1.cls N.1 N.1 ∈ oAll) (he : H.2 r0 = some (.inr (.inr (ci, fs)))) (hcl : vwCl[ci]? = some q9) (hq9 : q9.1 = N.1.cls) (hlk9 : oMl M.1.cls idx N) (hfi : oFitsIn N M = true) (hs0 : st0 = As.reverse ++ .inr (some r0) :: st) (hn : As.length = n) (hnm9 : As.length + 1 ≤ oMx N) (hst : Nat.ble st.length 8 = true) (hbb : b = (b1.1 + b2.1, b1.2 + b2.2))
    (kk : Ok G N 0 (oArgs 0 (.inr (some r0) :: As)) [] H b1 (fun r H' => Ok G M (pc + 3) lv (r.toList ++ st) H' b2 Q)) : Ok G M pc lv st0 H b Q := by
  intro p e R s mid args below meth c hp locs cells slots mc ms ls X Y
  obtain ⟨hx, hb, hml, hrt, hlk, hnm, hown, hts, hK, hNs, hTy, hX, hsb, hbs, hFr, hWd⟩ := id X
  obtain ⟨hl, hW, hS, hc1, hc2, hc3, hc4⟩ := id Y
  subst hs0; subst hbb
  have hc1 : cells + (b1.1 + b2.1) = mc := hc1
  have hc2 : slots + (b1.2 + b2.2) = ms := hc2
  obtain ⟨f1, f2⟩ := oFitsIn.le hfi
  have hM := oMet hm.2.2.1 (by rw [List.length_cons]; exact hnm9) kk
  have hG := oGoodW hm.1
  have hR : oFr N + 1 ≤ R.frames ∧ 8 + (oMx N + 11) + oWd N ≤ R.locals := ⟨Nat.le_trans f1 hFr, Nat.le_trans f2 hWd⟩
  have hrm : 2 * (F0 mid pc ls ((As.reverse ++ .inr (some r0) :: st).map (oV G))).monitorRoom + ((st.map (oV G)).map fun v => v.category).sum ≤ 8 := lv_room (by rw [oSum]; exact Nat.le_of_ble_eq_true hst)
  have hf9 : cells + b1.1 ≤ R.cells ∧ slots + b1.2 ≤ R.slots := ⟨by omega, by omega⟩
  have hn9 : (As.map (oV G)).length = n := by rw [List.length_map]; exact hn
  have hsk : (F0 mid pc ls ((As.reverse ++ .inr (some r0) :: st).map (oV G))).stack = (As.map (oV G)).reverse ++ .ref (oAd G r0) :: st.map (oV G) := by
    show (As.reverse ++ .inr (some r0) :: st).map (oV G) = _
    rw [List.map_append, List.map_reverse]
    rfl
  have hpre : PreV s hp N.1.cls (oAd G r0) (va_Pc (((.inr (some r0) : oU) :: As).map (oV G)) (oSt G H)) (As.map (oV G)) := ⟨oBlind, by rw [← hq9]; exact va_recv hK (hW.one he) hcl (q0 := 0) rfl, fun U hU hWm => ⟨rfl, oPre X Y hU hWm⟩⟩
  refine oCont (Qc := fun r H' => Ok G M (pc + 3) lv (r.toList ++ st) H' b2 Q) (st := st) (k := b1.1) (n := b1.2) (a := (((.inr (some r0) : oU) :: As).map (oV G)).toArray) ?_ hS fun r H' H1 locs1 hq hw hS1 => hq p e R s mid args below meth c H1 locs1 (cells + b1.1) (slots + b1.2) mc ms ls X ⟨hl, hw, hS1, by omega, by omega, hc3, hc4⟩
  rcases hlk9 with hlk9 | ⟨host, hlk9⟩
  · exact va_runV ⟨hx, hb, hml, hown, hts⟩ hM ⟨callB_of n hts hG rfl rfl rfl (hts _ hm.2.1) (hts _ hlk9) hm.2.2.2 hR, hts _ hs, hts _ hs2⟩ hpre rfl hn9 hl.1 hsk hrm hd hf9
  · exact va_runVN ⟨hx, hb, hml, hown, hts⟩ hM ⟨va_cnB n hts hG rfl rfl rfl (hNs.2.1 _ hlk9) (hts _ hm.2.1) hm.2.2.2 hR, hts _ hs, hts _ hs2⟩ hpre rfl hn9 hl.1 hsk hrm hd hf9
theorem o_callI {r0 : Nat} {idx n : Nat} {st0 : List oU} (N : oM) (As st : List oU) (b1 b2 : Nat × Nat) (hd : decode (oCd M) pc = .ok (.invokespecial idx, 3)) (hm : oMk N n) (hs : Cond.instanceMethod N.1 ∈ oAll) (hs2 : N.1.name = "<init>") (hrv : oRt N = none) (hlk9 : oMl M.1.cls idx N) (hfi : oFitsIn N M = true) (hs0 : st0 = As.reverse ++ .inr (some r0) :: st) (hn : As.length = n) (hnm9 : As.length + 1 ≤ oMx N) (hst : Nat.ble st.length 8 = true) (hbb : b = (b1.1 + b2.1, b1.2 + b2.2))
    (kk : Ok G N 0 (oArgs 0 (.inr (some r0) :: As)) [] H b1 (fun r H' => Ok G M (pc + 3) lv (r.toList ++ st) H' b2 Q)) : Ok G M pc lv st0 H b Q := by
  intro p e R s mid args below meth c hp locs cells slots mc ms ls X Y
  obtain ⟨hx, hb, hml, hrt, hlk, hnm, hown, hts, hK, hNs, hTy, hX, hsb, hbs, hFr, hWd⟩ := id X
  obtain ⟨hl, hW, hS, hc1, hc2, hc3, hc4⟩ := id Y
  subst hs0; subst hbb
  have hc1 : cells + (b1.1 + b2.1) = mc := hc1
  have hc2 : slots + (b1.2 + b2.2) = ms := hc2
  obtain ⟨f1, f2⟩ := oFitsIn.le hfi
  have hM := oMet hm.2.2.1 (by rw [List.length_cons]; exact hnm9) kk
  have hG := oGoodW hm.1
  have hR : oFr N + 1 ≤ R.frames ∧ 8 + (oMx N + 11) + oWd N ≤ R.locals := ⟨Nat.le_trans f1 hFr, Nat.le_trans f2 hWd⟩
  have hrm : 2 * (F0 mid pc ls ((As.reverse ++ .inr (some r0) :: st).map (oV G))).monitorRoom + ((st.map (oV G)).map fun v => v.category).sum ≤ 8 := lv_room (by rw [oSum]; exact Nat.le_of_ble_eq_true hst)
  have hf9 : cells + b1.1 ≤ R.cells ∧ slots + b1.2 ≤ R.slots := ⟨by omega, by omega⟩
  have hn9 : (As.map (oV G)).length = n := by rw [List.length_map]; exact hn
  have hsk : (F0 mid pc ls ((As.reverse ++ .inr (some r0) :: st).map (oV G))).stack = (As.map (oV G)).reverse ++ .ref (oAd G r0) :: st.map (oV G) := by
    show (As.reverse ++ .inr (some r0) :: st).map (oV G) = _
    rw [List.map_append, List.map_reverse]
    rfl
  have hpre : PreS s hp (va_Pc (((.inr (some r0) : oU) :: As).map (oV G)) (oSt G H)) (.ref (oAd G r0) :: As.map (oV G)) := ⟨oBlind, fun U hU hWm => ⟨rfl, oPre X Y hU hWm⟩⟩
  refine oCont (Qc := fun r H' => Ok G M (pc + 3) lv (r.toList ++ st) H' b2 Q) (st := st) (k := b1.1) (n := b1.2) (a := (((.inr (some r0) : oU) :: As).map (oV G)).toArray) ?_ hS fun r H' H1 locs1 hq hw hS1 => hq p e R s mid args below meth c H1 locs1 (cells + b1.1) (slots + b1.2) mc ms ls X ⟨hl, hw, hS1, by omega, by omega, hc3, hc4⟩
  have hw9 : oWs N = Cond.code N.1 (oCd N) (oMx N) none :: oAll := by unfold oWs; rw [hrv]
  rcases hlk9 with hlk9 | ⟨host, hlk9⟩
  · exact va_runI ⟨hx, hb, hml, hown, hts⟩ hM ⟨callB_of n hts hG hw9 rfl rfl (hts _ hm.2.1) (hts _ hlk9) hm.2.2.2 hR, hs2, hts _ hs⟩ hpre rfl hn9 hl.1 hsk hrm hd hf9
  · exact va_runIN ⟨hx, hb, hml, hown, hts⟩ hM ⟨va_cnB n hts hG hw9 rfl rfl (hNs.2.1 _ hlk9) (hts _ hm.2.1) hm.2.2.2 hR, hs2, hts _ hs⟩ hpre rfl hn9 hl.1 hsk hrm hd hf9
end MC
end
section
/-! The cells of a store and of a reference, by names (tag, number); a memory mu tag number place; Om: Ok where the heap is that of a memory. -/
abbrev oSh : Type := (Nat × Nat) ⊕ (Nat × List Nat) ⊕ (Nat × List (Option Nat))
abbrev oMu : Type := Nat → Nat → Nat → Int32
def cnt (t : Nat) : Nat := match t with
  | 5 => 40
  | 6 => 40
  | 7 => 3
  | 8 => 3
  | 9 => 3
  | 10 => 3
  | 11 => 3
  | 12 => 6
  | 13 => 6
  | 14 => 6
  | 15 => 6
  | 16 => 6
  | 17 => 6
  | 18 => 9
  | 19 => 9
  | t => bif Nat.blt t 39 then 1 else 0
def ad (t i : Nat) : Nat := match t with
  | 0 => 1
  | 1 => 2
  | 2 => 3
  | 3 => 4
  | 4 => 5
  | 5 => 6 + 2 * i
  | 6 => 7 + 2 * i
  | 7 => 86 + 9 * i
  | 8 => 87 + 9 * i
  | 9 => 88 + 9 * i
  | 10 => 89 + 9 * i
  | 11 => 90 + 9 * i
  | 12 => 91 + 9 * (i / 2) + 2 * (i % 2)
  | 13 => 92 + 9 * (i / 2) + 2 * (i % 2)
  | 14 => 113 + 4 * i
  | 15 => 114 + 4 * i
  | 16 => 115 + 4 * i
  | 17 => 116 + 4 * i
  | 18 => 137 + 2 * i
  | 19 => 138 + 2 * i
  | t => 135 + t
def sh (t i : Nat) : oSh := match t with
  | 0 => .inr (.inr (ciStore, [some (ad 1 0), some (ad 2 0), some (ad 3 0), some (ad 4 0), none]))
  | 1 => .inr (.inl (tyWrite, (List.range 40).map (ad 5)))
  | 2 => .inr (.inl (tyCenter, (List.range 3).map (ad 7)))
  | 3 => .inr (.inl (tyClient, (List.range 6).map (ad 14)))
  | 4 => .inr (.inl (tyRow, (List.range 9).map (ad 18)))
  | 5 => .inr (.inr (ciWrite, [some (ad 6 i), none, none, none, none, none]))
  | 6 => .inl (tyInt, 6)
  | 7 => .inr (.inr (ciCenter, [some (ad 8 i), some (ad 9 i), some (ad 10 i), some (ad 11 i)]))
  | 8 => .inl (tyBool, 40)
  | 9 => .inl (tyInt, 6)
  | 10 => .inl (tyInt, 2)
  | 11 => .inr (.inl (tyRow, [ad 12 (2 * i), ad 12 (2 * i + 1)]))
  | 12 => .inr (.inr (ciRow, [some (ad 13 i), none]))
  | 13 => .inl (tyInt, 40)
  | 14 => .inr (.inr (ciClient, [none, some (ad 15 i), some (ad 16 i), some (ad 17 i), none, none, none]))
  | 15 => .inl (tyInt, 6)
  | 16 => .inl (tyInt, 6)
  | 17 => .inl (tyInt, 6)
  | 18 => .inr (.inr (ciRow, [some (ad 19 i), none]))
  | 19 => .inl (tyInt, 40)
  | 20 => .inr (.inr (ciModel, [none, some (ad 21 0), some (ad 22 0), some (ad 23 0), some (ad 24 0), some (ad 25 0), some (ad 26 0), some (ad 27 0), some (ad 28 0), some (ad 29 0), some (ad 30 0), some (ad 31 0), some (ad 32 0), some (ad 33 0), some (ad 34 0), some (ad 35 0), some (ad 36 0), some (ad 37 0), some (ad 38 0)]))
  | 21 => .inl (tyInt, 40)
  | 22 => .inl (tyInt, 40)
  | 23 => .inl (tyInt, 40)
  | 24 => .inl (tyInt, 240)
  | 25 => .inl (tyInt, 40)
  | 26 => .inl (tyBool, 120)
  | 27 => .inl (tyInt, 6)
  | 28 => .inl (tyInt, 6)
  | 29 => .inl (tyInt, 240)
  | 30 => .inl (tyInt, 9)
  | 31 => .inl (tyInt, 360)
  | 32 => .inl (tyInt, 36)
  | 33 => .inl (tyInt, 6)
  | 34 => .inl (tyInt, 6)
  | 35 => .inl (tyInt, 6)
  | 36 => .inl (tyInt, 6)
  | 37 => .inl (tyInt, 36)
  | 38 => .inl (tyInt, 36)
  | _ => .inl (tyInt, 0)
def nmL : List (Nat × Nat) := (List.range 39).flatMap fun t => (List.range (cnt t)).map fun i => (t, i)
def nm (r : Nat) : Option (Nat × Nat) := nmL.find? fun q => ad q.1 q.2 == r
set_option maxRecDepth 100000 in
theorem nm_ad9 : ∀ t, t < 39 → ∀ i, i < cnt t → nm (ad t i) = some (t, i) := by decide +kernel
theorem cnt_lt {t i : Nat} (h : i < cnt t) : t < 39 := by
  rcases Nat.lt_or_ge t 39 with h1 | h1
  · exact h1
  · exfalso
    have h2 : cnt t = 0 := by
      match t, h1 with
      | t + 39, _ =>
        show (bif Nat.blt (t + 39) 39 then 1 else 0) = 0
        have h3 : Nat.blt (t + 39) 39 = false := by
          cases h4 : Nat.blt (t + 39) 39 with
          | false => rfl
          | true =>
            have h5 : t + 39 < 39 := Nat.le_of_ble_eq_true h4
            omega
        rw [h3]
        rfl
    omega
theorem nm_ad {t i : Nat} (h : i < cnt t) : nm (ad t i) = some (t, i) := nm_ad9 t (cnt_lt h) i h
theorem nm_some {r t i : Nat} (h : nm r = some (t, i)) : i < cnt t ∧ ad t i = r := by
  have h1 := List.find?_some h
  have h2 := List.mem_of_find?_eq_some h
  refine ⟨?_, by simpa using h1⟩
  obtain ⟨t', -, h3⟩ := List.mem_flatMap.mp h2
  obtain ⟨i', h4, h5⟩ := List.mem_map.mp h3
  cases h5
  exact List.mem_range.mp h4
set_option maxRecDepth 100000 in
theorem ad_in9 : ∀ t, t < 39 → ∀ i, i < cnt t → 1 ≤ ad t i ∧ ad t i ≤ 173 := by decide +kernel
def oFld : List (Option Nat) → Nat → (Nat → Int32) → List oU
  | [], _, _ => []
  | some r :: l, k, x => .inr (some r) :: oFld l (k + 1) x
  | none :: l, k, x => .inl (x k) :: oFld l (k + 1) x
theorem oFld_len : ∀ (l : List (Option Nat)) (i : Nat) (x : Nat → Int32), (oFld l i x).length = l.length
  | [], _, _ => rfl
  | some r :: l, k, x => by rw [oFld, List.length_cons, oFld_len l (k + 1) x, List.length_cons]
  | none :: l, k, x => by rw [oFld, List.length_cons, oFld_len l (k + 1) x, List.length_cons]
theorem oFld_i : ∀ (l : List (Option Nat)) (i k : Nat) (x : Nat → Int32), l[k]? = some none → (oFld l i x)[k]? = some (.inl (x (i + k)))
  | [], _, _, _, h => by simp at h
  | some r :: l, i, 0, x, h => by simp at h
  | some r :: l, i, k + 1, x, h => by
    rw [List.getElem?_cons_succ] at h
    rw [oFld, List.getElem?_cons_succ, oFld_i l (i + 1) k x h, show i + 1 + k = i + (k + 1) by omega]
  | none :: l, i, 0, x, h => rfl
  | none :: l, i, k + 1, x, h => by
    rw [List.getElem?_cons_succ] at h
    rw [oFld, List.getElem?_cons_succ, oFld_i l (i + 1) k x h, show i + 1 + k = i + (k + 1) by omega]
theorem oFld_r : ∀ (l : List (Option Nat)) (i k : Nat) (x : Nat → Int32) (r : Nat), l[k]? = some (some r) → (oFld l i x)[k]? = some (.inr (some r))
  | [], _, _, _, _, h => by simp at h
  | some r' :: l, i, 0, x, r, h => by
    have h : some (some r') = some (some r) := h
    cases h
    rfl
  | none :: l, i, 0, x, r, h => by simp at h
  | some r' :: l, i, k + 1, x, r, h => by
    rw [List.getElem?_cons_succ] at h
    rw [oFld, List.getElem?_cons_succ, oFld_r l (i + 1) k x r h]
  | none :: l, i, k + 1, x, r, h => by
    rw [List.getElem?_cons_succ] at h
    rw [oFld, List.getElem?_cons_succ, oFld_r l (i + 1) k x r h]
theorem oFld_lo : ∀ (l : List (Option Nat)) (i j : Nat) (x : Nat → Int32) (v : Int32), j < i → oFld l i (upd x j v) = oFld l i x
  | [], _, _, _, _, _ => rfl
  | some r :: l, i, j, x, v, h => by rw [oFld, oFld, oFld_lo l (i + 1) j x v (by omega)]
  | none :: l, i, j, x, v, h => by
    rw [oFld, oFld, oFld_lo l (i + 1) j x v (by omega)]
    simp [upd, Nat.ne_of_gt h]
theorem oFld_set : ∀ (l : List (Option Nat)) (i k : Nat) (x : Nat → Int32) (v : Int32), l[k]? = some none → (oFld l i x).set k (.inl v) = oFld l i (upd x (i + k) v)
  | [], _, _, _, _, h => by simp at h
  | some r :: l, i, 0, x, v, h => by simp at h
  | some r :: l, i, k + 1, x, v, h => by
    rw [List.getElem?_cons_succ] at h
    rw [oFld, List.set_cons_succ, oFld_set l (i + 1) k x v h, oFld, show i + 1 + k = i + (k + 1) by omega]
  | none :: l, i, 0, x, v, h => by
    rw [oFld, List.set_cons_zero, oFld, oFld_lo l (i + 1) (i + 0) x v (by omega)]
    simp [upd]
  | none :: l, i, k + 1, x, v, h => by
    rw [List.getElem?_cons_succ] at h
    rw [oFld, List.set_cons_succ, oFld_set l (i + 1) k x v h, oFld, show i + 1 + k = i + (k + 1) by omega]
    have h2 : ¬ i = i + (k + 1) := by omega
    simp [upd, h2]
def oCt (s : oSh) (x : Nat → Int32) : oC := match s with
  | .inl a => .inl (a.1, a.2, x)
  | .inr (.inl a) => .inr (.inl (a.1, a.2.length, fun j => a.2[j]?))
  | .inr (.inr a) => .inr (.inr (a.1, oFld a.2 0 x))
def enc (mu : oMu) (r : Nat) : Option oC := (nm r).map fun q => oCt (sh q.1 q.2) (mu q.1 q.2)
def oHm (mu : oMu) : oH := (173, enc mu)
def up2 (mu : oMu) (t i : Nat) (x : Nat → Int32) : oMu := fun t' i' => if t' = t ∧ i' = i then x else mu t' i'
theorem up2_s {mu : oMu} {t i : Nat} {x : Nat → Int32} : up2 mu t i x t i = x := if_pos ⟨rfl, rfl⟩
theorem up2_t {mu : oMu} {t i t' i' : Nat} {x : Nat → Int32} (h : ¬ t' = t) : up2 mu t i x t' i' = mu t' i' := if_neg fun q => h q.1
theorem up2_i {mu : oMu} {t i t' i' : Nat} {x : Nat → Int32} (h : ¬ i' = i) : up2 mu t i x t' i' = mu t' i' := if_neg fun q => h q.2
theorem enc_ad {mu : oMu} {t i : Nat} (h : i < cnt t) : (oHm mu).2 (ad t i) = some (oCt (sh t i) (mu t i)) := by
  show enc mu (ad t i) = _
  rw [enc, nm_ad h]
  rfl
theorem enc_up {mu : oMu} {t i : Nat} {x : Nat → Int32} (h : i < cnt t) : oUp (oHm mu) (ad t i) (oCt (sh t i) x) = oHm (up2 mu t i x) := by
  refine Prod.ext rfl (funext fun r => ?_)
  show va_up (enc mu) (ad t i) (some (oCt (sh t i) x)) r = enc (up2 mu t i x) r
  by_cases hr : r = ad t i
  · subst hr
    rw [enc, nm_ad h]
    simp [va_up, up2]
  · rw [enc]
    have e : va_up (enc mu) (ad t i) (some (oCt (sh t i) x)) r = enc mu r := if_neg hr
    rw [e, enc]
    cases hn : nm r with
    | none => rfl
    | some q =>
      obtain ⟨t', i'⟩ := q
      have h2 := (nm_some hn).2
      have h3 : ¬ (t' = t ∧ i' = i) := fun z => hr (by rw [← h2, z.1, z.2])
      show some (oCt (sh t' i') (mu t' i')) = some (oCt (sh t' i') (up2 mu t i x t' i'))
      rw [up2, if_neg h3]
abbrev oPm : Type := Option oU → oMu → Prop
def oHQ (Q : oPm) : oP := fun r H => ∃ mu : oMu, H = oHm mu ∧ Q r mu
abbrev Om (G : oG) (M : oM) (pc : Nat) (lv : oL) (st : List oU) (mu : oMu) (Q : oPm) : Prop := Ok G M pc lv st (oHm mu) (0, 0) (oHQ Q)
theorem Ok.mono {G : oG} {M : oM} {pc : Nat} {lv : oL} {st : List oU} {H : oH} {b : Nat × Nat} {Q Q' : oP} (h : ∀ r H', Q r H' → Q' r H') (k : Ok G M pc lv st H b Q) : Ok G M pc lv st H b Q' := by
  intro p e R s mid args below meth c hp locs cells slots mc ms ls X Y T hT XX
  obtain ⟨t, a1, o, b1, b2, ⟨⟨r, H', e1, e2, e3⟩, e4⟩, b3⟩ := k p e R s mid args below meth c hp locs cells slots mc ms ls X Y T hT XX
  exact ⟨t, a1, o, b1, b2, ⟨⟨r, H', e1, h r H' e2, e3⟩, e4⟩, b3⟩
section ML
variable {G : oG} {M : oM} {pc : Nat} {lv : oL} {st : List oU} {mu : oMu} {Q : oPm}
theorem m_geti {ci idx k t i : Nat} {l : List (Option Nat)} (hd : decode (oCd M) pc = .ok (.getfield idx, 3)) (hf : oF M.1.cls idx ci k) (hs : sh t i = .inr (.inr (ci, l))) (hk : l[k]? = some none) (hv : i < cnt t) (kk : Om G M (pc + 3) lv (.inl (mu t i k) :: st) mu Q) : Om G M pc lv (.inr (some (ad t i)) :: st) mu Q := by
  refine o_get hd hf (by rw [enc_ad hv, hs]; rfl) (v := .inl (mu t i k)) ?_ kk
  have h := oFld_i l 0 k (mu t i) hk
  rw [Nat.zero_add] at h
  exact h
theorem m_getr {ci idx k t i r : Nat} {l : List (Option Nat)} (hd : decode (oCd M) pc = .ok (.getfield idx, 3)) (hf : oF M.1.cls idx ci k) (hs : sh t i = .inr (.inr (ci, l))) (hk : l[k]? = some (some r)) (hv : i < cnt t) (kk : Om G M (pc + 3) lv (.inr (some r) :: st) mu Q) : Om G M pc lv (.inr (some (ad t i)) :: st) mu Q :=
  o_get hd hf (by rw [enc_ad hv, hs]; rfl) (oFld_r l 0 k (mu t i) r hk) kk
theorem m_puti {ci idx k t i : Nat} {l : List (Option Nat)} {x : Int32} (hd : decode (oCd M) pc = .ok (.putfield idx, 3)) (hf : oFs M.1.cls idx ci k .int) (hs : sh t i = .inr (.inr (ci, l))) (hk : l[k]? = some none) (hv : i < cnt t) (kk : ∀ mu' : oMu, mu' = up2 mu t i (upd (mu t i) k x) → Om G M (pc + 3) lv st mu' Q) : Om G M pc lv (.inl x :: .inr (some (ad t i)) :: st) mu Q := by
  refine o_put hd hf (oFit_i x) (by rw [enc_ad hv, hs]; rfl) (by rw [oFld_len]; exact (List.getElem?_eq_some_iff.mp hk).1) ?_
  rw [oFld_set l 0 k (mu t i) x hk, Nat.zero_add]
  have e : (.inr (.inr (ci, oFld l 0 (upd (mu t i) k x))) : oC) = oCt (sh t i) (upd (mu t i) k x) := by rw [hs]; rfl
  rw [e, enc_up hv]
  exact kk _ rfl
theorem m_iald {ty n t i : Nat} {x : Int32} (j : Nat) (hd : decode (oCd M) pc = .ok (.iaload, 1)) (hs : sh t i = .inl (ty, n)) (ht : oTyL[ty]? = some .int) (hN : Nat.blt n 2147483648 = true) (hv : i < cnt t) (hi : x = nI j) (hj : j < n) (kk : Om G M (pc + 1) lv (.inl (mu t i j) :: st) mu Q) : Om G M pc lv (.inl x :: .inr (some (ad t i)) :: st) mu Q :=
  o_iald j hd (by rw [enc_ad hv, hs]; rfl) ht hN hi hj kk
theorem m_zald {ty n t i : Nat} {x : Int32} (j : Nat) (hd : decode (oCd M) pc = .ok (.baload, 1)) (hs : sh t i = .inl (ty, n)) (ht : oTyL[ty]? = some .boolean) (hN : Nat.blt n 2147483648 = true) (hv : i < cnt t) (hi : x = nI j) (hj : j < n) (kk : Om G M (pc + 1) lv (.inl (mu t i j) :: st) mu Q) : Om G M pc lv (.inl x :: .inr (some (ad t i)) :: st) mu Q :=
  o_zald j hd (by rw [enc_ad hv, hs]; rfl) ht hN hi hj kk
theorem m_iast {ty n t i : Nat} {x y : Int32} (j : Nat) (hd : decode (oCd M) pc = .ok (.iastore, 1)) (hs : sh t i = .inl (ty, n)) (ht : oTyL[ty]? = some .int) (hN : Nat.blt n 2147483648 = true) (hv : i < cnt t) (hi : x = nI j) (hj : j < n) (kk : ∀ mu' : oMu, mu' = up2 mu t i (upd (mu t i) j y) → Om G M (pc + 1) lv st mu' Q) : Om G M pc lv (.inl y :: .inl x :: .inr (some (ad t i)) :: st) mu Q := by
  refine o_iast j hd (by rw [enc_ad hv, hs]; rfl) ht hN hi hj ?_
  have e : (.inl (ty, n, upd (mu t i) j y) : oC) = oCt (sh t i) (upd (mu t i) j y) := by rw [hs]; rfl
  rw [e, enc_up hv]
  exact kk _ rfl
theorem m_zast {ty n t i : Nat} {x y : Int32} (j : Nat) (hd : decode (oCd M) pc = .ok (.bastore, 1)) (hs : sh t i = .inl (ty, n)) (ht : oTyL[ty]? = some .boolean) (hN : Nat.blt n 2147483648 = true) (hv : i < cnt t) (hi : x = nI j) (hj : j < n) (hy : vp_nar .boolean y = y) (kk : ∀ mu' : oMu, mu' = up2 mu t i (upd (mu t i) j y) → Om G M (pc + 1) lv st mu' Q) : Om G M pc lv (.inl y :: .inl x :: .inr (some (ad t i)) :: st) mu Q := by
  refine o_zast j hd (by rw [enc_ad hv, hs]; rfl) ht hN hi hj ?_
  rw [hy]
  have e : (.inl (ty, n, upd (mu t i) j y) : oC) = oCt (sh t i) (upd (mu t i) j y) := by rw [hs]; rfl
  rw [e, enc_up hv]
  exact kk _ rfl
theorem m_aald {ty t i r : Nat} {l : List Nat} {x : Int32} {C : String} (j : Nat) (hd : decode (oCd M) pc = .ok (.aaload, 1)) (hs : sh t i = .inr (.inl (ty, l))) (ht : oTyL[ty]? = some (.object C)) (hN : Nat.blt l.length 2147483648 = true) (hv : i < cnt t) (hi : x = nI j) (hr : l[j]? = some r) (kk : Om G M (pc + 1) lv (.inr (some r) :: st) mu Q) : Om G M pc lv (.inl x :: .inr (some (ad t i)) :: st) mu Q :=
  o_aald j hd (by rw [enc_ad hv, hs]; rfl) ht hN hi (List.getElem?_eq_some_iff.mp hr).1 hr kk
theorem m_alen {ty n t i : Nat} (hd : decode (oCd M) pc = .ok (.arraylength, 1)) (hs : sh t i = .inl (ty, n)) (ht : oTyL[ty]? = some .int) (hv : i < cnt t) (kk : Om G M (pc + 1) lv (.inl (nI n) :: st) mu Q) : Om G M pc lv (.inr (some (ad t i)) :: st) mu Q :=
  o_alen hd (by rw [enc_ad hv, hs]; rfl) ht kk
theorem m_copy {ty n0 n1 t0 i0 t1 i1 idx : Nat} {isp idp x : Int32} (sp dp n : Nat) (hd : decode (oCd M) pc = .ok (.invokestatic idx, 3)) (hw : Cond.methodLink M.1.cls idx arraycopyName ∈ oAll) (hw2 : Cond.native arraycopyName ∈ oAll) (hw3 : Cond.static arraycopyName ∈ oAll) (hw4 : Cond.initialized "java/lang/System" ∈ oAll) (hf : Nat.ble 1 (oFr M) = true) (hl9 : Nat.ble (st.length + (nativeFrameWords "java/lang/System" "arraycopy" 5 + 11)) (oWd M) = true) (hs0 : sh t0 i0 = .inl (ty, n0)) (hs1 : sh t1 i1 = .inl (ty, n1)) (ht : oTyL[ty]? = some .int) (hN0 : Nat.ble n0 100000 = true) (hN1 : Nat.ble n1 100000 = true) (hv0 : i0 < cnt t0) (hv1 : i1 < cnt t1) (h1 : isp = nI sp) (h2 : idp = nI dp) (h3 : x = nI n) (h4 : sp + n ≤ n0) (h5 : dp + n ≤ n1)
    (kk : ∀ mu' : oMu, mu' = up2 mu t1 i1 (va_cpy (mu t0 i0) (mu t1 i1) sp dp n) → Om G M (pc + 3) lv st mu' Q) : Om G M pc lv (.inl x :: .inl idp :: .inr (some (ad t1 i1)) :: .inl isp :: .inr (some (ad t0 i0)) :: st) mu Q := by
  refine o_copy sp dp n hd hw hw2 hw3 hw4 hf hl9 (by rw [enc_ad hv0, hs0]; rfl) (by rw [enc_ad hv1, hs1]; rfl) ht hN0 hN1 h1 h2 h3 h4 h5 ?_
  have e : (.inl (ty, n1, va_cpy (mu t0 i0) (mu t1 i1) sp dp n) : oC) = oCt (sh t1 i1) (va_cpy (mu t0 i0) (mu t1 i1) sp dp n) := by rw [hs1]; rfl
  rw [e, enc_up hv1]
  exact kk _ rfl
theorem m_iret {v : Int32} (hd : decode (oCd M) pc = .ok (.ireturn, 1)) (hr : oRt M = some .int) (hq : Q (some (.inl v)) mu) : Om G M pc lv [.inl v] mu Q := o_iret hd hr rfl ⟨mu, rfl, hq⟩
theorem m_zret {v : Int32} (hd : decode (oCd M) pc = .ok (.ireturn, 1)) (hr : oRt M = some .boolean) (hn : narrow .boolean (.int v) = .int v) (hq : Q (some (.inl v)) mu) : Om G M pc lv [.inl v] mu Q := o_iret hd hr hn ⟨mu, rfl, hq⟩
theorem m_vret (hd : decode (oCd M) pc = .ok (.return_, 1)) (hr : oRt M = none) (hq : Q none mu) : Om G M pc lv [] mu Q := o_vret hd hr ⟨mu, rfl, hq⟩
theorem m_callS {idx n : Nat} {st0 : List oU} (N : oM) (As st : List oU) (hd : decode (oCd M) pc = .ok (.invokestatic idx, 3)) (hm : oMk N n) (hs : Cond.static N.1 ∈ oAll) (hlk9 : oMl M.1.cls idx N) (hfi : oFitsIn N M = true) (hs0 : st0 = As.reverse ++ st) (hn : As.length = n) (hnm9 : As.length ≤ oMx N) (hst : Nat.ble st.length 8 = true) (kk : Om G N 0 (oArgs 0 As) [] mu (fun r mu' => Om G M (pc + 3) lv (r.toList ++ st) mu' Q)) : Om G M pc lv st0 mu Q :=
  o_callS N As st (0, 0) (0, 0) hd hm hs hlk9 hfi hs0 hn hnm9 hst rfl (Ok.mono (fun r H' h => by obtain ⟨mu', rfl, h⟩ := h; exact h) kk)
theorem m_callV {t i ci idx n : Nat} {l : List (Option Nat)} {st0 : List oU} {q9 : vw_C} (N : oM) (As st : List oU) (hd : decode (oCd M) pc = .ok (.invokevirtual idx, 3)) (hm : oMk N n) (hs : Cond.instanceMethod N.1 ∈ oAll) (hs2 : Cond.selects N.1.cls N.1 N.1 ∈ oAll) (hsh : sh t i = .inr (.inr (ci, l))) (hv : i < cnt t) (hcl : vwCl[ci]? = some q9) (hq9 : q9.1 = N.1.cls) (hlk9 : oMl M.1.cls idx N) (hfi : oFitsIn N M = true) (hs0 : st0 = As.reverse ++ .inr (some (ad t i)) :: st) (hn : As.length = n) (hnm9 : As.length + 1 ≤ oMx N) (hst : Nat.ble st.length 8 = true) (kk : Om G N 0 (oArgs 0 (.inr (some (ad t i)) :: As)) [] mu (fun r mu' => Om G M (pc + 3) lv (r.toList ++ st) mu' Q)) : Om G M pc lv st0 mu Q :=
  o_callV N As st (0, 0) (0, 0) hd hm hs hs2 (by rw [enc_ad hv, hsh]; rfl) hcl hq9 hlk9 hfi hs0 hn hnm9 hst rfl (Ok.mono (fun r H' h => by obtain ⟨mu', rfl, h⟩ := h; exact h) kk)
theorem sh_q1 {j : Nat} (h : j < 40) : ((List.range 40).map (ad 5))[j]? = some (ad 5 j) := by rw [List.getElem?_map, List.getElem?_range h]; rfl
theorem sh_q2 {j : Nat} (h : j < 3) : ((List.range 3).map (ad 7))[j]? = some (ad 7 j) := by rw [List.getElem?_map, List.getElem?_range h]; rfl
theorem sh_q3 {j : Nat} (h : j < 6) : ((List.range 6).map (ad 14))[j]? = some (ad 14 j) := by rw [List.getElem?_map, List.getElem?_range h]; rfl
theorem sh_q4 {j : Nat} (h : j < 9) : ((List.range 9).map (ad 18))[j]? = some (ad 18 j) := by rw [List.getElem?_map, List.getElem?_range h]; rfl
theorem sh_wait {i j : Nat} (h : j < 2) : [ad 12 (2 * i), ad 12 (2 * i + 1)][j]? = some (ad 12 (2 * i + j)) := by
  match j, h with
  | 0, _ => rfl
  | 1, _ => rfl
theorem o_top {H : oH} {b : Nat × Nat} {Q : oP} {x : Int32} (y : Int32) (e : x = y) (k : Ok G M pc lv (.inl y :: st) H b Q) : Ok G M pc lv (.inl x :: st) H b Q := e ▸ k
end ML
end
section
/-! Numbers: compares of naturals; a write or none. -/
def dec (n : Nat) : Int32 := match n with
  | 0 => -4
  | n + 1 => nI n
theorem dec_s (n : Nat) : dec (n + 1) = nI n := rfl
theorem dec_0 : dec 0 = -4 := rfl
theorem nInc (a : Nat) : nI a + Int32.ofInt 1 = nI (a + 1) := nI_1 a
theorem nDec (a : Nat) : nI (a + 1) + Int32.ofInt (-1) = nI a := pk_m1 a
section NM
variable {G : oG} {M : oM} {pc : Nat} {lv : oL} {st : List oU} {H : oH} {b : Nat × Nat} {Q : oP}
theorem n_icmp_ge {a c : Nat} {off : Int} (tgt : Nat) (hd : decode (oCd M) pc = .ok (.if_icmp .ge off, 3)) (ht : (pc : Int) + off = (tgt : Int)) (ha : a < 2147483648) (hc : c < 2147483648) (kt : c ≤ a → Ok G M tgt lv st H b Q) (kf : a < c → Ok G M (pc + 3) lv st H b Q) : Ok G M pc lv (.inl (nI c) :: .inl (nI a) :: st) H b Q :=
  o_icmp_ge tgt hd ht (fun h => kt ((nI_leI hc ha).mp h)) (fun h => kf (Nat.lt_of_not_le fun q => h ((nI_leI hc ha).mpr q)))
theorem n_if_ge {a : Nat} {off : Int} (tgt : Nat) (hd : decode (oCd M) pc = .ok (.ifCond .ge off, 3)) (ht : (pc : Int) + off = (tgt : Int)) (ha : a < 2147483648) (kt : 0 ≤ a → Ok G M tgt lv st H b Q) (kf : a < 0 → Ok G M (pc + 3) lv st H b Q) : Ok G M pc lv (.inl (nI a) :: st) H b Q :=
  have hc : 0 < 2147483648 := by decide
  o_if_ge tgt hd ht (fun h => kt ((nI_leI hc ha).mp h)) (fun h => kf (Nat.lt_of_not_le fun q => h ((nI_leI hc ha).mpr q)))
theorem n_icmp_lt {a c : Nat} {off : Int} (tgt : Nat) (hd : decode (oCd M) pc = .ok (.if_icmp .lt off, 3)) (ht : (pc : Int) + off = (tgt : Int)) (ha : a < 2147483648) (hc : c < 2147483648) (kt : a < c → Ok G M tgt lv st H b Q) (kf : c ≤ a → Ok G M (pc + 3) lv st H b Q) : Ok G M pc lv (.inl (nI c) :: .inl (nI a) :: st) H b Q :=
  o_icmp_lt tgt hd ht (fun h => kt ((nI_ltI ha hc).mp h)) (fun h => kf (Nat.le_of_not_lt fun q => h ((nI_ltI ha hc).mpr q)))
theorem n_if_lt {a : Nat} {off : Int} (tgt : Nat) (hd : decode (oCd M) pc = .ok (.ifCond .lt off, 3)) (ht : (pc : Int) + off = (tgt : Int)) (ha : a < 2147483648) (kt : a < 0 → Ok G M tgt lv st H b Q) (kf : 0 ≤ a → Ok G M (pc + 3) lv st H b Q) : Ok G M pc lv (.inl (nI a) :: st) H b Q :=
  have hc : 0 < 2147483648 := by decide
  o_if_lt tgt hd ht (fun h => kt ((nI_ltI ha hc).mp h)) (fun h => kf (Nat.le_of_not_lt fun q => h ((nI_ltI ha hc).mpr q)))
theorem n_icmp_gt {a c : Nat} {off : Int} (tgt : Nat) (hd : decode (oCd M) pc = .ok (.if_icmp .gt off, 3)) (ht : (pc : Int) + off = (tgt : Int)) (ha : a < 2147483648) (hc : c < 2147483648) (kt : c < a → Ok G M tgt lv st H b Q) (kf : a ≤ c → Ok G M (pc + 3) lv st H b Q) : Ok G M pc lv (.inl (nI c) :: .inl (nI a) :: st) H b Q :=
  o_icmp_gt tgt hd ht (fun h => kt ((nI_ltI hc ha).mp h)) (fun h => kf (Nat.le_of_not_lt fun q => h ((nI_ltI hc ha).mpr q)))
theorem n_if_gt {a : Nat} {off : Int} (tgt : Nat) (hd : decode (oCd M) pc = .ok (.ifCond .gt off, 3)) (ht : (pc : Int) + off = (tgt : Int)) (ha : a < 2147483648) (kt : 0 < a → Ok G M tgt lv st H b Q) (kf : a ≤ 0 → Ok G M (pc + 3) lv st H b Q) : Ok G M pc lv (.inl (nI a) :: st) H b Q :=
  have hc : 0 < 2147483648 := by decide
  o_if_gt tgt hd ht (fun h => kt ((nI_ltI hc ha).mp h)) (fun h => kf (Nat.le_of_not_lt fun q => h ((nI_ltI hc ha).mpr q)))
theorem n_icmp_le {a c : Nat} {off : Int} (tgt : Nat) (hd : decode (oCd M) pc = .ok (.if_icmp .le off, 3)) (ht : (pc : Int) + off = (tgt : Int)) (ha : a < 2147483648) (hc : c < 2147483648) (kt : a ≤ c → Ok G M tgt lv st H b Q) (kf : c < a → Ok G M (pc + 3) lv st H b Q) : Ok G M pc lv (.inl (nI c) :: .inl (nI a) :: st) H b Q :=
  o_icmp_le tgt hd ht (fun h => kt ((nI_leI ha hc).mp h)) (fun h => kf (Nat.lt_of_not_le fun q => h ((nI_leI ha hc).mpr q)))
theorem n_if_le {a : Nat} {off : Int} (tgt : Nat) (hd : decode (oCd M) pc = .ok (.ifCond .le off, 3)) (ht : (pc : Int) + off = (tgt : Int)) (ha : a < 2147483648) (kt : a ≤ 0 → Ok G M tgt lv st H b Q) (kf : 0 < a → Ok G M (pc + 3) lv st H b Q) : Ok G M pc lv (.inl (nI a) :: st) H b Q :=
  have hc : 0 < 2147483648 := by decide
  o_if_le tgt hd ht (fun h => kt ((nI_leI ha hc).mp h)) (fun h => kf (Nat.lt_of_not_le fun q => h ((nI_leI ha hc).mpr q)))
theorem n_icmp_eq {a c : Nat} {off : Int} (tgt : Nat) (hd : decode (oCd M) pc = .ok (.if_icmp .eq off, 3)) (ht : (pc : Int) + off = (tgt : Int)) (ha : a < 2147483648) (hc : c < 2147483648) (kt : a = c → Ok G M tgt lv st H b Q) (kf : ¬ a = c → Ok G M (pc + 3) lv st H b Q) : Ok G M pc lv (.inl (nI c) :: .inl (nI a) :: st) H b Q :=
  o_icmp_eq tgt hd ht (fun h => kt ((nI_eq ha hc).mp h)) (fun h => kf fun q => h ((nI_eq ha hc).mpr q))
theorem n_if_eq {a : Nat} {off : Int} (tgt : Nat) (hd : decode (oCd M) pc = .ok (.ifCond .eq off, 3)) (ht : (pc : Int) + off = (tgt : Int)) (ha : a < 2147483648) (kt : a = 0 → Ok G M tgt lv st H b Q) (kf : ¬ a = 0 → Ok G M (pc + 3) lv st H b Q) : Ok G M pc lv (.inl (nI a) :: st) H b Q :=
  have hc : 0 < 2147483648 := by decide
  o_if_eq tgt hd ht (fun h => kt ((nI_eq ha hc).mp h)) (fun h => kf fun q => h ((nI_eq ha hc).mpr q))
theorem n_icmp_ne {a c : Nat} {off : Int} (tgt : Nat) (hd : decode (oCd M) pc = .ok (.if_icmp .ne off, 3)) (ht : (pc : Int) + off = (tgt : Int)) (ha : a < 2147483648) (hc : c < 2147483648) (kt : ¬ a = c → Ok G M tgt lv st H b Q) (kf : a = c → Ok G M (pc + 3) lv st H b Q) : Ok G M pc lv (.inl (nI c) :: .inl (nI a) :: st) H b Q :=
  o_icmp_ne tgt hd ht (fun h => kt fun q => h ((nI_eq ha hc).mpr q)) (fun h => kf ((nI_eq ha hc).mp h))
theorem n_if_ne {a : Nat} {off : Int} (tgt : Nat) (hd : decode (oCd M) pc = .ok (.ifCond .ne off, 3)) (ht : (pc : Int) + off = (tgt : Int)) (ha : a < 2147483648) (kt : ¬ a = 0 → Ok G M tgt lv st H b Q) (kf : a = 0 → Ok G M (pc + 3) lv st H b Q) : Ok G M pc lv (.inl (nI a) :: st) H b Q :=
  have hc : 0 < 2147483648 := by decide
  o_if_ne tgt hd ht (fun h => kt fun q => h ((nI_eq ha hc).mpr q)) (fun h => kf ((nI_eq ha hc).mp h))
end NM
end
section
theorem dC_init_0 : decode cC_init 0 = .ok (.aload_n 0, 1) := by decide +kernel
theorem dC_init_1 : decode cC_init 1 = .ok (.invokespecial 3, 3) := by decide +kernel
theorem dC_init_4 : decode cC_init 4 = .ok (.aload_n 0, 1) := by decide +kernel
theorem dC_init_5 : decode cC_init 5 = .ok (.bipush 40, 2) := by decide +kernel
theorem dC_init_7 : decode cC_init 7 = .ok (.newarray .boolean, 2) := by decide +kernel
theorem dC_init_9 : decode cC_init 9 = .ok (.putfield 9, 3) := by decide +kernel
theorem dC_init_12 : decode cC_init 12 = .ok (.aload_n 0, 1) := by decide +kernel
theorem dC_init_13 : decode cC_init 13 = .ok (.invokestatic 15, 3) := by decide +kernel
theorem dC_init_16 : decode cC_init 16 = .ok (.putfield 19, 3) := by decide +kernel
theorem dC_init_19 : decode cC_init 19 = .ok (.aload_n 0, 1) := by decide +kernel
theorem dC_init_20 : decode cC_init 20 = .ok (.iconst 2, 1) := by decide +kernel
theorem dC_init_21 : decode cC_init 21 = .ok (.newarray .int, 2) := by decide +kernel
theorem dC_init_23 : decode cC_init 23 = .ok (.putfield 23, 3) := by decide +kernel
theorem dC_init_26 : decode cC_init 26 = .ok (.aload_n 0, 1) := by decide +kernel
theorem dC_init_27 : decode cC_init 27 = .ok (.iconst 2, 1) := by decide +kernel
theorem dC_init_28 : decode cC_init 28 = .ok (.anewarray 26, 3) := by decide +kernel
theorem dC_init_31 : decode cC_init 31 = .ok (.putfield 28, 3) := by decide +kernel
theorem dC_init_34 : decode cC_init 34 = .ok (.iconst 0, 1) := by decide +kernel
theorem dC_init_35 : decode cC_init 35 = .ok (.istore_n 1, 1) := by decide +kernel
theorem dC_init_36 : decode cC_init 36 = .ok (.iload_n 1, 1) := by decide +kernel
theorem dC_init_37 : decode cC_init 37 = .ok (.iconst 2, 1) := by decide +kernel
theorem dC_init_38 : decode cC_init 38 = .ok (.if_icmp .ge 22, 3) := by decide +kernel
theorem dC_init_41 : decode cC_init 41 = .ok (.aload_n 0, 1) := by decide +kernel
theorem dC_init_42 : decode cC_init 42 = .ok (.getfield 28, 3) := by decide +kernel
theorem dC_init_45 : decode cC_init 45 = .ok (.iload_n 1, 1) := by decide +kernel
theorem dC_init_46 : decode cC_init 46 = .ok (.new 26, 3) := by decide +kernel
theorem dC_init_49 : decode cC_init 49 = .ok (.dup, 1) := by decide +kernel
theorem dC_init_50 : decode cC_init 50 = .ok (.invokespecial 32, 3) := by decide +kernel
theorem dC_init_53 : decode cC_init 53 = .ok (.aastore, 1) := by decide +kernel
theorem dC_init_54 : decode cC_init 54 = .ok (.iinc 1 1, 3) := by decide +kernel
theorem dC_init_57 : decode cC_init 57 = .ok (.goto (-21), 3) := by decide +kernel
theorem dC_init_60 : decode cC_init 60 = .ok (.return_, 1) := by decide +kernel
theorem dK_init_0 : decode cK_init 0 = .ok (.aload_n 0, 1) := by decide +kernel
theorem dK_init_1 : decode cK_init 1 = .ok (.invokespecial 3, 3) := by decide +kernel
theorem dK_init_4 : decode cK_init 4 = .ok (.aload_n 0, 1) := by decide +kernel
theorem dK_init_5 : decode cK_init 5 = .ok (.invokestatic 9, 3) := by decide +kernel
theorem dK_init_8 : decode cK_init 8 = .ok (.putfield 13, 3) := by decide +kernel
theorem dK_init_11 : decode cK_init 11 = .ok (.aload_n 0, 1) := by decide +kernel
theorem dK_init_12 : decode cK_init 12 = .ok (.invokestatic 9, 3) := by decide +kernel
theorem dK_init_15 : decode cK_init 15 = .ok (.putfield 19, 3) := by decide +kernel
theorem dK_init_18 : decode cK_init 18 = .ok (.aload_n 0, 1) := by decide +kernel
theorem dK_init_19 : decode cK_init 19 = .ok (.invokestatic 9, 3) := by decide +kernel
theorem dK_init_22 : decode cK_init 22 = .ok (.putfield 22, 3) := by decide +kernel
theorem dK_init_25 : decode cK_init 25 = .ok (.aload_n 0, 1) := by decide +kernel
theorem dK_init_26 : decode cK_init 26 = .ok (.iload_n 1, 1) := by decide +kernel
theorem dK_init_27 : decode cK_init 27 = .ok (.putfield 25, 3) := by decide +kernel
theorem dK_init_30 : decode cK_init 30 = .ok (.return_, 1) := by decide +kernel
theorem dK_isOpen_0 : decode cK_isOpen 0 = .ok (.aload_n 0, 1) := by decide +kernel
theorem dK_isOpen_1 : decode cK_isOpen 1 = .ok (.getfield 29, 3) := by decide +kernel
theorem dK_isOpen_4 : decode cK_isOpen 4 = .ok (.ifCond .eq 7, 3) := by decide +kernel
theorem dK_isOpen_7 : decode cK_isOpen 7 = .ok (.iconst 1, 1) := by decide +kernel
theorem dK_isOpen_8 : decode cK_isOpen 8 = .ok (.goto 4, 3) := by decide +kernel
theorem dK_isOpen_11 : decode cK_isOpen 11 = .ok (.iconst 0, 1) := by decide +kernel
theorem dK_isOpen_12 : decode cK_isOpen 12 = .ok (.ireturn, 1) := by decide +kernel
theorem dK_open_0 : decode cK_open 0 = .ok (.aload_n 0, 1) := by decide +kernel
theorem dK_open_1 : decode cK_open 1 = .ok (.iload_n 1, 1) := by decide +kernel
theorem dK_open_2 : decode cK_open 2 = .ok (.putfield 32, 3) := by decide +kernel
theorem dK_open_5 : decode cK_open 5 = .ok (.aload_n 0, 1) := by decide +kernel
theorem dK_open_6 : decode cK_open 6 = .ok (.iload_n 1, 1) := by decide +kernel
theorem dK_open_7 : decode cK_open 7 = .ok (.putfield 29, 3) := by decide +kernel
theorem dK_open_10 : decode cK_open 10 = .ok (.aload_n 0, 1) := by decide +kernel
theorem dK_open_11 : decode cK_open 11 = .ok (.iconst 1, 1) := by decide +kernel
theorem dK_open_12 : decode cK_open 12 = .ok (.putfield 35, 3) := by decide +kernel
theorem dK_open_15 : decode cK_open 15 = .ok (.aload_n 0, 1) := by decide +kernel
theorem dK_open_16 : decode cK_open 16 = .ok (.getfield 19, 3) := by decide +kernel
theorem dK_open_19 : decode cK_open 19 = .ok (.bipush (-4), 2) := by decide +kernel
theorem dK_open_21 : decode cK_open 21 = .ok (.invokestatic 38, 3) := by decide +kernel
theorem dK_open_24 : decode cK_open 24 = .ok (.return_, 1) := by decide +kernel
theorem dR_init_0 : decode cR_init 0 = .ok (.aload_n 0, 1) := by decide +kernel
theorem dR_init_1 : decode cR_init 1 = .ok (.invokespecial 3, 3) := by decide +kernel
theorem dR_init_4 : decode cR_init 4 = .ok (.aload_n 0, 1) := by decide +kernel
theorem dR_init_5 : decode cR_init 5 = .ok (.bipush 40, 2) := by decide +kernel
theorem dR_init_7 : decode cR_init 7 = .ok (.newarray .int, 2) := by decide +kernel
theorem dR_init_9 : decode cR_init 9 = .ok (.putfield 9, 3) := by decide +kernel
theorem dR_init_12 : decode cR_init 12 = .ok (.return_, 1) := by decide +kernel
theorem dR_at_0 : decode cR_at 0 = .ok (.iload_n 1, 1) := by decide +kernel
theorem dR_at_1 : decode cR_at 1 = .ok (.ifCond .lt 20, 3) := by decide +kernel
theorem dR_at_4 : decode cR_at 4 = .ok (.iload_n 1, 1) := by decide +kernel
theorem dR_at_5 : decode cR_at 5 = .ok (.aload_n 0, 1) := by decide +kernel
theorem dR_at_6 : decode cR_at 6 = .ok (.getfield 15, 3) := by decide +kernel
theorem dR_at_9 : decode cR_at 9 = .ok (.if_icmp .ge 12, 3) := by decide +kernel
theorem dR_at_12 : decode cR_at 12 = .ok (.aload_n 0, 1) := by decide +kernel
theorem dR_at_13 : decode cR_at 13 = .ok (.getfield 9, 3) := by decide +kernel
theorem dR_at_16 : decode cR_at 16 = .ok (.iload_n 1, 1) := by decide +kernel
theorem dR_at_17 : decode cR_at 17 = .ok (.iaload, 1) := by decide +kernel
theorem dR_at_18 : decode cR_at 18 = .ok (.goto 5, 3) := by decide +kernel
theorem dR_at_21 : decode cR_at 21 = .ok (.bipush (-4), 2) := by decide +kernel
theorem dR_at_23 : decode cR_at 23 = .ok (.ireturn, 1) := by decide +kernel
theorem dR_append_0 : decode cR_append 0 = .ok (.aload_n 0, 1) := by decide +kernel
theorem dR_append_1 : decode cR_append 1 = .ok (.getfield 15, 3) := by decide +kernel
theorem dR_append_4 : decode cR_append 4 = .ok (.bipush 40, 2) := by decide +kernel
theorem dR_append_6 : decode cR_append 6 = .ok (.if_icmp .ge 23, 3) := by decide +kernel
theorem dR_append_9 : decode cR_append 9 = .ok (.aload_n 0, 1) := by decide +kernel
theorem dR_append_10 : decode cR_append 10 = .ok (.getfield 9, 3) := by decide +kernel
theorem dR_append_13 : decode cR_append 13 = .ok (.aload_n 0, 1) := by decide +kernel
theorem dR_append_14 : decode cR_append 14 = .ok (.getfield 15, 3) := by decide +kernel
theorem dR_append_17 : decode cR_append 17 = .ok (.iload_n 1, 1) := by decide +kernel
theorem dR_append_18 : decode cR_append 18 = .ok (.iastore, 1) := by decide +kernel
theorem dR_append_19 : decode cR_append 19 = .ok (.aload_n 0, 1) := by decide +kernel
theorem dR_append_20 : decode cR_append 20 = .ok (.dup, 1) := by decide +kernel
theorem dR_append_21 : decode cR_append 21 = .ok (.getfield 15, 3) := by decide +kernel
theorem dR_append_24 : decode cR_append 24 = .ok (.iconst 1, 1) := by decide +kernel
theorem dR_append_25 : decode cR_append 25 = .ok (.iadd, 1) := by decide +kernel
theorem dR_append_26 : decode cR_append 26 = .ok (.putfield 15, 3) := by decide +kernel
theorem dR_append_29 : decode cR_append 29 = .ok (.return_, 1) := by decide +kernel
theorem dR_removeAt_0 : decode cR_removeAt 0 = .ok (.iload_n 1, 1) := by decide +kernel
theorem dR_removeAt_1 : decode cR_removeAt 1 = .ok (.ifCond .lt 44, 3) := by decide +kernel
theorem dR_removeAt_4 : decode cR_removeAt 4 = .ok (.iload_n 1, 1) := by decide +kernel
theorem dR_removeAt_5 : decode cR_removeAt 5 = .ok (.aload_n 0, 1) := by decide +kernel
theorem dR_removeAt_6 : decode cR_removeAt 6 = .ok (.getfield 15, 3) := by decide +kernel
theorem dR_removeAt_9 : decode cR_removeAt 9 = .ok (.if_icmp .ge 36, 3) := by decide +kernel
theorem dR_removeAt_12 : decode cR_removeAt 12 = .ok (.aload_n 0, 1) := by decide +kernel
theorem dR_removeAt_13 : decode cR_removeAt 13 = .ok (.getfield 9, 3) := by decide +kernel
theorem dR_removeAt_16 : decode cR_removeAt 16 = .ok (.iload_n 1, 1) := by decide +kernel
theorem dR_removeAt_17 : decode cR_removeAt 17 = .ok (.iconst 1, 1) := by decide +kernel
theorem dR_removeAt_18 : decode cR_removeAt 18 = .ok (.iadd, 1) := by decide +kernel
theorem dR_removeAt_19 : decode cR_removeAt 19 = .ok (.aload_n 0, 1) := by decide +kernel
theorem dR_removeAt_20 : decode cR_removeAt 20 = .ok (.getfield 9, 3) := by decide +kernel
theorem dR_removeAt_23 : decode cR_removeAt 23 = .ok (.iload_n 1, 1) := by decide +kernel
theorem dR_removeAt_24 : decode cR_removeAt 24 = .ok (.aload_n 0, 1) := by decide +kernel
theorem dR_removeAt_25 : decode cR_removeAt 25 = .ok (.getfield 15, 3) := by decide +kernel
theorem dR_removeAt_28 : decode cR_removeAt 28 = .ok (.iload_n 1, 1) := by decide +kernel
theorem dR_removeAt_29 : decode cR_removeAt 29 = .ok (.isub, 1) := by decide +kernel
theorem dR_removeAt_30 : decode cR_removeAt 30 = .ok (.iconst 1, 1) := by decide +kernel
theorem dR_removeAt_31 : decode cR_removeAt 31 = .ok (.isub, 1) := by decide +kernel
theorem dR_removeAt_32 : decode cR_removeAt 32 = .ok (.invokestatic 19, 3) := by decide +kernel
theorem dR_removeAt_35 : decode cR_removeAt 35 = .ok (.aload_n 0, 1) := by decide +kernel
theorem dR_removeAt_36 : decode cR_removeAt 36 = .ok (.dup, 1) := by decide +kernel
theorem dR_removeAt_37 : decode cR_removeAt 37 = .ok (.getfield 15, 3) := by decide +kernel
theorem dR_removeAt_40 : decode cR_removeAt 40 = .ok (.iconst 1, 1) := by decide +kernel
theorem dR_removeAt_41 : decode cR_removeAt 41 = .ok (.isub, 1) := by decide +kernel
theorem dR_removeAt_42 : decode cR_removeAt 42 = .ok (.putfield 15, 3) := by decide +kernel
theorem dR_removeAt_45 : decode cR_removeAt 45 = .ok (.return_, 1) := by decide +kernel
theorem dW_init_0 : decode cW_init 0 = .ok (.aload_n 0, 1) := by decide +kernel
theorem dW_init_1 : decode cW_init 1 = .ok (.invokespecial 3, 3) := by decide +kernel
theorem dW_init_4 : decode cW_init 4 = .ok (.aload_n 0, 1) := by decide +kernel
theorem dW_init_5 : decode cW_init 5 = .ok (.invokestatic 9, 3) := by decide +kernel
theorem dW_init_8 : decode cW_init 8 = .ok (.putfield 13, 3) := by decide +kernel
theorem dW_init_11 : decode cW_init 11 = .ok (.return_, 1) := by decide +kernel
theorem dW_fill_0 : decode cW_fill 0 = .ok (.aload_n 0, 1) := by decide +kernel
theorem dW_fill_1 : decode cW_fill 1 = .ok (.iload_n 1, 1) := by decide +kernel
theorem dW_fill_2 : decode cW_fill 2 = .ok (.putfield 19, 3) := by decide +kernel
theorem dW_fill_5 : decode cW_fill 5 = .ok (.aload_n 0, 1) := by decide +kernel
theorem dW_fill_6 : decode cW_fill 6 = .ok (.iload_n 2, 1) := by decide +kernel
theorem dW_fill_7 : decode cW_fill 7 = .ok (.putfield 23, 3) := by decide +kernel
theorem dW_fill_10 : decode cW_fill 10 = .ok (.aload_n 0, 1) := by decide +kernel
theorem dW_fill_11 : decode cW_fill 11 = .ok (.iload_n 3, 1) := by decide +kernel
theorem dW_fill_12 : decode cW_fill 12 = .ok (.putfield 26, 3) := by decide +kernel
theorem dW_fill_15 : decode cW_fill 15 = .ok (.aload_n 0, 1) := by decide +kernel
theorem dW_fill_16 : decode cW_fill 16 = .ok (.iconst 4, 1) := by decide +kernel
theorem dW_fill_17 : decode cW_fill 17 = .ok (.iload_n 3, 1) := by decide +kernel
theorem dW_fill_18 : decode cW_fill 18 = .ok (.imul, 1) := by decide +kernel
theorem dW_fill_19 : decode cW_fill 19 = .ok (.iload 4, 2) := by decide +kernel
theorem dW_fill_21 : decode cW_fill 21 = .ok (.iadd, 1) := by decide +kernel
theorem dW_fill_22 : decode cW_fill 22 = .ok (.putfield 29, 3) := by decide +kernel
theorem dW_fill_25 : decode cW_fill 25 = .ok (.return_, 1) := by decide +kernel
theorem dW_dependOn_0 : decode cW_dependOn 0 = .ok (.aload_n 1, 1) := by decide +kernel
theorem dW_dependOn_1 : decode cW_dependOn 1 = .ok (.iconst 0, 1) := by decide +kernel
theorem dW_dependOn_2 : decode cW_dependOn 2 = .ok (.aload_n 0, 1) := by decide +kernel
theorem dW_dependOn_3 : decode cW_dependOn 3 = .ok (.getfield 13, 3) := by decide +kernel
theorem dW_dependOn_6 : decode cW_dependOn 6 = .ok (.iconst 0, 1) := by decide +kernel
theorem dW_dependOn_7 : decode cW_dependOn 7 = .ok (.bipush 6, 2) := by decide +kernel
theorem dW_dependOn_9 : decode cW_dependOn 9 = .ok (.invokestatic 32, 3) := by decide +kernel
theorem dW_dependOn_12 : decode cW_dependOn 12 = .ok (.aload_n 0, 1) := by decide +kernel
theorem dW_dependOn_13 : decode cW_dependOn 13 = .ok (.iload_n 2, 1) := by decide +kernel
theorem dW_dependOn_14 : decode cW_dependOn 14 = .ok (.putfield 38, 3) := by decide +kernel
theorem dW_dependOn_17 : decode cW_dependOn 17 = .ok (.return_, 1) := by decide +kernel
theorem dS_init_0 : decode cS_init 0 = .ok (.aload_n 0, 1) := by decide +kernel
theorem dS_init_1 : decode cS_init 1 = .ok (.invokespecial 1, 3) := by decide +kernel
theorem dS_init_4 : decode cS_init 4 = .ok (.aload_n 0, 1) := by decide +kernel
theorem dS_init_5 : decode cS_init 5 = .ok (.bipush 40, 2) := by decide +kernel
theorem dS_init_7 : decode cS_init 7 = .ok (.anewarray 9, 3) := by decide +kernel
theorem dS_init_10 : decode cS_init 10 = .ok (.putfield 11, 3) := by decide +kernel
theorem dS_init_13 : decode cS_init 13 = .ok (.aload_n 0, 1) := by decide +kernel
theorem dS_init_14 : decode cS_init 14 = .ok (.iconst 3, 1) := by decide +kernel
theorem dS_init_15 : decode cS_init 15 = .ok (.anewarray 15, 3) := by decide +kernel
theorem dS_init_18 : decode cS_init 18 = .ok (.putfield 17, 3) := by decide +kernel
theorem dS_init_21 : decode cS_init 21 = .ok (.aload_n 0, 1) := by decide +kernel
theorem dS_init_22 : decode cS_init 22 = .ok (.bipush 6, 2) := by decide +kernel
theorem dS_init_24 : decode cS_init 24 = .ok (.anewarray 21, 3) := by decide +kernel
theorem dS_init_27 : decode cS_init 27 = .ok (.putfield 23, 3) := by decide +kernel
theorem dS_init_30 : decode cS_init 30 = .ok (.aload_n 0, 1) := by decide +kernel
theorem dS_init_31 : decode cS_init 31 = .ok (.bipush 9, 2) := by decide +kernel
theorem dS_init_33 : decode cS_init 33 = .ok (.anewarray 27, 3) := by decide +kernel
theorem dS_init_36 : decode cS_init 36 = .ok (.putfield 29, 3) := by decide +kernel
theorem dS_init_39 : decode cS_init 39 = .ok (.iconst 0, 1) := by decide +kernel
theorem dS_init_40 : decode cS_init 40 = .ok (.istore_n 1, 1) := by decide +kernel
theorem dS_init_41 : decode cS_init 41 = .ok (.iload_n 1, 1) := by decide +kernel
theorem dS_init_42 : decode cS_init 42 = .ok (.bipush 40, 2) := by decide +kernel
theorem dS_init_44 : decode cS_init 44 = .ok (.if_icmp .ge 22, 3) := by decide +kernel
theorem dS_init_47 : decode cS_init 47 = .ok (.aload_n 0, 1) := by decide +kernel
theorem dS_init_48 : decode cS_init 48 = .ok (.getfield 11, 3) := by decide +kernel
theorem dS_init_51 : decode cS_init 51 = .ok (.iload_n 1, 1) := by decide +kernel
theorem dS_init_52 : decode cS_init 52 = .ok (.new 9, 3) := by decide +kernel
theorem dS_init_55 : decode cS_init 55 = .ok (.dup, 1) := by decide +kernel
theorem dS_init_56 : decode cS_init 56 = .ok (.invokespecial 33, 3) := by decide +kernel
theorem dS_init_59 : decode cS_init 59 = .ok (.aastore, 1) := by decide +kernel
theorem dS_init_60 : decode cS_init 60 = .ok (.iinc 1 1, 3) := by decide +kernel
theorem dS_init_63 : decode cS_init 63 = .ok (.goto (-22), 3) := by decide +kernel
theorem dS_init_66 : decode cS_init 66 = .ok (.iconst 0, 1) := by decide +kernel
theorem dS_init_67 : decode cS_init 67 = .ok (.istore_n 1, 1) := by decide +kernel
theorem dS_init_68 : decode cS_init 68 = .ok (.iload_n 1, 1) := by decide +kernel
theorem dS_init_69 : decode cS_init 69 = .ok (.iconst 3, 1) := by decide +kernel
theorem dS_init_70 : decode cS_init 70 = .ok (.if_icmp .ge 22, 3) := by decide +kernel
theorem dS_init_73 : decode cS_init 73 = .ok (.aload_n 0, 1) := by decide +kernel
theorem dS_init_74 : decode cS_init 74 = .ok (.getfield 17, 3) := by decide +kernel
theorem dS_init_77 : decode cS_init 77 = .ok (.iload_n 1, 1) := by decide +kernel
theorem dS_init_78 : decode cS_init 78 = .ok (.new 15, 3) := by decide +kernel
theorem dS_init_81 : decode cS_init 81 = .ok (.dup, 1) := by decide +kernel
theorem dS_init_82 : decode cS_init 82 = .ok (.invokespecial 34, 3) := by decide +kernel
theorem dS_init_85 : decode cS_init 85 = .ok (.aastore, 1) := by decide +kernel
theorem dS_init_86 : decode cS_init 86 = .ok (.iinc 1 1, 3) := by decide +kernel
theorem dS_init_89 : decode cS_init 89 = .ok (.goto (-21), 3) := by decide +kernel
theorem dS_init_92 : decode cS_init 92 = .ok (.iconst 0, 1) := by decide +kernel
theorem dS_init_93 : decode cS_init 93 = .ok (.istore_n 1, 1) := by decide +kernel
theorem dS_init_94 : decode cS_init 94 = .ok (.iload_n 1, 1) := by decide +kernel
theorem dS_init_95 : decode cS_init 95 = .ok (.bipush 6, 2) := by decide +kernel
theorem dS_init_97 : decode cS_init 97 = .ok (.if_icmp .ge 25, 3) := by decide +kernel
theorem dS_init_100 : decode cS_init 100 = .ok (.aload_n 0, 1) := by decide +kernel
theorem dS_init_101 : decode cS_init 101 = .ok (.getfield 23, 3) := by decide +kernel
theorem dS_init_104 : decode cS_init 104 = .ok (.iload_n 1, 1) := by decide +kernel
theorem dS_init_105 : decode cS_init 105 = .ok (.new 21, 3) := by decide +kernel
theorem dS_init_108 : decode cS_init 108 = .ok (.dup, 1) := by decide +kernel
theorem dS_init_109 : decode cS_init 109 = .ok (.iload_n 1, 1) := by decide +kernel
theorem dS_init_110 : decode cS_init 110 = .ok (.iconst 3, 1) := by decide +kernel
theorem dS_init_111 : decode cS_init 111 = .ok (.irem, 1) := by decide +kernel
theorem dS_init_112 : decode cS_init 112 = .ok (.invokespecial 35, 3) := by decide +kernel
theorem dS_init_115 : decode cS_init 115 = .ok (.aastore, 1) := by decide +kernel
theorem dS_init_116 : decode cS_init 116 = .ok (.iinc 1 1, 3) := by decide +kernel
theorem dS_init_119 : decode cS_init 119 = .ok (.goto (-25), 3) := by decide +kernel
theorem dS_init_122 : decode cS_init 122 = .ok (.iconst 0, 1) := by decide +kernel
theorem dS_init_123 : decode cS_init 123 = .ok (.istore_n 1, 1) := by decide +kernel
theorem dS_init_124 : decode cS_init 124 = .ok (.iload_n 1, 1) := by decide +kernel
theorem dS_init_125 : decode cS_init 125 = .ok (.bipush 9, 2) := by decide +kernel
theorem dS_init_127 : decode cS_init 127 = .ok (.if_icmp .ge 22, 3) := by decide +kernel
theorem dS_init_130 : decode cS_init 130 = .ok (.aload_n 0, 1) := by decide +kernel
theorem dS_init_131 : decode cS_init 131 = .ok (.getfield 29, 3) := by decide +kernel
theorem dS_init_134 : decode cS_init 134 = .ok (.iload_n 1, 1) := by decide +kernel
theorem dS_init_135 : decode cS_init 135 = .ok (.new 27, 3) := by decide +kernel
theorem dS_init_138 : decode cS_init 138 = .ok (.dup, 1) := by decide +kernel
theorem dS_init_139 : decode cS_init 139 = .ok (.invokespecial 38, 3) := by decide +kernel
theorem dS_init_142 : decode cS_init 142 = .ok (.aastore, 1) := by decide +kernel
theorem dS_init_143 : decode cS_init 143 = .ok (.iinc 1 1, 3) := by decide +kernel
theorem dS_init_146 : decode cS_init 146 = .ok (.goto (-22), 3) := by decide +kernel
theorem dS_init_149 : decode cS_init 149 = .ok (.return_, 1) := by decide +kernel
theorem dS_put_0 : decode cS_put 0 = .ok (.iload_n 1, 1) := by decide +kernel
theorem dS_put_1 : decode cS_put 1 = .ok (.invokestatic 39, 3) := by decide +kernel
theorem dS_put_4 : decode cS_put 4 = .ok (.ifCond .eq 10, 3) := by decide +kernel
theorem dS_put_7 : decode cS_put 7 = .ok (.iload_n 2, 1) := by decide +kernel
theorem dS_put_8 : decode cS_put 8 = .ok (.invokestatic 43, 3) := by decide +kernel
theorem dS_put_11 : decode cS_put 11 = .ok (.ifCond .ne 5, 3) := by decide +kernel
theorem dS_put_14 : decode cS_put 14 = .ok (.iconst (-1), 1) := by decide +kernel
theorem dS_put_15 : decode cS_put 15 = .ok (.ireturn, 1) := by decide +kernel
theorem dS_put_16 : decode cS_put 16 = .ok (.aload_n 0, 1) := by decide +kernel
theorem dS_put_17 : decode cS_put 17 = .ok (.getfield 23, 3) := by decide +kernel
theorem dS_put_20 : decode cS_put 20 = .ok (.iload_n 1, 1) := by decide +kernel
theorem dS_put_21 : decode cS_put 21 = .ok (.aaload, 1) := by decide +kernel
theorem dS_put_22 : decode cS_put 22 = .ok (.astore 4, 2) := by decide +kernel
theorem dS_put_24 : decode cS_put 24 = .ok (.aload 4, 2) := by decide +kernel
theorem dS_put_26 : decode cS_put 26 = .ok (.invokevirtual 46, 3) := by decide +kernel
theorem dS_put_29 : decode cS_put 29 = .ok (.ifCond .eq 6, 3) := by decide +kernel
theorem dS_put_32 : decode cS_put 32 = .ok (.bipush (-2), 2) := by decide +kernel
theorem dS_put_34 : decode cS_put 34 = .ok (.ireturn, 1) := by decide +kernel
theorem dS_put_35 : decode cS_put 35 = .ok (.aload_n 0, 1) := by decide +kernel
theorem dS_put_36 : decode cS_put 36 = .ok (.getfield 50, 3) := by decide +kernel
theorem dS_put_39 : decode cS_put 39 = .ok (.bipush 40, 2) := by decide +kernel
theorem dS_put_41 : decode cS_put 41 = .ok (.if_icmp .lt 6, 3) := by decide +kernel
theorem dS_put_44 : decode cS_put 44 = .ok (.bipush (-3), 2) := by decide +kernel
theorem dS_put_46 : decode cS_put 46 = .ok (.ireturn, 1) := by decide +kernel
theorem dS_put_47 : decode cS_put 47 = .ok (.aload_n 0, 1) := by decide +kernel
theorem dS_put_48 : decode cS_put 48 = .ok (.aload 4, 2) := by decide +kernel
theorem dS_put_50 : decode cS_put 50 = .ok (.iload_n 2, 1) := by decide +kernel
theorem dS_put_51 : decode cS_put 51 = .ok (.iconst 2, 1) := by decide +kernel
theorem dS_put_52 : decode cS_put 52 = .ok (.irem, 1) := by decide +kernel
theorem dS_put_53 : decode cS_put 53 = .ok (.invokevirtual 54, 3) := by decide +kernel
theorem dS_put_56 : decode cS_put 56 = .ok (.istore 5, 2) := by decide +kernel
theorem dS_put_58 : decode cS_put 58 = .ok (.aload_n 0, 1) := by decide +kernel
theorem dS_put_59 : decode cS_put 59 = .ok (.getfield 50, 3) := by decide +kernel
theorem dS_put_62 : decode cS_put 62 = .ok (.istore 6, 2) := by decide +kernel
theorem dS_put_64 : decode cS_put 64 = .ok (.aload_n 0, 1) := by decide +kernel
theorem dS_put_65 : decode cS_put 65 = .ok (.getfield 11, 3) := by decide +kernel
theorem dS_put_68 : decode cS_put 68 = .ok (.iload 6, 2) := by decide +kernel
theorem dS_put_70 : decode cS_put 70 = .ok (.aaload, 1) := by decide +kernel
theorem dS_put_71 : decode cS_put 71 = .ok (.iload_n 2, 1) := by decide +kernel
theorem dS_put_72 : decode cS_put 72 = .ok (.iload_n 3, 1) := by decide +kernel
theorem dS_put_73 : decode cS_put 73 = .ok (.iload 5, 2) := by decide +kernel
theorem dS_put_75 : decode cS_put 75 = .ok (.aload 4, 2) := by decide +kernel
theorem dS_put_77 : decode cS_put 77 = .ok (.getfield 58, 3) := by decide +kernel
theorem dS_put_80 : decode cS_put 80 = .ok (.invokevirtual 61, 3) := by decide +kernel
theorem dS_put_83 : decode cS_put 83 = .ok (.aload_n 0, 1) := by decide +kernel
theorem dS_put_84 : decode cS_put 84 = .ok (.getfield 11, 3) := by decide +kernel
theorem dS_put_87 : decode cS_put 87 = .ok (.iload 6, 2) := by decide +kernel
theorem dS_put_89 : decode cS_put 89 = .ok (.aaload, 1) := by decide +kernel
theorem dS_put_90 : decode cS_put 90 = .ok (.aload 4, 2) := by decide +kernel
theorem dS_put_92 : decode cS_put 92 = .ok (.getfield 65, 3) := by decide +kernel
theorem dS_put_95 : decode cS_put 95 = .ok (.aload_n 0, 1) := by decide +kernel
theorem dS_put_96 : decode cS_put 96 = .ok (.aload 4, 2) := by decide +kernel
theorem dS_put_98 : decode cS_put 98 = .ok (.getfield 65, 3) := by decide +kernel
theorem dS_put_101 : decode cS_put 101 = .ok (.invokevirtual 69, 3) := by decide +kernel
theorem dS_put_104 : decode cS_put 104 = .ok (.invokevirtual 73, 3) := by decide +kernel
theorem dS_put_107 : decode cS_put 107 = .ok (.aload_n 0, 1) := by decide +kernel
theorem dS_put_108 : decode cS_put 108 = .ok (.dup, 1) := by decide +kernel
theorem dS_put_109 : decode cS_put 109 = .ok (.getfield 50, 3) := by decide +kernel
theorem dS_put_112 : decode cS_put 112 = .ok (.iconst 1, 1) := by decide +kernel
theorem dS_put_113 : decode cS_put 113 = .ok (.iadd, 1) := by decide +kernel
theorem dS_put_114 : decode cS_put 114 = .ok (.putfield 50, 3) := by decide +kernel
theorem dS_put_117 : decode cS_put 117 = .ok (.aload_n 0, 1) := by decide +kernel
theorem dS_put_118 : decode cS_put 118 = .ok (.aload 4, 2) := by decide +kernel
theorem dS_put_120 : decode cS_put 120 = .ok (.getfield 58, 3) := by decide +kernel
theorem dS_put_123 : decode cS_put 123 = .ok (.iload 6, 2) := by decide +kernel
theorem dS_put_125 : decode cS_put 125 = .ok (.invokevirtual 77, 3) := by decide +kernel
theorem dS_put_128 : decode cS_put 128 = .ok (.aload_n 0, 1) := by decide +kernel
theorem dS_put_129 : decode cS_put 129 = .ok (.aload 4, 2) := by decide +kernel
theorem dS_put_131 : decode cS_put 131 = .ok (.getfield 58, 3) := by decide +kernel
theorem dS_put_134 : decode cS_put 134 = .ok (.iload 6, 2) := by decide +kernel
theorem dS_put_136 : decode cS_put 136 = .ok (.invokevirtual 81, 3) := by decide +kernel
theorem dS_put_139 : decode cS_put 139 = .ok (.aload_n 0, 1) := by decide +kernel
theorem dS_put_140 : decode cS_put 140 = .ok (.aload 4, 2) := by decide +kernel
theorem dS_put_142 : decode cS_put 142 = .ok (.iload 6, 2) := by decide +kernel
theorem dS_put_144 : decode cS_put 144 = .ok (.invokevirtual 84, 3) := by decide +kernel
theorem dS_put_147 : decode cS_put 147 = .ok (.iload 6, 2) := by decide +kernel
theorem dS_put_149 : decode cS_put 149 = .ok (.ireturn, 1) := by decide +kernel
theorem dS_get_0 : decode cS_get 0 = .ok (.iload_n 1, 1) := by decide +kernel
theorem dS_get_1 : decode cS_get 1 = .ok (.invokestatic 39, 3) := by decide +kernel
theorem dS_get_4 : decode cS_get 4 = .ok (.ifCond .eq 10, 3) := by decide +kernel
theorem dS_get_7 : decode cS_get 7 = .ok (.iload_n 2, 1) := by decide +kernel
theorem dS_get_8 : decode cS_get 8 = .ok (.invokestatic 43, 3) := by decide +kernel
theorem dS_get_11 : decode cS_get 11 = .ok (.ifCond .ne 5, 3) := by decide +kernel
theorem dS_get_14 : decode cS_get 14 = .ok (.iconst (-1), 1) := by decide +kernel
theorem dS_get_15 : decode cS_get 15 = .ok (.ireturn, 1) := by decide +kernel
theorem dS_get_16 : decode cS_get 16 = .ok (.aload_n 0, 1) := by decide +kernel
theorem dS_get_17 : decode cS_get 17 = .ok (.getfield 23, 3) := by decide +kernel
theorem dS_get_20 : decode cS_get 20 = .ok (.iload_n 1, 1) := by decide +kernel
theorem dS_get_21 : decode cS_get 21 = .ok (.aaload, 1) := by decide +kernel
theorem dS_get_22 : decode cS_get 22 = .ok (.astore_n 3, 1) := by decide +kernel
theorem dS_get_23 : decode cS_get 23 = .ok (.aload_n 3, 1) := by decide +kernel
theorem dS_get_24 : decode cS_get 24 = .ok (.invokevirtual 46, 3) := by decide +kernel
theorem dS_get_27 : decode cS_get 27 = .ok (.ifCond .eq 6, 3) := by decide +kernel
theorem dS_get_30 : decode cS_get 30 = .ok (.bipush (-2), 2) := by decide +kernel
theorem dS_get_32 : decode cS_get 32 = .ok (.ireturn, 1) := by decide +kernel
theorem dS_get_33 : decode cS_get 33 = .ok (.aload_n 0, 1) := by decide +kernel
theorem dS_get_34 : decode cS_get 34 = .ok (.getfield 17, 3) := by decide +kernel
theorem dS_get_37 : decode cS_get 37 = .ok (.aload_n 3, 1) := by decide +kernel
theorem dS_get_38 : decode cS_get 38 = .ok (.getfield 58, 3) := by decide +kernel
theorem dS_get_41 : decode cS_get 41 = .ok (.aaload, 1) := by decide +kernel
theorem dS_get_42 : decode cS_get 42 = .ok (.getfield 88, 3) := by decide +kernel
theorem dS_get_45 : decode cS_get 45 = .ok (.iload_n 2, 1) := by decide +kernel
theorem dS_get_46 : decode cS_get 46 = .ok (.iaload, 1) := by decide +kernel
theorem dS_get_47 : decode cS_get 47 = .ok (.istore 4, 2) := by decide +kernel
theorem dS_get_49 : decode cS_get 49 = .ok (.aload_n 0, 1) := by decide +kernel
theorem dS_get_50 : decode cS_get 50 = .ok (.aload_n 3, 1) := by decide +kernel
theorem dS_get_51 : decode cS_get 51 = .ok (.iload 4, 2) := by decide +kernel
theorem dS_get_53 : decode cS_get 53 = .ok (.invokevirtual 84, 3) := by decide +kernel
theorem dS_get_56 : decode cS_get 56 = .ok (.iload 4, 2) := by decide +kernel
theorem dS_get_58 : decode cS_get 58 = .ok (.ireturn, 1) := by decide +kernel
theorem dS_begin_0 : decode cS_begin 0 = .ok (.iload_n 1, 1) := by decide +kernel
theorem dS_begin_1 : decode cS_begin 1 = .ok (.invokestatic 39, 3) := by decide +kernel
theorem dS_begin_4 : decode cS_begin 4 = .ok (.ifCond .eq 26, 3) := by decide +kernel
theorem dS_begin_7 : decode cS_begin 7 = .ok (.iload_n 2, 1) := by decide +kernel
theorem dS_begin_8 : decode cS_begin 8 = .ok (.iconst 1, 1) := by decide +kernel
theorem dS_begin_9 : decode cS_begin 9 = .ok (.if_icmp .lt 21, 3) := by decide +kernel
theorem dS_begin_12 : decode cS_begin 12 = .ok (.iload_n 2, 1) := by decide +kernel
theorem dS_begin_13 : decode cS_begin 13 = .ok (.bipush 63, 2) := by decide +kernel
theorem dS_begin_15 : decode cS_begin 15 = .ok (.if_icmp .gt 15, 3) := by decide +kernel
theorem dS_begin_18 : decode cS_begin 18 = .ok (.aload_n 0, 1) := by decide +kernel
theorem dS_begin_19 : decode cS_begin 19 = .ok (.getfield 23, 3) := by decide +kernel
theorem dS_begin_22 : decode cS_begin 22 = .ok (.iload_n 1, 1) := by decide +kernel
theorem dS_begin_23 : decode cS_begin 23 = .ok (.aaload, 1) := by decide +kernel
theorem dS_begin_24 : decode cS_begin 24 = .ok (.invokevirtual 46, 3) := by decide +kernel
theorem dS_begin_27 : decode cS_begin 27 = .ok (.ifCond .eq 5, 3) := by decide +kernel
theorem dS_begin_30 : decode cS_begin 30 = .ok (.iconst 0, 1) := by decide +kernel
theorem dS_begin_31 : decode cS_begin 31 = .ok (.ireturn, 1) := by decide +kernel
theorem dS_begin_32 : decode cS_begin 32 = .ok (.aload_n 0, 1) := by decide +kernel
theorem dS_begin_33 : decode cS_begin 33 = .ok (.getfield 23, 3) := by decide +kernel
theorem dS_begin_36 : decode cS_begin 36 = .ok (.iload_n 1, 1) := by decide +kernel
theorem dS_begin_37 : decode cS_begin 37 = .ok (.aaload, 1) := by decide +kernel
theorem dS_begin_38 : decode cS_begin 38 = .ok (.iload_n 2, 1) := by decide +kernel
theorem dS_begin_39 : decode cS_begin 39 = .ok (.invokevirtual 91, 3) := by decide +kernel
theorem dS_begin_42 : decode cS_begin 42 = .ok (.iconst 1, 1) := by decide +kernel
theorem dS_begin_43 : decode cS_begin 43 = .ok (.ireturn, 1) := by decide +kernel
theorem dS_read_0 : decode cS_read 0 = .ok (.iload_n 1, 1) := by decide +kernel
theorem dS_read_1 : decode cS_read 1 = .ok (.invokestatic 39, 3) := by decide +kernel
theorem dS_read_4 : decode cS_read 4 = .ok (.ifCond .ne 5, 3) := by decide +kernel
theorem dS_read_7 : decode cS_read 7 = .ok (.iconst (-1), 1) := by decide +kernel
theorem dS_read_8 : decode cS_read 8 = .ok (.ireturn, 1) := by decide +kernel
theorem dS_read_9 : decode cS_read 9 = .ok (.aload_n 0, 1) := by decide +kernel
theorem dS_read_10 : decode cS_read 10 = .ok (.getfield 23, 3) := by decide +kernel
theorem dS_read_13 : decode cS_read 13 = .ok (.iload_n 1, 1) := by decide +kernel
theorem dS_read_14 : decode cS_read 14 = .ok (.aaload, 1) := by decide +kernel
theorem dS_read_15 : decode cS_read 15 = .ok (.astore_n 2, 1) := by decide +kernel
theorem dS_read_16 : decode cS_read 16 = .ok (.aload_n 2, 1) := by decide +kernel
theorem dS_read_17 : decode cS_read 17 = .ok (.invokevirtual 46, 3) := by decide +kernel
theorem dS_read_20 : decode cS_read 20 = .ok (.ifCond .ne 6, 3) := by decide +kernel
theorem dS_read_23 : decode cS_read 23 = .ok (.bipush (-4), 2) := by decide +kernel
theorem dS_read_25 : decode cS_read 25 = .ok (.ireturn, 1) := by decide +kernel
theorem dS_read_26 : decode cS_read 26 = .ok (.aload_n 0, 1) := by decide +kernel
theorem dS_read_27 : decode cS_read 27 = .ok (.aload_n 2, 1) := by decide +kernel
theorem dS_read_28 : decode cS_read 28 = .ok (.invokevirtual 94, 3) := by decide +kernel
theorem dS_read_31 : decode cS_read 31 = .ok (.aload_n 2, 1) := by decide +kernel
theorem dS_read_32 : decode cS_read 32 = .ok (.getfield 98, 3) := by decide +kernel
theorem dS_read_35 : decode cS_read 35 = .ok (.ifCond .ne 16, 3) := by decide +kernel
theorem dS_read_38 : decode cS_read 38 = .ok (.aload_n 2, 1) := by decide +kernel
theorem dS_read_39 : decode cS_read 39 = .ok (.getfield 101, 3) := by decide +kernel
theorem dS_read_42 : decode cS_read 42 = .ok (.iconst 1, 1) := by decide +kernel
theorem dS_read_43 : decode cS_read 43 = .ok (.if_icmp .ne 8, 3) := by decide +kernel
theorem dS_read_46 : decode cS_read 46 = .ok (.aload_n 0, 1) := by decide +kernel
theorem dS_read_47 : decode cS_read 47 = .ok (.aload_n 2, 1) := by decide +kernel
theorem dS_read_48 : decode cS_read 48 = .ok (.invokevirtual 104, 3) := by decide +kernel
theorem dS_read_51 : decode cS_read 51 = .ok (.aload_n 2, 1) := by decide +kernel
theorem dS_read_52 : decode cS_read 52 = .ok (.getfield 98, 3) := by decide +kernel
theorem dS_read_55 : decode cS_read 55 = .ok (.ifCond .ne 8, 3) := by decide +kernel
theorem dS_read_58 : decode cS_read 58 = .ok (.aload_n 0, 1) := by decide +kernel
theorem dS_read_59 : decode cS_read 59 = .ok (.aload_n 2, 1) := by decide +kernel
theorem dS_read_60 : decode cS_read 60 = .ok (.invokevirtual 107, 3) := by decide +kernel
theorem dS_read_63 : decode cS_read 63 = .ok (.aload_n 2, 1) := by decide +kernel
theorem dS_read_64 : decode cS_read 64 = .ok (.getfield 98, 3) := by decide +kernel
theorem dS_read_67 : decode cS_read 67 = .ok (.invokestatic 110, 3) := by decide +kernel
theorem dS_read_70 : decode cS_read 70 = .ok (.ireturn, 1) := by decide +kernel
theorem dS_got_0 : decode cS_got 0 = .ok (.iload_n 1, 1) := by decide +kernel
theorem dS_got_1 : decode cS_got 1 = .ok (.invokestatic 39, 3) := by decide +kernel
theorem dS_got_4 : decode cS_got 4 = .ok (.ifCond .eq 24, 3) := by decide +kernel
theorem dS_got_7 : decode cS_got 7 = .ok (.iload_n 2, 1) := by decide +kernel
theorem dS_got_8 : decode cS_got 8 = .ok (.invokestatic 43, 3) := by decide +kernel
theorem dS_got_11 : decode cS_got 11 = .ok (.ifCond .eq 17, 3) := by decide +kernel
theorem dS_got_14 : decode cS_got 14 = .ok (.aload_n 0, 1) := by decide +kernel
theorem dS_got_15 : decode cS_got 15 = .ok (.getfield 23, 3) := by decide +kernel
theorem dS_got_18 : decode cS_got 18 = .ok (.iload_n 1, 1) := by decide +kernel
theorem dS_got_19 : decode cS_got 19 = .ok (.aaload, 1) := by decide +kernel
theorem dS_got_20 : decode cS_got 20 = .ok (.getfield 116, 3) := by decide +kernel
theorem dS_got_23 : decode cS_got 23 = .ok (.iload_n 2, 1) := by decide +kernel
theorem dS_got_24 : decode cS_got 24 = .ok (.iaload, 1) := by decide +kernel
theorem dS_got_25 : decode cS_got 25 = .ok (.goto 4, 3) := by decide +kernel
theorem dS_got_28 : decode cS_got 28 = .ok (.iconst (-1), 1) := by decide +kernel
theorem dS_got_29 : decode cS_got 29 = .ok (.ireturn, 1) := by decide +kernel
theorem dS_rounds_0 : decode cS_rounds 0 = .ok (.iload_n 1, 1) := by decide +kernel
theorem dS_rounds_1 : decode cS_rounds 1 = .ok (.invokestatic 39, 3) := by decide +kernel
theorem dS_rounds_4 : decode cS_rounds 4 = .ok (.ifCond .eq 15, 3) := by decide +kernel
theorem dS_rounds_7 : decode cS_rounds 7 = .ok (.aload_n 0, 1) := by decide +kernel
theorem dS_rounds_8 : decode cS_rounds 8 = .ok (.getfield 23, 3) := by decide +kernel
theorem dS_rounds_11 : decode cS_rounds 11 = .ok (.iload_n 1, 1) := by decide +kernel
theorem dS_rounds_12 : decode cS_rounds 12 = .ok (.aaload, 1) := by decide +kernel
theorem dS_rounds_13 : decode cS_rounds 13 = .ok (.getfield 101, 3) := by decide +kernel
theorem dS_rounds_16 : decode cS_rounds 16 = .ok (.goto 4, 3) := by decide +kernel
theorem dS_rounds_19 : decode cS_rounds 19 = .ok (.iconst (-1), 1) := by decide +kernel
theorem dS_rounds_20 : decode cS_rounds 20 = .ok (.ireturn, 1) := by decide +kernel
theorem dS_deliver_0 : decode cS_deliver 0 = .ok (.aload_n 0, 1) := by decide +kernel
theorem dS_deliver_1 : decode cS_deliver 1 = .ok (.iload_n 1, 1) := by decide +kernel
theorem dS_deliver_2 : decode cS_deliver 2 = .ok (.iload_n 2, 1) := by decide +kernel
theorem dS_deliver_3 : decode cS_deliver 3 = .ok (.iload_n 3, 1) := by decide +kernel
theorem dS_deliver_4 : decode cS_deliver 4 = .ok (.invokevirtual 119, 3) := by decide +kernel
theorem dS_deliver_7 : decode cS_deliver 7 = .ok (.istore 4, 2) := by decide +kernel
theorem dS_deliver_9 : decode cS_deliver 9 = .ok (.aload_n 0, 1) := by decide +kernel
theorem dS_deliver_10 : decode cS_deliver 10 = .ok (.iload 4, 2) := by decide +kernel
theorem dS_deliver_12 : decode cS_deliver 12 = .ok (.invokevirtual 123, 3) := by decide +kernel
theorem dS_deliver_15 : decode cS_deliver 15 = .ok (.ifCond .ne 5, 3) := by decide +kernel
theorem dS_deliver_18 : decode cS_deliver 18 = .ok (.iconst 0, 1) := by decide +kernel
theorem dS_deliver_19 : decode cS_deliver 19 = .ok (.ireturn, 1) := by decide +kernel
theorem dS_deliver_20 : decode cS_deliver 20 = .ok (.aload_n 0, 1) := by decide +kernel
theorem dS_deliver_21 : decode cS_deliver 21 = .ok (.getfield 29, 3) := by decide +kernel
theorem dS_deliver_24 : decode cS_deliver 24 = .ok (.iload_n 1, 1) := by decide +kernel
theorem dS_deliver_25 : decode cS_deliver 25 = .ok (.iconst 3, 1) := by decide +kernel
theorem dS_deliver_26 : decode cS_deliver 26 = .ok (.imul, 1) := by decide +kernel
theorem dS_deliver_27 : decode cS_deliver 27 = .ok (.iload_n 2, 1) := by decide +kernel
theorem dS_deliver_28 : decode cS_deliver 28 = .ok (.iadd, 1) := by decide +kernel
theorem dS_deliver_29 : decode cS_deliver 29 = .ok (.aaload, 1) := by decide +kernel
theorem dS_deliver_30 : decode cS_deliver 30 = .ok (.iload_n 3, 1) := by decide +kernel
theorem dS_deliver_31 : decode cS_deliver 31 = .ok (.invokevirtual 126, 3) := by decide +kernel
theorem dS_deliver_34 : decode cS_deliver 34 = .ok (.aload_n 0, 1) := by decide +kernel
theorem dS_deliver_35 : decode cS_deliver 35 = .ok (.getfield 17, 3) := by decide +kernel
theorem dS_deliver_38 : decode cS_deliver 38 = .ok (.iload_n 2, 1) := by decide +kernel
theorem dS_deliver_39 : decode cS_deliver 39 = .ok (.aaload, 1) := by decide +kernel
theorem dS_deliver_40 : decode cS_deliver 40 = .ok (.astore 5, 2) := by decide +kernel
theorem dS_deliver_42 : decode cS_deliver 42 = .ok (.aload_n 0, 1) := by decide +kernel
theorem dS_deliver_43 : decode cS_deliver 43 = .ok (.getfield 11, 3) := by decide +kernel
theorem dS_deliver_46 : decode cS_deliver 46 = .ok (.iload 4, 2) := by decide +kernel
theorem dS_deliver_48 : decode cS_deliver 48 = .ok (.aaload, 1) := by decide +kernel
theorem dS_deliver_49 : decode cS_deliver 49 = .ok (.getfield 129, 3) := by decide +kernel
theorem dS_deliver_52 : decode cS_deliver 52 = .ok (.iconst 2, 1) := by decide +kernel
theorem dS_deliver_53 : decode cS_deliver 53 = .ok (.irem, 1) := by decide +kernel
theorem dS_deliver_54 : decode cS_deliver 54 = .ok (.istore 6, 2) := by decide +kernel
theorem dS_deliver_56 : decode cS_deliver 56 = .ok (.aload 5, 2) := by decide +kernel
theorem dS_deliver_58 : decode cS_deliver 58 = .ok (.getfield 132, 3) := by decide +kernel
theorem dS_deliver_61 : decode cS_deliver 61 = .ok (.iload 6, 2) := by decide +kernel
theorem dS_deliver_63 : decode cS_deliver 63 = .ok (.aload 5, 2) := by decide +kernel
theorem dS_deliver_65 : decode cS_deliver 65 = .ok (.getfield 132, 3) := by decide +kernel
theorem dS_deliver_68 : decode cS_deliver 68 = .ok (.iload 6, 2) := by decide +kernel
theorem dS_deliver_70 : decode cS_deliver 70 = .ok (.iaload, 1) := by decide +kernel
theorem dS_deliver_71 : decode cS_deliver 71 = .ok (.aload_n 0, 1) := by decide +kernel
theorem dS_deliver_72 : decode cS_deliver 72 = .ok (.getfield 11, 3) := by decide +kernel
theorem dS_deliver_75 : decode cS_deliver 75 = .ok (.iload 4, 2) := by decide +kernel
theorem dS_deliver_77 : decode cS_deliver 77 = .ok (.aaload, 1) := by decide +kernel
theorem dS_deliver_78 : decode cS_deliver 78 = .ok (.getfield 135, 3) := by decide +kernel
theorem dS_deliver_81 : decode cS_deliver 81 = .ok (.invokestatic 138, 3) := by decide +kernel
theorem dS_deliver_84 : decode cS_deliver 84 = .ok (.iastore, 1) := by decide +kernel
theorem dS_deliver_85 : decode cS_deliver 85 = .ok (.aload 5, 2) := by decide +kernel
theorem dS_deliver_87 : decode cS_deliver 87 = .ok (.getfield 144, 3) := by decide +kernel
theorem dS_deliver_90 : decode cS_deliver 90 = .ok (.iload 6, 2) := by decide +kernel
theorem dS_deliver_92 : decode cS_deliver 92 = .ok (.aaload, 1) := by decide +kernel
theorem dS_deliver_93 : decode cS_deliver 93 = .ok (.iload 4, 2) := by decide +kernel
theorem dS_deliver_95 : decode cS_deliver 95 = .ok (.invokevirtual 147, 3) := by decide +kernel
theorem dS_deliver_98 : decode cS_deliver 98 = .ok (.iconst 1, 1) := by decide +kernel
theorem dS_deliver_99 : decode cS_deliver 99 = .ok (.ireturn, 1) := by decide +kernel
theorem dS_serve_0 : decode cS_serve 0 = .ok (.iload_n 1, 1) := by decide +kernel
theorem dS_serve_1 : decode cS_serve 1 = .ok (.invokestatic 150, 3) := by decide +kernel
theorem dS_serve_4 : decode cS_serve 4 = .ok (.ifCond .eq 10, 3) := by decide +kernel
theorem dS_serve_7 : decode cS_serve 7 = .ok (.iload_n 2, 1) := by decide +kernel
theorem dS_serve_8 : decode cS_serve 8 = .ok (.invokestatic 153, 3) := by decide +kernel
theorem dS_serve_11 : decode cS_serve 11 = .ok (.ifCond .ne 5, 3) := by decide +kernel
theorem dS_serve_14 : decode cS_serve 14 = .ok (.iconst (-1), 1) := by decide +kernel
theorem dS_serve_15 : decode cS_serve 15 = .ok (.ireturn, 1) := by decide +kernel
theorem dS_serve_16 : decode cS_serve 16 = .ok (.aload_n 0, 1) := by decide +kernel
theorem dS_serve_17 : decode cS_serve 17 = .ok (.getfield 17, 3) := by decide +kernel
theorem dS_serve_20 : decode cS_serve 20 = .ok (.iload_n 1, 1) := by decide +kernel
theorem dS_serve_21 : decode cS_serve 21 = .ok (.aaload, 1) := by decide +kernel
theorem dS_serve_22 : decode cS_serve 22 = .ok (.getfield 144, 3) := by decide +kernel
theorem dS_serve_25 : decode cS_serve 25 = .ok (.iload_n 2, 1) := by decide +kernel
theorem dS_serve_26 : decode cS_serve 26 = .ok (.aaload, 1) := by decide +kernel
theorem dS_serve_27 : decode cS_serve 27 = .ok (.astore_n 3, 1) := by decide +kernel
theorem dS_serve_28 : decode cS_serve 28 = .ok (.aload_n 3, 1) := by decide +kernel
theorem dS_serve_29 : decode cS_serve 29 = .ok (.getfield 156, 3) := by decide +kernel
theorem dS_serve_32 : decode cS_serve 32 = .ok (.istore 4, 2) := by decide +kernel
theorem dS_serve_34 : decode cS_serve 34 = .ok (.iconst 0, 1) := by decide +kernel
theorem dS_serve_35 : decode cS_serve 35 = .ok (.istore 5, 2) := by decide +kernel
theorem dS_serve_37 : decode cS_serve 37 = .ok (.iconst 0, 1) := by decide +kernel
theorem dS_serve_38 : decode cS_serve 38 = .ok (.istore 6, 2) := by decide +kernel
theorem dS_serve_40 : decode cS_serve 40 = .ok (.iload 6, 2) := by decide +kernel
theorem dS_serve_42 : decode cS_serve 42 = .ok (.iload 4, 2) := by decide +kernel
theorem dS_serve_44 : decode cS_serve 44 = .ok (.if_icmp .ge 59, 3) := by decide +kernel
theorem dS_serve_47 : decode cS_serve 47 = .ok (.iload 6, 2) := by decide +kernel
theorem dS_serve_49 : decode cS_serve 49 = .ok (.iload 5, 2) := by decide +kernel
theorem dS_serve_51 : decode cS_serve 51 = .ok (.isub, 1) := by decide +kernel
theorem dS_serve_52 : decode cS_serve 52 = .ok (.istore 7, 2) := by decide +kernel
theorem dS_serve_54 : decode cS_serve 54 = .ok (.aload_n 3, 1) := by decide +kernel
theorem dS_serve_55 : decode cS_serve 55 = .ok (.iload 7, 2) := by decide +kernel
theorem dS_serve_57 : decode cS_serve 57 = .ok (.invokevirtual 159, 3) := by decide +kernel
theorem dS_serve_60 : decode cS_serve 60 = .ok (.istore 8, 2) := by decide +kernel
theorem dS_serve_62 : decode cS_serve 62 = .ok (.aload_n 0, 1) := by decide +kernel
theorem dS_serve_63 : decode cS_serve 63 = .ok (.iload 8, 2) := by decide +kernel
theorem dS_serve_65 : decode cS_serve 65 = .ok (.invokevirtual 123, 3) := by decide +kernel
theorem dS_serve_68 : decode cS_serve 68 = .ok (.ifCond .eq 29, 3) := by decide +kernel
theorem dS_serve_71 : decode cS_serve 71 = .ok (.aload_n 0, 1) := by decide +kernel
theorem dS_serve_72 : decode cS_serve 72 = .ok (.iload_n 1, 1) := by decide +kernel
theorem dS_serve_73 : decode cS_serve 73 = .ok (.iload 8, 2) := by decide +kernel
theorem dS_serve_75 : decode cS_serve 75 = .ok (.invokevirtual 162, 3) := by decide +kernel
theorem dS_serve_78 : decode cS_serve 78 = .ok (.ifCond .ne 19, 3) := by decide +kernel
theorem dS_serve_81 : decode cS_serve 81 = .ok (.aload_n 3, 1) := by decide +kernel
theorem dS_serve_82 : decode cS_serve 82 = .ok (.iload 7, 2) := by decide +kernel
theorem dS_serve_84 : decode cS_serve 84 = .ok (.invokevirtual 126, 3) := by decide +kernel
theorem dS_serve_87 : decode cS_serve 87 = .ok (.aload_n 0, 1) := by decide +kernel
theorem dS_serve_88 : decode cS_serve 88 = .ok (.iload_n 1, 1) := by decide +kernel
theorem dS_serve_89 : decode cS_serve 89 = .ok (.iload 8, 2) := by decide +kernel
theorem dS_serve_91 : decode cS_serve 91 = .ok (.invokevirtual 77, 3) := by decide +kernel
theorem dS_serve_94 : decode cS_serve 94 = .ok (.iinc 5 1, 3) := by decide +kernel
theorem dS_serve_97 : decode cS_serve 97 = .ok (.iinc 6 1, 3) := by decide +kernel
theorem dS_serve_100 : decode cS_serve 100 = .ok (.goto (-60), 3) := by decide +kernel
theorem dS_serve_103 : decode cS_serve 103 = .ok (.iload 5, 2) := by decide +kernel
theorem dS_serve_105 : decode cS_serve 105 = .ok (.ireturn, 1) := by decide +kernel
theorem dS_flight_0 : decode cS_flight 0 = .ok (.iload_n 1, 1) := by decide +kernel
theorem dS_flight_1 : decode cS_flight 1 = .ok (.invokestatic 150, 3) := by decide +kernel
theorem dS_flight_4 : decode cS_flight 4 = .ok (.ifCond .eq 26, 3) := by decide +kernel
theorem dS_flight_7 : decode cS_flight 7 = .ok (.iload_n 2, 1) := by decide +kernel
theorem dS_flight_8 : decode cS_flight 8 = .ok (.invokestatic 150, 3) := by decide +kernel
theorem dS_flight_11 : decode cS_flight 11 = .ok (.ifCond .eq 19, 3) := by decide +kernel
theorem dS_flight_14 : decode cS_flight 14 = .ok (.aload_n 0, 1) := by decide +kernel
theorem dS_flight_15 : decode cS_flight 15 = .ok (.getfield 29, 3) := by decide +kernel
theorem dS_flight_18 : decode cS_flight 18 = .ok (.iload_n 1, 1) := by decide +kernel
theorem dS_flight_19 : decode cS_flight 19 = .ok (.iconst 3, 1) := by decide +kernel
theorem dS_flight_20 : decode cS_flight 20 = .ok (.imul, 1) := by decide +kernel
theorem dS_flight_21 : decode cS_flight 21 = .ok (.iload_n 2, 1) := by decide +kernel
theorem dS_flight_22 : decode cS_flight 22 = .ok (.iadd, 1) := by decide +kernel
theorem dS_flight_23 : decode cS_flight 23 = .ok (.aaload, 1) := by decide +kernel
theorem dS_flight_24 : decode cS_flight 24 = .ok (.getfield 156, 3) := by decide +kernel
theorem dS_flight_27 : decode cS_flight 27 = .ok (.goto 4, 3) := by decide +kernel
theorem dS_flight_30 : decode cS_flight 30 = .ok (.iconst 0, 1) := by decide +kernel
theorem dS_flight_31 : decode cS_flight 31 = .ok (.ireturn, 1) := by decide +kernel
theorem dS_sent_0 : decode cS_sent 0 = .ok (.iload_n 1, 1) := by decide +kernel
theorem dS_sent_1 : decode cS_sent 1 = .ok (.invokestatic 150, 3) := by decide +kernel
theorem dS_sent_4 : decode cS_sent 4 = .ok (.ifCond .eq 27, 3) := by decide +kernel
theorem dS_sent_7 : decode cS_sent 7 = .ok (.iload_n 2, 1) := by decide +kernel
theorem dS_sent_8 : decode cS_sent 8 = .ok (.invokestatic 150, 3) := by decide +kernel
theorem dS_sent_11 : decode cS_sent 11 = .ok (.ifCond .eq 20, 3) := by decide +kernel
theorem dS_sent_14 : decode cS_sent 14 = .ok (.aload_n 0, 1) := by decide +kernel
theorem dS_sent_15 : decode cS_sent 15 = .ok (.getfield 29, 3) := by decide +kernel
theorem dS_sent_18 : decode cS_sent 18 = .ok (.iload_n 1, 1) := by decide +kernel
theorem dS_sent_19 : decode cS_sent 19 = .ok (.iconst 3, 1) := by decide +kernel
theorem dS_sent_20 : decode cS_sent 20 = .ok (.imul, 1) := by decide +kernel
theorem dS_sent_21 : decode cS_sent 21 = .ok (.iload_n 2, 1) := by decide +kernel
theorem dS_sent_22 : decode cS_sent 22 = .ok (.iadd, 1) := by decide +kernel
theorem dS_sent_23 : decode cS_sent 23 = .ok (.aaload, 1) := by decide +kernel
theorem dS_sent_24 : decode cS_sent 24 = .ok (.iload_n 3, 1) := by decide +kernel
theorem dS_sent_25 : decode cS_sent 25 = .ok (.invokevirtual 159, 3) := by decide +kernel
theorem dS_sent_28 : decode cS_sent 28 = .ok (.goto 5, 3) := by decide +kernel
theorem dS_sent_31 : decode cS_sent 31 = .ok (.bipush (-4), 2) := by decide +kernel
theorem dS_sent_33 : decode cS_sent 33 = .ok (.ireturn, 1) := by decide +kernel
theorem dS_pending_0 : decode cS_pending 0 = .ok (.iload_n 1, 1) := by decide +kernel
theorem dS_pending_1 : decode cS_pending 1 = .ok (.invokestatic 150, 3) := by decide +kernel
theorem dS_pending_4 : decode cS_pending 4 = .ok (.ifCond .eq 10, 3) := by decide +kernel
theorem dS_pending_7 : decode cS_pending 7 = .ok (.iload_n 2, 1) := by decide +kernel
theorem dS_pending_8 : decode cS_pending 8 = .ok (.invokestatic 153, 3) := by decide +kernel
theorem dS_pending_11 : decode cS_pending 11 = .ok (.ifCond .ne 5, 3) := by decide +kernel
theorem dS_pending_14 : decode cS_pending 14 = .ok (.iconst (-1), 1) := by decide +kernel
theorem dS_pending_15 : decode cS_pending 15 = .ok (.ireturn, 1) := by decide +kernel
theorem dS_pending_16 : decode cS_pending 16 = .ok (.aload_n 0, 1) := by decide +kernel
theorem dS_pending_17 : decode cS_pending 17 = .ok (.getfield 17, 3) := by decide +kernel
theorem dS_pending_20 : decode cS_pending 20 = .ok (.iload_n 1, 1) := by decide +kernel
theorem dS_pending_21 : decode cS_pending 21 = .ok (.aaload, 1) := by decide +kernel
theorem dS_pending_22 : decode cS_pending 22 = .ok (.getfield 144, 3) := by decide +kernel
theorem dS_pending_25 : decode cS_pending 25 = .ok (.iload_n 2, 1) := by decide +kernel
theorem dS_pending_26 : decode cS_pending 26 = .ok (.aaload, 1) := by decide +kernel
theorem dS_pending_27 : decode cS_pending 27 = .ok (.getfield 156, 3) := by decide +kernel
theorem dS_pending_30 : decode cS_pending 30 = .ok (.ireturn, 1) := by decide +kernel
theorem dS_lacks_0 : decode cS_lacks 0 = .ok (.iload_n 1, 1) := by decide +kernel
theorem dS_lacks_1 : decode cS_lacks 1 = .ok (.invokestatic 150, 3) := by decide +kernel
theorem dS_lacks_4 : decode cS_lacks 4 = .ok (.ifCond .eq 10, 3) := by decide +kernel
theorem dS_lacks_7 : decode cS_lacks 7 = .ok (.iload_n 2, 1) := by decide +kernel
theorem dS_lacks_8 : decode cS_lacks 8 = .ok (.invokestatic 153, 3) := by decide +kernel
theorem dS_lacks_11 : decode cS_lacks 11 = .ok (.ifCond .ne 6, 3) := by decide +kernel
theorem dS_lacks_14 : decode cS_lacks 14 = .ok (.bipush (-4), 2) := by decide +kernel
theorem dS_lacks_16 : decode cS_lacks 16 = .ok (.ireturn, 1) := by decide +kernel
theorem dS_lacks_17 : decode cS_lacks 17 = .ok (.aload_n 0, 1) := by decide +kernel
theorem dS_lacks_18 : decode cS_lacks 18 = .ok (.getfield 17, 3) := by decide +kernel
theorem dS_lacks_21 : decode cS_lacks 21 = .ok (.iload_n 1, 1) := by decide +kernel
theorem dS_lacks_22 : decode cS_lacks 22 = .ok (.aaload, 1) := by decide +kernel
theorem dS_lacks_23 : decode cS_lacks 23 = .ok (.getfield 144, 3) := by decide +kernel
theorem dS_lacks_26 : decode cS_lacks 26 = .ok (.iload_n 2, 1) := by decide +kernel
theorem dS_lacks_27 : decode cS_lacks 27 = .ok (.aaload, 1) := by decide +kernel
theorem dS_lacks_28 : decode cS_lacks 28 = .ok (.iload_n 3, 1) := by decide +kernel
theorem dS_lacks_29 : decode cS_lacks 29 = .ok (.invokevirtual 159, 3) := by decide +kernel
theorem dS_lacks_32 : decode cS_lacks 32 = .ok (.istore 4, 2) := by decide +kernel
theorem dS_lacks_34 : decode cS_lacks 34 = .ok (.aload_n 0, 1) := by decide +kernel
theorem dS_lacks_35 : decode cS_lacks 35 = .ok (.iload 4, 2) := by decide +kernel
theorem dS_lacks_37 : decode cS_lacks 37 = .ok (.invokevirtual 123, 3) := by decide +kernel
theorem dS_lacks_40 : decode cS_lacks 40 = .ok (.ifCond .eq 13, 3) := by decide +kernel
theorem dS_lacks_43 : decode cS_lacks 43 = .ok (.aload_n 0, 1) := by decide +kernel
theorem dS_lacks_44 : decode cS_lacks 44 = .ok (.iload_n 1, 1) := by decide +kernel
theorem dS_lacks_45 : decode cS_lacks 45 = .ok (.iload 4, 2) := by decide +kernel
theorem dS_lacks_47 : decode cS_lacks 47 = .ok (.invokevirtual 162, 3) := by decide +kernel
theorem dS_lacks_50 : decode cS_lacks 50 = .ok (.goto 5, 3) := by decide +kernel
theorem dS_lacks_53 : decode cS_lacks 53 = .ok (.bipush (-4), 2) := by decide +kernel
theorem dS_lacks_55 : decode cS_lacks 55 = .ok (.ireturn, 1) := by decide +kernel
theorem dS_latest_0 : decode cS_latest 0 = .ok (.iload_n 1, 1) := by decide +kernel
theorem dS_latest_1 : decode cS_latest 1 = .ok (.invokestatic 150, 3) := by decide +kernel
theorem dS_latest_4 : decode cS_latest 4 = .ok (.ifCond .eq 24, 3) := by decide +kernel
theorem dS_latest_7 : decode cS_latest 7 = .ok (.iload_n 2, 1) := by decide +kernel
theorem dS_latest_8 : decode cS_latest 8 = .ok (.invokestatic 43, 3) := by decide +kernel
theorem dS_latest_11 : decode cS_latest 11 = .ok (.ifCond .eq 17, 3) := by decide +kernel
theorem dS_latest_14 : decode cS_latest 14 = .ok (.aload_n 0, 1) := by decide +kernel
theorem dS_latest_15 : decode cS_latest 15 = .ok (.getfield 17, 3) := by decide +kernel
theorem dS_latest_18 : decode cS_latest 18 = .ok (.iload_n 1, 1) := by decide +kernel
theorem dS_latest_19 : decode cS_latest 19 = .ok (.aaload, 1) := by decide +kernel
theorem dS_latest_20 : decode cS_latest 20 = .ok (.getfield 88, 3) := by decide +kernel
theorem dS_latest_23 : decode cS_latest 23 = .ok (.iload_n 2, 1) := by decide +kernel
theorem dS_latest_24 : decode cS_latest 24 = .ok (.iaload, 1) := by decide +kernel
theorem dS_latest_25 : decode cS_latest 25 = .ok (.goto 4, 3) := by decide +kernel
theorem dS_latest_28 : decode cS_latest 28 = .ok (.iconst (-1), 1) := by decide +kernel
theorem dS_latest_29 : decode cS_latest 29 = .ok (.ireturn, 1) := by decide +kernel
theorem dS_visible_0 : decode cS_visible 0 = .ok (.iload_n 1, 1) := by decide +kernel
theorem dS_visible_1 : decode cS_visible 1 = .ok (.invokestatic 150, 3) := by decide +kernel
theorem dS_visible_4 : decode cS_visible 4 = .ok (.ifCond .eq 29, 3) := by decide +kernel
theorem dS_visible_7 : decode cS_visible 7 = .ok (.aload_n 0, 1) := by decide +kernel
theorem dS_visible_8 : decode cS_visible 8 = .ok (.iload_n 2, 1) := by decide +kernel
theorem dS_visible_9 : decode cS_visible 9 = .ok (.invokevirtual 123, 3) := by decide +kernel
theorem dS_visible_12 : decode cS_visible 12 = .ok (.ifCond .eq 21, 3) := by decide +kernel
theorem dS_visible_15 : decode cS_visible 15 = .ok (.aload_n 0, 1) := by decide +kernel
theorem dS_visible_16 : decode cS_visible 16 = .ok (.getfield 17, 3) := by decide +kernel
theorem dS_visible_19 : decode cS_visible 19 = .ok (.iload_n 1, 1) := by decide +kernel
theorem dS_visible_20 : decode cS_visible 20 = .ok (.aaload, 1) := by decide +kernel
theorem dS_visible_21 : decode cS_visible 21 = .ok (.getfield 165, 3) := by decide +kernel
theorem dS_visible_24 : decode cS_visible 24 = .ok (.iload_n 2, 1) := by decide +kernel
theorem dS_visible_25 : decode cS_visible 25 = .ok (.baload, 1) := by decide +kernel
theorem dS_visible_26 : decode cS_visible 26 = .ok (.ifCond .eq 7, 3) := by decide +kernel
theorem dS_visible_29 : decode cS_visible 29 = .ok (.iconst 1, 1) := by decide +kernel
theorem dS_visible_30 : decode cS_visible 30 = .ok (.goto 4, 3) := by decide +kernel
theorem dS_visible_33 : decode cS_visible 33 = .ok (.iconst 0, 1) := by decide +kernel
theorem dS_visible_34 : decode cS_visible 34 = .ok (.ireturn, 1) := by decide +kernel
theorem dS_clock_0 : decode cS_clock 0 = .ok (.iload_n 1, 1) := by decide +kernel
theorem dS_clock_1 : decode cS_clock 1 = .ok (.invokestatic 150, 3) := by decide +kernel
theorem dS_clock_4 : decode cS_clock 4 = .ok (.ifCond .eq 24, 3) := by decide +kernel
theorem dS_clock_7 : decode cS_clock 7 = .ok (.iload_n 2, 1) := by decide +kernel
theorem dS_clock_8 : decode cS_clock 8 = .ok (.invokestatic 153, 3) := by decide +kernel
theorem dS_clock_11 : decode cS_clock 11 = .ok (.ifCond .eq 17, 3) := by decide +kernel
theorem dS_clock_14 : decode cS_clock 14 = .ok (.aload_n 0, 1) := by decide +kernel
theorem dS_clock_15 : decode cS_clock 15 = .ok (.getfield 17, 3) := by decide +kernel
theorem dS_clock_18 : decode cS_clock 18 = .ok (.iload_n 1, 1) := by decide +kernel
theorem dS_clock_19 : decode cS_clock 19 = .ok (.aaload, 1) := by decide +kernel
theorem dS_clock_20 : decode cS_clock 20 = .ok (.getfield 132, 3) := by decide +kernel
theorem dS_clock_23 : decode cS_clock 23 = .ok (.iload_n 2, 1) := by decide +kernel
theorem dS_clock_24 : decode cS_clock 24 = .ok (.iaload, 1) := by decide +kernel
theorem dS_clock_25 : decode cS_clock 25 = .ok (.goto 4, 3) := by decide +kernel
theorem dS_clock_28 : decode cS_clock 28 = .ok (.iconst (-1), 1) := by decide +kernel
theorem dS_clock_29 : decode cS_clock 29 = .ok (.ireturn, 1) := by decide +kernel
theorem dS_context_0 : decode cS_context 0 = .ok (.iload_n 1, 1) := by decide +kernel
theorem dS_context_1 : decode cS_context 1 = .ok (.invokestatic 39, 3) := by decide +kernel
theorem dS_context_4 : decode cS_context 4 = .ok (.ifCond .eq 24, 3) := by decide +kernel
theorem dS_context_7 : decode cS_context 7 = .ok (.iload_n 2, 1) := by decide +kernel
theorem dS_context_8 : decode cS_context 8 = .ok (.invokestatic 43, 3) := by decide +kernel
theorem dS_context_11 : decode cS_context 11 = .ok (.ifCond .eq 17, 3) := by decide +kernel
theorem dS_context_14 : decode cS_context 14 = .ok (.aload_n 0, 1) := by decide +kernel
theorem dS_context_15 : decode cS_context 15 = .ok (.getfield 23, 3) := by decide +kernel
theorem dS_context_18 : decode cS_context 18 = .ok (.iload_n 1, 1) := by decide +kernel
theorem dS_context_19 : decode cS_context 19 = .ok (.aaload, 1) := by decide +kernel
theorem dS_context_20 : decode cS_context 20 = .ok (.getfield 65, 3) := by decide +kernel
theorem dS_context_23 : decode cS_context 23 = .ok (.iload_n 2, 1) := by decide +kernel
theorem dS_context_24 : decode cS_context 24 = .ok (.iaload, 1) := by decide +kernel
theorem dS_context_25 : decode cS_context 25 = .ok (.goto 4, 3) := by decide +kernel
theorem dS_context_28 : decode cS_context 28 = .ok (.iconst (-1), 1) := by decide +kernel
theorem dS_context_29 : decode cS_context 29 = .ok (.ireturn, 1) := by decide +kernel
theorem dS_nearest_0 : decode cS_nearest 0 = .ok (.iload_n 1, 1) := by decide +kernel
theorem dS_nearest_1 : decode cS_nearest 1 = .ok (.invokestatic 39, 3) := by decide +kernel
theorem dS_nearest_4 : decode cS_nearest 4 = .ok (.ifCond .eq 19, 3) := by decide +kernel
theorem dS_nearest_7 : decode cS_nearest 7 = .ok (.aload_n 0, 1) := by decide +kernel
theorem dS_nearest_8 : decode cS_nearest 8 = .ok (.aload_n 0, 1) := by decide +kernel
theorem dS_nearest_9 : decode cS_nearest 9 = .ok (.getfield 23, 3) := by decide +kernel
theorem dS_nearest_12 : decode cS_nearest 12 = .ok (.iload_n 1, 1) := by decide +kernel
theorem dS_nearest_13 : decode cS_nearest 13 = .ok (.aaload, 1) := by decide +kernel
theorem dS_nearest_14 : decode cS_nearest 14 = .ok (.getfield 65, 3) := by decide +kernel
theorem dS_nearest_17 : decode cS_nearest 17 = .ok (.invokevirtual 69, 3) := by decide +kernel
theorem dS_nearest_20 : decode cS_nearest 20 = .ok (.goto 4, 3) := by decide +kernel
theorem dS_nearest_23 : decode cS_nearest 23 = .ok (.iconst (-1), 1) := by decide +kernel
theorem dS_nearest_24 : decode cS_nearest 24 = .ok (.ireturn, 1) := by decide +kernel
theorem dS_about_0 : decode cS_about 0 = .ok (.aload_n 0, 1) := by decide +kernel
theorem dS_about_1 : decode cS_about 1 = .ok (.iload_n 1, 1) := by decide +kernel
theorem dS_about_2 : decode cS_about 2 = .ok (.invokevirtual 123, 3) := by decide +kernel
theorem dS_about_5 : decode cS_about 5 = .ok (.ifCond .ne 5, 3) := by decide +kernel
theorem dS_about_8 : decode cS_about 8 = .ok (.iconst 0, 1) := by decide +kernel
theorem dS_about_9 : decode cS_about 9 = .ok (.ireturn, 1) := by decide +kernel
theorem dS_about_10 : decode cS_about 10 = .ok (.iload_n 2, 1) := by decide +kernel
theorem dS_about_11 : decode cS_about 11 = .ok (.tableswitch 69 0 3 #[29, 39, 49, 59], 29) := by decide +kernel
theorem dS_about_40 : decode cS_about 40 = .ok (.aload_n 0, 1) := by decide +kernel
theorem dS_about_41 : decode cS_about 41 = .ok (.getfield 11, 3) := by decide +kernel
theorem dS_about_44 : decode cS_about 44 = .ok (.iload_n 1, 1) := by decide +kernel
theorem dS_about_45 : decode cS_about 45 = .ok (.aaload, 1) := by decide +kernel
theorem dS_about_46 : decode cS_about 46 = .ok (.getfield 129, 3) := by decide +kernel
theorem dS_about_49 : decode cS_about 49 = .ok (.ireturn, 1) := by decide +kernel
theorem dS_about_50 : decode cS_about 50 = .ok (.aload_n 0, 1) := by decide +kernel
theorem dS_about_51 : decode cS_about 51 = .ok (.getfield 11, 3) := by decide +kernel
theorem dS_about_54 : decode cS_about 54 = .ok (.iload_n 1, 1) := by decide +kernel
theorem dS_about_55 : decode cS_about 55 = .ok (.aaload, 1) := by decide +kernel
theorem dS_about_56 : decode cS_about 56 = .ok (.getfield 169, 3) := by decide +kernel
theorem dS_about_59 : decode cS_about 59 = .ok (.ireturn, 1) := by decide +kernel
theorem dS_about_60 : decode cS_about 60 = .ok (.aload_n 0, 1) := by decide +kernel
theorem dS_about_61 : decode cS_about 61 = .ok (.getfield 11, 3) := by decide +kernel
theorem dS_about_64 : decode cS_about 64 = .ok (.iload_n 1, 1) := by decide +kernel
theorem dS_about_65 : decode cS_about 65 = .ok (.aaload, 1) := by decide +kernel
theorem dS_about_66 : decode cS_about 66 = .ok (.getfield 172, 3) := by decide +kernel
theorem dS_about_69 : decode cS_about 69 = .ok (.ireturn, 1) := by decide +kernel
theorem dS_about_70 : decode cS_about 70 = .ok (.aload_n 0, 1) := by decide +kernel
theorem dS_about_71 : decode cS_about 71 = .ok (.getfield 11, 3) := by decide +kernel
theorem dS_about_74 : decode cS_about 74 = .ok (.iload_n 1, 1) := by decide +kernel
theorem dS_about_75 : decode cS_about 75 = .ok (.aaload, 1) := by decide +kernel
theorem dS_about_76 : decode cS_about 76 = .ok (.getfield 175, 3) := by decide +kernel
theorem dS_about_79 : decode cS_about 79 = .ok (.ireturn, 1) := by decide +kernel
theorem dS_about_80 : decode cS_about 80 = .ok (.iconst 0, 1) := by decide +kernel
theorem dS_about_81 : decode cS_about 81 = .ok (.ireturn, 1) := by decide +kernel
theorem dS_dependency_0 : decode cS_dependency 0 = .ok (.aload_n 0, 1) := by decide +kernel
theorem dS_dependency_1 : decode cS_dependency 1 = .ok (.iload_n 1, 1) := by decide +kernel
theorem dS_dependency_2 : decode cS_dependency 2 = .ok (.invokevirtual 123, 3) := by decide +kernel
theorem dS_dependency_5 : decode cS_dependency 5 = .ok (.ifCond .eq 24, 3) := by decide +kernel
theorem dS_dependency_8 : decode cS_dependency 8 = .ok (.iload_n 2, 1) := by decide +kernel
theorem dS_dependency_9 : decode cS_dependency 9 = .ok (.invokestatic 43, 3) := by decide +kernel
theorem dS_dependency_12 : decode cS_dependency 12 = .ok (.ifCond .eq 17, 3) := by decide +kernel
theorem dS_dependency_15 : decode cS_dependency 15 = .ok (.aload_n 0, 1) := by decide +kernel
theorem dS_dependency_16 : decode cS_dependency 16 = .ok (.getfield 11, 3) := by decide +kernel
theorem dS_dependency_19 : decode cS_dependency 19 = .ok (.iload_n 1, 1) := by decide +kernel
theorem dS_dependency_20 : decode cS_dependency 20 = .ok (.aaload, 1) := by decide +kernel
theorem dS_dependency_21 : decode cS_dependency 21 = .ok (.getfield 178, 3) := by decide +kernel
theorem dS_dependency_24 : decode cS_dependency 24 = .ok (.iload_n 2, 1) := by decide +kernel
theorem dS_dependency_25 : decode cS_dependency 25 = .ok (.iaload, 1) := by decide +kernel
theorem dS_dependency_26 : decode cS_dependency 26 = .ok (.goto 4, 3) := by decide +kernel
theorem dS_dependency_29 : decode cS_dependency 29 = .ok (.iconst (-1), 1) := by decide +kernel
theorem dS_dependency_30 : decode cS_dependency 30 = .ok (.ireturn, 1) := by decide +kernel
theorem dS_isClient_0 : decode cS_isClient 0 = .ok (.iload_n 0, 1) := by decide +kernel
theorem dS_isClient_1 : decode cS_isClient 1 = .ok (.ifCond .lt 13, 3) := by decide +kernel
theorem dS_isClient_4 : decode cS_isClient 4 = .ok (.iload_n 0, 1) := by decide +kernel
theorem dS_isClient_5 : decode cS_isClient 5 = .ok (.bipush 6, 2) := by decide +kernel
theorem dS_isClient_7 : decode cS_isClient 7 = .ok (.if_icmp .ge 7, 3) := by decide +kernel
theorem dS_isClient_10 : decode cS_isClient 10 = .ok (.iconst 1, 1) := by decide +kernel
theorem dS_isClient_11 : decode cS_isClient 11 = .ok (.goto 4, 3) := by decide +kernel
theorem dS_isClient_14 : decode cS_isClient 14 = .ok (.iconst 0, 1) := by decide +kernel
theorem dS_isClient_15 : decode cS_isClient 15 = .ok (.ireturn, 1) := by decide +kernel
theorem dS_isKey_0 : decode cS_isKey 0 = .ok (.iload_n 0, 1) := by decide +kernel
theorem dS_isKey_1 : decode cS_isKey 1 = .ok (.ifCond .lt 13, 3) := by decide +kernel
theorem dS_isKey_4 : decode cS_isKey 4 = .ok (.iload_n 0, 1) := by decide +kernel
theorem dS_isKey_5 : decode cS_isKey 5 = .ok (.bipush 6, 2) := by decide +kernel
theorem dS_isKey_7 : decode cS_isKey 7 = .ok (.if_icmp .ge 7, 3) := by decide +kernel
theorem dS_isKey_10 : decode cS_isKey 10 = .ok (.iconst 1, 1) := by decide +kernel
theorem dS_isKey_11 : decode cS_isKey 11 = .ok (.goto 4, 3) := by decide +kernel
theorem dS_isKey_14 : decode cS_isKey 14 = .ok (.iconst 0, 1) := by decide +kernel
theorem dS_isKey_15 : decode cS_isKey 15 = .ok (.ireturn, 1) := by decide +kernel
theorem dS_isCenter_0 : decode cS_isCenter 0 = .ok (.iload_n 0, 1) := by decide +kernel
theorem dS_isCenter_1 : decode cS_isCenter 1 = .ok (.ifCond .lt 12, 3) := by decide +kernel
theorem dS_isCenter_4 : decode cS_isCenter 4 = .ok (.iload_n 0, 1) := by decide +kernel
theorem dS_isCenter_5 : decode cS_isCenter 5 = .ok (.iconst 3, 1) := by decide +kernel
theorem dS_isCenter_6 : decode cS_isCenter 6 = .ok (.if_icmp .ge 7, 3) := by decide +kernel
theorem dS_isCenter_9 : decode cS_isCenter 9 = .ok (.iconst 1, 1) := by decide +kernel
theorem dS_isCenter_10 : decode cS_isCenter 10 = .ok (.goto 4, 3) := by decide +kernel
theorem dS_isCenter_13 : decode cS_isCenter 13 = .ok (.iconst 0, 1) := by decide +kernel
theorem dS_isCenter_14 : decode cS_isCenter 14 = .ok (.ireturn, 1) := by decide +kernel
theorem dS_isPartition_0 : decode cS_isPartition 0 = .ok (.iload_n 0, 1) := by decide +kernel
theorem dS_isPartition_1 : decode cS_isPartition 1 = .ok (.ifCond .lt 12, 3) := by decide +kernel
theorem dS_isPartition_4 : decode cS_isPartition 4 = .ok (.iload_n 0, 1) := by decide +kernel
theorem dS_isPartition_5 : decode cS_isPartition 5 = .ok (.iconst 2, 1) := by decide +kernel
theorem dS_isPartition_6 : decode cS_isPartition 6 = .ok (.if_icmp .ge 7, 3) := by decide +kernel
theorem dS_isPartition_9 : decode cS_isPartition 9 = .ok (.iconst 1, 1) := by decide +kernel
theorem dS_isPartition_10 : decode cS_isPartition 10 = .ok (.goto 4, 3) := by decide +kernel
theorem dS_isPartition_13 : decode cS_isPartition 13 = .ok (.iconst 0, 1) := by decide +kernel
theorem dS_isPartition_14 : decode cS_isPartition 14 = .ok (.ireturn, 1) := by decide +kernel
theorem dS_isWrite_0 : decode cS_isWrite 0 = .ok (.iload_n 1, 1) := by decide +kernel
theorem dS_isWrite_1 : decode cS_isWrite 1 = .ok (.ifCond .lt 15, 3) := by decide +kernel
theorem dS_isWrite_4 : decode cS_isWrite 4 = .ok (.iload_n 1, 1) := by decide +kernel
theorem dS_isWrite_5 : decode cS_isWrite 5 = .ok (.aload_n 0, 1) := by decide +kernel
theorem dS_isWrite_6 : decode cS_isWrite 6 = .ok (.getfield 50, 3) := by decide +kernel
theorem dS_isWrite_9 : decode cS_isWrite 9 = .ok (.if_icmp .ge 7, 3) := by decide +kernel
theorem dS_isWrite_12 : decode cS_isWrite 12 = .ok (.iconst 1, 1) := by decide +kernel
theorem dS_isWrite_13 : decode cS_isWrite 13 = .ok (.goto 4, 3) := by decide +kernel
theorem dS_isWrite_16 : decode cS_isWrite 16 = .ok (.iconst 0, 1) := by decide +kernel
theorem dS_isWrite_17 : decode cS_isWrite 17 = .ok (.ireturn, 1) := by decide +kernel
theorem dS_hasKey_0 : decode cS_hasKey 0 = .ok (.iload_n 0, 1) := by decide +kernel
theorem dS_hasKey_1 : decode cS_hasKey 1 = .ok (.iconst 1, 1) := by decide +kernel
theorem dS_hasKey_2 : decode cS_hasKey 2 = .ok (.iload_n 1, 1) := by decide +kernel
theorem dS_hasKey_3 : decode cS_hasKey 3 = .ok (.ishl, 1) := by decide +kernel
theorem dS_hasKey_4 : decode cS_hasKey 4 = .ok (.iand, 1) := by decide +kernel
theorem dS_hasKey_5 : decode cS_hasKey 5 = .ok (.ifCond .eq 7, 3) := by decide +kernel
theorem dS_hasKey_8 : decode cS_hasKey 8 = .ok (.iconst 1, 1) := by decide +kernel
theorem dS_hasKey_9 : decode cS_hasKey 9 = .ok (.goto 4, 3) := by decide +kernel
theorem dS_hasKey_12 : decode cS_hasKey 12 = .ok (.iconst 0, 1) := by decide +kernel
theorem dS_hasKey_13 : decode cS_hasKey 13 = .ok (.ireturn, 1) := by decide +kernel
theorem dS_tick_0 : decode cS_tick 0 = .ok (.aload_n 0, 1) := by decide +kernel
theorem dS_tick_1 : decode cS_tick 1 = .ok (.getfield 17, 3) := by decide +kernel
theorem dS_tick_4 : decode cS_tick 4 = .ok (.aload_n 1, 1) := by decide +kernel
theorem dS_tick_5 : decode cS_tick 5 = .ok (.getfield 58, 3) := by decide +kernel
theorem dS_tick_8 : decode cS_tick 8 = .ok (.aaload, 1) := by decide +kernel
theorem dS_tick_9 : decode cS_tick 9 = .ok (.getfield 132, 3) := by decide +kernel
theorem dS_tick_12 : decode cS_tick 12 = .ok (.astore_n 3, 1) := by decide +kernel
theorem dS_tick_13 : decode cS_tick 13 = .ok (.aload_n 3, 1) := by decide +kernel
theorem dS_tick_14 : decode cS_tick 14 = .ok (.iload_n 2, 1) := by decide +kernel
theorem dS_tick_15 : decode cS_tick 15 = .ok (.iaload, 1) := by decide +kernel
theorem dS_tick_16 : decode cS_tick 16 = .ok (.istore 4, 2) := by decide +kernel
theorem dS_tick_18 : decode cS_tick 18 = .ok (.iconst 0, 1) := by decide +kernel
theorem dS_tick_19 : decode cS_tick 19 = .ok (.istore 5, 2) := by decide +kernel
theorem dS_tick_21 : decode cS_tick 21 = .ok (.iload 5, 2) := by decide +kernel
theorem dS_tick_23 : decode cS_tick 23 = .ok (.bipush 6, 2) := by decide +kernel
theorem dS_tick_25 : decode cS_tick 25 = .ok (.if_icmp .ge 44, 3) := by decide +kernel
theorem dS_tick_28 : decode cS_tick 28 = .ok (.aload_n 1, 1) := by decide +kernel
theorem dS_tick_29 : decode cS_tick 29 = .ok (.getfield 65, 3) := by decide +kernel
theorem dS_tick_32 : decode cS_tick 32 = .ok (.iload 5, 2) := by decide +kernel
theorem dS_tick_34 : decode cS_tick 34 = .ok (.iaload, 1) := by decide +kernel
theorem dS_tick_35 : decode cS_tick 35 = .ok (.istore 6, 2) := by decide +kernel
theorem dS_tick_37 : decode cS_tick 37 = .ok (.aload_n 0, 1) := by decide +kernel
theorem dS_tick_38 : decode cS_tick 38 = .ok (.iload 6, 2) := by decide +kernel
theorem dS_tick_40 : decode cS_tick 40 = .ok (.invokevirtual 123, 3) := by decide +kernel
theorem dS_tick_43 : decode cS_tick 43 = .ok (.ifCond .eq 20, 3) := by decide +kernel
theorem dS_tick_46 : decode cS_tick 46 = .ok (.iload 4, 2) := by decide +kernel
theorem dS_tick_48 : decode cS_tick 48 = .ok (.aload_n 0, 1) := by decide +kernel
theorem dS_tick_49 : decode cS_tick 49 = .ok (.getfield 11, 3) := by decide +kernel
theorem dS_tick_52 : decode cS_tick 52 = .ok (.iload 6, 2) := by decide +kernel
theorem dS_tick_54 : decode cS_tick 54 = .ok (.aaload, 1) := by decide +kernel
theorem dS_tick_55 : decode cS_tick 55 = .ok (.getfield 135, 3) := by decide +kernel
theorem dS_tick_58 : decode cS_tick 58 = .ok (.invokestatic 138, 3) := by decide +kernel
theorem dS_tick_61 : decode cS_tick 61 = .ok (.istore 4, 2) := by decide +kernel
theorem dS_tick_63 : decode cS_tick 63 = .ok (.iinc 5 1, 3) := by decide +kernel
theorem dS_tick_66 : decode cS_tick 66 = .ok (.goto (-45), 3) := by decide +kernel
theorem dS_tick_69 : decode cS_tick 69 = .ok (.aload_n 3, 1) := by decide +kernel
theorem dS_tick_70 : decode cS_tick 70 = .ok (.iload_n 2, 1) := by decide +kernel
theorem dS_tick_71 : decode cS_tick 71 = .ok (.iload 4, 2) := by decide +kernel
theorem dS_tick_73 : decode cS_tick 73 = .ok (.iconst 1, 1) := by decide +kernel
theorem dS_tick_74 : decode cS_tick 74 = .ok (.iadd, 1) := by decide +kernel
theorem dS_tick_75 : decode cS_tick 75 = .ok (.iastore, 1) := by decide +kernel
theorem dS_tick_76 : decode cS_tick 76 = .ok (.iload 4, 2) := by decide +kernel
theorem dS_tick_78 : decode cS_tick 78 = .ok (.iconst 1, 1) := by decide +kernel
theorem dS_tick_79 : decode cS_tick 79 = .ok (.iadd, 1) := by decide +kernel
theorem dS_tick_80 : decode cS_tick 80 = .ok (.ireturn, 1) := by decide +kernel
theorem dS_show_0 : decode cS_show 0 = .ok (.aload_n 0, 1) := by decide +kernel
theorem dS_show_1 : decode cS_show 1 = .ok (.getfield 11, 3) := by decide +kernel
theorem dS_show_4 : decode cS_show 4 = .ok (.iload_n 2, 1) := by decide +kernel
theorem dS_show_5 : decode cS_show 5 = .ok (.aaload, 1) := by decide +kernel
theorem dS_show_6 : decode cS_show 6 = .ok (.getfield 129, 3) := by decide +kernel
theorem dS_show_9 : decode cS_show 9 = .ok (.istore_n 3, 1) := by decide +kernel
theorem dS_show_10 : decode cS_show 10 = .ok (.aload_n 0, 1) := by decide +kernel
theorem dS_show_11 : decode cS_show 11 = .ok (.getfield 17, 3) := by decide +kernel
theorem dS_show_14 : decode cS_show 14 = .ok (.iload_n 1, 1) := by decide +kernel
theorem dS_show_15 : decode cS_show 15 = .ok (.aaload, 1) := by decide +kernel
theorem dS_show_16 : decode cS_show 16 = .ok (.getfield 88, 3) := by decide +kernel
theorem dS_show_19 : decode cS_show 19 = .ok (.astore 4, 2) := by decide +kernel
theorem dS_show_21 : decode cS_show 21 = .ok (.aload_n 0, 1) := by decide +kernel
theorem dS_show_22 : decode cS_show 22 = .ok (.getfield 17, 3) := by decide +kernel
theorem dS_show_25 : decode cS_show 25 = .ok (.iload_n 1, 1) := by decide +kernel
theorem dS_show_26 : decode cS_show 26 = .ok (.aaload, 1) := by decide +kernel
theorem dS_show_27 : decode cS_show 27 = .ok (.getfield 165, 3) := by decide +kernel
theorem dS_show_30 : decode cS_show 30 = .ok (.iload_n 2, 1) := by decide +kernel
theorem dS_show_31 : decode cS_show 31 = .ok (.iconst 1, 1) := by decide +kernel
theorem dS_show_32 : decode cS_show 32 = .ok (.bastore, 1) := by decide +kernel
theorem dS_show_33 : decode cS_show 33 = .ok (.aload 4, 2) := by decide +kernel
theorem dS_show_35 : decode cS_show 35 = .ok (.iload_n 3, 1) := by decide +kernel
theorem dS_show_36 : decode cS_show 36 = .ok (.aload_n 0, 1) := by decide +kernel
theorem dS_show_37 : decode cS_show 37 = .ok (.aload 4, 2) := by decide +kernel
theorem dS_show_39 : decode cS_show 39 = .ok (.iload_n 3, 1) := by decide +kernel
theorem dS_show_40 : decode cS_show 40 = .ok (.iaload, 1) := by decide +kernel
theorem dS_show_41 : decode cS_show 41 = .ok (.iload_n 2, 1) := by decide +kernel
theorem dS_show_42 : decode cS_show 42 = .ok (.invokevirtual 179, 3) := by decide +kernel
theorem dS_show_45 : decode cS_show 45 = .ok (.iastore, 1) := by decide +kernel
theorem dS_show_46 : decode cS_show 46 = .ok (.return_, 1) := by decide +kernel
theorem dS_send_0 : decode cS_send 0 = .ok (.iconst 0, 1) := by decide +kernel
theorem dS_send_1 : decode cS_send 1 = .ok (.istore_n 3, 1) := by decide +kernel
theorem dS_send_2 : decode cS_send 2 = .ok (.iload_n 3, 1) := by decide +kernel
theorem dS_send_3 : decode cS_send 3 = .ok (.iconst 3, 1) := by decide +kernel
theorem dS_send_4 : decode cS_send 4 = .ok (.if_icmp .ge 28, 3) := by decide +kernel
theorem dS_send_7 : decode cS_send 7 = .ok (.iload_n 3, 1) := by decide +kernel
theorem dS_send_8 : decode cS_send 8 = .ok (.iload_n 1, 1) := by decide +kernel
theorem dS_send_9 : decode cS_send 9 = .ok (.if_icmp .eq 17, 3) := by decide +kernel
theorem dS_send_12 : decode cS_send 12 = .ok (.aload_n 0, 1) := by decide +kernel
theorem dS_send_13 : decode cS_send 13 = .ok (.getfield 29, 3) := by decide +kernel
theorem dS_send_16 : decode cS_send 16 = .ok (.iload_n 1, 1) := by decide +kernel
theorem dS_send_17 : decode cS_send 17 = .ok (.iconst 3, 1) := by decide +kernel
theorem dS_send_18 : decode cS_send 18 = .ok (.imul, 1) := by decide +kernel
theorem dS_send_19 : decode cS_send 19 = .ok (.iload_n 3, 1) := by decide +kernel
theorem dS_send_20 : decode cS_send 20 = .ok (.iadd, 1) := by decide +kernel
theorem dS_send_21 : decode cS_send 21 = .ok (.aaload, 1) := by decide +kernel
theorem dS_send_22 : decode cS_send 22 = .ok (.iload_n 2, 1) := by decide +kernel
theorem dS_send_23 : decode cS_send 23 = .ok (.invokevirtual 147, 3) := by decide +kernel
theorem dS_send_26 : decode cS_send 26 = .ok (.iinc 3 1, 3) := by decide +kernel
theorem dS_send_29 : decode cS_send 29 = .ok (.goto (-27), 3) := by decide +kernel
theorem dS_send_32 : decode cS_send 32 = .ok (.return_, 1) := by decide +kernel
theorem dS_see_0 : decode cS_see 0 = .ok (.aload_n 0, 1) := by decide +kernel
theorem dS_see_1 : decode cS_see 1 = .ok (.iload_n 2, 1) := by decide +kernel
theorem dS_see_2 : decode cS_see 2 = .ok (.invokevirtual 123, 3) := by decide +kernel
theorem dS_see_5 : decode cS_see 5 = .ok (.ifCond .ne 4, 3) := by decide +kernel
theorem dS_see_8 : decode cS_see 8 = .ok (.return_, 1) := by decide +kernel
theorem dS_see_9 : decode cS_see 9 = .ok (.aload_n 0, 1) := by decide +kernel
theorem dS_see_10 : decode cS_see 10 = .ok (.getfield 11, 3) := by decide +kernel
theorem dS_see_13 : decode cS_see 13 = .ok (.iload_n 2, 1) := by decide +kernel
theorem dS_see_14 : decode cS_see 14 = .ok (.aaload, 1) := by decide +kernel
theorem dS_see_15 : decode cS_see 15 = .ok (.astore_n 3, 1) := by decide +kernel
theorem dS_see_16 : decode cS_see 16 = .ok (.iconst 0, 1) := by decide +kernel
theorem dS_see_17 : decode cS_see 17 = .ok (.istore 4, 2) := by decide +kernel
theorem dS_see_19 : decode cS_see 19 = .ok (.iload 4, 2) := by decide +kernel
theorem dS_see_21 : decode cS_see 21 = .ok (.bipush 6, 2) := by decide +kernel
theorem dS_see_23 : decode cS_see 23 = .ok (.if_icmp .ge 34, 3) := by decide +kernel
theorem dS_see_26 : decode cS_see 26 = .ok (.aload_n 1, 1) := by decide +kernel
theorem dS_see_27 : decode cS_see 27 = .ok (.getfield 65, 3) := by decide +kernel
theorem dS_see_30 : decode cS_see 30 = .ok (.iload 4, 2) := by decide +kernel
theorem dS_see_32 : decode cS_see 32 = .ok (.aload_n 0, 1) := by decide +kernel
theorem dS_see_33 : decode cS_see 33 = .ok (.aload_n 1, 1) := by decide +kernel
theorem dS_see_34 : decode cS_see 34 = .ok (.getfield 65, 3) := by decide +kernel
theorem dS_see_37 : decode cS_see 37 = .ok (.iload 4, 2) := by decide +kernel
theorem dS_see_39 : decode cS_see 39 = .ok (.iaload, 1) := by decide +kernel
theorem dS_see_40 : decode cS_see 40 = .ok (.aload_n 3, 1) := by decide +kernel
theorem dS_see_41 : decode cS_see 41 = .ok (.getfield 178, 3) := by decide +kernel
theorem dS_see_44 : decode cS_see 44 = .ok (.iload 4, 2) := by decide +kernel
theorem dS_see_46 : decode cS_see 46 = .ok (.iaload, 1) := by decide +kernel
theorem dS_see_47 : decode cS_see 47 = .ok (.invokevirtual 179, 3) := by decide +kernel
theorem dS_see_50 : decode cS_see 50 = .ok (.iastore, 1) := by decide +kernel
theorem dS_see_51 : decode cS_see 51 = .ok (.iinc 4 1, 3) := by decide +kernel
theorem dS_see_54 : decode cS_see 54 = .ok (.goto (-35), 3) := by decide +kernel
theorem dS_see_57 : decode cS_see 57 = .ok (.aload_n 1, 1) := by decide +kernel
theorem dS_see_58 : decode cS_see 58 = .ok (.getfield 65, 3) := by decide +kernel
theorem dS_see_61 : decode cS_see 61 = .ok (.aload_n 3, 1) := by decide +kernel
theorem dS_see_62 : decode cS_see 62 = .ok (.getfield 129, 3) := by decide +kernel
theorem dS_see_65 : decode cS_see 65 = .ok (.aload_n 0, 1) := by decide +kernel
theorem dS_see_66 : decode cS_see 66 = .ok (.aload_n 1, 1) := by decide +kernel
theorem dS_see_67 : decode cS_see 67 = .ok (.getfield 65, 3) := by decide +kernel
theorem dS_see_70 : decode cS_see 70 = .ok (.aload_n 3, 1) := by decide +kernel
theorem dS_see_71 : decode cS_see 71 = .ok (.getfield 129, 3) := by decide +kernel
theorem dS_see_74 : decode cS_see 74 = .ok (.iaload, 1) := by decide +kernel
theorem dS_see_75 : decode cS_see 75 = .ok (.iload_n 2, 1) := by decide +kernel
theorem dS_see_76 : decode cS_see 76 = .ok (.invokevirtual 179, 3) := by decide +kernel
theorem dS_see_79 : decode cS_see 79 = .ok (.iastore, 1) := by decide +kernel
theorem dS_see_80 : decode cS_see 80 = .ok (.return_, 1) := by decide +kernel
theorem dS_greater_0 : decode cS_greater 0 = .ok (.aload_n 0, 1) := by decide +kernel
theorem dS_greater_1 : decode cS_greater 1 = .ok (.iload_n 1, 1) := by decide +kernel
theorem dS_greater_2 : decode cS_greater 2 = .ok (.invokevirtual 123, 3) := by decide +kernel
theorem dS_greater_5 : decode cS_greater 5 = .ok (.ifCond .ne 5, 3) := by decide +kernel
theorem dS_greater_8 : decode cS_greater 8 = .ok (.iload_n 2, 1) := by decide +kernel
theorem dS_greater_9 : decode cS_greater 9 = .ok (.ireturn, 1) := by decide +kernel
theorem dS_greater_10 : decode cS_greater 10 = .ok (.aload_n 0, 1) := by decide +kernel
theorem dS_greater_11 : decode cS_greater 11 = .ok (.iload_n 2, 1) := by decide +kernel
theorem dS_greater_12 : decode cS_greater 12 = .ok (.invokevirtual 123, 3) := by decide +kernel
theorem dS_greater_15 : decode cS_greater 15 = .ok (.ifCond .ne 5, 3) := by decide +kernel
theorem dS_greater_18 : decode cS_greater 18 = .ok (.iload_n 1, 1) := by decide +kernel
theorem dS_greater_19 : decode cS_greater 19 = .ok (.ireturn, 1) := by decide +kernel
theorem dS_greater_20 : decode cS_greater 20 = .ok (.aload_n 0, 1) := by decide +kernel
theorem dS_greater_21 : decode cS_greater 21 = .ok (.getfield 11, 3) := by decide +kernel
theorem dS_greater_24 : decode cS_greater 24 = .ok (.iload_n 2, 1) := by decide +kernel
theorem dS_greater_25 : decode cS_greater 25 = .ok (.aaload, 1) := by decide +kernel
theorem dS_greater_26 : decode cS_greater 26 = .ok (.getfield 169, 3) := by decide +kernel
theorem dS_greater_29 : decode cS_greater 29 = .ok (.aload_n 0, 1) := by decide +kernel
theorem dS_greater_30 : decode cS_greater 30 = .ok (.getfield 11, 3) := by decide +kernel
theorem dS_greater_33 : decode cS_greater 33 = .ok (.iload_n 1, 1) := by decide +kernel
theorem dS_greater_34 : decode cS_greater 34 = .ok (.aaload, 1) := by decide +kernel
theorem dS_greater_35 : decode cS_greater 35 = .ok (.getfield 169, 3) := by decide +kernel
theorem dS_greater_38 : decode cS_greater 38 = .ok (.if_icmp .le 7, 3) := by decide +kernel
theorem dS_greater_41 : decode cS_greater 41 = .ok (.iload_n 2, 1) := by decide +kernel
theorem dS_greater_42 : decode cS_greater 42 = .ok (.goto 4, 3) := by decide +kernel
theorem dS_greater_45 : decode cS_greater 45 = .ok (.iload_n 1, 1) := by decide +kernel
theorem dS_greater_46 : decode cS_greater 46 = .ok (.ireturn, 1) := by decide +kernel
theorem dS_nearestKeys_0 : decode cS_nearestKeys 0 = .ok (.iconst 0, 1) := by decide +kernel
theorem dS_nearestKeys_1 : decode cS_nearestKeys 1 = .ok (.istore_n 2, 1) := by decide +kernel
theorem dS_nearestKeys_2 : decode cS_nearestKeys 2 = .ok (.iconst 0, 1) := by decide +kernel
theorem dS_nearestKeys_3 : decode cS_nearestKeys 3 = .ok (.istore_n 3, 1) := by decide +kernel
theorem dS_nearestKeys_4 : decode cS_nearestKeys 4 = .ok (.iload_n 3, 1) := by decide +kernel
theorem dS_nearestKeys_5 : decode cS_nearestKeys 5 = .ok (.bipush 6, 2) := by decide +kernel
theorem dS_nearestKeys_7 : decode cS_nearestKeys 7 = .ok (.if_icmp .ge 34, 3) := by decide +kernel
theorem dS_nearestKeys_10 : decode cS_nearestKeys 10 = .ok (.aload_n 0, 1) := by decide +kernel
theorem dS_nearestKeys_11 : decode cS_nearestKeys 11 = .ok (.aload_n 1, 1) := by decide +kernel
theorem dS_nearestKeys_12 : decode cS_nearestKeys 12 = .ok (.iload_n 3, 1) := by decide +kernel
theorem dS_nearestKeys_13 : decode cS_nearestKeys 13 = .ok (.iaload, 1) := by decide +kernel
theorem dS_nearestKeys_14 : decode cS_nearestKeys 14 = .ok (.invokevirtual 123, 3) := by decide +kernel
theorem dS_nearestKeys_17 : decode cS_nearestKeys 17 = .ok (.ifCond .eq 18, 3) := by decide +kernel
theorem dS_nearestKeys_20 : decode cS_nearestKeys 20 = .ok (.aload_n 0, 1) := by decide +kernel
theorem dS_nearestKeys_21 : decode cS_nearestKeys 21 = .ok (.aload_n 1, 1) := by decide +kernel
theorem dS_nearestKeys_22 : decode cS_nearestKeys 22 = .ok (.iload_n 3, 1) := by decide +kernel
theorem dS_nearestKeys_23 : decode cS_nearestKeys 23 = .ok (.invokevirtual 182, 3) := by decide +kernel
theorem dS_nearestKeys_26 : decode cS_nearestKeys 26 = .ok (.ifCond .ne 9, 3) := by decide +kernel
theorem dS_nearestKeys_29 : decode cS_nearestKeys 29 = .ok (.iload_n 2, 1) := by decide +kernel
theorem dS_nearestKeys_30 : decode cS_nearestKeys 30 = .ok (.iconst 1, 1) := by decide +kernel
theorem dS_nearestKeys_31 : decode cS_nearestKeys 31 = .ok (.iload_n 3, 1) := by decide +kernel
theorem dS_nearestKeys_32 : decode cS_nearestKeys 32 = .ok (.ishl, 1) := by decide +kernel
theorem dS_nearestKeys_33 : decode cS_nearestKeys 33 = .ok (.ior, 1) := by decide +kernel
theorem dS_nearestKeys_34 : decode cS_nearestKeys 34 = .ok (.istore_n 2, 1) := by decide +kernel
theorem dS_nearestKeys_35 : decode cS_nearestKeys 35 = .ok (.iinc 3 1, 3) := by decide +kernel
theorem dS_nearestKeys_38 : decode cS_nearestKeys 38 = .ok (.goto (-34), 3) := by decide +kernel
theorem dS_nearestKeys_41 : decode cS_nearestKeys 41 = .ok (.iload_n 2, 1) := by decide +kernel
theorem dS_nearestKeys_42 : decode cS_nearestKeys 42 = .ok (.ireturn, 1) := by decide +kernel
theorem dS_isCovered_0 : decode cS_isCovered 0 = .ok (.iconst 0, 1) := by decide +kernel
theorem dS_isCovered_1 : decode cS_isCovered 1 = .ok (.istore_n 3, 1) := by decide +kernel
theorem dS_isCovered_2 : decode cS_isCovered 2 = .ok (.iload_n 3, 1) := by decide +kernel
theorem dS_isCovered_3 : decode cS_isCovered 3 = .ok (.bipush 6, 2) := by decide +kernel
theorem dS_isCovered_5 : decode cS_isCovered 5 = .ok (.if_icmp .ge 48, 3) := by decide +kernel
theorem dS_isCovered_8 : decode cS_isCovered 8 = .ok (.aload_n 1, 1) := by decide +kernel
theorem dS_isCovered_9 : decode cS_isCovered 9 = .ok (.iload_n 3, 1) := by decide +kernel
theorem dS_isCovered_10 : decode cS_isCovered 10 = .ok (.iaload, 1) := by decide +kernel
theorem dS_isCovered_11 : decode cS_isCovered 11 = .ok (.istore 4, 2) := by decide +kernel
theorem dS_isCovered_13 : decode cS_isCovered 13 = .ok (.iload_n 3, 1) := by decide +kernel
theorem dS_isCovered_14 : decode cS_isCovered 14 = .ok (.iload_n 2, 1) := by decide +kernel
theorem dS_isCovered_15 : decode cS_isCovered 15 = .ok (.if_icmp .eq 32, 3) := by decide +kernel
theorem dS_isCovered_18 : decode cS_isCovered 18 = .ok (.aload_n 0, 1) := by decide +kernel
theorem dS_isCovered_19 : decode cS_isCovered 19 = .ok (.iload 4, 2) := by decide +kernel
theorem dS_isCovered_21 : decode cS_isCovered 21 = .ok (.invokevirtual 123, 3) := by decide +kernel
theorem dS_isCovered_24 : decode cS_isCovered 24 = .ok (.ifCond .eq 23, 3) := by decide +kernel
theorem dS_isCovered_27 : decode cS_isCovered 27 = .ok (.aload_n 0, 1) := by decide +kernel
theorem dS_isCovered_28 : decode cS_isCovered 28 = .ok (.getfield 11, 3) := by decide +kernel
theorem dS_isCovered_31 : decode cS_isCovered 31 = .ok (.iload 4, 2) := by decide +kernel
theorem dS_isCovered_33 : decode cS_isCovered 33 = .ok (.aaload, 1) := by decide +kernel
theorem dS_isCovered_34 : decode cS_isCovered 34 = .ok (.getfield 178, 3) := by decide +kernel
theorem dS_isCovered_37 : decode cS_isCovered 37 = .ok (.iload_n 2, 1) := by decide +kernel
theorem dS_isCovered_38 : decode cS_isCovered 38 = .ok (.iaload, 1) := by decide +kernel
theorem dS_isCovered_39 : decode cS_isCovered 39 = .ok (.aload_n 1, 1) := by decide +kernel
theorem dS_isCovered_40 : decode cS_isCovered 40 = .ok (.iload_n 2, 1) := by decide +kernel
theorem dS_isCovered_41 : decode cS_isCovered 41 = .ok (.iaload, 1) := by decide +kernel
theorem dS_isCovered_42 : decode cS_isCovered 42 = .ok (.if_icmp .ne 5, 3) := by decide +kernel
theorem dS_isCovered_45 : decode cS_isCovered 45 = .ok (.iconst 1, 1) := by decide +kernel
theorem dS_isCovered_46 : decode cS_isCovered 46 = .ok (.ireturn, 1) := by decide +kernel
theorem dS_isCovered_47 : decode cS_isCovered 47 = .ok (.iinc 3 1, 3) := by decide +kernel
theorem dS_isCovered_50 : decode cS_isCovered 50 = .ok (.goto (-48), 3) := by decide +kernel
theorem dS_isCovered_53 : decode cS_isCovered 53 = .ok (.iconst 0, 1) := by decide +kernel
theorem dS_isCovered_54 : decode cS_isCovered 54 = .ok (.ireturn, 1) := by decide +kernel
theorem dS_missingNeeds_0 : decode cS_missingNeeds 0 = .ok (.iconst 0, 1) := by decide +kernel
theorem dS_missingNeeds_1 : decode cS_missingNeeds 1 = .ok (.istore_n 3, 1) := by decide +kernel
theorem dS_missingNeeds_2 : decode cS_missingNeeds 2 = .ok (.iconst 0, 1) := by decide +kernel
theorem dS_missingNeeds_3 : decode cS_missingNeeds 3 = .ok (.istore 4, 2) := by decide +kernel
theorem dS_missingNeeds_5 : decode cS_missingNeeds 5 = .ok (.iload 4, 2) := by decide +kernel
theorem dS_missingNeeds_7 : decode cS_missingNeeds 7 = .ok (.bipush 6, 2) := by decide +kernel
theorem dS_missingNeeds_9 : decode cS_missingNeeds 9 = .ok (.if_icmp .ge 49, 3) := by decide +kernel
theorem dS_missingNeeds_12 : decode cS_missingNeeds 12 = .ok (.aload_n 0, 1) := by decide +kernel
theorem dS_missingNeeds_13 : decode cS_missingNeeds 13 = .ok (.getfield 11, 3) := by decide +kernel
theorem dS_missingNeeds_16 : decode cS_missingNeeds 16 = .ok (.iload_n 2, 1) := by decide +kernel
theorem dS_missingNeeds_17 : decode cS_missingNeeds 17 = .ok (.aaload, 1) := by decide +kernel
theorem dS_missingNeeds_18 : decode cS_missingNeeds 18 = .ok (.getfield 175, 3) := by decide +kernel
theorem dS_missingNeeds_21 : decode cS_missingNeeds 21 = .ok (.iload 4, 2) := by decide +kernel
theorem dS_missingNeeds_23 : decode cS_missingNeeds 23 = .ok (.invokestatic 186, 3) := by decide +kernel
theorem dS_missingNeeds_26 : decode cS_missingNeeds 26 = .ok (.ifCond .eq 26, 3) := by decide +kernel
theorem dS_missingNeeds_29 : decode cS_missingNeeds 29 = .ok (.aload_n 0, 1) := by decide +kernel
theorem dS_missingNeeds_30 : decode cS_missingNeeds 30 = .ok (.iload_n 1, 1) := by decide +kernel
theorem dS_missingNeeds_31 : decode cS_missingNeeds 31 = .ok (.aload_n 0, 1) := by decide +kernel
theorem dS_missingNeeds_32 : decode cS_missingNeeds 32 = .ok (.getfield 11, 3) := by decide +kernel
theorem dS_missingNeeds_35 : decode cS_missingNeeds 35 = .ok (.iload_n 2, 1) := by decide +kernel
theorem dS_missingNeeds_36 : decode cS_missingNeeds 36 = .ok (.aaload, 1) := by decide +kernel
theorem dS_missingNeeds_37 : decode cS_missingNeeds 37 = .ok (.getfield 178, 3) := by decide +kernel
theorem dS_missingNeeds_40 : decode cS_missingNeeds 40 = .ok (.iload 4, 2) := by decide +kernel
theorem dS_missingNeeds_42 : decode cS_missingNeeds 42 = .ok (.iaload, 1) := by decide +kernel
theorem dS_missingNeeds_43 : decode cS_missingNeeds 43 = .ok (.invokevirtual 190, 3) := by decide +kernel
theorem dS_missingNeeds_46 : decode cS_missingNeeds 46 = .ok (.ifCond .ne 6, 3) := by decide +kernel
theorem dS_missingNeeds_49 : decode cS_missingNeeds 49 = .ok (.iinc 3 1, 3) := by decide +kernel
theorem dS_missingNeeds_52 : decode cS_missingNeeds 52 = .ok (.iinc 4 1, 3) := by decide +kernel
theorem dS_missingNeeds_55 : decode cS_missingNeeds 55 = .ok (.goto (-50), 3) := by decide +kernel
theorem dS_missingNeeds_58 : decode cS_missingNeeds 58 = .ok (.iload_n 3, 1) := by decide +kernel
theorem dS_missingNeeds_59 : decode cS_missingNeeds 59 = .ok (.ireturn, 1) := by decide +kernel
theorem dS_readLowestKey_0 : decode cS_readLowestKey 0 = .ok (.iconst 0, 1) := by decide +kernel
theorem dS_readLowestKey_1 : decode cS_readLowestKey 1 = .ok (.istore_n 2, 1) := by decide +kernel
theorem dS_readLowestKey_2 : decode cS_readLowestKey 2 = .ok (.iload_n 2, 1) := by decide +kernel
theorem dS_readLowestKey_3 : decode cS_readLowestKey 3 = .ok (.bipush 6, 2) := by decide +kernel
theorem dS_readLowestKey_5 : decode cS_readLowestKey 5 = .ok (.if_icmp .ge 72, 3) := by decide +kernel
theorem dS_readLowestKey_8 : decode cS_readLowestKey 8 = .ok (.aload_n 1, 1) := by decide +kernel
theorem dS_readLowestKey_9 : decode cS_readLowestKey 9 = .ok (.getfield 98, 3) := by decide +kernel
theorem dS_readLowestKey_12 : decode cS_readLowestKey 12 = .ok (.iload_n 2, 1) := by decide +kernel
theorem dS_readLowestKey_13 : decode cS_readLowestKey 13 = .ok (.invokestatic 186, 3) := by decide +kernel
theorem dS_readLowestKey_16 : decode cS_readLowestKey 16 = .ok (.ifCond .eq 55, 3) := by decide +kernel
theorem dS_readLowestKey_19 : decode cS_readLowestKey 19 = .ok (.aload_n 1, 1) := by decide +kernel
theorem dS_readLowestKey_20 : decode cS_readLowestKey 20 = .ok (.getfield 101, 3) := by decide +kernel
theorem dS_readLowestKey_23 : decode cS_readLowestKey 23 = .ok (.iconst 1, 1) := by decide +kernel
theorem dS_readLowestKey_24 : decode cS_readLowestKey 24 = .ok (.if_icmp .ne 18, 3) := by decide +kernel
theorem dS_readLowestKey_27 : decode cS_readLowestKey 27 = .ok (.aload_n 0, 1) := by decide +kernel
theorem dS_readLowestKey_28 : decode cS_readLowestKey 28 = .ok (.getfield 17, 3) := by decide +kernel
theorem dS_readLowestKey_31 : decode cS_readLowestKey 31 = .ok (.aload_n 1, 1) := by decide +kernel
theorem dS_readLowestKey_32 : decode cS_readLowestKey 32 = .ok (.getfield 58, 3) := by decide +kernel
theorem dS_readLowestKey_35 : decode cS_readLowestKey 35 = .ok (.aaload, 1) := by decide +kernel
theorem dS_readLowestKey_36 : decode cS_readLowestKey 36 = .ok (.getfield 88, 3) := by decide +kernel
theorem dS_readLowestKey_39 : decode cS_readLowestKey 39 = .ok (.goto 7, 3) := by decide +kernel
theorem dS_readLowestKey_42 : decode cS_readLowestKey 42 = .ok (.aload_n 1, 1) := by decide +kernel
theorem dS_readLowestKey_43 : decode cS_readLowestKey 43 = .ok (.getfield 193, 3) := by decide +kernel
theorem dS_readLowestKey_46 : decode cS_readLowestKey 46 = .ok (.astore_n 3, 1) := by decide +kernel
theorem dS_readLowestKey_47 : decode cS_readLowestKey 47 = .ok (.aload_n 1, 1) := by decide +kernel
theorem dS_readLowestKey_48 : decode cS_readLowestKey 48 = .ok (.getfield 116, 3) := by decide +kernel
theorem dS_readLowestKey_51 : decode cS_readLowestKey 51 = .ok (.iload_n 2, 1) := by decide +kernel
theorem dS_readLowestKey_52 : decode cS_readLowestKey 52 = .ok (.aload_n 3, 1) := by decide +kernel
theorem dS_readLowestKey_53 : decode cS_readLowestKey 53 = .ok (.iload_n 2, 1) := by decide +kernel
theorem dS_readLowestKey_54 : decode cS_readLowestKey 54 = .ok (.iaload, 1) := by decide +kernel
theorem dS_readLowestKey_55 : decode cS_readLowestKey 55 = .ok (.iastore, 1) := by decide +kernel
theorem dS_readLowestKey_56 : decode cS_readLowestKey 56 = .ok (.aload_n 1, 1) := by decide +kernel
theorem dS_readLowestKey_57 : decode cS_readLowestKey 57 = .ok (.dup, 1) := by decide +kernel
theorem dS_readLowestKey_58 : decode cS_readLowestKey 58 = .ok (.getfield 98, 3) := by decide +kernel
theorem dS_readLowestKey_61 : decode cS_readLowestKey 61 = .ok (.iconst 1, 1) := by decide +kernel
theorem dS_readLowestKey_62 : decode cS_readLowestKey 62 = .ok (.iload_n 2, 1) := by decide +kernel
theorem dS_readLowestKey_63 : decode cS_readLowestKey 63 = .ok (.ishl, 1) := by decide +kernel
theorem dS_readLowestKey_64 : decode cS_readLowestKey 64 = .ok (.iconst (-1), 1) := by decide +kernel
theorem dS_readLowestKey_65 : decode cS_readLowestKey 65 = .ok (.ixor, 1) := by decide +kernel
theorem dS_readLowestKey_66 : decode cS_readLowestKey 66 = .ok (.iand, 1) := by decide +kernel
theorem dS_readLowestKey_67 : decode cS_readLowestKey 67 = .ok (.putfield 98, 3) := by decide +kernel
theorem dS_readLowestKey_70 : decode cS_readLowestKey 70 = .ok (.return_, 1) := by decide +kernel
theorem dS_readLowestKey_71 : decode cS_readLowestKey 71 = .ok (.iinc 2 1, 3) := by decide +kernel
theorem dS_readLowestKey_74 : decode cS_readLowestKey 74 = .ok (.goto (-72), 3) := by decide +kernel
theorem dS_readLowestKey_77 : decode cS_readLowestKey 77 = .ok (.return_, 1) := by decide +kernel
theorem dS_prepareSecondRound_0 : decode cS_prepareSecondRound 0 = .ok (.iconst 0, 1) := by decide +kernel
theorem dS_prepareSecondRound_1 : decode cS_prepareSecondRound 1 = .ok (.istore_n 2, 1) := by decide +kernel
theorem dS_prepareSecondRound_2 : decode cS_prepareSecondRound 2 = .ok (.iload_n 2, 1) := by decide +kernel
theorem dS_prepareSecondRound_3 : decode cS_prepareSecondRound 3 = .ok (.bipush 6, 2) := by decide +kernel
theorem dS_prepareSecondRound_5 : decode cS_prepareSecondRound 5 = .ok (.if_icmp .ge 62, 3) := by decide +kernel
theorem dS_prepareSecondRound_8 : decode cS_prepareSecondRound 8 = .ok (.aload_n 1, 1) := by decide +kernel
theorem dS_prepareSecondRound_9 : decode cS_prepareSecondRound 9 = .ok (.getfield 193, 3) := by decide +kernel
theorem dS_prepareSecondRound_12 : decode cS_prepareSecondRound 12 = .ok (.iload_n 2, 1) := by decide +kernel
theorem dS_prepareSecondRound_13 : decode cS_prepareSecondRound 13 = .ok (.aload_n 0, 1) := by decide +kernel
theorem dS_prepareSecondRound_14 : decode cS_prepareSecondRound 14 = .ok (.aload_n 1, 1) := by decide +kernel
theorem dS_prepareSecondRound_15 : decode cS_prepareSecondRound 15 = .ok (.getfield 116, 3) := by decide +kernel
theorem dS_prepareSecondRound_18 : decode cS_prepareSecondRound 18 = .ok (.iload_n 2, 1) := by decide +kernel
theorem dS_prepareSecondRound_19 : decode cS_prepareSecondRound 19 = .ok (.invokevirtual 196, 3) := by decide +kernel
theorem dS_prepareSecondRound_22 : decode cS_prepareSecondRound 22 = .ok (.iastore, 1) := by decide +kernel
theorem dS_prepareSecondRound_23 : decode cS_prepareSecondRound 23 = .ok (.aload_n 1, 1) := by decide +kernel
theorem dS_prepareSecondRound_24 : decode cS_prepareSecondRound 24 = .ok (.getfield 200, 3) := by decide +kernel
theorem dS_prepareSecondRound_27 : decode cS_prepareSecondRound 27 = .ok (.iload_n 2, 1) := by decide +kernel
theorem dS_prepareSecondRound_28 : decode cS_prepareSecondRound 28 = .ok (.invokestatic 186, 3) := by decide +kernel
theorem dS_prepareSecondRound_31 : decode cS_prepareSecondRound 31 = .ok (.ifCond .eq 30, 3) := by decide +kernel
theorem dS_prepareSecondRound_34 : decode cS_prepareSecondRound 34 = .ok (.aload_n 1, 1) := by decide +kernel
theorem dS_prepareSecondRound_35 : decode cS_prepareSecondRound 35 = .ok (.getfield 193, 3) := by decide +kernel
theorem dS_prepareSecondRound_38 : decode cS_prepareSecondRound 38 = .ok (.iload_n 2, 1) := by decide +kernel
theorem dS_prepareSecondRound_39 : decode cS_prepareSecondRound 39 = .ok (.iaload, 1) := by decide +kernel
theorem dS_prepareSecondRound_40 : decode cS_prepareSecondRound 40 = .ok (.aload_n 1, 1) := by decide +kernel
theorem dS_prepareSecondRound_41 : decode cS_prepareSecondRound 41 = .ok (.getfield 116, 3) := by decide +kernel
theorem dS_prepareSecondRound_44 : decode cS_prepareSecondRound 44 = .ok (.iload_n 2, 1) := by decide +kernel
theorem dS_prepareSecondRound_45 : decode cS_prepareSecondRound 45 = .ok (.iaload, 1) := by decide +kernel
theorem dS_prepareSecondRound_46 : decode cS_prepareSecondRound 46 = .ok (.if_icmp .eq 15, 3) := by decide +kernel
theorem dS_prepareSecondRound_49 : decode cS_prepareSecondRound 49 = .ok (.aload_n 1, 1) := by decide +kernel
theorem dS_prepareSecondRound_50 : decode cS_prepareSecondRound 50 = .ok (.dup, 1) := by decide +kernel
theorem dS_prepareSecondRound_51 : decode cS_prepareSecondRound 51 = .ok (.getfield 98, 3) := by decide +kernel
theorem dS_prepareSecondRound_54 : decode cS_prepareSecondRound 54 = .ok (.iconst 1, 1) := by decide +kernel
theorem dS_prepareSecondRound_55 : decode cS_prepareSecondRound 55 = .ok (.iload_n 2, 1) := by decide +kernel
theorem dS_prepareSecondRound_56 : decode cS_prepareSecondRound 56 = .ok (.ishl, 1) := by decide +kernel
theorem dS_prepareSecondRound_57 : decode cS_prepareSecondRound 57 = .ok (.ior, 1) := by decide +kernel
theorem dS_prepareSecondRound_58 : decode cS_prepareSecondRound 58 = .ok (.putfield 98, 3) := by decide +kernel
theorem dS_prepareSecondRound_61 : decode cS_prepareSecondRound 61 = .ok (.iinc 2 1, 3) := by decide +kernel
theorem dS_prepareSecondRound_64 : decode cS_prepareSecondRound 64 = .ok (.goto (-62), 3) := by decide +kernel
theorem dS_prepareSecondRound_67 : decode cS_prepareSecondRound 67 = .ok (.aload_n 1, 1) := by decide +kernel
theorem dS_prepareSecondRound_68 : decode cS_prepareSecondRound 68 = .ok (.getfield 98, 3) := by decide +kernel
theorem dS_prepareSecondRound_71 : decode cS_prepareSecondRound 71 = .ok (.ifCond .eq 8, 3) := by decide +kernel
theorem dS_prepareSecondRound_74 : decode cS_prepareSecondRound 74 = .ok (.aload_n 1, 1) := by decide +kernel
theorem dS_prepareSecondRound_75 : decode cS_prepareSecondRound 75 = .ok (.iconst 2, 1) := by decide +kernel
theorem dS_prepareSecondRound_76 : decode cS_prepareSecondRound 76 = .ok (.putfield 101, 3) := by decide +kernel
theorem dS_prepareSecondRound_79 : decode cS_prepareSecondRound 79 = .ok (.return_, 1) := by decide +kernel
theorem dS_dueWrite_0 : decode cS_dueWrite 0 = .ok (.aload_n 1, 1) := by decide +kernel
theorem dS_dueWrite_1 : decode cS_dueWrite 1 = .ok (.iload_n 2, 1) := by decide +kernel
theorem dS_dueWrite_2 : decode cS_dueWrite 2 = .ok (.iaload, 1) := by decide +kernel
theorem dS_dueWrite_3 : decode cS_dueWrite 3 = .ok (.istore_n 3, 1) := by decide +kernel
theorem dS_dueWrite_4 : decode cS_dueWrite 4 = .ok (.iconst 0, 1) := by decide +kernel
theorem dS_dueWrite_5 : decode cS_dueWrite 5 = .ok (.istore 4, 2) := by decide +kernel
theorem dS_dueWrite_7 : decode cS_dueWrite 7 = .ok (.iload 4, 2) := by decide +kernel
theorem dS_dueWrite_9 : decode cS_dueWrite 9 = .ok (.bipush 6, 2) := by decide +kernel
theorem dS_dueWrite_11 : decode cS_dueWrite 11 = .ok (.if_icmp .ge 40, 3) := by decide +kernel
theorem dS_dueWrite_14 : decode cS_dueWrite 14 = .ok (.aload_n 0, 1) := by decide +kernel
theorem dS_dueWrite_15 : decode cS_dueWrite 15 = .ok (.aload_n 1, 1) := by decide +kernel
theorem dS_dueWrite_16 : decode cS_dueWrite 16 = .ok (.iload 4, 2) := by decide +kernel
theorem dS_dueWrite_18 : decode cS_dueWrite 18 = .ok (.iaload, 1) := by decide +kernel
theorem dS_dueWrite_19 : decode cS_dueWrite 19 = .ok (.invokevirtual 123, 3) := by decide +kernel
theorem dS_dueWrite_22 : decode cS_dueWrite 22 = .ok (.ifCond .eq 23, 3) := by decide +kernel
theorem dS_dueWrite_25 : decode cS_dueWrite 25 = .ok (.aload_n 0, 1) := by decide +kernel
theorem dS_dueWrite_26 : decode cS_dueWrite 26 = .ok (.iload_n 3, 1) := by decide +kernel
theorem dS_dueWrite_27 : decode cS_dueWrite 27 = .ok (.aload_n 0, 1) := by decide +kernel
theorem dS_dueWrite_28 : decode cS_dueWrite 28 = .ok (.getfield 11, 3) := by decide +kernel
theorem dS_dueWrite_31 : decode cS_dueWrite 31 = .ok (.aload_n 1, 1) := by decide +kernel
theorem dS_dueWrite_32 : decode cS_dueWrite 32 = .ok (.iload 4, 2) := by decide +kernel
theorem dS_dueWrite_34 : decode cS_dueWrite 34 = .ok (.iaload, 1) := by decide +kernel
theorem dS_dueWrite_35 : decode cS_dueWrite 35 = .ok (.aaload, 1) := by decide +kernel
theorem dS_dueWrite_36 : decode cS_dueWrite 36 = .ok (.getfield 178, 3) := by decide +kernel
theorem dS_dueWrite_39 : decode cS_dueWrite 39 = .ok (.iload_n 2, 1) := by decide +kernel
theorem dS_dueWrite_40 : decode cS_dueWrite 40 = .ok (.iaload, 1) := by decide +kernel
theorem dS_dueWrite_41 : decode cS_dueWrite 41 = .ok (.invokevirtual 179, 3) := by decide +kernel
theorem dS_dueWrite_44 : decode cS_dueWrite 44 = .ok (.istore_n 3, 1) := by decide +kernel
theorem dS_dueWrite_45 : decode cS_dueWrite 45 = .ok (.iinc 4 1, 3) := by decide +kernel
theorem dS_dueWrite_48 : decode cS_dueWrite 48 = .ok (.goto (-41), 3) := by decide +kernel
theorem dS_dueWrite_51 : decode cS_dueWrite 51 = .ok (.iload_n 3, 1) := by decide +kernel
theorem dS_dueWrite_52 : decode cS_dueWrite 52 = .ok (.ireturn, 1) := by decide +kernel
theorem dS_seeFetched_0 : decode cS_seeFetched 0 = .ok (.iconst 0, 1) := by decide +kernel
theorem dS_seeFetched_1 : decode cS_seeFetched 1 = .ok (.istore_n 2, 1) := by decide +kernel
theorem dS_seeFetched_2 : decode cS_seeFetched 2 = .ok (.iload_n 2, 1) := by decide +kernel
theorem dS_seeFetched_3 : decode cS_seeFetched 3 = .ok (.bipush 6, 2) := by decide +kernel
theorem dS_seeFetched_5 : decode cS_seeFetched 5 = .ok (.if_icmp .ge 20, 3) := by decide +kernel
theorem dS_seeFetched_8 : decode cS_seeFetched 8 = .ok (.aload_n 0, 1) := by decide +kernel
theorem dS_seeFetched_9 : decode cS_seeFetched 9 = .ok (.aload_n 1, 1) := by decide +kernel
theorem dS_seeFetched_10 : decode cS_seeFetched 10 = .ok (.aload_n 1, 1) := by decide +kernel
theorem dS_seeFetched_11 : decode cS_seeFetched 11 = .ok (.getfield 116, 3) := by decide +kernel
theorem dS_seeFetched_14 : decode cS_seeFetched 14 = .ok (.iload_n 2, 1) := by decide +kernel
theorem dS_seeFetched_15 : decode cS_seeFetched 15 = .ok (.iaload, 1) := by decide +kernel
theorem dS_seeFetched_16 : decode cS_seeFetched 16 = .ok (.invokevirtual 84, 3) := by decide +kernel
theorem dS_seeFetched_19 : decode cS_seeFetched 19 = .ok (.iinc 2 1, 3) := by decide +kernel
theorem dS_seeFetched_22 : decode cS_seeFetched 22 = .ok (.goto (-20), 3) := by decide +kernel
theorem dS_seeFetched_25 : decode cS_seeFetched 25 = .ok (.return_, 1) := by decide +kernel
theorem dS_noWrites_0 : decode cS_noWrites 0 = .ok (.bipush 6, 2) := by decide +kernel
theorem dS_noWrites_2 : decode cS_noWrites 2 = .ok (.newarray .int, 2) := by decide +kernel
theorem dS_noWrites_4 : decode cS_noWrites 4 = .ok (.astore_n 0, 1) := by decide +kernel
theorem dS_noWrites_5 : decode cS_noWrites 5 = .ok (.aload_n 0, 1) := by decide +kernel
theorem dS_noWrites_6 : decode cS_noWrites 6 = .ok (.bipush (-4), 2) := by decide +kernel
theorem dS_noWrites_8 : decode cS_noWrites 8 = .ok (.invokestatic 203, 3) := by decide +kernel
theorem dS_noWrites_11 : decode cS_noWrites 11 = .ok (.aload_n 0, 1) := by decide +kernel
theorem dS_noWrites_12 : decode cS_noWrites 12 = .ok (.areturn, 1) := by decide +kernel
end
section
theorem dN_init_0 : decode cN_init 0 = .ok (.aload_n 0, 1) := by decide +kernel
theorem dN_init_1 : decode cN_init 1 = .ok (.invokespecial 1, 3) := by decide +kernel
theorem dN_init_4 : decode cN_init 4 = .ok (.aload_n 0, 1) := by decide +kernel
theorem dN_init_5 : decode cN_init 5 = .ok (.bipush 40, 2) := by decide +kernel
theorem dN_init_7 : decode cN_init 7 = .ok (.newarray .int, 2) := by decide +kernel
theorem dN_init_9 : decode cN_init 9 = .ok (.putfield 7, 3) := by decide +kernel
theorem dN_init_12 : decode cN_init 12 = .ok (.aload_n 0, 1) := by decide +kernel
theorem dN_init_13 : decode cN_init 13 = .ok (.bipush 40, 2) := by decide +kernel
theorem dN_init_15 : decode cN_init 15 = .ok (.newarray .int, 2) := by decide +kernel
theorem dN_init_17 : decode cN_init 17 = .ok (.putfield 13, 3) := by decide +kernel
theorem dN_init_20 : decode cN_init 20 = .ok (.aload_n 0, 1) := by decide +kernel
theorem dN_init_21 : decode cN_init 21 = .ok (.bipush 40, 2) := by decide +kernel
theorem dN_init_23 : decode cN_init 23 = .ok (.newarray .int, 2) := by decide +kernel
theorem dN_init_25 : decode cN_init 25 = .ok (.putfield 16, 3) := by decide +kernel
theorem dN_init_28 : decode cN_init 28 = .ok (.aload_n 0, 1) := by decide +kernel
theorem dN_init_29 : decode cN_init 29 = .ok (.sipush 240, 3) := by decide +kernel
theorem dN_init_32 : decode cN_init 32 = .ok (.newarray .int, 2) := by decide +kernel
theorem dN_init_34 : decode cN_init 34 = .ok (.putfield 19, 3) := by decide +kernel
theorem dN_init_37 : decode cN_init 37 = .ok (.aload_n 0, 1) := by decide +kernel
theorem dN_init_38 : decode cN_init 38 = .ok (.bipush 40, 2) := by decide +kernel
theorem dN_init_40 : decode cN_init 40 = .ok (.newarray .int, 2) := by decide +kernel
theorem dN_init_42 : decode cN_init 42 = .ok (.putfield 22, 3) := by decide +kernel
theorem dN_init_45 : decode cN_init 45 = .ok (.aload_n 0, 1) := by decide +kernel
theorem dN_init_46 : decode cN_init 46 = .ok (.bipush 120, 2) := by decide +kernel
theorem dN_init_48 : decode cN_init 48 = .ok (.newarray .boolean, 2) := by decide +kernel
theorem dN_init_50 : decode cN_init 50 = .ok (.putfield 25, 3) := by decide +kernel
theorem dN_init_53 : decode cN_init 53 = .ok (.aload_n 0, 1) := by decide +kernel
theorem dN_init_54 : decode cN_init 54 = .ok (.bipush 6, 2) := by decide +kernel
theorem dN_init_56 : decode cN_init 56 = .ok (.newarray .int, 2) := by decide +kernel
theorem dN_init_58 : decode cN_init 58 = .ok (.putfield 29, 3) := by decide +kernel
theorem dN_init_61 : decode cN_init 61 = .ok (.aload_n 0, 1) := by decide +kernel
theorem dN_init_62 : decode cN_init 62 = .ok (.bipush 6, 2) := by decide +kernel
theorem dN_init_64 : decode cN_init 64 = .ok (.newarray .int, 2) := by decide +kernel
theorem dN_init_66 : decode cN_init 66 = .ok (.putfield 32, 3) := by decide +kernel
theorem dN_init_69 : decode cN_init 69 = .ok (.aload_n 0, 1) := by decide +kernel
theorem dN_init_70 : decode cN_init 70 = .ok (.sipush 240, 3) := by decide +kernel
theorem dN_init_73 : decode cN_init 73 = .ok (.newarray .int, 2) := by decide +kernel
theorem dN_init_75 : decode cN_init 75 = .ok (.putfield 35, 3) := by decide +kernel
theorem dN_init_78 : decode cN_init 78 = .ok (.aload_n 0, 1) := by decide +kernel
theorem dN_init_79 : decode cN_init 79 = .ok (.bipush 9, 2) := by decide +kernel
theorem dN_init_81 : decode cN_init 81 = .ok (.newarray .int, 2) := by decide +kernel
theorem dN_init_83 : decode cN_init 83 = .ok (.putfield 38, 3) := by decide +kernel
theorem dN_init_86 : decode cN_init 86 = .ok (.aload_n 0, 1) := by decide +kernel
theorem dN_init_87 : decode cN_init 87 = .ok (.sipush 360, 3) := by decide +kernel
theorem dN_init_90 : decode cN_init 90 = .ok (.newarray .int, 2) := by decide +kernel
theorem dN_init_92 : decode cN_init 92 = .ok (.putfield 41, 3) := by decide +kernel
theorem dN_init_95 : decode cN_init 95 = .ok (.aload_n 0, 1) := by decide +kernel
theorem dN_init_96 : decode cN_init 96 = .ok (.bipush 36, 2) := by decide +kernel
theorem dN_init_98 : decode cN_init 98 = .ok (.newarray .int, 2) := by decide +kernel
theorem dN_init_100 : decode cN_init 100 = .ok (.putfield 44, 3) := by decide +kernel
theorem dN_init_103 : decode cN_init 103 = .ok (.aload_n 0, 1) := by decide +kernel
theorem dN_init_104 : decode cN_init 104 = .ok (.bipush 6, 2) := by decide +kernel
theorem dN_init_106 : decode cN_init 106 = .ok (.newarray .int, 2) := by decide +kernel
theorem dN_init_108 : decode cN_init 108 = .ok (.putfield 47, 3) := by decide +kernel
theorem dN_init_111 : decode cN_init 111 = .ok (.aload_n 0, 1) := by decide +kernel
theorem dN_init_112 : decode cN_init 112 = .ok (.bipush 6, 2) := by decide +kernel
theorem dN_init_114 : decode cN_init 114 = .ok (.newarray .int, 2) := by decide +kernel
theorem dN_init_116 : decode cN_init 116 = .ok (.putfield 50, 3) := by decide +kernel
theorem dN_init_119 : decode cN_init 119 = .ok (.aload_n 0, 1) := by decide +kernel
theorem dN_init_120 : decode cN_init 120 = .ok (.bipush 6, 2) := by decide +kernel
theorem dN_init_122 : decode cN_init 122 = .ok (.newarray .int, 2) := by decide +kernel
theorem dN_init_124 : decode cN_init 124 = .ok (.putfield 53, 3) := by decide +kernel
theorem dN_init_127 : decode cN_init 127 = .ok (.aload_n 0, 1) := by decide +kernel
theorem dN_init_128 : decode cN_init 128 = .ok (.bipush 6, 2) := by decide +kernel
theorem dN_init_130 : decode cN_init 130 = .ok (.newarray .int, 2) := by decide +kernel
theorem dN_init_132 : decode cN_init 132 = .ok (.putfield 56, 3) := by decide +kernel
theorem dN_init_135 : decode cN_init 135 = .ok (.aload_n 0, 1) := by decide +kernel
theorem dN_init_136 : decode cN_init 136 = .ok (.bipush 36, 2) := by decide +kernel
theorem dN_init_138 : decode cN_init 138 = .ok (.newarray .int, 2) := by decide +kernel
theorem dN_init_140 : decode cN_init 140 = .ok (.putfield 59, 3) := by decide +kernel
theorem dN_init_143 : decode cN_init 143 = .ok (.aload_n 0, 1) := by decide +kernel
theorem dN_init_144 : decode cN_init 144 = .ok (.bipush 36, 2) := by decide +kernel
theorem dN_init_146 : decode cN_init 146 = .ok (.newarray .int, 2) := by decide +kernel
theorem dN_init_148 : decode cN_init 148 = .ok (.putfield 62, 3) := by decide +kernel
theorem dN_init_151 : decode cN_init 151 = .ok (.return_, 1) := by decide +kernel
theorem dN_out_0 : decode cN_out 0 = .ok (.iload_n 0, 1) := by decide +kernel
theorem dN_out_1 : decode cN_out 1 = .ok (.ifCond .lt 8, 3) := by decide +kernel
theorem dN_out_4 : decode cN_out 4 = .ok (.iload_n 0, 1) := by decide +kernel
theorem dN_out_5 : decode cN_out 5 = .ok (.iload_n 1, 1) := by decide +kernel
theorem dN_out_6 : decode cN_out 6 = .ok (.if_icmp .lt 7, 3) := by decide +kernel
theorem dN_out_9 : decode cN_out 9 = .ok (.iconst 1, 1) := by decide +kernel
theorem dN_out_10 : decode cN_out 10 = .ok (.goto 4, 3) := by decide +kernel
theorem dN_out_13 : decode cN_out 13 = .ok (.iconst 0, 1) := by decide +kernel
theorem dN_out_14 : decode cN_out 14 = .ok (.ireturn, 1) := by decide +kernel
theorem dN_count_0 : decode cN_count 0 = .ok (.iconst 0, 1) := by decide +kernel
theorem dN_count_1 : decode cN_count 1 = .ok (.istore_n 1, 1) := by decide +kernel
theorem dN_count_2 : decode cN_count 2 = .ok (.iconst 0, 1) := by decide +kernel
theorem dN_count_3 : decode cN_count 3 = .ok (.istore_n 2, 1) := by decide +kernel
theorem dN_count_4 : decode cN_count 4 = .ok (.iload_n 2, 1) := by decide +kernel
theorem dN_count_5 : decode cN_count 5 = .ok (.bipush 6, 2) := by decide +kernel
theorem dN_count_7 : decode cN_count 7 = .ok (.if_icmp .ge 17, 3) := by decide +kernel
theorem dN_count_10 : decode cN_count 10 = .ok (.iload_n 1, 1) := by decide +kernel
theorem dN_count_11 : decode cN_count 11 = .ok (.iload_n 0, 1) := by decide +kernel
theorem dN_count_12 : decode cN_count 12 = .ok (.iload_n 2, 1) := by decide +kernel
theorem dN_count_13 : decode cN_count 13 = .ok (.ishr, 1) := by decide +kernel
theorem dN_count_14 : decode cN_count 14 = .ok (.iconst 1, 1) := by decide +kernel
theorem dN_count_15 : decode cN_count 15 = .ok (.iand, 1) := by decide +kernel
theorem dN_count_16 : decode cN_count 16 = .ok (.iadd, 1) := by decide +kernel
theorem dN_count_17 : decode cN_count 17 = .ok (.istore_n 1, 1) := by decide +kernel
theorem dN_count_18 : decode cN_count 18 = .ok (.iinc 2 1, 3) := by decide +kernel
theorem dN_count_21 : decode cN_count 21 = .ok (.goto (-17), 3) := by decide +kernel
theorem dN_count_24 : decode cN_count 24 = .ok (.iload_n 1, 1) := by decide +kernel
theorem dN_count_25 : decode cN_count 25 = .ok (.ireturn, 1) := by decide +kernel
theorem dN_lowest_0 : decode cN_lowest 0 = .ok (.iconst (-1), 1) := by decide +kernel
theorem dN_lowest_1 : decode cN_lowest 1 = .ok (.istore_n 1, 1) := by decide +kernel
theorem dN_lowest_2 : decode cN_lowest 2 = .ok (.iconst 5, 1) := by decide +kernel
theorem dN_lowest_3 : decode cN_lowest 3 = .ok (.istore_n 2, 1) := by decide +kernel
theorem dN_lowest_4 : decode cN_lowest 4 = .ok (.iload_n 2, 1) := by decide +kernel
theorem dN_lowest_5 : decode cN_lowest 5 = .ok (.ifCond .lt 24, 3) := by decide +kernel
theorem dN_lowest_8 : decode cN_lowest 8 = .ok (.iload_n 0, 1) := by decide +kernel
theorem dN_lowest_9 : decode cN_lowest 9 = .ok (.iload_n 2, 1) := by decide +kernel
theorem dN_lowest_10 : decode cN_lowest 10 = .ok (.ishr, 1) := by decide +kernel
theorem dN_lowest_11 : decode cN_lowest 11 = .ok (.iconst 1, 1) := by decide +kernel
theorem dN_lowest_12 : decode cN_lowest 12 = .ok (.iand, 1) := by decide +kernel
theorem dN_lowest_13 : decode cN_lowest 13 = .ok (.iconst 1, 1) := by decide +kernel
theorem dN_lowest_14 : decode cN_lowest 14 = .ok (.if_icmp .ne 7, 3) := by decide +kernel
theorem dN_lowest_17 : decode cN_lowest 17 = .ok (.iload_n 2, 1) := by decide +kernel
theorem dN_lowest_18 : decode cN_lowest 18 = .ok (.goto 4, 3) := by decide +kernel
theorem dN_lowest_21 : decode cN_lowest 21 = .ok (.iload_n 1, 1) := by decide +kernel
theorem dN_lowest_22 : decode cN_lowest 22 = .ok (.istore_n 1, 1) := by decide +kernel
theorem dN_lowest_23 : decode cN_lowest 23 = .ok (.iinc 2 (-1), 3) := by decide +kernel
theorem dN_lowest_26 : decode cN_lowest 26 = .ok (.goto (-22), 3) := by decide +kernel
theorem dN_lowest_29 : decode cN_lowest 29 = .ok (.iload_n 1, 1) := by decide +kernel
theorem dN_lowest_30 : decode cN_lowest 30 = .ok (.ireturn, 1) := by decide +kernel
theorem dN_open_0 : decode cN_open 0 = .ok (.aload_n 0, 1) := by decide +kernel
theorem dN_open_1 : decode cN_open 1 = .ok (.getfield 47, 3) := by decide +kernel
theorem dN_open_4 : decode cN_open 4 = .ok (.iload_n 1, 1) := by decide +kernel
theorem dN_open_5 : decode cN_open 5 = .ok (.iaload, 1) := by decide +kernel
theorem dN_open_6 : decode cN_open 6 = .ok (.iconst 1, 1) := by decide +kernel
theorem dN_open_7 : decode cN_open 7 = .ok (.if_icmp .eq 13, 3) := by decide +kernel
theorem dN_open_10 : decode cN_open 10 = .ok (.aload_n 0, 1) := by decide +kernel
theorem dN_open_11 : decode cN_open 11 = .ok (.getfield 47, 3) := by decide +kernel
theorem dN_open_14 : decode cN_open 14 = .ok (.iload_n 1, 1) := by decide +kernel
theorem dN_open_15 : decode cN_open 15 = .ok (.iaload, 1) := by decide +kernel
theorem dN_open_16 : decode cN_open 16 = .ok (.iconst 2, 1) := by decide +kernel
theorem dN_open_17 : decode cN_open 17 = .ok (.if_icmp .ne 7, 3) := by decide +kernel
theorem dN_open_20 : decode cN_open 20 = .ok (.iconst 1, 1) := by decide +kernel
theorem dN_open_21 : decode cN_open 21 = .ok (.goto 4, 3) := by decide +kernel
theorem dN_open_24 : decode cN_open 24 = .ok (.iconst 0, 1) := by decide +kernel
theorem dN_open_25 : decode cN_open 25 = .ok (.ireturn, 1) := by decide +kernel
theorem dN_greater_0 : decode cN_greater 0 = .ok (.iload_n 1, 1) := by decide +kernel
theorem dN_greater_1 : decode cN_greater 1 = .ok (.ifCond .eq 7, 3) := by decide +kernel
theorem dN_greater_4 : decode cN_greater 4 = .ok (.iload_n 2, 1) := by decide +kernel
theorem dN_greater_5 : decode cN_greater 5 = .ok (.ifCond .ne 7, 3) := by decide +kernel
theorem dN_greater_8 : decode cN_greater 8 = .ok (.iload_n 1, 1) := by decide +kernel
theorem dN_greater_9 : decode cN_greater 9 = .ok (.iload_n 2, 1) := by decide +kernel
theorem dN_greater_10 : decode cN_greater 10 = .ok (.iadd, 1) := by decide +kernel
theorem dN_greater_11 : decode cN_greater 11 = .ok (.ireturn, 1) := by decide +kernel
theorem dN_greater_12 : decode cN_greater 12 = .ok (.aload_n 0, 1) := by decide +kernel
theorem dN_greater_13 : decode cN_greater 13 = .ok (.getfield 16, 3) := by decide +kernel
theorem dN_greater_16 : decode cN_greater 16 = .ok (.iload_n 2, 1) := by decide +kernel
theorem dN_greater_17 : decode cN_greater 17 = .ok (.iconst 1, 1) := by decide +kernel
theorem dN_greater_18 : decode cN_greater 18 = .ok (.isub, 1) := by decide +kernel
theorem dN_greater_19 : decode cN_greater 19 = .ok (.iaload, 1) := by decide +kernel
theorem dN_greater_20 : decode cN_greater 20 = .ok (.aload_n 0, 1) := by decide +kernel
theorem dN_greater_21 : decode cN_greater 21 = .ok (.getfield 16, 3) := by decide +kernel
theorem dN_greater_24 : decode cN_greater 24 = .ok (.iload_n 1, 1) := by decide +kernel
theorem dN_greater_25 : decode cN_greater 25 = .ok (.iconst 1, 1) := by decide +kernel
theorem dN_greater_26 : decode cN_greater 26 = .ok (.isub, 1) := by decide +kernel
theorem dN_greater_27 : decode cN_greater 27 = .ok (.iaload, 1) := by decide +kernel
theorem dN_greater_28 : decode cN_greater 28 = .ok (.if_icmp .le 7, 3) := by decide +kernel
theorem dN_greater_31 : decode cN_greater 31 = .ok (.iload_n 2, 1) := by decide +kernel
theorem dN_greater_32 : decode cN_greater 32 = .ok (.goto 4, 3) := by decide +kernel
theorem dN_greater_35 : decode cN_greater 35 = .ok (.iload_n 1, 1) := by decide +kernel
theorem dN_greater_36 : decode cN_greater 36 = .ok (.ireturn, 1) := by decide +kernel
theorem dN_latestOf_0 : decode cN_latestOf 0 = .ok (.iconst 0, 1) := by decide +kernel
theorem dN_latestOf_1 : decode cN_latestOf 1 = .ok (.istore_n 3, 1) := by decide +kernel
theorem dN_latestOf_2 : decode cN_latestOf 2 = .ok (.iconst 0, 1) := by decide +kernel
theorem dN_latestOf_3 : decode cN_latestOf 3 = .ok (.istore 4, 2) := by decide +kernel
theorem dN_latestOf_5 : decode cN_latestOf 5 = .ok (.iload 4, 2) := by decide +kernel
theorem dN_latestOf_7 : decode cN_latestOf 7 = .ok (.aload_n 0, 1) := by decide +kernel
theorem dN_latestOf_8 : decode cN_latestOf 8 = .ok (.getfield 65, 3) := by decide +kernel
theorem dN_latestOf_11 : decode cN_latestOf 11 = .ok (.if_icmp .ge 49, 3) := by decide +kernel
theorem dN_latestOf_14 : decode cN_latestOf 14 = .ok (.aload_n 0, 1) := by decide +kernel
theorem dN_latestOf_15 : decode cN_latestOf 15 = .ok (.getfield 25, 3) := by decide +kernel
theorem dN_latestOf_18 : decode cN_latestOf 18 = .ok (.bipush 40, 2) := by decide +kernel
theorem dN_latestOf_20 : decode cN_latestOf 20 = .ok (.iload_n 1, 1) := by decide +kernel
theorem dN_latestOf_21 : decode cN_latestOf 21 = .ok (.imul, 1) := by decide +kernel
theorem dN_latestOf_22 : decode cN_latestOf 22 = .ok (.iload 4, 2) := by decide +kernel
theorem dN_latestOf_24 : decode cN_latestOf 24 = .ok (.iadd, 1) := by decide +kernel
theorem dN_latestOf_25 : decode cN_latestOf 25 = .ok (.baload, 1) := by decide +kernel
theorem dN_latestOf_26 : decode cN_latestOf 26 = .ok (.ifCond .eq 26, 3) := by decide +kernel
theorem dN_latestOf_29 : decode cN_latestOf 29 = .ok (.aload_n 0, 1) := by decide +kernel
theorem dN_latestOf_30 : decode cN_latestOf 30 = .ok (.getfield 7, 3) := by decide +kernel
theorem dN_latestOf_33 : decode cN_latestOf 33 = .ok (.iload 4, 2) := by decide +kernel
theorem dN_latestOf_35 : decode cN_latestOf 35 = .ok (.iaload, 1) := by decide +kernel
theorem dN_latestOf_36 : decode cN_latestOf 36 = .ok (.iload_n 2, 1) := by decide +kernel
theorem dN_latestOf_37 : decode cN_latestOf 37 = .ok (.if_icmp .ne 15, 3) := by decide +kernel
theorem dN_latestOf_40 : decode cN_latestOf 40 = .ok (.aload_n 0, 1) := by decide +kernel
theorem dN_latestOf_41 : decode cN_latestOf 41 = .ok (.iload_n 3, 1) := by decide +kernel
theorem dN_latestOf_42 : decode cN_latestOf 42 = .ok (.iload 4, 2) := by decide +kernel
theorem dN_latestOf_44 : decode cN_latestOf 44 = .ok (.iconst 1, 1) := by decide +kernel
theorem dN_latestOf_45 : decode cN_latestOf 45 = .ok (.iadd, 1) := by decide +kernel
theorem dN_latestOf_46 : decode cN_latestOf 46 = .ok (.invokevirtual 69, 3) := by decide +kernel
theorem dN_latestOf_49 : decode cN_latestOf 49 = .ok (.goto 4, 3) := by decide +kernel
theorem dN_latestOf_52 : decode cN_latestOf 52 = .ok (.iload_n 3, 1) := by decide +kernel
theorem dN_latestOf_53 : decode cN_latestOf 53 = .ok (.istore_n 3, 1) := by decide +kernel
theorem dN_latestOf_54 : decode cN_latestOf 54 = .ok (.iinc 4 1, 3) := by decide +kernel
theorem dN_latestOf_57 : decode cN_latestOf 57 = .ok (.goto (-52), 3) := by decide +kernel
theorem dN_latestOf_60 : decode cN_latestOf 60 = .ok (.iload_n 3, 1) := by decide +kernel
theorem dN_latestOf_61 : decode cN_latestOf 61 = .ok (.ireturn, 1) := by decide +kernel
theorem dN_near_0 : decode cN_near 0 = .ok (.iconst 0, 1) := by decide +kernel
theorem dN_near_1 : decode cN_near 1 = .ok (.istore_n 2, 1) := by decide +kernel
theorem dN_near_2 : decode cN_near 2 = .ok (.iconst 0, 1) := by decide +kernel
theorem dN_near_3 : decode cN_near 3 = .ok (.istore_n 3, 1) := by decide +kernel
theorem dN_near_4 : decode cN_near 4 = .ok (.iload_n 3, 1) := by decide +kernel
theorem dN_near_5 : decode cN_near 5 = .ok (.bipush 6, 2) := by decide +kernel
theorem dN_near_7 : decode cN_near 7 = .ok (.if_icmp .ge 121, 3) := by decide +kernel
theorem dN_near_10 : decode cN_near 10 = .ok (.aload_n 0, 1) := by decide +kernel
theorem dN_near_11 : decode cN_near 11 = .ok (.getfield 44, 3) := by decide +kernel
theorem dN_near_14 : decode cN_near 14 = .ok (.bipush 6, 2) := by decide +kernel
theorem dN_near_16 : decode cN_near 16 = .ok (.iload_n 1, 1) := by decide +kernel
theorem dN_near_17 : decode cN_near 17 = .ok (.imul, 1) := by decide +kernel
theorem dN_near_18 : decode cN_near 18 = .ok (.iload_n 3, 1) := by decide +kernel
theorem dN_near_19 : decode cN_near 19 = .ok (.iadd, 1) := by decide +kernel
theorem dN_near_20 : decode cN_near 20 = .ok (.iaload, 1) := by decide +kernel
theorem dN_near_21 : decode cN_near 21 = .ok (.istore 4, 2) := by decide +kernel
theorem dN_near_23 : decode cN_near 23 = .ok (.iload 4, 2) := by decide +kernel
theorem dN_near_25 : decode cN_near 25 = .ok (.ifCond .le 7, 3) := by decide +kernel
theorem dN_near_28 : decode cN_near 28 = .ok (.iconst 1, 1) := by decide +kernel
theorem dN_near_29 : decode cN_near 29 = .ok (.goto 4, 3) := by decide +kernel
theorem dN_near_32 : decode cN_near 32 = .ok (.iconst 0, 1) := by decide +kernel
theorem dN_near_33 : decode cN_near 33 = .ok (.istore 5, 2) := by decide +kernel
theorem dN_near_35 : decode cN_near 35 = .ok (.iconst 0, 1) := by decide +kernel
theorem dN_near_36 : decode cN_near 36 = .ok (.istore 6, 2) := by decide +kernel
theorem dN_near_38 : decode cN_near 38 = .ok (.iload 6, 2) := by decide +kernel
theorem dN_near_40 : decode cN_near 40 = .ok (.bipush 6, 2) := by decide +kernel
theorem dN_near_42 : decode cN_near 42 = .ok (.if_icmp .ge 65, 3) := by decide +kernel
theorem dN_near_45 : decode cN_near 45 = .ok (.aload_n 0, 1) := by decide +kernel
theorem dN_near_46 : decode cN_near 46 = .ok (.getfield 44, 3) := by decide +kernel
theorem dN_near_49 : decode cN_near 49 = .ok (.bipush 6, 2) := by decide +kernel
theorem dN_near_51 : decode cN_near 51 = .ok (.iload_n 1, 1) := by decide +kernel
theorem dN_near_52 : decode cN_near 52 = .ok (.imul, 1) := by decide +kernel
theorem dN_near_53 : decode cN_near 53 = .ok (.iload 6, 2) := by decide +kernel
theorem dN_near_55 : decode cN_near 55 = .ok (.iadd, 1) := by decide +kernel
theorem dN_near_56 : decode cN_near 56 = .ok (.iaload, 1) := by decide +kernel
theorem dN_near_57 : decode cN_near 57 = .ok (.istore 7, 2) := by decide +kernel
theorem dN_near_59 : decode cN_near 59 = .ok (.iload 5, 2) := by decide +kernel
theorem dN_near_61 : decode cN_near 61 = .ok (.ifCond .eq 37, 3) := by decide +kernel
theorem dN_near_64 : decode cN_near 64 = .ok (.iload 6, 2) := by decide +kernel
theorem dN_near_66 : decode cN_near 66 = .ok (.iload_n 3, 1) := by decide +kernel
theorem dN_near_67 : decode cN_near 67 = .ok (.if_icmp .eq 27, 3) := by decide +kernel
theorem dN_near_70 : decode cN_near 70 = .ok (.iload 7, 2) := by decide +kernel
theorem dN_near_72 : decode cN_near 72 = .ok (.ifCond .eq 22, 3) := by decide +kernel
theorem dN_near_75 : decode cN_near 75 = .ok (.aload_n 0, 1) := by decide +kernel
theorem dN_near_76 : decode cN_near 76 = .ok (.getfield 19, 3) := by decide +kernel
theorem dN_near_79 : decode cN_near 79 = .ok (.bipush 6, 2) := by decide +kernel
theorem dN_near_81 : decode cN_near 81 = .ok (.iload 7, 2) := by decide +kernel
theorem dN_near_83 : decode cN_near 83 = .ok (.iconst 1, 1) := by decide +kernel
theorem dN_near_84 : decode cN_near 84 = .ok (.isub, 1) := by decide +kernel
theorem dN_near_85 : decode cN_near 85 = .ok (.imul, 1) := by decide +kernel
theorem dN_near_86 : decode cN_near 86 = .ok (.iload_n 3, 1) := by decide +kernel
theorem dN_near_87 : decode cN_near 87 = .ok (.iadd, 1) := by decide +kernel
theorem dN_near_88 : decode cN_near 88 = .ok (.iaload, 1) := by decide +kernel
theorem dN_near_89 : decode cN_near 89 = .ok (.iload 4, 2) := by decide +kernel
theorem dN_near_91 : decode cN_near 91 = .ok (.if_icmp .eq 7, 3) := by decide +kernel
theorem dN_near_94 : decode cN_near 94 = .ok (.iconst 1, 1) := by decide +kernel
theorem dN_near_95 : decode cN_near 95 = .ok (.goto 4, 3) := by decide +kernel
theorem dN_near_98 : decode cN_near 98 = .ok (.iconst 0, 1) := by decide +kernel
theorem dN_near_99 : decode cN_near 99 = .ok (.istore 5, 2) := by decide +kernel
theorem dN_near_101 : decode cN_near 101 = .ok (.iinc 6 1, 3) := by decide +kernel
theorem dN_near_104 : decode cN_near 104 = .ok (.goto (-66), 3) := by decide +kernel
theorem dN_near_107 : decode cN_near 107 = .ok (.iload 5, 2) := by decide +kernel
theorem dN_near_109 : decode cN_near 109 = .ok (.ifCond .eq 11, 3) := by decide +kernel
theorem dN_near_112 : decode cN_near 112 = .ok (.iload_n 2, 1) := by decide +kernel
theorem dN_near_113 : decode cN_near 113 = .ok (.iconst 1, 1) := by decide +kernel
theorem dN_near_114 : decode cN_near 114 = .ok (.iload_n 3, 1) := by decide +kernel
theorem dN_near_115 : decode cN_near 115 = .ok (.ishl, 1) := by decide +kernel
theorem dN_near_116 : decode cN_near 116 = .ok (.ior, 1) := by decide +kernel
theorem dN_near_117 : decode cN_near 117 = .ok (.goto 4, 3) := by decide +kernel
theorem dN_near_120 : decode cN_near 120 = .ok (.iload_n 2, 1) := by decide +kernel
theorem dN_near_121 : decode cN_near 121 = .ok (.istore_n 2, 1) := by decide +kernel
theorem dN_near_122 : decode cN_near 122 = .ok (.iinc 3 1, 3) := by decide +kernel
theorem dN_near_125 : decode cN_near 125 = .ok (.goto (-121), 3) := by decide +kernel
theorem dN_near_128 : decode cN_near 128 = .ok (.iload_n 2, 1) := by decide +kernel
theorem dN_near_129 : decode cN_near 129 = .ok (.ireturn, 1) := by decide +kernel
theorem dN_see_0 : decode cN_see 0 = .ok (.iconst 0, 1) := by decide +kernel
theorem dN_see_1 : decode cN_see 1 = .ok (.istore_n 3, 1) := by decide +kernel
theorem dN_see_2 : decode cN_see 2 = .ok (.iload_n 3, 1) := by decide +kernel
theorem dN_see_3 : decode cN_see 3 = .ok (.bipush 6, 2) := by decide +kernel
theorem dN_see_5 : decode cN_see 5 = .ok (.if_icmp .ge 46, 3) := by decide +kernel
theorem dN_see_8 : decode cN_see 8 = .ok (.aload_n 0, 1) := by decide +kernel
theorem dN_see_9 : decode cN_see 9 = .ok (.getfield 44, 3) := by decide +kernel
theorem dN_see_12 : decode cN_see 12 = .ok (.bipush 6, 2) := by decide +kernel
theorem dN_see_14 : decode cN_see 14 = .ok (.iload_n 1, 1) := by decide +kernel
theorem dN_see_15 : decode cN_see 15 = .ok (.imul, 1) := by decide +kernel
theorem dN_see_16 : decode cN_see 16 = .ok (.iload_n 3, 1) := by decide +kernel
theorem dN_see_17 : decode cN_see 17 = .ok (.iadd, 1) := by decide +kernel
theorem dN_see_18 : decode cN_see 18 = .ok (.aload_n 0, 1) := by decide +kernel
theorem dN_see_19 : decode cN_see 19 = .ok (.aload_n 0, 1) := by decide +kernel
theorem dN_see_20 : decode cN_see 20 = .ok (.getfield 44, 3) := by decide +kernel
theorem dN_see_23 : decode cN_see 23 = .ok (.bipush 6, 2) := by decide +kernel
theorem dN_see_25 : decode cN_see 25 = .ok (.iload_n 1, 1) := by decide +kernel
theorem dN_see_26 : decode cN_see 26 = .ok (.imul, 1) := by decide +kernel
theorem dN_see_27 : decode cN_see 27 = .ok (.iload_n 3, 1) := by decide +kernel
theorem dN_see_28 : decode cN_see 28 = .ok (.iadd, 1) := by decide +kernel
theorem dN_see_29 : decode cN_see 29 = .ok (.iaload, 1) := by decide +kernel
theorem dN_see_30 : decode cN_see 30 = .ok (.aload_n 0, 1) := by decide +kernel
theorem dN_see_31 : decode cN_see 31 = .ok (.getfield 19, 3) := by decide +kernel
theorem dN_see_34 : decode cN_see 34 = .ok (.bipush 6, 2) := by decide +kernel
theorem dN_see_36 : decode cN_see 36 = .ok (.iload_n 2, 1) := by decide +kernel
theorem dN_see_37 : decode cN_see 37 = .ok (.imul, 1) := by decide +kernel
theorem dN_see_38 : decode cN_see 38 = .ok (.iload_n 3, 1) := by decide +kernel
theorem dN_see_39 : decode cN_see 39 = .ok (.iadd, 1) := by decide +kernel
theorem dN_see_40 : decode cN_see 40 = .ok (.iaload, 1) := by decide +kernel
theorem dN_see_41 : decode cN_see 41 = .ok (.invokevirtual 69, 3) := by decide +kernel
theorem dN_see_44 : decode cN_see 44 = .ok (.iastore, 1) := by decide +kernel
theorem dN_see_45 : decode cN_see 45 = .ok (.iinc 3 1, 3) := by decide +kernel
theorem dN_see_48 : decode cN_see 48 = .ok (.goto (-46), 3) := by decide +kernel
theorem dN_see_51 : decode cN_see 51 = .ok (.bipush 6, 2) := by decide +kernel
theorem dN_see_53 : decode cN_see 53 = .ok (.iload_n 1, 1) := by decide +kernel
theorem dN_see_54 : decode cN_see 54 = .ok (.imul, 1) := by decide +kernel
theorem dN_see_55 : decode cN_see 55 = .ok (.aload_n 0, 1) := by decide +kernel
theorem dN_see_56 : decode cN_see 56 = .ok (.getfield 7, 3) := by decide +kernel
theorem dN_see_59 : decode cN_see 59 = .ok (.iload_n 2, 1) := by decide +kernel
theorem dN_see_60 : decode cN_see 60 = .ok (.iaload, 1) := by decide +kernel
theorem dN_see_61 : decode cN_see 61 = .ok (.iadd, 1) := by decide +kernel
theorem dN_see_62 : decode cN_see 62 = .ok (.istore_n 3, 1) := by decide +kernel
theorem dN_see_63 : decode cN_see 63 = .ok (.aload_n 0, 1) := by decide +kernel
theorem dN_see_64 : decode cN_see 64 = .ok (.getfield 44, 3) := by decide +kernel
theorem dN_see_67 : decode cN_see 67 = .ok (.iload_n 3, 1) := by decide +kernel
theorem dN_see_68 : decode cN_see 68 = .ok (.aload_n 0, 1) := by decide +kernel
theorem dN_see_69 : decode cN_see 69 = .ok (.aload_n 0, 1) := by decide +kernel
theorem dN_see_70 : decode cN_see 70 = .ok (.getfield 44, 3) := by decide +kernel
theorem dN_see_73 : decode cN_see 73 = .ok (.iload_n 3, 1) := by decide +kernel
theorem dN_see_74 : decode cN_see 74 = .ok (.iaload, 1) := by decide +kernel
theorem dN_see_75 : decode cN_see 75 = .ok (.iload_n 2, 1) := by decide +kernel
theorem dN_see_76 : decode cN_see 76 = .ok (.iconst 1, 1) := by decide +kernel
theorem dN_see_77 : decode cN_see 77 = .ok (.iadd, 1) := by decide +kernel
theorem dN_see_78 : decode cN_see 78 = .ok (.invokevirtual 69, 3) := by decide +kernel
theorem dN_see_81 : decode cN_see 81 = .ok (.iastore, 1) := by decide +kernel
theorem dN_see_82 : decode cN_see 82 = .ok (.return_, 1) := by decide +kernel
theorem dN_send_0 : decode cN_send 0 = .ok (.iconst 3, 1) := by decide +kernel
theorem dN_send_1 : decode cN_send 1 = .ok (.iload_n 2, 1) := by decide +kernel
theorem dN_send_2 : decode cN_send 2 = .ok (.imul, 1) := by decide +kernel
theorem dN_send_3 : decode cN_send 3 = .ok (.iload_n 3, 1) := by decide +kernel
theorem dN_send_4 : decode cN_send 4 = .ok (.iadd, 1) := by decide +kernel
theorem dN_send_5 : decode cN_send 5 = .ok (.istore 4, 2) := by decide +kernel
theorem dN_send_7 : decode cN_send 7 = .ok (.aload_n 0, 1) := by decide +kernel
theorem dN_send_8 : decode cN_send 8 = .ok (.getfield 41, 3) := by decide +kernel
theorem dN_send_11 : decode cN_send 11 = .ok (.bipush 40, 2) := by decide +kernel
theorem dN_send_13 : decode cN_send 13 = .ok (.iload 4, 2) := by decide +kernel
theorem dN_send_15 : decode cN_send 15 = .ok (.imul, 1) := by decide +kernel
theorem dN_send_16 : decode cN_send 16 = .ok (.aload_n 0, 1) := by decide +kernel
theorem dN_send_17 : decode cN_send 17 = .ok (.getfield 38, 3) := by decide +kernel
theorem dN_send_20 : decode cN_send 20 = .ok (.iload 4, 2) := by decide +kernel
theorem dN_send_22 : decode cN_send 22 = .ok (.iaload, 1) := by decide +kernel
theorem dN_send_23 : decode cN_send 23 = .ok (.iadd, 1) := by decide +kernel
theorem dN_send_24 : decode cN_send 24 = .ok (.iload_n 1, 1) := by decide +kernel
theorem dN_send_25 : decode cN_send 25 = .ok (.iastore, 1) := by decide +kernel
theorem dN_send_26 : decode cN_send 26 = .ok (.aload_n 0, 1) := by decide +kernel
theorem dN_send_27 : decode cN_send 27 = .ok (.getfield 38, 3) := by decide +kernel
theorem dN_send_30 : decode cN_send 30 = .ok (.iload 4, 2) := by decide +kernel
theorem dN_send_32 : decode cN_send 32 = .ok (.dup2, 1) := by decide +kernel
theorem dN_send_33 : decode cN_send 33 = .ok (.iaload, 1) := by decide +kernel
theorem dN_send_34 : decode cN_send 34 = .ok (.iconst 1, 1) := by decide +kernel
theorem dN_send_35 : decode cN_send 35 = .ok (.iadd, 1) := by decide +kernel
theorem dN_send_36 : decode cN_send 36 = .ok (.iastore, 1) := by decide +kernel
theorem dN_send_37 : decode cN_send 37 = .ok (.return_, 1) := by decide +kernel
theorem dN_put_0 : decode cN_put 0 = .ok (.iload_n 1, 1) := by decide +kernel
theorem dN_put_1 : decode cN_put 1 = .ok (.bipush 6, 2) := by decide +kernel
theorem dN_put_3 : decode cN_put 3 = .ok (.invokestatic 73, 3) := by decide +kernel
theorem dN_put_6 : decode cN_put 6 = .ok (.ifCond .ne 12, 3) := by decide +kernel
theorem dN_put_9 : decode cN_put 9 = .ok (.iload_n 2, 1) := by decide +kernel
theorem dN_put_10 : decode cN_put 10 = .ok (.bipush 6, 2) := by decide +kernel
theorem dN_put_12 : decode cN_put 12 = .ok (.invokestatic 73, 3) := by decide +kernel
theorem dN_put_15 : decode cN_put 15 = .ok (.ifCond .eq 5, 3) := by decide +kernel
theorem dN_put_18 : decode cN_put 18 = .ok (.iconst (-1), 1) := by decide +kernel
theorem dN_put_19 : decode cN_put 19 = .ok (.ireturn, 1) := by decide +kernel
theorem dN_put_20 : decode cN_put 20 = .ok (.aload_n 0, 1) := by decide +kernel
theorem dN_put_21 : decode cN_put 21 = .ok (.iload_n 1, 1) := by decide +kernel
theorem dN_put_22 : decode cN_put 22 = .ok (.invokevirtual 77, 3) := by decide +kernel
theorem dN_put_25 : decode cN_put 25 = .ok (.ifCond .eq 6, 3) := by decide +kernel
theorem dN_put_28 : decode cN_put 28 = .ok (.bipush (-2), 2) := by decide +kernel
theorem dN_put_30 : decode cN_put 30 = .ok (.ireturn, 1) := by decide +kernel
theorem dN_put_31 : decode cN_put 31 = .ok (.aload_n 0, 1) := by decide +kernel
theorem dN_put_32 : decode cN_put 32 = .ok (.getfield 65, 3) := by decide +kernel
theorem dN_put_35 : decode cN_put 35 = .ok (.bipush 40, 2) := by decide +kernel
theorem dN_put_37 : decode cN_put 37 = .ok (.if_icmp .ne 6, 3) := by decide +kernel
theorem dN_put_40 : decode cN_put 40 = .ok (.bipush (-3), 2) := by decide +kernel
theorem dN_put_42 : decode cN_put 42 = .ok (.ireturn, 1) := by decide +kernel
theorem dN_put_43 : decode cN_put 43 = .ok (.iload_n 1, 1) := by decide +kernel
theorem dN_put_44 : decode cN_put 44 = .ok (.iconst 3, 1) := by decide +kernel
theorem dN_put_45 : decode cN_put 45 = .ok (.irem, 1) := by decide +kernel
theorem dN_put_46 : decode cN_put 46 = .ok (.istore 4, 2) := by decide +kernel
theorem dN_put_48 : decode cN_put 48 = .ok (.iconst 2, 1) := by decide +kernel
theorem dN_put_49 : decode cN_put 49 = .ok (.iload 4, 2) := by decide +kernel
theorem dN_put_51 : decode cN_put 51 = .ok (.imul, 1) := by decide +kernel
theorem dN_put_52 : decode cN_put 52 = .ok (.iload_n 2, 1) := by decide +kernel
theorem dN_put_53 : decode cN_put 53 = .ok (.iconst 2, 1) := by decide +kernel
theorem dN_put_54 : decode cN_put 54 = .ok (.irem, 1) := by decide +kernel
theorem dN_put_55 : decode cN_put 55 = .ok (.iadd, 1) := by decide +kernel
theorem dN_put_56 : decode cN_put 56 = .ok (.istore 5, 2) := by decide +kernel
theorem dN_put_58 : decode cN_put 58 = .ok (.aload_n 0, 1) := by decide +kernel
theorem dN_put_59 : decode cN_put 59 = .ok (.getfield 29, 3) := by decide +kernel
theorem dN_put_62 : decode cN_put 62 = .ok (.iload 5, 2) := by decide +kernel
theorem dN_put_64 : decode cN_put 64 = .ok (.iaload, 1) := by decide +kernel
theorem dN_put_65 : decode cN_put 65 = .ok (.istore 6, 2) := by decide +kernel
theorem dN_put_67 : decode cN_put 67 = .ok (.iconst 0, 1) := by decide +kernel
theorem dN_put_68 : decode cN_put 68 = .ok (.istore 7, 2) := by decide +kernel
theorem dN_put_70 : decode cN_put 70 = .ok (.iload 7, 2) := by decide +kernel
theorem dN_put_72 : decode cN_put 72 = .ok (.bipush 6, 2) := by decide +kernel
theorem dN_put_74 : decode cN_put 74 = .ok (.if_icmp .ge 62, 3) := by decide +kernel
theorem dN_put_77 : decode cN_put 77 = .ok (.aload_n 0, 1) := by decide +kernel
theorem dN_put_78 : decode cN_put 78 = .ok (.getfield 44, 3) := by decide +kernel
theorem dN_put_81 : decode cN_put 81 = .ok (.bipush 6, 2) := by decide +kernel
theorem dN_put_83 : decode cN_put 83 = .ok (.iload_n 1, 1) := by decide +kernel
theorem dN_put_84 : decode cN_put 84 = .ok (.imul, 1) := by decide +kernel
theorem dN_put_85 : decode cN_put 85 = .ok (.iload 7, 2) := by decide +kernel
theorem dN_put_87 : decode cN_put 87 = .ok (.iadd, 1) := by decide +kernel
theorem dN_put_88 : decode cN_put 88 = .ok (.iaload, 1) := by decide +kernel
theorem dN_put_89 : decode cN_put 89 = .ok (.istore 8, 2) := by decide +kernel
theorem dN_put_91 : decode cN_put 91 = .ok (.iload 8, 2) := by decide +kernel
theorem dN_put_93 : decode cN_put 93 = .ok (.ifCond .le 33, 3) := by decide +kernel
theorem dN_put_96 : decode cN_put 96 = .ok (.aload_n 0, 1) := by decide +kernel
theorem dN_put_97 : decode cN_put 97 = .ok (.getfield 16, 3) := by decide +kernel
theorem dN_put_100 : decode cN_put 100 = .ok (.iload 8, 2) := by decide +kernel
theorem dN_put_102 : decode cN_put 102 = .ok (.iconst 1, 1) := by decide +kernel
theorem dN_put_103 : decode cN_put 103 = .ok (.isub, 1) := by decide +kernel
theorem dN_put_104 : decode cN_put 104 = .ok (.iaload, 1) := by decide +kernel
theorem dN_put_105 : decode cN_put 105 = .ok (.iconst 4, 1) := by decide +kernel
theorem dN_put_106 : decode cN_put 106 = .ok (.idiv, 1) := by decide +kernel
theorem dN_put_107 : decode cN_put 107 = .ok (.iload 6, 2) := by decide +kernel
theorem dN_put_109 : decode cN_put 109 = .ok (.if_icmp .le 17, 3) := by decide +kernel
theorem dN_put_112 : decode cN_put 112 = .ok (.aload_n 0, 1) := by decide +kernel
theorem dN_put_113 : decode cN_put 113 = .ok (.getfield 16, 3) := by decide +kernel
theorem dN_put_116 : decode cN_put 116 = .ok (.iload 8, 2) := by decide +kernel
theorem dN_put_118 : decode cN_put 118 = .ok (.iconst 1, 1) := by decide +kernel
theorem dN_put_119 : decode cN_put 119 = .ok (.isub, 1) := by decide +kernel
theorem dN_put_120 : decode cN_put 120 = .ok (.iaload, 1) := by decide +kernel
theorem dN_put_121 : decode cN_put 121 = .ok (.iconst 4, 1) := by decide +kernel
theorem dN_put_122 : decode cN_put 122 = .ok (.idiv, 1) := by decide +kernel
theorem dN_put_123 : decode cN_put 123 = .ok (.goto 5, 3) := by decide +kernel
theorem dN_put_126 : decode cN_put 126 = .ok (.iload 6, 2) := by decide +kernel
theorem dN_put_128 : decode cN_put 128 = .ok (.istore 6, 2) := by decide +kernel
theorem dN_put_130 : decode cN_put 130 = .ok (.iinc 7 1, 3) := by decide +kernel
theorem dN_put_133 : decode cN_put 133 = .ok (.goto (-63), 3) := by decide +kernel
theorem dN_put_136 : decode cN_put 136 = .ok (.aload_n 0, 1) := by decide +kernel
theorem dN_put_137 : decode cN_put 137 = .ok (.getfield 29, 3) := by decide +kernel
theorem dN_put_140 : decode cN_put 140 = .ok (.iload 5, 2) := by decide +kernel
theorem dN_put_142 : decode cN_put 142 = .ok (.iload 6, 2) := by decide +kernel
theorem dN_put_144 : decode cN_put 144 = .ok (.iconst 1, 1) := by decide +kernel
theorem dN_put_145 : decode cN_put 145 = .ok (.iadd, 1) := by decide +kernel
theorem dN_put_146 : decode cN_put 146 = .ok (.iastore, 1) := by decide +kernel
theorem dN_put_147 : decode cN_put 147 = .ok (.aload_n 0, 1) := by decide +kernel
theorem dN_put_148 : decode cN_put 148 = .ok (.getfield 65, 3) := by decide +kernel
theorem dN_put_151 : decode cN_put 151 = .ok (.istore 7, 2) := by decide +kernel
theorem dN_put_153 : decode cN_put 153 = .ok (.aload_n 0, 1) := by decide +kernel
theorem dN_put_154 : decode cN_put 154 = .ok (.getfield 7, 3) := by decide +kernel
theorem dN_put_157 : decode cN_put 157 = .ok (.iload 7, 2) := by decide +kernel
theorem dN_put_159 : decode cN_put 159 = .ok (.iload_n 2, 1) := by decide +kernel
theorem dN_put_160 : decode cN_put 160 = .ok (.iastore, 1) := by decide +kernel
theorem dN_put_161 : decode cN_put 161 = .ok (.aload_n 0, 1) := by decide +kernel
theorem dN_put_162 : decode cN_put 162 = .ok (.getfield 13, 3) := by decide +kernel
theorem dN_put_165 : decode cN_put 165 = .ok (.iload 7, 2) := by decide +kernel
theorem dN_put_167 : decode cN_put 167 = .ok (.iload_n 3, 1) := by decide +kernel
theorem dN_put_168 : decode cN_put 168 = .ok (.iastore, 1) := by decide +kernel
theorem dN_put_169 : decode cN_put 169 = .ok (.aload_n 0, 1) := by decide +kernel
theorem dN_put_170 : decode cN_put 170 = .ok (.getfield 16, 3) := by decide +kernel
theorem dN_put_173 : decode cN_put 173 = .ok (.iload 7, 2) := by decide +kernel
theorem dN_put_175 : decode cN_put 175 = .ok (.iconst 4, 1) := by decide +kernel
theorem dN_put_176 : decode cN_put 176 = .ok (.iload 6, 2) := by decide +kernel
theorem dN_put_178 : decode cN_put 178 = .ok (.iconst 1, 1) := by decide +kernel
theorem dN_put_179 : decode cN_put 179 = .ok (.iadd, 1) := by decide +kernel
theorem dN_put_180 : decode cN_put 180 = .ok (.imul, 1) := by decide +kernel
theorem dN_put_181 : decode cN_put 181 = .ok (.iload 4, 2) := by decide +kernel
theorem dN_put_183 : decode cN_put 183 = .ok (.iadd, 1) := by decide +kernel
theorem dN_put_184 : decode cN_put 184 = .ok (.iastore, 1) := by decide +kernel
theorem dN_put_185 : decode cN_put 185 = .ok (.aload_n 0, 1) := by decide +kernel
theorem dN_put_186 : decode cN_put 186 = .ok (.getfield 22, 3) := by decide +kernel
theorem dN_put_189 : decode cN_put 189 = .ok (.iload 7, 2) := by decide +kernel
theorem dN_put_191 : decode cN_put 191 = .ok (.aload_n 0, 1) := by decide +kernel
theorem dN_put_192 : decode cN_put 192 = .ok (.iload_n 1, 1) := by decide +kernel
theorem dN_put_193 : decode cN_put 193 = .ok (.invokevirtual 81, 3) := by decide +kernel
theorem dN_put_196 : decode cN_put 196 = .ok (.iastore, 1) := by decide +kernel
theorem dN_put_197 : decode cN_put 197 = .ok (.iconst 0, 1) := by decide +kernel
theorem dN_put_198 : decode cN_put 198 = .ok (.istore 8, 2) := by decide +kernel
theorem dN_put_200 : decode cN_put 200 = .ok (.iload 8, 2) := by decide +kernel
theorem dN_put_202 : decode cN_put 202 = .ok (.bipush 6, 2) := by decide +kernel
theorem dN_put_204 : decode cN_put 204 = .ok (.if_icmp .ge 34, 3) := by decide +kernel
theorem dN_put_207 : decode cN_put 207 = .ok (.aload_n 0, 1) := by decide +kernel
theorem dN_put_208 : decode cN_put 208 = .ok (.getfield 19, 3) := by decide +kernel
theorem dN_put_211 : decode cN_put 211 = .ok (.bipush 6, 2) := by decide +kernel
theorem dN_put_213 : decode cN_put 213 = .ok (.iload 7, 2) := by decide +kernel
theorem dN_put_215 : decode cN_put 215 = .ok (.imul, 1) := by decide +kernel
theorem dN_put_216 : decode cN_put 216 = .ok (.iload 8, 2) := by decide +kernel
theorem dN_put_218 : decode cN_put 218 = .ok (.iadd, 1) := by decide +kernel
theorem dN_put_219 : decode cN_put 219 = .ok (.aload_n 0, 1) := by decide +kernel
theorem dN_put_220 : decode cN_put 220 = .ok (.getfield 44, 3) := by decide +kernel
theorem dN_put_223 : decode cN_put 223 = .ok (.bipush 6, 2) := by decide +kernel
theorem dN_put_225 : decode cN_put 225 = .ok (.iload_n 1, 1) := by decide +kernel
theorem dN_put_226 : decode cN_put 226 = .ok (.imul, 1) := by decide +kernel
theorem dN_put_227 : decode cN_put 227 = .ok (.iload 8, 2) := by decide +kernel
theorem dN_put_229 : decode cN_put 229 = .ok (.iadd, 1) := by decide +kernel
theorem dN_put_230 : decode cN_put 230 = .ok (.iaload, 1) := by decide +kernel
theorem dN_put_231 : decode cN_put 231 = .ok (.iastore, 1) := by decide +kernel
theorem dN_put_232 : decode cN_put 232 = .ok (.iinc 8 1, 3) := by decide +kernel
theorem dN_put_235 : decode cN_put 235 = .ok (.goto (-35), 3) := by decide +kernel
theorem dN_put_238 : decode cN_put 238 = .ok (.aload_n 0, 1) := by decide +kernel
theorem dN_put_239 : decode cN_put 239 = .ok (.dup, 1) := by decide +kernel
theorem dN_put_240 : decode cN_put 240 = .ok (.getfield 65, 3) := by decide +kernel
theorem dN_put_243 : decode cN_put 243 = .ok (.iconst 1, 1) := by decide +kernel
theorem dN_put_244 : decode cN_put 244 = .ok (.iadd, 1) := by decide +kernel
theorem dN_put_245 : decode cN_put 245 = .ok (.putfield 65, 3) := by decide +kernel
theorem dN_put_248 : decode cN_put 248 = .ok (.aload_n 0, 1) := by decide +kernel
theorem dN_put_249 : decode cN_put 249 = .ok (.getfield 25, 3) := by decide +kernel
theorem dN_put_252 : decode cN_put 252 = .ok (.bipush 40, 2) := by decide +kernel
theorem dN_put_254 : decode cN_put 254 = .ok (.iload 4, 2) := by decide +kernel
theorem dN_put_256 : decode cN_put 256 = .ok (.imul, 1) := by decide +kernel
theorem dN_put_257 : decode cN_put 257 = .ok (.iload 7, 2) := by decide +kernel
theorem dN_put_259 : decode cN_put 259 = .ok (.iadd, 1) := by decide +kernel
theorem dN_put_260 : decode cN_put 260 = .ok (.iconst 1, 1) := by decide +kernel
theorem dN_put_261 : decode cN_put 261 = .ok (.bastore, 1) := by decide +kernel
theorem dN_put_262 : decode cN_put 262 = .ok (.iconst 0, 1) := by decide +kernel
theorem dN_put_263 : decode cN_put 263 = .ok (.istore 8, 2) := by decide +kernel
theorem dN_put_265 : decode cN_put 265 = .ok (.iload 8, 2) := by decide +kernel
theorem dN_put_267 : decode cN_put 267 = .ok (.iconst 3, 1) := by decide +kernel
theorem dN_put_268 : decode cN_put 268 = .ok (.if_icmp .ge 26, 3) := by decide +kernel
theorem dN_put_271 : decode cN_put 271 = .ok (.iload 8, 2) := by decide +kernel
theorem dN_put_273 : decode cN_put 273 = .ok (.iload 4, 2) := by decide +kernel
theorem dN_put_275 : decode cN_put 275 = .ok (.if_icmp .eq 13, 3) := by decide +kernel
theorem dN_put_278 : decode cN_put 278 = .ok (.aload_n 0, 1) := by decide +kernel
theorem dN_put_279 : decode cN_put 279 = .ok (.iload 7, 2) := by decide +kernel
theorem dN_put_281 : decode cN_put 281 = .ok (.iload 4, 2) := by decide +kernel
theorem dN_put_283 : decode cN_put 283 = .ok (.iload 8, 2) := by decide +kernel
theorem dN_put_285 : decode cN_put 285 = .ok (.invokevirtual 85, 3) := by decide +kernel
theorem dN_put_288 : decode cN_put 288 = .ok (.iinc 8 1, 3) := by decide +kernel
theorem dN_put_291 : decode cN_put 291 = .ok (.goto (-26), 3) := by decide +kernel
theorem dN_put_294 : decode cN_put 294 = .ok (.aload_n 0, 1) := by decide +kernel
theorem dN_put_295 : decode cN_put 295 = .ok (.iload_n 1, 1) := by decide +kernel
theorem dN_put_296 : decode cN_put 296 = .ok (.iload 7, 2) := by decide +kernel
theorem dN_put_298 : decode cN_put 298 = .ok (.invokevirtual 89, 3) := by decide +kernel
theorem dN_put_301 : decode cN_put 301 = .ok (.iload 7, 2) := by decide +kernel
theorem dN_put_303 : decode cN_put 303 = .ok (.ireturn, 1) := by decide +kernel
theorem dN_get_0 : decode cN_get 0 = .ok (.iload_n 1, 1) := by decide +kernel
theorem dN_get_1 : decode cN_get 1 = .ok (.bipush 6, 2) := by decide +kernel
theorem dN_get_3 : decode cN_get 3 = .ok (.invokestatic 73, 3) := by decide +kernel
theorem dN_get_6 : decode cN_get 6 = .ok (.ifCond .ne 12, 3) := by decide +kernel
theorem dN_get_9 : decode cN_get 9 = .ok (.iload_n 2, 1) := by decide +kernel
theorem dN_get_10 : decode cN_get 10 = .ok (.bipush 6, 2) := by decide +kernel
theorem dN_get_12 : decode cN_get 12 = .ok (.invokestatic 73, 3) := by decide +kernel
theorem dN_get_15 : decode cN_get 15 = .ok (.ifCond .eq 5, 3) := by decide +kernel
theorem dN_get_18 : decode cN_get 18 = .ok (.iconst (-1), 1) := by decide +kernel
theorem dN_get_19 : decode cN_get 19 = .ok (.ireturn, 1) := by decide +kernel
theorem dN_get_20 : decode cN_get 20 = .ok (.aload_n 0, 1) := by decide +kernel
theorem dN_get_21 : decode cN_get 21 = .ok (.iload_n 1, 1) := by decide +kernel
theorem dN_get_22 : decode cN_get 22 = .ok (.invokevirtual 77, 3) := by decide +kernel
theorem dN_get_25 : decode cN_get 25 = .ok (.ifCond .eq 6, 3) := by decide +kernel
theorem dN_get_28 : decode cN_get 28 = .ok (.bipush (-2), 2) := by decide +kernel
theorem dN_get_30 : decode cN_get 30 = .ok (.ireturn, 1) := by decide +kernel
theorem dN_get_31 : decode cN_get 31 = .ok (.aload_n 0, 1) := by decide +kernel
theorem dN_get_32 : decode cN_get 32 = .ok (.iload_n 1, 1) := by decide +kernel
theorem dN_get_33 : decode cN_get 33 = .ok (.iconst 3, 1) := by decide +kernel
theorem dN_get_34 : decode cN_get 34 = .ok (.irem, 1) := by decide +kernel
theorem dN_get_35 : decode cN_get 35 = .ok (.iload_n 2, 1) := by decide +kernel
theorem dN_get_36 : decode cN_get 36 = .ok (.invokevirtual 93, 3) := by decide +kernel
theorem dN_get_39 : decode cN_get 39 = .ok (.istore_n 3, 1) := by decide +kernel
theorem dN_get_40 : decode cN_get 40 = .ok (.iload_n 3, 1) := by decide +kernel
theorem dN_get_41 : decode cN_get 41 = .ok (.ifCond .ne 6, 3) := by decide +kernel
theorem dN_get_44 : decode cN_get 44 = .ok (.bipush (-4), 2) := by decide +kernel
theorem dN_get_46 : decode cN_get 46 = .ok (.ireturn, 1) := by decide +kernel
theorem dN_get_47 : decode cN_get 47 = .ok (.aload_n 0, 1) := by decide +kernel
theorem dN_get_48 : decode cN_get 48 = .ok (.iload_n 1, 1) := by decide +kernel
theorem dN_get_49 : decode cN_get 49 = .ok (.iload_n 3, 1) := by decide +kernel
theorem dN_get_50 : decode cN_get 50 = .ok (.iconst 1, 1) := by decide +kernel
theorem dN_get_51 : decode cN_get 51 = .ok (.isub, 1) := by decide +kernel
theorem dN_get_52 : decode cN_get 52 = .ok (.invokevirtual 89, 3) := by decide +kernel
theorem dN_get_55 : decode cN_get 55 = .ok (.iload_n 3, 1) := by decide +kernel
theorem dN_get_56 : decode cN_get 56 = .ok (.iconst 1, 1) := by decide +kernel
theorem dN_get_57 : decode cN_get 57 = .ok (.isub, 1) := by decide +kernel
theorem dN_get_58 : decode cN_get 58 = .ok (.ireturn, 1) := by decide +kernel
theorem dN_begin_0 : decode cN_begin 0 = .ok (.iload_n 1, 1) := by decide +kernel
theorem dN_begin_1 : decode cN_begin 1 = .ok (.bipush 6, 2) := by decide +kernel
theorem dN_begin_3 : decode cN_begin 3 = .ok (.invokestatic 73, 3) := by decide +kernel
theorem dN_begin_6 : decode cN_begin 6 = .ok (.ifCond .ne 14, 3) := by decide +kernel
theorem dN_begin_9 : decode cN_begin 9 = .ok (.iload_n 2, 1) := by decide +kernel
theorem dN_begin_10 : decode cN_begin 10 = .ok (.iconst 1, 1) := by decide +kernel
theorem dN_begin_11 : decode cN_begin 11 = .ok (.if_icmp .lt 9, 3) := by decide +kernel
theorem dN_begin_14 : decode cN_begin 14 = .ok (.iload_n 2, 1) := by decide +kernel
theorem dN_begin_15 : decode cN_begin 15 = .ok (.bipush 63, 2) := by decide +kernel
theorem dN_begin_17 : decode cN_begin 17 = .ok (.if_icmp .le 5, 3) := by decide +kernel
theorem dN_begin_20 : decode cN_begin 20 = .ok (.iconst 0, 1) := by decide +kernel
theorem dN_begin_21 : decode cN_begin 21 = .ok (.ireturn, 1) := by decide +kernel
theorem dN_begin_22 : decode cN_begin 22 = .ok (.aload_n 0, 1) := by decide +kernel
theorem dN_begin_23 : decode cN_begin 23 = .ok (.iload_n 1, 1) := by decide +kernel
theorem dN_begin_24 : decode cN_begin 24 = .ok (.invokevirtual 77, 3) := by decide +kernel
theorem dN_begin_27 : decode cN_begin 27 = .ok (.ifCond .eq 5, 3) := by decide +kernel
theorem dN_begin_30 : decode cN_begin 30 = .ok (.iconst 0, 1) := by decide +kernel
theorem dN_begin_31 : decode cN_begin 31 = .ok (.ireturn, 1) := by decide +kernel
theorem dN_begin_32 : decode cN_begin 32 = .ok (.aload_n 0, 1) := by decide +kernel
theorem dN_begin_33 : decode cN_begin 33 = .ok (.getfield 47, 3) := by decide +kernel
theorem dN_begin_36 : decode cN_begin 36 = .ok (.iload_n 1, 1) := by decide +kernel
theorem dN_begin_37 : decode cN_begin 37 = .ok (.iconst 1, 1) := by decide +kernel
theorem dN_begin_38 : decode cN_begin 38 = .ok (.iastore, 1) := by decide +kernel
theorem dN_begin_39 : decode cN_begin 39 = .ok (.aload_n 0, 1) := by decide +kernel
theorem dN_begin_40 : decode cN_begin 40 = .ok (.getfield 50, 3) := by decide +kernel
theorem dN_begin_43 : decode cN_begin 43 = .ok (.iload_n 1, 1) := by decide +kernel
theorem dN_begin_44 : decode cN_begin 44 = .ok (.iload_n 2, 1) := by decide +kernel
theorem dN_begin_45 : decode cN_begin 45 = .ok (.iastore, 1) := by decide +kernel
theorem dN_begin_46 : decode cN_begin 46 = .ok (.aload_n 0, 1) := by decide +kernel
theorem dN_begin_47 : decode cN_begin 47 = .ok (.getfield 53, 3) := by decide +kernel
theorem dN_begin_50 : decode cN_begin 50 = .ok (.iload_n 1, 1) := by decide +kernel
theorem dN_begin_51 : decode cN_begin 51 = .ok (.iconst 1, 1) := by decide +kernel
theorem dN_begin_52 : decode cN_begin 52 = .ok (.iastore, 1) := by decide +kernel
theorem dN_begin_53 : decode cN_begin 53 = .ok (.aload_n 0, 1) := by decide +kernel
theorem dN_begin_54 : decode cN_begin 54 = .ok (.getfield 56, 3) := by decide +kernel
theorem dN_begin_57 : decode cN_begin 57 = .ok (.iload_n 1, 1) := by decide +kernel
theorem dN_begin_58 : decode cN_begin 58 = .ok (.iload_n 2, 1) := by decide +kernel
theorem dN_begin_59 : decode cN_begin 59 = .ok (.iastore, 1) := by decide +kernel
theorem dN_begin_60 : decode cN_begin 60 = .ok (.iconst 0, 1) := by decide +kernel
theorem dN_begin_61 : decode cN_begin 61 = .ok (.istore_n 3, 1) := by decide +kernel
theorem dN_begin_62 : decode cN_begin 62 = .ok (.iload_n 3, 1) := by decide +kernel
theorem dN_begin_63 : decode cN_begin 63 = .ok (.bipush 6, 2) := by decide +kernel
theorem dN_begin_65 : decode cN_begin 65 = .ok (.if_icmp .ge 21, 3) := by decide +kernel
theorem dN_begin_68 : decode cN_begin 68 = .ok (.aload_n 0, 1) := by decide +kernel
theorem dN_begin_69 : decode cN_begin 69 = .ok (.getfield 59, 3) := by decide +kernel
theorem dN_begin_72 : decode cN_begin 72 = .ok (.bipush 6, 2) := by decide +kernel
theorem dN_begin_74 : decode cN_begin 74 = .ok (.iload_n 1, 1) := by decide +kernel
theorem dN_begin_75 : decode cN_begin 75 = .ok (.imul, 1) := by decide +kernel
theorem dN_begin_76 : decode cN_begin 76 = .ok (.iload_n 3, 1) := by decide +kernel
theorem dN_begin_77 : decode cN_begin 77 = .ok (.iadd, 1) := by decide +kernel
theorem dN_begin_78 : decode cN_begin 78 = .ok (.iconst 0, 1) := by decide +kernel
theorem dN_begin_79 : decode cN_begin 79 = .ok (.iastore, 1) := by decide +kernel
theorem dN_begin_80 : decode cN_begin 80 = .ok (.iinc 3 1, 3) := by decide +kernel
theorem dN_begin_83 : decode cN_begin 83 = .ok (.goto (-21), 3) := by decide +kernel
theorem dN_begin_86 : decode cN_begin 86 = .ok (.iconst 1, 1) := by decide +kernel
theorem dN_begin_87 : decode cN_begin 87 = .ok (.ireturn, 1) := by decide +kernel
theorem dN_due_0 : decode cN_due 0 = .ok (.aload_n 0, 1) := by decide +kernel
theorem dN_due_1 : decode cN_due 1 = .ok (.getfield 59, 3) := by decide +kernel
theorem dN_due_4 : decode cN_due 4 = .ok (.bipush 6, 2) := by decide +kernel
theorem dN_due_6 : decode cN_due 6 = .ok (.iload_n 1, 1) := by decide +kernel
theorem dN_due_7 : decode cN_due 7 = .ok (.imul, 1) := by decide +kernel
theorem dN_due_8 : decode cN_due 8 = .ok (.iload_n 2, 1) := by decide +kernel
theorem dN_due_9 : decode cN_due 9 = .ok (.iadd, 1) := by decide +kernel
theorem dN_due_10 : decode cN_due 10 = .ok (.iaload, 1) := by decide +kernel
theorem dN_due_11 : decode cN_due 11 = .ok (.istore_n 3, 1) := by decide +kernel
theorem dN_due_12 : decode cN_due 12 = .ok (.iconst 0, 1) := by decide +kernel
theorem dN_due_13 : decode cN_due 13 = .ok (.istore 4, 2) := by decide +kernel
theorem dN_due_15 : decode cN_due 15 = .ok (.iload 4, 2) := by decide +kernel
theorem dN_due_17 : decode cN_due 17 = .ok (.bipush 6, 2) := by decide +kernel
theorem dN_due_19 : decode cN_due 19 = .ok (.if_icmp .ge 71, 3) := by decide +kernel
theorem dN_due_22 : decode cN_due 22 = .ok (.aload_n 0, 1) := by decide +kernel
theorem dN_due_23 : decode cN_due 23 = .ok (.getfield 50, 3) := by decide +kernel
theorem dN_due_26 : decode cN_due 26 = .ok (.iload_n 1, 1) := by decide +kernel
theorem dN_due_27 : decode cN_due 27 = .ok (.iaload, 1) := by decide +kernel
theorem dN_due_28 : decode cN_due 28 = .ok (.iload 4, 2) := by decide +kernel
theorem dN_due_30 : decode cN_due 30 = .ok (.ishr, 1) := by decide +kernel
theorem dN_due_31 : decode cN_due 31 = .ok (.iconst 1, 1) := by decide +kernel
theorem dN_due_32 : decode cN_due 32 = .ok (.iand, 1) := by decide +kernel
theorem dN_due_33 : decode cN_due 33 = .ok (.iconst 1, 1) := by decide +kernel
theorem dN_due_34 : decode cN_due 34 = .ok (.if_icmp .ne 18, 3) := by decide +kernel
theorem dN_due_37 : decode cN_due 37 = .ok (.aload_n 0, 1) := by decide +kernel
theorem dN_due_38 : decode cN_due 38 = .ok (.getfield 59, 3) := by decide +kernel
theorem dN_due_41 : decode cN_due 41 = .ok (.bipush 6, 2) := by decide +kernel
theorem dN_due_43 : decode cN_due 43 = .ok (.iload_n 1, 1) := by decide +kernel
theorem dN_due_44 : decode cN_due 44 = .ok (.imul, 1) := by decide +kernel
theorem dN_due_45 : decode cN_due 45 = .ok (.iload 4, 2) := by decide +kernel
theorem dN_due_47 : decode cN_due 47 = .ok (.iadd, 1) := by decide +kernel
theorem dN_due_48 : decode cN_due 48 = .ok (.iaload, 1) := by decide +kernel
theorem dN_due_49 : decode cN_due 49 = .ok (.goto 4, 3) := by decide +kernel
theorem dN_due_52 : decode cN_due 52 = .ok (.iconst 0, 1) := by decide +kernel
theorem dN_due_53 : decode cN_due 53 = .ok (.istore 5, 2) := by decide +kernel
theorem dN_due_55 : decode cN_due 55 = .ok (.iload 5, 2) := by decide +kernel
theorem dN_due_57 : decode cN_due 57 = .ok (.ifCond .le 25, 3) := by decide +kernel
theorem dN_due_60 : decode cN_due 60 = .ok (.aload_n 0, 1) := by decide +kernel
theorem dN_due_61 : decode cN_due 61 = .ok (.iload_n 3, 1) := by decide +kernel
theorem dN_due_62 : decode cN_due 62 = .ok (.aload_n 0, 1) := by decide +kernel
theorem dN_due_63 : decode cN_due 63 = .ok (.getfield 19, 3) := by decide +kernel
theorem dN_due_66 : decode cN_due 66 = .ok (.bipush 6, 2) := by decide +kernel
theorem dN_due_68 : decode cN_due 68 = .ok (.iload 5, 2) := by decide +kernel
theorem dN_due_70 : decode cN_due 70 = .ok (.iconst 1, 1) := by decide +kernel
theorem dN_due_71 : decode cN_due 71 = .ok (.isub, 1) := by decide +kernel
theorem dN_due_72 : decode cN_due 72 = .ok (.imul, 1) := by decide +kernel
theorem dN_due_73 : decode cN_due 73 = .ok (.iload_n 2, 1) := by decide +kernel
theorem dN_due_74 : decode cN_due 74 = .ok (.iadd, 1) := by decide +kernel
theorem dN_due_75 : decode cN_due 75 = .ok (.iaload, 1) := by decide +kernel
theorem dN_due_76 : decode cN_due 76 = .ok (.invokevirtual 69, 3) := by decide +kernel
theorem dN_due_79 : decode cN_due 79 = .ok (.goto 4, 3) := by decide +kernel
theorem dN_due_82 : decode cN_due 82 = .ok (.iload_n 3, 1) := by decide +kernel
theorem dN_due_83 : decode cN_due 83 = .ok (.istore_n 3, 1) := by decide +kernel
theorem dN_due_84 : decode cN_due 84 = .ok (.iinc 4 1, 3) := by decide +kernel
theorem dN_due_87 : decode cN_due 87 = .ok (.goto (-72), 3) := by decide +kernel
theorem dN_due_90 : decode cN_due 90 = .ok (.iload_n 3, 1) := by decide +kernel
theorem dN_due_91 : decode cN_due 91 = .ok (.ireturn, 1) := by decide +kernel
theorem dN_finish_0 : decode cN_finish 0 = .ok (.aload_n 0, 1) := by decide +kernel
theorem dN_finish_1 : decode cN_finish 1 = .ok (.getfield 47, 3) := by decide +kernel
theorem dN_finish_4 : decode cN_finish 4 = .ok (.iload_n 1, 1) := by decide +kernel
theorem dN_finish_5 : decode cN_finish 5 = .ok (.iconst 3, 1) := by decide +kernel
theorem dN_finish_6 : decode cN_finish 6 = .ok (.iastore, 1) := by decide +kernel
theorem dN_finish_7 : decode cN_finish 7 = .ok (.iconst 0, 1) := by decide +kernel
theorem dN_finish_8 : decode cN_finish 8 = .ok (.istore_n 2, 1) := by decide +kernel
theorem dN_finish_9 : decode cN_finish 9 = .ok (.iload_n 2, 1) := by decide +kernel
theorem dN_finish_10 : decode cN_finish 10 = .ok (.bipush 6, 2) := by decide +kernel
theorem dN_finish_12 : decode cN_finish 12 = .ok (.if_icmp .ge 41, 3) := by decide +kernel
theorem dN_finish_15 : decode cN_finish 15 = .ok (.aload_n 0, 1) := by decide +kernel
theorem dN_finish_16 : decode cN_finish 16 = .ok (.getfield 59, 3) := by decide +kernel
theorem dN_finish_19 : decode cN_finish 19 = .ok (.bipush 6, 2) := by decide +kernel
theorem dN_finish_21 : decode cN_finish 21 = .ok (.iload_n 1, 1) := by decide +kernel
theorem dN_finish_22 : decode cN_finish 22 = .ok (.imul, 1) := by decide +kernel
theorem dN_finish_23 : decode cN_finish 23 = .ok (.iload_n 2, 1) := by decide +kernel
theorem dN_finish_24 : decode cN_finish 24 = .ok (.iadd, 1) := by decide +kernel
theorem dN_finish_25 : decode cN_finish 25 = .ok (.iaload, 1) := by decide +kernel
theorem dN_finish_26 : decode cN_finish 26 = .ok (.ifCond .le 21, 3) := by decide +kernel
theorem dN_finish_29 : decode cN_finish 29 = .ok (.aload_n 0, 1) := by decide +kernel
theorem dN_finish_30 : decode cN_finish 30 = .ok (.iload_n 1, 1) := by decide +kernel
theorem dN_finish_31 : decode cN_finish 31 = .ok (.aload_n 0, 1) := by decide +kernel
theorem dN_finish_32 : decode cN_finish 32 = .ok (.getfield 59, 3) := by decide +kernel
theorem dN_finish_35 : decode cN_finish 35 = .ok (.bipush 6, 2) := by decide +kernel
theorem dN_finish_37 : decode cN_finish 37 = .ok (.iload_n 1, 1) := by decide +kernel
theorem dN_finish_38 : decode cN_finish 38 = .ok (.imul, 1) := by decide +kernel
theorem dN_finish_39 : decode cN_finish 39 = .ok (.iload_n 2, 1) := by decide +kernel
theorem dN_finish_40 : decode cN_finish 40 = .ok (.iadd, 1) := by decide +kernel
theorem dN_finish_41 : decode cN_finish 41 = .ok (.iaload, 1) := by decide +kernel
theorem dN_finish_42 : decode cN_finish 42 = .ok (.iconst 1, 1) := by decide +kernel
theorem dN_finish_43 : decode cN_finish 43 = .ok (.isub, 1) := by decide +kernel
theorem dN_finish_44 : decode cN_finish 44 = .ok (.invokevirtual 89, 3) := by decide +kernel
theorem dN_finish_47 : decode cN_finish 47 = .ok (.iinc 2 1, 3) := by decide +kernel
theorem dN_finish_50 : decode cN_finish 50 = .ok (.goto (-41), 3) := by decide +kernel
theorem dN_finish_53 : decode cN_finish 53 = .ok (.return_, 1) := by decide +kernel
theorem dN_second_0 : decode cN_second 0 = .ok (.iconst 0, 1) := by decide +kernel
theorem dN_second_1 : decode cN_second 1 = .ok (.istore_n 2, 1) := by decide +kernel
theorem dN_second_2 : decode cN_second 2 = .ok (.iconst 0, 1) := by decide +kernel
theorem dN_second_3 : decode cN_second 3 = .ok (.istore_n 3, 1) := by decide +kernel
theorem dN_second_4 : decode cN_second 4 = .ok (.iload_n 3, 1) := by decide +kernel
theorem dN_second_5 : decode cN_second 5 = .ok (.bipush 6, 2) := by decide +kernel
theorem dN_second_7 : decode cN_second 7 = .ok (.if_icmp .ge 87, 3) := by decide +kernel
theorem dN_second_10 : decode cN_second 10 = .ok (.aload_n 0, 1) := by decide +kernel
theorem dN_second_11 : decode cN_second 11 = .ok (.getfield 62, 3) := by decide +kernel
theorem dN_second_14 : decode cN_second 14 = .ok (.bipush 6, 2) := by decide +kernel
theorem dN_second_16 : decode cN_second 16 = .ok (.iload_n 1, 1) := by decide +kernel
theorem dN_second_17 : decode cN_second 17 = .ok (.imul, 1) := by decide +kernel
theorem dN_second_18 : decode cN_second 18 = .ok (.iload_n 3, 1) := by decide +kernel
theorem dN_second_19 : decode cN_second 19 = .ok (.iadd, 1) := by decide +kernel
theorem dN_second_20 : decode cN_second 20 = .ok (.aload_n 0, 1) := by decide +kernel
theorem dN_second_21 : decode cN_second 21 = .ok (.iload_n 1, 1) := by decide +kernel
theorem dN_second_22 : decode cN_second 22 = .ok (.iload_n 3, 1) := by decide +kernel
theorem dN_second_23 : decode cN_second 23 = .ok (.invokevirtual 96, 3) := by decide +kernel
theorem dN_second_26 : decode cN_second 26 = .ok (.iastore, 1) := by decide +kernel
theorem dN_second_27 : decode cN_second 27 = .ok (.aload_n 0, 1) := by decide +kernel
theorem dN_second_28 : decode cN_second 28 = .ok (.getfield 50, 3) := by decide +kernel
theorem dN_second_31 : decode cN_second 31 = .ok (.iload_n 1, 1) := by decide +kernel
theorem dN_second_32 : decode cN_second 32 = .ok (.iaload, 1) := by decide +kernel
theorem dN_second_33 : decode cN_second 33 = .ok (.iload_n 3, 1) := by decide +kernel
theorem dN_second_34 : decode cN_second 34 = .ok (.ishr, 1) := by decide +kernel
theorem dN_second_35 : decode cN_second 35 = .ok (.iconst 1, 1) := by decide +kernel
theorem dN_second_36 : decode cN_second 36 = .ok (.iand, 1) := by decide +kernel
theorem dN_second_37 : decode cN_second 37 = .ok (.iconst 1, 1) := by decide +kernel
theorem dN_second_38 : decode cN_second 38 = .ok (.if_icmp .ne 32, 3) := by decide +kernel
theorem dN_second_41 : decode cN_second 41 = .ok (.aload_n 0, 1) := by decide +kernel
theorem dN_second_42 : decode cN_second 42 = .ok (.getfield 62, 3) := by decide +kernel
theorem dN_second_45 : decode cN_second 45 = .ok (.bipush 6, 2) := by decide +kernel
theorem dN_second_47 : decode cN_second 47 = .ok (.iload_n 1, 1) := by decide +kernel
theorem dN_second_48 : decode cN_second 48 = .ok (.imul, 1) := by decide +kernel
theorem dN_second_49 : decode cN_second 49 = .ok (.iload_n 3, 1) := by decide +kernel
theorem dN_second_50 : decode cN_second 50 = .ok (.iadd, 1) := by decide +kernel
theorem dN_second_51 : decode cN_second 51 = .ok (.iaload, 1) := by decide +kernel
theorem dN_second_52 : decode cN_second 52 = .ok (.aload_n 0, 1) := by decide +kernel
theorem dN_second_53 : decode cN_second 53 = .ok (.getfield 59, 3) := by decide +kernel
theorem dN_second_56 : decode cN_second 56 = .ok (.bipush 6, 2) := by decide +kernel
theorem dN_second_58 : decode cN_second 58 = .ok (.iload_n 1, 1) := by decide +kernel
theorem dN_second_59 : decode cN_second 59 = .ok (.imul, 1) := by decide +kernel
theorem dN_second_60 : decode cN_second 60 = .ok (.iload_n 3, 1) := by decide +kernel
theorem dN_second_61 : decode cN_second 61 = .ok (.iadd, 1) := by decide +kernel
theorem dN_second_62 : decode cN_second 62 = .ok (.iaload, 1) := by decide +kernel
theorem dN_second_63 : decode cN_second 63 = .ok (.if_icmp .eq 7, 3) := by decide +kernel
theorem dN_second_66 : decode cN_second 66 = .ok (.iconst 1, 1) := by decide +kernel
theorem dN_second_67 : decode cN_second 67 = .ok (.goto 4, 3) := by decide +kernel
theorem dN_second_70 : decode cN_second 70 = .ok (.iconst 0, 1) := by decide +kernel
theorem dN_second_71 : decode cN_second 71 = .ok (.istore 4, 2) := by decide +kernel
theorem dN_second_73 : decode cN_second 73 = .ok (.iload 4, 2) := by decide +kernel
theorem dN_second_75 : decode cN_second 75 = .ok (.ifCond .eq 11, 3) := by decide +kernel
theorem dN_second_78 : decode cN_second 78 = .ok (.iload_n 2, 1) := by decide +kernel
theorem dN_second_79 : decode cN_second 79 = .ok (.iconst 1, 1) := by decide +kernel
theorem dN_second_80 : decode cN_second 80 = .ok (.iload_n 3, 1) := by decide +kernel
theorem dN_second_81 : decode cN_second 81 = .ok (.ishl, 1) := by decide +kernel
theorem dN_second_82 : decode cN_second 82 = .ok (.ior, 1) := by decide +kernel
theorem dN_second_83 : decode cN_second 83 = .ok (.goto 4, 3) := by decide +kernel
theorem dN_second_86 : decode cN_second 86 = .ok (.iload_n 2, 1) := by decide +kernel
theorem dN_second_87 : decode cN_second 87 = .ok (.istore_n 2, 1) := by decide +kernel
theorem dN_second_88 : decode cN_second 88 = .ok (.iinc 3 1, 3) := by decide +kernel
theorem dN_second_91 : decode cN_second 91 = .ok (.goto (-87), 3) := by decide +kernel
theorem dN_second_94 : decode cN_second 94 = .ok (.aload_n 0, 1) := by decide +kernel
theorem dN_second_95 : decode cN_second 95 = .ok (.getfield 56, 3) := by decide +kernel
theorem dN_second_98 : decode cN_second 98 = .ok (.iload_n 1, 1) := by decide +kernel
theorem dN_second_99 : decode cN_second 99 = .ok (.iload_n 2, 1) := by decide +kernel
theorem dN_second_100 : decode cN_second 100 = .ok (.iastore, 1) := by decide +kernel
theorem dN_second_101 : decode cN_second 101 = .ok (.aload_n 0, 1) := by decide +kernel
theorem dN_second_102 : decode cN_second 102 = .ok (.getfield 47, 3) := by decide +kernel
theorem dN_second_105 : decode cN_second 105 = .ok (.iload_n 1, 1) := by decide +kernel
theorem dN_second_106 : decode cN_second 106 = .ok (.iconst 2, 1) := by decide +kernel
theorem dN_second_107 : decode cN_second 107 = .ok (.iastore, 1) := by decide +kernel
theorem dN_second_108 : decode cN_second 108 = .ok (.aload_n 0, 1) := by decide +kernel
theorem dN_second_109 : decode cN_second 109 = .ok (.getfield 53, 3) := by decide +kernel
theorem dN_second_112 : decode cN_second 112 = .ok (.iload_n 1, 1) := by decide +kernel
theorem dN_second_113 : decode cN_second 113 = .ok (.iload_n 2, 1) := by decide +kernel
theorem dN_second_114 : decode cN_second 114 = .ok (.ifCond .ne 7, 3) := by decide +kernel
theorem dN_second_117 : decode cN_second 117 = .ok (.iconst 1, 1) := by decide +kernel
theorem dN_second_118 : decode cN_second 118 = .ok (.goto 4, 3) := by decide +kernel
theorem dN_second_121 : decode cN_second 121 = .ok (.iconst 2, 1) := by decide +kernel
theorem dN_second_122 : decode cN_second 122 = .ok (.iastore, 1) := by decide +kernel
theorem dN_second_123 : decode cN_second 123 = .ok (.iload_n 2, 1) := by decide +kernel
theorem dN_second_124 : decode cN_second 124 = .ok (.ifCond .ne 8, 3) := by decide +kernel
theorem dN_second_127 : decode cN_second 127 = .ok (.aload_n 0, 1) := by decide +kernel
theorem dN_second_128 : decode cN_second 128 = .ok (.iload_n 1, 1) := by decide +kernel
theorem dN_second_129 : decode cN_second 129 = .ok (.invokevirtual 99, 3) := by decide +kernel
theorem dN_second_132 : decode cN_second 132 = .ok (.return_, 1) := by decide +kernel
theorem dN_read_0 : decode cN_read 0 = .ok (.iload_n 1, 1) := by decide +kernel
theorem dN_read_1 : decode cN_read 1 = .ok (.bipush 6, 2) := by decide +kernel
theorem dN_read_3 : decode cN_read 3 = .ok (.invokestatic 73, 3) := by decide +kernel
theorem dN_read_6 : decode cN_read 6 = .ok (.ifCond .eq 5, 3) := by decide +kernel
theorem dN_read_9 : decode cN_read 9 = .ok (.iconst (-1), 1) := by decide +kernel
theorem dN_read_10 : decode cN_read 10 = .ok (.ireturn, 1) := by decide +kernel
theorem dN_read_11 : decode cN_read 11 = .ok (.aload_n 0, 1) := by decide +kernel
theorem dN_read_12 : decode cN_read 12 = .ok (.iload_n 1, 1) := by decide +kernel
theorem dN_read_13 : decode cN_read 13 = .ok (.invokevirtual 77, 3) := by decide +kernel
theorem dN_read_16 : decode cN_read 16 = .ok (.ifCond .ne 6, 3) := by decide +kernel
theorem dN_read_19 : decode cN_read 19 = .ok (.bipush (-4), 2) := by decide +kernel
theorem dN_read_21 : decode cN_read 21 = .ok (.ireturn, 1) := by decide +kernel
theorem dN_read_22 : decode cN_read 22 = .ok (.aload_n 0, 1) := by decide +kernel
theorem dN_read_23 : decode cN_read 23 = .ok (.getfield 56, 3) := by decide +kernel
theorem dN_read_26 : decode cN_read 26 = .ok (.iload_n 1, 1) := by decide +kernel
theorem dN_read_27 : decode cN_read 27 = .ok (.iaload, 1) := by decide +kernel
theorem dN_read_28 : decode cN_read 28 = .ok (.invokestatic 103, 3) := by decide +kernel
theorem dN_read_31 : decode cN_read 31 = .ok (.istore_n 2, 1) := by decide +kernel
theorem dN_read_32 : decode cN_read 32 = .ok (.aload_n 0, 1) := by decide +kernel
theorem dN_read_33 : decode cN_read 33 = .ok (.getfield 56, 3) := by decide +kernel
theorem dN_read_36 : decode cN_read 36 = .ok (.iload_n 1, 1) := by decide +kernel
theorem dN_read_37 : decode cN_read 37 = .ok (.aload_n 0, 1) := by decide +kernel
theorem dN_read_38 : decode cN_read 38 = .ok (.getfield 56, 3) := by decide +kernel
theorem dN_read_41 : decode cN_read 41 = .ok (.iload_n 1, 1) := by decide +kernel
theorem dN_read_42 : decode cN_read 42 = .ok (.iaload, 1) := by decide +kernel
theorem dN_read_43 : decode cN_read 43 = .ok (.iconst 1, 1) := by decide +kernel
theorem dN_read_44 : decode cN_read 44 = .ok (.iload_n 2, 1) := by decide +kernel
theorem dN_read_45 : decode cN_read 45 = .ok (.ishl, 1) := by decide +kernel
theorem dN_read_46 : decode cN_read 46 = .ok (.iconst (-1), 1) := by decide +kernel
theorem dN_read_47 : decode cN_read 47 = .ok (.ixor, 1) := by decide +kernel
theorem dN_read_48 : decode cN_read 48 = .ok (.iand, 1) := by decide +kernel
theorem dN_read_49 : decode cN_read 49 = .ok (.iastore, 1) := by decide +kernel
theorem dN_read_50 : decode cN_read 50 = .ok (.aload_n 0, 1) := by decide +kernel
theorem dN_read_51 : decode cN_read 51 = .ok (.getfield 47, 3) := by decide +kernel
theorem dN_read_54 : decode cN_read 54 = .ok (.iload_n 1, 1) := by decide +kernel
theorem dN_read_55 : decode cN_read 55 = .ok (.iaload, 1) := by decide +kernel
theorem dN_read_56 : decode cN_read 56 = .ok (.iconst 1, 1) := by decide +kernel
theorem dN_read_57 : decode cN_read 57 = .ok (.if_icmp .ne 39, 3) := by decide +kernel
theorem dN_read_60 : decode cN_read 60 = .ok (.aload_n 0, 1) := by decide +kernel
theorem dN_read_61 : decode cN_read 61 = .ok (.getfield 59, 3) := by decide +kernel
theorem dN_read_64 : decode cN_read 64 = .ok (.bipush 6, 2) := by decide +kernel
theorem dN_read_66 : decode cN_read 66 = .ok (.iload_n 1, 1) := by decide +kernel
theorem dN_read_67 : decode cN_read 67 = .ok (.imul, 1) := by decide +kernel
theorem dN_read_68 : decode cN_read 68 = .ok (.iload_n 2, 1) := by decide +kernel
theorem dN_read_69 : decode cN_read 69 = .ok (.iadd, 1) := by decide +kernel
theorem dN_read_70 : decode cN_read 70 = .ok (.aload_n 0, 1) := by decide +kernel
theorem dN_read_71 : decode cN_read 71 = .ok (.iload_n 1, 1) := by decide +kernel
theorem dN_read_72 : decode cN_read 72 = .ok (.iconst 3, 1) := by decide +kernel
theorem dN_read_73 : decode cN_read 73 = .ok (.irem, 1) := by decide +kernel
theorem dN_read_74 : decode cN_read 74 = .ok (.iload_n 2, 1) := by decide +kernel
theorem dN_read_75 : decode cN_read 75 = .ok (.invokevirtual 93, 3) := by decide +kernel
theorem dN_read_78 : decode cN_read 78 = .ok (.iastore, 1) := by decide +kernel
theorem dN_read_79 : decode cN_read 79 = .ok (.aload_n 0, 1) := by decide +kernel
theorem dN_read_80 : decode cN_read 80 = .ok (.getfield 56, 3) := by decide +kernel
theorem dN_read_83 : decode cN_read 83 = .ok (.iload_n 1, 1) := by decide +kernel
theorem dN_read_84 : decode cN_read 84 = .ok (.iaload, 1) := by decide +kernel
theorem dN_read_85 : decode cN_read 85 = .ok (.ifCond .ne 47, 3) := by decide +kernel
theorem dN_read_88 : decode cN_read 88 = .ok (.aload_n 0, 1) := by decide +kernel
theorem dN_read_89 : decode cN_read 89 = .ok (.iload_n 1, 1) := by decide +kernel
theorem dN_read_90 : decode cN_read 90 = .ok (.invokevirtual 106, 3) := by decide +kernel
theorem dN_read_93 : decode cN_read 93 = .ok (.goto 39, 3) := by decide +kernel
theorem dN_read_96 : decode cN_read 96 = .ok (.aload_n 0, 1) := by decide +kernel
theorem dN_read_97 : decode cN_read 97 = .ok (.getfield 59, 3) := by decide +kernel
theorem dN_read_100 : decode cN_read 100 = .ok (.bipush 6, 2) := by decide +kernel
theorem dN_read_102 : decode cN_read 102 = .ok (.iload_n 1, 1) := by decide +kernel
theorem dN_read_103 : decode cN_read 103 = .ok (.imul, 1) := by decide +kernel
theorem dN_read_104 : decode cN_read 104 = .ok (.iload_n 2, 1) := by decide +kernel
theorem dN_read_105 : decode cN_read 105 = .ok (.iadd, 1) := by decide +kernel
theorem dN_read_106 : decode cN_read 106 = .ok (.aload_n 0, 1) := by decide +kernel
theorem dN_read_107 : decode cN_read 107 = .ok (.getfield 62, 3) := by decide +kernel
theorem dN_read_110 : decode cN_read 110 = .ok (.bipush 6, 2) := by decide +kernel
theorem dN_read_112 : decode cN_read 112 = .ok (.iload_n 1, 1) := by decide +kernel
theorem dN_read_113 : decode cN_read 113 = .ok (.imul, 1) := by decide +kernel
theorem dN_read_114 : decode cN_read 114 = .ok (.iload_n 2, 1) := by decide +kernel
theorem dN_read_115 : decode cN_read 115 = .ok (.iadd, 1) := by decide +kernel
theorem dN_read_116 : decode cN_read 116 = .ok (.iaload, 1) := by decide +kernel
theorem dN_read_117 : decode cN_read 117 = .ok (.iastore, 1) := by decide +kernel
theorem dN_read_118 : decode cN_read 118 = .ok (.aload_n 0, 1) := by decide +kernel
theorem dN_read_119 : decode cN_read 119 = .ok (.getfield 56, 3) := by decide +kernel
theorem dN_read_122 : decode cN_read 122 = .ok (.iload_n 1, 1) := by decide +kernel
theorem dN_read_123 : decode cN_read 123 = .ok (.iaload, 1) := by decide +kernel
theorem dN_read_124 : decode cN_read 124 = .ok (.ifCond .ne 8, 3) := by decide +kernel
theorem dN_read_127 : decode cN_read 127 = .ok (.aload_n 0, 1) := by decide +kernel
theorem dN_read_128 : decode cN_read 128 = .ok (.iload_n 1, 1) := by decide +kernel
theorem dN_read_129 : decode cN_read 129 = .ok (.invokevirtual 99, 3) := by decide +kernel
theorem dN_read_132 : decode cN_read 132 = .ok (.aload_n 0, 1) := by decide +kernel
theorem dN_read_133 : decode cN_read 133 = .ok (.getfield 56, 3) := by decide +kernel
theorem dN_read_136 : decode cN_read 136 = .ok (.iload_n 1, 1) := by decide +kernel
theorem dN_read_137 : decode cN_read 137 = .ok (.iaload, 1) := by decide +kernel
theorem dN_read_138 : decode cN_read 138 = .ok (.invokestatic 109, 3) := by decide +kernel
theorem dN_read_141 : decode cN_read 141 = .ok (.ireturn, 1) := by decide +kernel
theorem dN_got_0 : decode cN_got 0 = .ok (.iload_n 1, 1) := by decide +kernel
theorem dN_got_1 : decode cN_got 1 = .ok (.bipush 6, 2) := by decide +kernel
theorem dN_got_3 : decode cN_got 3 = .ok (.invokestatic 73, 3) := by decide +kernel
theorem dN_got_6 : decode cN_got 6 = .ok (.ifCond .ne 12, 3) := by decide +kernel
theorem dN_got_9 : decode cN_got 9 = .ok (.iload_n 2, 1) := by decide +kernel
theorem dN_got_10 : decode cN_got 10 = .ok (.bipush 6, 2) := by decide +kernel
theorem dN_got_12 : decode cN_got 12 = .ok (.invokestatic 73, 3) := by decide +kernel
theorem dN_got_15 : decode cN_got 15 = .ok (.ifCond .eq 5, 3) := by decide +kernel
theorem dN_got_18 : decode cN_got 18 = .ok (.iconst (-1), 1) := by decide +kernel
theorem dN_got_19 : decode cN_got 19 = .ok (.ireturn, 1) := by decide +kernel
theorem dN_got_20 : decode cN_got 20 = .ok (.aload_n 0, 1) := by decide +kernel
theorem dN_got_21 : decode cN_got 21 = .ok (.getfield 59, 3) := by decide +kernel
theorem dN_got_24 : decode cN_got 24 = .ok (.bipush 6, 2) := by decide +kernel
theorem dN_got_26 : decode cN_got 26 = .ok (.iload_n 1, 1) := by decide +kernel
theorem dN_got_27 : decode cN_got 27 = .ok (.imul, 1) := by decide +kernel
theorem dN_got_28 : decode cN_got 28 = .ok (.iload_n 2, 1) := by decide +kernel
theorem dN_got_29 : decode cN_got 29 = .ok (.iadd, 1) := by decide +kernel
theorem dN_got_30 : decode cN_got 30 = .ok (.iaload, 1) := by decide +kernel
theorem dN_got_31 : decode cN_got 31 = .ok (.ifCond .ne 8, 3) := by decide +kernel
theorem dN_got_34 : decode cN_got 34 = .ok (.bipush (-4), 2) := by decide +kernel
theorem dN_got_36 : decode cN_got 36 = .ok (.goto 16, 3) := by decide +kernel
theorem dN_got_39 : decode cN_got 39 = .ok (.aload_n 0, 1) := by decide +kernel
theorem dN_got_40 : decode cN_got 40 = .ok (.getfield 59, 3) := by decide +kernel
theorem dN_got_43 : decode cN_got 43 = .ok (.bipush 6, 2) := by decide +kernel
theorem dN_got_45 : decode cN_got 45 = .ok (.iload_n 1, 1) := by decide +kernel
theorem dN_got_46 : decode cN_got 46 = .ok (.imul, 1) := by decide +kernel
theorem dN_got_47 : decode cN_got 47 = .ok (.iload_n 2, 1) := by decide +kernel
theorem dN_got_48 : decode cN_got 48 = .ok (.iadd, 1) := by decide +kernel
theorem dN_got_49 : decode cN_got 49 = .ok (.iaload, 1) := by decide +kernel
theorem dN_got_50 : decode cN_got 50 = .ok (.iconst 1, 1) := by decide +kernel
theorem dN_got_51 : decode cN_got 51 = .ok (.isub, 1) := by decide +kernel
theorem dN_got_52 : decode cN_got 52 = .ok (.ireturn, 1) := by decide +kernel
theorem dN_rounds_0 : decode cN_rounds 0 = .ok (.iload_n 1, 1) := by decide +kernel
theorem dN_rounds_1 : decode cN_rounds 1 = .ok (.bipush 6, 2) := by decide +kernel
theorem dN_rounds_3 : decode cN_rounds 3 = .ok (.invokestatic 73, 3) := by decide +kernel
theorem dN_rounds_6 : decode cN_rounds 6 = .ok (.ifCond .eq 7, 3) := by decide +kernel
theorem dN_rounds_9 : decode cN_rounds 9 = .ok (.iconst (-1), 1) := by decide +kernel
theorem dN_rounds_10 : decode cN_rounds 10 = .ok (.goto 9, 3) := by decide +kernel
theorem dN_rounds_13 : decode cN_rounds 13 = .ok (.aload_n 0, 1) := by decide +kernel
theorem dN_rounds_14 : decode cN_rounds 14 = .ok (.getfield 53, 3) := by decide +kernel
theorem dN_rounds_17 : decode cN_rounds 17 = .ok (.iload_n 1, 1) := by decide +kernel
theorem dN_rounds_18 : decode cN_rounds 18 = .ok (.iaload, 1) := by decide +kernel
theorem dN_rounds_19 : decode cN_rounds 19 = .ok (.ireturn, 1) := by decide +kernel
theorem dN_link_0 : decode cN_link 0 = .ok (.iload_n 1, 1) := by decide +kernel
theorem dN_link_1 : decode cN_link 1 = .ok (.iconst 3, 1) := by decide +kernel
theorem dN_link_2 : decode cN_link 2 = .ok (.invokestatic 73, 3) := by decide +kernel
theorem dN_link_5 : decode cN_link 5 = .ok (.ifCond .ne 20, 3) := by decide +kernel
theorem dN_link_8 : decode cN_link 8 = .ok (.iload_n 2, 1) := by decide +kernel
theorem dN_link_9 : decode cN_link 9 = .ok (.iconst 3, 1) := by decide +kernel
theorem dN_link_10 : decode cN_link 10 = .ok (.invokestatic 73, 3) := by decide +kernel
theorem dN_link_13 : decode cN_link 13 = .ok (.ifCond .ne 12, 3) := by decide +kernel
theorem dN_link_16 : decode cN_link 16 = .ok (.iload_n 1, 1) := by decide +kernel
theorem dN_link_17 : decode cN_link 17 = .ok (.iload_n 2, 1) := by decide +kernel
theorem dN_link_18 : decode cN_link 18 = .ok (.if_icmp .eq 7, 3) := by decide +kernel
theorem dN_link_21 : decode cN_link 21 = .ok (.iconst 1, 1) := by decide +kernel
theorem dN_link_22 : decode cN_link 22 = .ok (.goto 4, 3) := by decide +kernel
theorem dN_link_25 : decode cN_link 25 = .ok (.iconst 0, 1) := by decide +kernel
theorem dN_link_26 : decode cN_link 26 = .ok (.ireturn, 1) := by decide +kernel
theorem dN_deliver_0 : decode cN_deliver 0 = .ok (.aload_n 0, 1) := by decide +kernel
theorem dN_deliver_1 : decode cN_deliver 1 = .ok (.iload_n 1, 1) := by decide +kernel
theorem dN_deliver_2 : decode cN_deliver 2 = .ok (.iload_n 2, 1) := by decide +kernel
theorem dN_deliver_3 : decode cN_deliver 3 = .ok (.invokevirtual 112, 3) := by decide +kernel
theorem dN_deliver_6 : decode cN_deliver 6 = .ok (.ifCond .ne 5, 3) := by decide +kernel
theorem dN_deliver_9 : decode cN_deliver 9 = .ok (.iconst 0, 1) := by decide +kernel
theorem dN_deliver_10 : decode cN_deliver 10 = .ok (.ireturn, 1) := by decide +kernel
theorem dN_deliver_11 : decode cN_deliver 11 = .ok (.iconst 3, 1) := by decide +kernel
theorem dN_deliver_12 : decode cN_deliver 12 = .ok (.iload_n 1, 1) := by decide +kernel
theorem dN_deliver_13 : decode cN_deliver 13 = .ok (.imul, 1) := by decide +kernel
theorem dN_deliver_14 : decode cN_deliver 14 = .ok (.iload_n 2, 1) := by decide +kernel
theorem dN_deliver_15 : decode cN_deliver 15 = .ok (.iadd, 1) := by decide +kernel
theorem dN_deliver_16 : decode cN_deliver 16 = .ok (.istore 4, 2) := by decide +kernel
theorem dN_deliver_18 : decode cN_deliver 18 = .ok (.iload_n 3, 1) := by decide +kernel
theorem dN_deliver_19 : decode cN_deliver 19 = .ok (.aload_n 0, 1) := by decide +kernel
theorem dN_deliver_20 : decode cN_deliver 20 = .ok (.getfield 38, 3) := by decide +kernel
theorem dN_deliver_23 : decode cN_deliver 23 = .ok (.iload 4, 2) := by decide +kernel
theorem dN_deliver_25 : decode cN_deliver 25 = .ok (.iaload, 1) := by decide +kernel
theorem dN_deliver_26 : decode cN_deliver 26 = .ok (.invokestatic 73, 3) := by decide +kernel
theorem dN_deliver_29 : decode cN_deliver 29 = .ok (.ifCond .eq 5, 3) := by decide +kernel
theorem dN_deliver_32 : decode cN_deliver 32 = .ok (.iconst 0, 1) := by decide +kernel
theorem dN_deliver_33 : decode cN_deliver 33 = .ok (.ireturn, 1) := by decide +kernel
theorem dN_deliver_34 : decode cN_deliver 34 = .ok (.aload_n 0, 1) := by decide +kernel
theorem dN_deliver_35 : decode cN_deliver 35 = .ok (.getfield 41, 3) := by decide +kernel
theorem dN_deliver_38 : decode cN_deliver 38 = .ok (.bipush 40, 2) := by decide +kernel
theorem dN_deliver_40 : decode cN_deliver 40 = .ok (.iload 4, 2) := by decide +kernel
theorem dN_deliver_42 : decode cN_deliver 42 = .ok (.imul, 1) := by decide +kernel
theorem dN_deliver_43 : decode cN_deliver 43 = .ok (.iload_n 3, 1) := by decide +kernel
theorem dN_deliver_44 : decode cN_deliver 44 = .ok (.iadd, 1) := by decide +kernel
theorem dN_deliver_45 : decode cN_deliver 45 = .ok (.iaload, 1) := by decide +kernel
theorem dN_deliver_46 : decode cN_deliver 46 = .ok (.istore 5, 2) := by decide +kernel
theorem dN_deliver_48 : decode cN_deliver 48 = .ok (.aload_n 0, 1) := by decide +kernel
theorem dN_deliver_49 : decode cN_deliver 49 = .ok (.getfield 38, 3) := by decide +kernel
theorem dN_deliver_52 : decode cN_deliver 52 = .ok (.iload 4, 2) := by decide +kernel
theorem dN_deliver_54 : decode cN_deliver 54 = .ok (.dup2, 1) := by decide +kernel
theorem dN_deliver_55 : decode cN_deliver 55 = .ok (.iaload, 1) := by decide +kernel
theorem dN_deliver_56 : decode cN_deliver 56 = .ok (.iconst 1, 1) := by decide +kernel
theorem dN_deliver_57 : decode cN_deliver 57 = .ok (.isub, 1) := by decide +kernel
theorem dN_deliver_58 : decode cN_deliver 58 = .ok (.iastore, 1) := by decide +kernel
theorem dN_deliver_59 : decode cN_deliver 59 = .ok (.iload_n 3, 1) := by decide +kernel
theorem dN_deliver_60 : decode cN_deliver 60 = .ok (.istore 6, 2) := by decide +kernel
theorem dN_deliver_62 : decode cN_deliver 62 = .ok (.iload 6, 2) := by decide +kernel
theorem dN_deliver_64 : decode cN_deliver 64 = .ok (.aload_n 0, 1) := by decide +kernel
theorem dN_deliver_65 : decode cN_deliver 65 = .ok (.getfield 38, 3) := by decide +kernel
theorem dN_deliver_68 : decode cN_deliver 68 = .ok (.iload 4, 2) := by decide +kernel
theorem dN_deliver_70 : decode cN_deliver 70 = .ok (.iaload, 1) := by decide +kernel
theorem dN_deliver_71 : decode cN_deliver 71 = .ok (.if_icmp .ge 37, 3) := by decide +kernel
theorem dN_deliver_74 : decode cN_deliver 74 = .ok (.aload_n 0, 1) := by decide +kernel
theorem dN_deliver_75 : decode cN_deliver 75 = .ok (.getfield 41, 3) := by decide +kernel
theorem dN_deliver_78 : decode cN_deliver 78 = .ok (.bipush 40, 2) := by decide +kernel
theorem dN_deliver_80 : decode cN_deliver 80 = .ok (.iload 4, 2) := by decide +kernel
theorem dN_deliver_82 : decode cN_deliver 82 = .ok (.imul, 1) := by decide +kernel
theorem dN_deliver_83 : decode cN_deliver 83 = .ok (.iload 6, 2) := by decide +kernel
theorem dN_deliver_85 : decode cN_deliver 85 = .ok (.iadd, 1) := by decide +kernel
theorem dN_deliver_86 : decode cN_deliver 86 = .ok (.aload_n 0, 1) := by decide +kernel
theorem dN_deliver_87 : decode cN_deliver 87 = .ok (.getfield 41, 3) := by decide +kernel
theorem dN_deliver_90 : decode cN_deliver 90 = .ok (.bipush 40, 2) := by decide +kernel
theorem dN_deliver_92 : decode cN_deliver 92 = .ok (.iload 4, 2) := by decide +kernel
theorem dN_deliver_94 : decode cN_deliver 94 = .ok (.imul, 1) := by decide +kernel
theorem dN_deliver_95 : decode cN_deliver 95 = .ok (.iload 6, 2) := by decide +kernel
theorem dN_deliver_97 : decode cN_deliver 97 = .ok (.iadd, 1) := by decide +kernel
theorem dN_deliver_98 : decode cN_deliver 98 = .ok (.iconst 1, 1) := by decide +kernel
theorem dN_deliver_99 : decode cN_deliver 99 = .ok (.iadd, 1) := by decide +kernel
theorem dN_deliver_100 : decode cN_deliver 100 = .ok (.iaload, 1) := by decide +kernel
theorem dN_deliver_101 : decode cN_deliver 101 = .ok (.iastore, 1) := by decide +kernel
theorem dN_deliver_102 : decode cN_deliver 102 = .ok (.iinc 6 1, 3) := by decide +kernel
theorem dN_deliver_105 : decode cN_deliver 105 = .ok (.goto (-43), 3) := by decide +kernel
theorem dN_deliver_108 : decode cN_deliver 108 = .ok (.iconst 2, 1) := by decide +kernel
theorem dN_deliver_109 : decode cN_deliver 109 = .ok (.iload_n 2, 1) := by decide +kernel
theorem dN_deliver_110 : decode cN_deliver 110 = .ok (.imul, 1) := by decide +kernel
theorem dN_deliver_111 : decode cN_deliver 111 = .ok (.aload_n 0, 1) := by decide +kernel
theorem dN_deliver_112 : decode cN_deliver 112 = .ok (.getfield 7, 3) := by decide +kernel
theorem dN_deliver_115 : decode cN_deliver 115 = .ok (.iload 5, 2) := by decide +kernel
theorem dN_deliver_117 : decode cN_deliver 117 = .ok (.iaload, 1) := by decide +kernel
theorem dN_deliver_118 : decode cN_deliver 118 = .ok (.iconst 2, 1) := by decide +kernel
theorem dN_deliver_119 : decode cN_deliver 119 = .ok (.irem, 1) := by decide +kernel
theorem dN_deliver_120 : decode cN_deliver 120 = .ok (.iadd, 1) := by decide +kernel
theorem dN_deliver_121 : decode cN_deliver 121 = .ok (.istore 6, 2) := by decide +kernel
theorem dN_deliver_123 : decode cN_deliver 123 = .ok (.aload_n 0, 1) := by decide +kernel
theorem dN_deliver_124 : decode cN_deliver 124 = .ok (.getfield 29, 3) := by decide +kernel
theorem dN_deliver_127 : decode cN_deliver 127 = .ok (.iload 6, 2) := by decide +kernel
theorem dN_deliver_129 : decode cN_deliver 129 = .ok (.aload_n 0, 1) := by decide +kernel
theorem dN_deliver_130 : decode cN_deliver 130 = .ok (.getfield 16, 3) := by decide +kernel
theorem dN_deliver_133 : decode cN_deliver 133 = .ok (.iload 5, 2) := by decide +kernel
theorem dN_deliver_135 : decode cN_deliver 135 = .ok (.iaload, 1) := by decide +kernel
theorem dN_deliver_136 : decode cN_deliver 136 = .ok (.iconst 4, 1) := by decide +kernel
theorem dN_deliver_137 : decode cN_deliver 137 = .ok (.idiv, 1) := by decide +kernel
theorem dN_deliver_138 : decode cN_deliver 138 = .ok (.aload_n 0, 1) := by decide +kernel
theorem dN_deliver_139 : decode cN_deliver 139 = .ok (.getfield 29, 3) := by decide +kernel
theorem dN_deliver_142 : decode cN_deliver 142 = .ok (.iload 6, 2) := by decide +kernel
theorem dN_deliver_144 : decode cN_deliver 144 = .ok (.iaload, 1) := by decide +kernel
theorem dN_deliver_145 : decode cN_deliver 145 = .ok (.if_icmp .le 15, 3) := by decide +kernel
theorem dN_deliver_148 : decode cN_deliver 148 = .ok (.aload_n 0, 1) := by decide +kernel
theorem dN_deliver_149 : decode cN_deliver 149 = .ok (.getfield 16, 3) := by decide +kernel
theorem dN_deliver_152 : decode cN_deliver 152 = .ok (.iload 5, 2) := by decide +kernel
theorem dN_deliver_154 : decode cN_deliver 154 = .ok (.iaload, 1) := by decide +kernel
theorem dN_deliver_155 : decode cN_deliver 155 = .ok (.iconst 4, 1) := by decide +kernel
theorem dN_deliver_156 : decode cN_deliver 156 = .ok (.idiv, 1) := by decide +kernel
theorem dN_deliver_157 : decode cN_deliver 157 = .ok (.goto 10, 3) := by decide +kernel
theorem dN_deliver_160 : decode cN_deliver 160 = .ok (.aload_n 0, 1) := by decide +kernel
theorem dN_deliver_161 : decode cN_deliver 161 = .ok (.getfield 29, 3) := by decide +kernel
theorem dN_deliver_164 : decode cN_deliver 164 = .ok (.iload 6, 2) := by decide +kernel
theorem dN_deliver_166 : decode cN_deliver 166 = .ok (.iaload, 1) := by decide +kernel
theorem dN_deliver_167 : decode cN_deliver 167 = .ok (.iastore, 1) := by decide +kernel
theorem dN_deliver_168 : decode cN_deliver 168 = .ok (.aload_n 0, 1) := by decide +kernel
theorem dN_deliver_169 : decode cN_deliver 169 = .ok (.getfield 35, 3) := by decide +kernel
theorem dN_deliver_172 : decode cN_deliver 172 = .ok (.bipush 40, 2) := by decide +kernel
theorem dN_deliver_174 : decode cN_deliver 174 = .ok (.iload 6, 2) := by decide +kernel
theorem dN_deliver_176 : decode cN_deliver 176 = .ok (.imul, 1) := by decide +kernel
theorem dN_deliver_177 : decode cN_deliver 177 = .ok (.aload_n 0, 1) := by decide +kernel
theorem dN_deliver_178 : decode cN_deliver 178 = .ok (.getfield 32, 3) := by decide +kernel
theorem dN_deliver_181 : decode cN_deliver 181 = .ok (.iload 6, 2) := by decide +kernel
theorem dN_deliver_183 : decode cN_deliver 183 = .ok (.iaload, 1) := by decide +kernel
theorem dN_deliver_184 : decode cN_deliver 184 = .ok (.iadd, 1) := by decide +kernel
theorem dN_deliver_185 : decode cN_deliver 185 = .ok (.iload 5, 2) := by decide +kernel
theorem dN_deliver_187 : decode cN_deliver 187 = .ok (.iastore, 1) := by decide +kernel
theorem dN_deliver_188 : decode cN_deliver 188 = .ok (.aload_n 0, 1) := by decide +kernel
theorem dN_deliver_189 : decode cN_deliver 189 = .ok (.getfield 32, 3) := by decide +kernel
theorem dN_deliver_192 : decode cN_deliver 192 = .ok (.iload 6, 2) := by decide +kernel
theorem dN_deliver_194 : decode cN_deliver 194 = .ok (.dup2, 1) := by decide +kernel
theorem dN_deliver_195 : decode cN_deliver 195 = .ok (.iaload, 1) := by decide +kernel
theorem dN_deliver_196 : decode cN_deliver 196 = .ok (.iconst 1, 1) := by decide +kernel
theorem dN_deliver_197 : decode cN_deliver 197 = .ok (.iadd, 1) := by decide +kernel
theorem dN_deliver_198 : decode cN_deliver 198 = .ok (.iastore, 1) := by decide +kernel
theorem dN_deliver_199 : decode cN_deliver 199 = .ok (.iconst 1, 1) := by decide +kernel
theorem dN_deliver_200 : decode cN_deliver 200 = .ok (.ireturn, 1) := by decide +kernel
theorem dN_missing_0 : decode cN_missing 0 = .ok (.iconst 0, 1) := by decide +kernel
theorem dN_missing_1 : decode cN_missing 1 = .ok (.istore_n 3, 1) := by decide +kernel
theorem dN_missing_2 : decode cN_missing 2 = .ok (.iconst 0, 1) := by decide +kernel
theorem dN_missing_3 : decode cN_missing 3 = .ok (.istore 4, 2) := by decide +kernel
theorem dN_missing_5 : decode cN_missing 5 = .ok (.iload 4, 2) := by decide +kernel
theorem dN_missing_7 : decode cN_missing 7 = .ok (.bipush 6, 2) := by decide +kernel
theorem dN_missing_9 : decode cN_missing 9 = .ok (.if_icmp .ge 71, 3) := by decide +kernel
theorem dN_missing_12 : decode cN_missing 12 = .ok (.aload_n 0, 1) := by decide +kernel
theorem dN_missing_13 : decode cN_missing 13 = .ok (.getfield 22, 3) := by decide +kernel
theorem dN_missing_16 : decode cN_missing 16 = .ok (.iload_n 2, 1) := by decide +kernel
theorem dN_missing_17 : decode cN_missing 17 = .ok (.iaload, 1) := by decide +kernel
theorem dN_missing_18 : decode cN_missing 18 = .ok (.iload 4, 2) := by decide +kernel
theorem dN_missing_20 : decode cN_missing 20 = .ok (.ishr, 1) := by decide +kernel
theorem dN_missing_21 : decode cN_missing 21 = .ok (.iconst 1, 1) := by decide +kernel
theorem dN_missing_22 : decode cN_missing 22 = .ok (.iand, 1) := by decide +kernel
theorem dN_missing_23 : decode cN_missing 23 = .ok (.iconst 1, 1) := by decide +kernel
theorem dN_missing_24 : decode cN_missing 24 = .ok (.if_icmp .ne 7, 3) := by decide +kernel
theorem dN_missing_27 : decode cN_missing 27 = .ok (.iconst 1, 1) := by decide +kernel
theorem dN_missing_28 : decode cN_missing 28 = .ok (.goto 4, 3) := by decide +kernel
theorem dN_missing_31 : decode cN_missing 31 = .ok (.iconst 0, 1) := by decide +kernel
theorem dN_missing_32 : decode cN_missing 32 = .ok (.istore 5, 2) := by decide +kernel
theorem dN_missing_34 : decode cN_missing 34 = .ok (.iload 5, 2) := by decide +kernel
theorem dN_missing_36 : decode cN_missing 36 = .ok (.ifCond .eq 36, 3) := by decide +kernel
theorem dN_missing_39 : decode cN_missing 39 = .ok (.aload_n 0, 1) := by decide +kernel
theorem dN_missing_40 : decode cN_missing 40 = .ok (.getfield 25, 3) := by decide +kernel
theorem dN_missing_43 : decode cN_missing 43 = .ok (.bipush 40, 2) := by decide +kernel
theorem dN_missing_45 : decode cN_missing 45 = .ok (.iload_n 1, 1) := by decide +kernel
theorem dN_missing_46 : decode cN_missing 46 = .ok (.imul, 1) := by decide +kernel
theorem dN_missing_47 : decode cN_missing 47 = .ok (.aload_n 0, 1) := by decide +kernel
theorem dN_missing_48 : decode cN_missing 48 = .ok (.getfield 19, 3) := by decide +kernel
theorem dN_missing_51 : decode cN_missing 51 = .ok (.bipush 6, 2) := by decide +kernel
theorem dN_missing_53 : decode cN_missing 53 = .ok (.iload_n 2, 1) := by decide +kernel
theorem dN_missing_54 : decode cN_missing 54 = .ok (.imul, 1) := by decide +kernel
theorem dN_missing_55 : decode cN_missing 55 = .ok (.iload 4, 2) := by decide +kernel
theorem dN_missing_57 : decode cN_missing 57 = .ok (.iadd, 1) := by decide +kernel
theorem dN_missing_58 : decode cN_missing 58 = .ok (.iaload, 1) := by decide +kernel
theorem dN_missing_59 : decode cN_missing 59 = .ok (.iadd, 1) := by decide +kernel
theorem dN_missing_60 : decode cN_missing 60 = .ok (.iconst 1, 1) := by decide +kernel
theorem dN_missing_61 : decode cN_missing 61 = .ok (.isub, 1) := by decide +kernel
theorem dN_missing_62 : decode cN_missing 62 = .ok (.baload, 1) := by decide +kernel
theorem dN_missing_63 : decode cN_missing 63 = .ok (.ifCond .ne 9, 3) := by decide +kernel
theorem dN_missing_66 : decode cN_missing 66 = .ok (.iload_n 3, 1) := by decide +kernel
theorem dN_missing_67 : decode cN_missing 67 = .ok (.iconst 1, 1) := by decide +kernel
theorem dN_missing_68 : decode cN_missing 68 = .ok (.iadd, 1) := by decide +kernel
theorem dN_missing_69 : decode cN_missing 69 = .ok (.goto 4, 3) := by decide +kernel
theorem dN_missing_72 : decode cN_missing 72 = .ok (.iload_n 3, 1) := by decide +kernel
theorem dN_missing_73 : decode cN_missing 73 = .ok (.istore_n 3, 1) := by decide +kernel
theorem dN_missing_74 : decode cN_missing 74 = .ok (.iinc 4 1, 3) := by decide +kernel
theorem dN_missing_77 : decode cN_missing 77 = .ok (.goto (-72), 3) := by decide +kernel
theorem dN_missing_80 : decode cN_missing 80 = .ok (.iload_n 3, 1) := by decide +kernel
theorem dN_missing_81 : decode cN_missing 81 = .ok (.ireturn, 1) := by decide +kernel
theorem dN_serve_0 : decode cN_serve 0 = .ok (.iload_n 1, 1) := by decide +kernel
theorem dN_serve_1 : decode cN_serve 1 = .ok (.iconst 3, 1) := by decide +kernel
theorem dN_serve_2 : decode cN_serve 2 = .ok (.invokestatic 73, 3) := by decide +kernel
theorem dN_serve_5 : decode cN_serve 5 = .ok (.ifCond .ne 11, 3) := by decide +kernel
theorem dN_serve_8 : decode cN_serve 8 = .ok (.iload_n 2, 1) := by decide +kernel
theorem dN_serve_9 : decode cN_serve 9 = .ok (.iconst 2, 1) := by decide +kernel
theorem dN_serve_10 : decode cN_serve 10 = .ok (.invokestatic 73, 3) := by decide +kernel
theorem dN_serve_13 : decode cN_serve 13 = .ok (.ifCond .eq 5, 3) := by decide +kernel
theorem dN_serve_16 : decode cN_serve 16 = .ok (.iconst (-1), 1) := by decide +kernel
theorem dN_serve_17 : decode cN_serve 17 = .ok (.ireturn, 1) := by decide +kernel
theorem dN_serve_18 : decode cN_serve 18 = .ok (.iconst 2, 1) := by decide +kernel
theorem dN_serve_19 : decode cN_serve 19 = .ok (.iload_n 1, 1) := by decide +kernel
theorem dN_serve_20 : decode cN_serve 20 = .ok (.imul, 1) := by decide +kernel
theorem dN_serve_21 : decode cN_serve 21 = .ok (.iload_n 2, 1) := by decide +kernel
theorem dN_serve_22 : decode cN_serve 22 = .ok (.iadd, 1) := by decide +kernel
theorem dN_serve_23 : decode cN_serve 23 = .ok (.istore_n 3, 1) := by decide +kernel
theorem dN_serve_24 : decode cN_serve 24 = .ok (.iconst 0, 1) := by decide +kernel
theorem dN_serve_25 : decode cN_serve 25 = .ok (.istore 4, 2) := by decide +kernel
theorem dN_serve_27 : decode cN_serve 27 = .ok (.aload_n 0, 1) := by decide +kernel
theorem dN_serve_28 : decode cN_serve 28 = .ok (.getfield 32, 3) := by decide +kernel
theorem dN_serve_31 : decode cN_serve 31 = .ok (.iload_n 3, 1) := by decide +kernel
theorem dN_serve_32 : decode cN_serve 32 = .ok (.iaload, 1) := by decide +kernel
theorem dN_serve_33 : decode cN_serve 33 = .ok (.istore 5, 2) := by decide +kernel
theorem dN_serve_35 : decode cN_serve 35 = .ok (.iconst 0, 1) := by decide +kernel
theorem dN_serve_36 : decode cN_serve 36 = .ok (.istore 6, 2) := by decide +kernel
theorem dN_serve_38 : decode cN_serve 38 = .ok (.iload 6, 2) := by decide +kernel
theorem dN_serve_40 : decode cN_serve 40 = .ok (.iload 5, 2) := by decide +kernel
theorem dN_serve_42 : decode cN_serve 42 = .ok (.if_icmp .ge 66, 3) := by decide +kernel
theorem dN_serve_45 : decode cN_serve 45 = .ok (.aload_n 0, 1) := by decide +kernel
theorem dN_serve_46 : decode cN_serve 46 = .ok (.getfield 35, 3) := by decide +kernel
theorem dN_serve_49 : decode cN_serve 49 = .ok (.bipush 40, 2) := by decide +kernel
theorem dN_serve_51 : decode cN_serve 51 = .ok (.iload_n 3, 1) := by decide +kernel
theorem dN_serve_52 : decode cN_serve 52 = .ok (.imul, 1) := by decide +kernel
theorem dN_serve_53 : decode cN_serve 53 = .ok (.iload 6, 2) := by decide +kernel
theorem dN_serve_55 : decode cN_serve 55 = .ok (.iadd, 1) := by decide +kernel
theorem dN_serve_56 : decode cN_serve 56 = .ok (.iaload, 1) := by decide +kernel
theorem dN_serve_57 : decode cN_serve 57 = .ok (.istore 7, 2) := by decide +kernel
theorem dN_serve_59 : decode cN_serve 59 = .ok (.aload_n 0, 1) := by decide +kernel
theorem dN_serve_60 : decode cN_serve 60 = .ok (.iload_n 1, 1) := by decide +kernel
theorem dN_serve_61 : decode cN_serve 61 = .ok (.iload 7, 2) := by decide +kernel
theorem dN_serve_63 : decode cN_serve 63 = .ok (.invokevirtual 115, 3) := by decide +kernel
theorem dN_serve_66 : decode cN_serve 66 = .ok (.ifCond .ne 19, 3) := by decide +kernel
theorem dN_serve_69 : decode cN_serve 69 = .ok (.aload_n 0, 1) := by decide +kernel
theorem dN_serve_70 : decode cN_serve 70 = .ok (.getfield 25, 3) := by decide +kernel
theorem dN_serve_73 : decode cN_serve 73 = .ok (.bipush 40, 2) := by decide +kernel
theorem dN_serve_75 : decode cN_serve 75 = .ok (.iload_n 1, 1) := by decide +kernel
theorem dN_serve_76 : decode cN_serve 76 = .ok (.imul, 1) := by decide +kernel
theorem dN_serve_77 : decode cN_serve 77 = .ok (.iload 7, 2) := by decide +kernel
theorem dN_serve_79 : decode cN_serve 79 = .ok (.iadd, 1) := by decide +kernel
theorem dN_serve_80 : decode cN_serve 80 = .ok (.iconst 1, 1) := by decide +kernel
theorem dN_serve_81 : decode cN_serve 81 = .ok (.bastore, 1) := by decide +kernel
theorem dN_serve_82 : decode cN_serve 82 = .ok (.goto 20, 3) := by decide +kernel
theorem dN_serve_85 : decode cN_serve 85 = .ok (.aload_n 0, 1) := by decide +kernel
theorem dN_serve_86 : decode cN_serve 86 = .ok (.getfield 35, 3) := by decide +kernel
theorem dN_serve_89 : decode cN_serve 89 = .ok (.bipush 40, 2) := by decide +kernel
theorem dN_serve_91 : decode cN_serve 91 = .ok (.iload_n 3, 1) := by decide +kernel
theorem dN_serve_92 : decode cN_serve 92 = .ok (.imul, 1) := by decide +kernel
theorem dN_serve_93 : decode cN_serve 93 = .ok (.iload 4, 2) := by decide +kernel
theorem dN_serve_95 : decode cN_serve 95 = .ok (.iadd, 1) := by decide +kernel
theorem dN_serve_96 : decode cN_serve 96 = .ok (.iload 7, 2) := by decide +kernel
theorem dN_serve_98 : decode cN_serve 98 = .ok (.iastore, 1) := by decide +kernel
theorem dN_serve_99 : decode cN_serve 99 = .ok (.iinc 4 1, 3) := by decide +kernel
theorem dN_serve_102 : decode cN_serve 102 = .ok (.iinc 6 1, 3) := by decide +kernel
theorem dN_serve_105 : decode cN_serve 105 = .ok (.goto (-67), 3) := by decide +kernel
theorem dN_serve_108 : decode cN_serve 108 = .ok (.aload_n 0, 1) := by decide +kernel
theorem dN_serve_109 : decode cN_serve 109 = .ok (.getfield 32, 3) := by decide +kernel
theorem dN_serve_112 : decode cN_serve 112 = .ok (.iload_n 3, 1) := by decide +kernel
theorem dN_serve_113 : decode cN_serve 113 = .ok (.iload 4, 2) := by decide +kernel
theorem dN_serve_115 : decode cN_serve 115 = .ok (.iastore, 1) := by decide +kernel
theorem dN_serve_116 : decode cN_serve 116 = .ok (.iload 5, 2) := by decide +kernel
theorem dN_serve_118 : decode cN_serve 118 = .ok (.iload 4, 2) := by decide +kernel
theorem dN_serve_120 : decode cN_serve 120 = .ok (.isub, 1) := by decide +kernel
theorem dN_serve_121 : decode cN_serve 121 = .ok (.ireturn, 1) := by decide +kernel
theorem dN_flight_0 : decode cN_flight 0 = .ok (.aload_n 0, 1) := by decide +kernel
theorem dN_flight_1 : decode cN_flight 1 = .ok (.iload_n 1, 1) := by decide +kernel
theorem dN_flight_2 : decode cN_flight 2 = .ok (.iload_n 2, 1) := by decide +kernel
theorem dN_flight_3 : decode cN_flight 3 = .ok (.invokevirtual 112, 3) := by decide +kernel
theorem dN_flight_6 : decode cN_flight 6 = .ok (.ifCond .eq 16, 3) := by decide +kernel
theorem dN_flight_9 : decode cN_flight 9 = .ok (.aload_n 0, 1) := by decide +kernel
theorem dN_flight_10 : decode cN_flight 10 = .ok (.getfield 38, 3) := by decide +kernel
theorem dN_flight_13 : decode cN_flight 13 = .ok (.iconst 3, 1) := by decide +kernel
theorem dN_flight_14 : decode cN_flight 14 = .ok (.iload_n 1, 1) := by decide +kernel
theorem dN_flight_15 : decode cN_flight 15 = .ok (.imul, 1) := by decide +kernel
theorem dN_flight_16 : decode cN_flight 16 = .ok (.iload_n 2, 1) := by decide +kernel
theorem dN_flight_17 : decode cN_flight 17 = .ok (.iadd, 1) := by decide +kernel
theorem dN_flight_18 : decode cN_flight 18 = .ok (.iaload, 1) := by decide +kernel
theorem dN_flight_19 : decode cN_flight 19 = .ok (.goto 4, 3) := by decide +kernel
theorem dN_flight_22 : decode cN_flight 22 = .ok (.iconst 0, 1) := by decide +kernel
theorem dN_flight_23 : decode cN_flight 23 = .ok (.ireturn, 1) := by decide +kernel
theorem dN_sent_0 : decode cN_sent 0 = .ok (.aload_n 0, 1) := by decide +kernel
theorem dN_sent_1 : decode cN_sent 1 = .ok (.iload_n 1, 1) := by decide +kernel
theorem dN_sent_2 : decode cN_sent 2 = .ok (.iload_n 2, 1) := by decide +kernel
theorem dN_sent_3 : decode cN_sent 3 = .ok (.invokevirtual 112, 3) := by decide +kernel
theorem dN_sent_6 : decode cN_sent 6 = .ok (.ifCond .ne 6, 3) := by decide +kernel
theorem dN_sent_9 : decode cN_sent 9 = .ok (.bipush (-4), 2) := by decide +kernel
theorem dN_sent_11 : decode cN_sent 11 = .ok (.ireturn, 1) := by decide +kernel
theorem dN_sent_12 : decode cN_sent 12 = .ok (.iload_n 3, 1) := by decide +kernel
theorem dN_sent_13 : decode cN_sent 13 = .ok (.aload_n 0, 1) := by decide +kernel
theorem dN_sent_14 : decode cN_sent 14 = .ok (.getfield 38, 3) := by decide +kernel
theorem dN_sent_17 : decode cN_sent 17 = .ok (.iconst 3, 1) := by decide +kernel
theorem dN_sent_18 : decode cN_sent 18 = .ok (.iload_n 1, 1) := by decide +kernel
theorem dN_sent_19 : decode cN_sent 19 = .ok (.imul, 1) := by decide +kernel
theorem dN_sent_20 : decode cN_sent 20 = .ok (.iload_n 2, 1) := by decide +kernel
theorem dN_sent_21 : decode cN_sent 21 = .ok (.iadd, 1) := by decide +kernel
theorem dN_sent_22 : decode cN_sent 22 = .ok (.iaload, 1) := by decide +kernel
theorem dN_sent_23 : decode cN_sent 23 = .ok (.invokestatic 73, 3) := by decide +kernel
theorem dN_sent_26 : decode cN_sent 26 = .ok (.ifCond .eq 8, 3) := by decide +kernel
theorem dN_sent_29 : decode cN_sent 29 = .ok (.bipush (-4), 2) := by decide +kernel
theorem dN_sent_31 : decode cN_sent 31 = .ok (.goto 18, 3) := by decide +kernel
theorem dN_sent_34 : decode cN_sent 34 = .ok (.aload_n 0, 1) := by decide +kernel
theorem dN_sent_35 : decode cN_sent 35 = .ok (.getfield 41, 3) := by decide +kernel
theorem dN_sent_38 : decode cN_sent 38 = .ok (.bipush 40, 2) := by decide +kernel
theorem dN_sent_40 : decode cN_sent 40 = .ok (.iconst 3, 1) := by decide +kernel
theorem dN_sent_41 : decode cN_sent 41 = .ok (.iload_n 1, 1) := by decide +kernel
theorem dN_sent_42 : decode cN_sent 42 = .ok (.imul, 1) := by decide +kernel
theorem dN_sent_43 : decode cN_sent 43 = .ok (.iload_n 2, 1) := by decide +kernel
theorem dN_sent_44 : decode cN_sent 44 = .ok (.iadd, 1) := by decide +kernel
theorem dN_sent_45 : decode cN_sent 45 = .ok (.imul, 1) := by decide +kernel
theorem dN_sent_46 : decode cN_sent 46 = .ok (.iload_n 3, 1) := by decide +kernel
theorem dN_sent_47 : decode cN_sent 47 = .ok (.iadd, 1) := by decide +kernel
theorem dN_sent_48 : decode cN_sent 48 = .ok (.iaload, 1) := by decide +kernel
theorem dN_sent_49 : decode cN_sent 49 = .ok (.ireturn, 1) := by decide +kernel
theorem dN_pending_0 : decode cN_pending 0 = .ok (.iload_n 1, 1) := by decide +kernel
theorem dN_pending_1 : decode cN_pending 1 = .ok (.iconst 3, 1) := by decide +kernel
theorem dN_pending_2 : decode cN_pending 2 = .ok (.invokestatic 73, 3) := by decide +kernel
theorem dN_pending_5 : decode cN_pending 5 = .ok (.ifCond .ne 11, 3) := by decide +kernel
theorem dN_pending_8 : decode cN_pending 8 = .ok (.iload_n 2, 1) := by decide +kernel
theorem dN_pending_9 : decode cN_pending 9 = .ok (.iconst 2, 1) := by decide +kernel
theorem dN_pending_10 : decode cN_pending 10 = .ok (.invokestatic 73, 3) := by decide +kernel
theorem dN_pending_13 : decode cN_pending 13 = .ok (.ifCond .eq 7, 3) := by decide +kernel
theorem dN_pending_16 : decode cN_pending 16 = .ok (.iconst (-1), 1) := by decide +kernel
theorem dN_pending_17 : decode cN_pending 17 = .ok (.goto 13, 3) := by decide +kernel
theorem dN_pending_20 : decode cN_pending 20 = .ok (.aload_n 0, 1) := by decide +kernel
theorem dN_pending_21 : decode cN_pending 21 = .ok (.getfield 32, 3) := by decide +kernel
theorem dN_pending_24 : decode cN_pending 24 = .ok (.iconst 2, 1) := by decide +kernel
theorem dN_pending_25 : decode cN_pending 25 = .ok (.iload_n 1, 1) := by decide +kernel
theorem dN_pending_26 : decode cN_pending 26 = .ok (.imul, 1) := by decide +kernel
theorem dN_pending_27 : decode cN_pending 27 = .ok (.iload_n 2, 1) := by decide +kernel
theorem dN_pending_28 : decode cN_pending 28 = .ok (.iadd, 1) := by decide +kernel
theorem dN_pending_29 : decode cN_pending 29 = .ok (.iaload, 1) := by decide +kernel
theorem dN_pending_30 : decode cN_pending 30 = .ok (.ireturn, 1) := by decide +kernel
theorem dN_lacks_0 : decode cN_lacks 0 = .ok (.iload_n 1, 1) := by decide +kernel
theorem dN_lacks_1 : decode cN_lacks 1 = .ok (.iconst 3, 1) := by decide +kernel
theorem dN_lacks_2 : decode cN_lacks 2 = .ok (.invokestatic 73, 3) := by decide +kernel
theorem dN_lacks_5 : decode cN_lacks 5 = .ok (.ifCond .ne 11, 3) := by decide +kernel
theorem dN_lacks_8 : decode cN_lacks 8 = .ok (.iload_n 2, 1) := by decide +kernel
theorem dN_lacks_9 : decode cN_lacks 9 = .ok (.iconst 2, 1) := by decide +kernel
theorem dN_lacks_10 : decode cN_lacks 10 = .ok (.invokestatic 73, 3) := by decide +kernel
theorem dN_lacks_13 : decode cN_lacks 13 = .ok (.ifCond .eq 6, 3) := by decide +kernel
theorem dN_lacks_16 : decode cN_lacks 16 = .ok (.bipush (-4), 2) := by decide +kernel
theorem dN_lacks_18 : decode cN_lacks 18 = .ok (.ireturn, 1) := by decide +kernel
theorem dN_lacks_19 : decode cN_lacks 19 = .ok (.iconst 2, 1) := by decide +kernel
theorem dN_lacks_20 : decode cN_lacks 20 = .ok (.iload_n 1, 1) := by decide +kernel
theorem dN_lacks_21 : decode cN_lacks 21 = .ok (.imul, 1) := by decide +kernel
theorem dN_lacks_22 : decode cN_lacks 22 = .ok (.iload_n 2, 1) := by decide +kernel
theorem dN_lacks_23 : decode cN_lacks 23 = .ok (.iadd, 1) := by decide +kernel
theorem dN_lacks_24 : decode cN_lacks 24 = .ok (.istore 4, 2) := by decide +kernel
theorem dN_lacks_26 : decode cN_lacks 26 = .ok (.iload_n 3, 1) := by decide +kernel
theorem dN_lacks_27 : decode cN_lacks 27 = .ok (.aload_n 0, 1) := by decide +kernel
theorem dN_lacks_28 : decode cN_lacks 28 = .ok (.getfield 32, 3) := by decide +kernel
theorem dN_lacks_31 : decode cN_lacks 31 = .ok (.iload 4, 2) := by decide +kernel
theorem dN_lacks_33 : decode cN_lacks 33 = .ok (.iaload, 1) := by decide +kernel
theorem dN_lacks_34 : decode cN_lacks 34 = .ok (.invokestatic 73, 3) := by decide +kernel
theorem dN_lacks_37 : decode cN_lacks 37 = .ok (.ifCond .eq 8, 3) := by decide +kernel
theorem dN_lacks_40 : decode cN_lacks 40 = .ok (.bipush (-4), 2) := by decide +kernel
theorem dN_lacks_42 : decode cN_lacks 42 = .ok (.goto 20, 3) := by decide +kernel
theorem dN_lacks_45 : decode cN_lacks 45 = .ok (.aload_n 0, 1) := by decide +kernel
theorem dN_lacks_46 : decode cN_lacks 46 = .ok (.iload_n 1, 1) := by decide +kernel
theorem dN_lacks_47 : decode cN_lacks 47 = .ok (.aload_n 0, 1) := by decide +kernel
theorem dN_lacks_48 : decode cN_lacks 48 = .ok (.getfield 35, 3) := by decide +kernel
theorem dN_lacks_51 : decode cN_lacks 51 = .ok (.bipush 40, 2) := by decide +kernel
theorem dN_lacks_53 : decode cN_lacks 53 = .ok (.iload 4, 2) := by decide +kernel
theorem dN_lacks_55 : decode cN_lacks 55 = .ok (.imul, 1) := by decide +kernel
theorem dN_lacks_56 : decode cN_lacks 56 = .ok (.iload_n 3, 1) := by decide +kernel
theorem dN_lacks_57 : decode cN_lacks 57 = .ok (.iadd, 1) := by decide +kernel
theorem dN_lacks_58 : decode cN_lacks 58 = .ok (.iaload, 1) := by decide +kernel
theorem dN_lacks_59 : decode cN_lacks 59 = .ok (.invokevirtual 115, 3) := by decide +kernel
theorem dN_lacks_62 : decode cN_lacks 62 = .ok (.ireturn, 1) := by decide +kernel
theorem dN_latest_0 : decode cN_latest 0 = .ok (.iload_n 1, 1) := by decide +kernel
theorem dN_latest_1 : decode cN_latest 1 = .ok (.iconst 3, 1) := by decide +kernel
theorem dN_latest_2 : decode cN_latest 2 = .ok (.invokestatic 73, 3) := by decide +kernel
theorem dN_latest_5 : decode cN_latest 5 = .ok (.ifCond .ne 12, 3) := by decide +kernel
theorem dN_latest_8 : decode cN_latest 8 = .ok (.iload_n 2, 1) := by decide +kernel
theorem dN_latest_9 : decode cN_latest 9 = .ok (.bipush 6, 2) := by decide +kernel
theorem dN_latest_11 : decode cN_latest 11 = .ok (.invokestatic 73, 3) := by decide +kernel
theorem dN_latest_14 : decode cN_latest 14 = .ok (.ifCond .eq 5, 3) := by decide +kernel
theorem dN_latest_17 : decode cN_latest 17 = .ok (.iconst (-1), 1) := by decide +kernel
theorem dN_latest_18 : decode cN_latest 18 = .ok (.ireturn, 1) := by decide +kernel
theorem dN_latest_19 : decode cN_latest 19 = .ok (.aload_n 0, 1) := by decide +kernel
theorem dN_latest_20 : decode cN_latest 20 = .ok (.iload_n 1, 1) := by decide +kernel
theorem dN_latest_21 : decode cN_latest 21 = .ok (.iload_n 2, 1) := by decide +kernel
theorem dN_latest_22 : decode cN_latest 22 = .ok (.invokevirtual 93, 3) := by decide +kernel
theorem dN_latest_25 : decode cN_latest 25 = .ok (.istore_n 3, 1) := by decide +kernel
theorem dN_latest_26 : decode cN_latest 26 = .ok (.iload_n 3, 1) := by decide +kernel
theorem dN_latest_27 : decode cN_latest 27 = .ok (.ifCond .ne 8, 3) := by decide +kernel
theorem dN_latest_30 : decode cN_latest 30 = .ok (.bipush (-4), 2) := by decide +kernel
theorem dN_latest_32 : decode cN_latest 32 = .ok (.goto 6, 3) := by decide +kernel
theorem dN_latest_35 : decode cN_latest 35 = .ok (.iload_n 3, 1) := by decide +kernel
theorem dN_latest_36 : decode cN_latest 36 = .ok (.iconst 1, 1) := by decide +kernel
theorem dN_latest_37 : decode cN_latest 37 = .ok (.isub, 1) := by decide +kernel
theorem dN_latest_38 : decode cN_latest 38 = .ok (.ireturn, 1) := by decide +kernel
theorem dN_visible_0 : decode cN_visible 0 = .ok (.iload_n 1, 1) := by decide +kernel
theorem dN_visible_1 : decode cN_visible 1 = .ok (.iconst 3, 1) := by decide +kernel
theorem dN_visible_2 : decode cN_visible 2 = .ok (.invokestatic 73, 3) := by decide +kernel
theorem dN_visible_5 : decode cN_visible 5 = .ok (.ifCond .ne 32, 3) := by decide +kernel
theorem dN_visible_8 : decode cN_visible 8 = .ok (.iload_n 2, 1) := by decide +kernel
theorem dN_visible_9 : decode cN_visible 9 = .ok (.aload_n 0, 1) := by decide +kernel
theorem dN_visible_10 : decode cN_visible 10 = .ok (.getfield 65, 3) := by decide +kernel
theorem dN_visible_13 : decode cN_visible 13 = .ok (.invokestatic 73, 3) := by decide +kernel
theorem dN_visible_16 : decode cN_visible 16 = .ok (.ifCond .ne 21, 3) := by decide +kernel
theorem dN_visible_19 : decode cN_visible 19 = .ok (.aload_n 0, 1) := by decide +kernel
theorem dN_visible_20 : decode cN_visible 20 = .ok (.getfield 25, 3) := by decide +kernel
theorem dN_visible_23 : decode cN_visible 23 = .ok (.bipush 40, 2) := by decide +kernel
theorem dN_visible_25 : decode cN_visible 25 = .ok (.iload_n 1, 1) := by decide +kernel
theorem dN_visible_26 : decode cN_visible 26 = .ok (.imul, 1) := by decide +kernel
theorem dN_visible_27 : decode cN_visible 27 = .ok (.iload_n 2, 1) := by decide +kernel
theorem dN_visible_28 : decode cN_visible 28 = .ok (.iadd, 1) := by decide +kernel
theorem dN_visible_29 : decode cN_visible 29 = .ok (.baload, 1) := by decide +kernel
theorem dN_visible_30 : decode cN_visible 30 = .ok (.ifCond .eq 7, 3) := by decide +kernel
theorem dN_visible_33 : decode cN_visible 33 = .ok (.iconst 1, 1) := by decide +kernel
theorem dN_visible_34 : decode cN_visible 34 = .ok (.goto 4, 3) := by decide +kernel
theorem dN_visible_37 : decode cN_visible 37 = .ok (.iconst 0, 1) := by decide +kernel
theorem dN_visible_38 : decode cN_visible 38 = .ok (.ireturn, 1) := by decide +kernel
theorem dN_clock_0 : decode cN_clock 0 = .ok (.iload_n 1, 1) := by decide +kernel
theorem dN_clock_1 : decode cN_clock 1 = .ok (.iconst 3, 1) := by decide +kernel
theorem dN_clock_2 : decode cN_clock 2 = .ok (.invokestatic 73, 3) := by decide +kernel
theorem dN_clock_5 : decode cN_clock 5 = .ok (.ifCond .ne 11, 3) := by decide +kernel
theorem dN_clock_8 : decode cN_clock 8 = .ok (.iload_n 2, 1) := by decide +kernel
theorem dN_clock_9 : decode cN_clock 9 = .ok (.iconst 2, 1) := by decide +kernel
theorem dN_clock_10 : decode cN_clock 10 = .ok (.invokestatic 73, 3) := by decide +kernel
theorem dN_clock_13 : decode cN_clock 13 = .ok (.ifCond .eq 7, 3) := by decide +kernel
theorem dN_clock_16 : decode cN_clock 16 = .ok (.iconst (-1), 1) := by decide +kernel
theorem dN_clock_17 : decode cN_clock 17 = .ok (.goto 13, 3) := by decide +kernel
theorem dN_clock_20 : decode cN_clock 20 = .ok (.aload_n 0, 1) := by decide +kernel
theorem dN_clock_21 : decode cN_clock 21 = .ok (.getfield 29, 3) := by decide +kernel
theorem dN_clock_24 : decode cN_clock 24 = .ok (.iconst 2, 1) := by decide +kernel
theorem dN_clock_25 : decode cN_clock 25 = .ok (.iload_n 1, 1) := by decide +kernel
theorem dN_clock_26 : decode cN_clock 26 = .ok (.imul, 1) := by decide +kernel
theorem dN_clock_27 : decode cN_clock 27 = .ok (.iload_n 2, 1) := by decide +kernel
theorem dN_clock_28 : decode cN_clock 28 = .ok (.iadd, 1) := by decide +kernel
theorem dN_clock_29 : decode cN_clock 29 = .ok (.iaload, 1) := by decide +kernel
theorem dN_clock_30 : decode cN_clock 30 = .ok (.ireturn, 1) := by decide +kernel
theorem dN_context_0 : decode cN_context 0 = .ok (.iload_n 1, 1) := by decide +kernel
theorem dN_context_1 : decode cN_context 1 = .ok (.bipush 6, 2) := by decide +kernel
theorem dN_context_3 : decode cN_context 3 = .ok (.invokestatic 73, 3) := by decide +kernel
theorem dN_context_6 : decode cN_context 6 = .ok (.ifCond .ne 12, 3) := by decide +kernel
theorem dN_context_9 : decode cN_context 9 = .ok (.iload_n 2, 1) := by decide +kernel
theorem dN_context_10 : decode cN_context 10 = .ok (.bipush 6, 2) := by decide +kernel
theorem dN_context_12 : decode cN_context 12 = .ok (.invokestatic 73, 3) := by decide +kernel
theorem dN_context_15 : decode cN_context 15 = .ok (.ifCond .eq 5, 3) := by decide +kernel
theorem dN_context_18 : decode cN_context 18 = .ok (.iconst (-1), 1) := by decide +kernel
theorem dN_context_19 : decode cN_context 19 = .ok (.ireturn, 1) := by decide +kernel
theorem dN_context_20 : decode cN_context 20 = .ok (.aload_n 0, 1) := by decide +kernel
theorem dN_context_21 : decode cN_context 21 = .ok (.getfield 44, 3) := by decide +kernel
theorem dN_context_24 : decode cN_context 24 = .ok (.bipush 6, 2) := by decide +kernel
theorem dN_context_26 : decode cN_context 26 = .ok (.iload_n 1, 1) := by decide +kernel
theorem dN_context_27 : decode cN_context 27 = .ok (.imul, 1) := by decide +kernel
theorem dN_context_28 : decode cN_context 28 = .ok (.iload_n 2, 1) := by decide +kernel
theorem dN_context_29 : decode cN_context 29 = .ok (.iadd, 1) := by decide +kernel
theorem dN_context_30 : decode cN_context 30 = .ok (.iaload, 1) := by decide +kernel
theorem dN_context_31 : decode cN_context 31 = .ok (.ifCond .ne 8, 3) := by decide +kernel
theorem dN_context_34 : decode cN_context 34 = .ok (.bipush (-4), 2) := by decide +kernel
theorem dN_context_36 : decode cN_context 36 = .ok (.goto 16, 3) := by decide +kernel
theorem dN_context_39 : decode cN_context 39 = .ok (.aload_n 0, 1) := by decide +kernel
theorem dN_context_40 : decode cN_context 40 = .ok (.getfield 44, 3) := by decide +kernel
theorem dN_context_43 : decode cN_context 43 = .ok (.bipush 6, 2) := by decide +kernel
theorem dN_context_45 : decode cN_context 45 = .ok (.iload_n 1, 1) := by decide +kernel
theorem dN_context_46 : decode cN_context 46 = .ok (.imul, 1) := by decide +kernel
theorem dN_context_47 : decode cN_context 47 = .ok (.iload_n 2, 1) := by decide +kernel
theorem dN_context_48 : decode cN_context 48 = .ok (.iadd, 1) := by decide +kernel
theorem dN_context_49 : decode cN_context 49 = .ok (.iaload, 1) := by decide +kernel
theorem dN_context_50 : decode cN_context 50 = .ok (.iconst 1, 1) := by decide +kernel
theorem dN_context_51 : decode cN_context 51 = .ok (.isub, 1) := by decide +kernel
theorem dN_context_52 : decode cN_context 52 = .ok (.ireturn, 1) := by decide +kernel
theorem dN_nearest_0 : decode cN_nearest 0 = .ok (.iload_n 1, 1) := by decide +kernel
theorem dN_nearest_1 : decode cN_nearest 1 = .ok (.bipush 6, 2) := by decide +kernel
theorem dN_nearest_3 : decode cN_nearest 3 = .ok (.invokestatic 73, 3) := by decide +kernel
theorem dN_nearest_6 : decode cN_nearest 6 = .ok (.ifCond .eq 7, 3) := by decide +kernel
theorem dN_nearest_9 : decode cN_nearest 9 = .ok (.iconst (-1), 1) := by decide +kernel
theorem dN_nearest_10 : decode cN_nearest 10 = .ok (.goto 8, 3) := by decide +kernel
theorem dN_nearest_13 : decode cN_nearest 13 = .ok (.aload_n 0, 1) := by decide +kernel
theorem dN_nearest_14 : decode cN_nearest 14 = .ok (.iload_n 1, 1) := by decide +kernel
theorem dN_nearest_15 : decode cN_nearest 15 = .ok (.invokevirtual 81, 3) := by decide +kernel
theorem dN_nearest_18 : decode cN_nearest 18 = .ok (.ireturn, 1) := by decide +kernel
theorem dN_about_0 : decode cN_about 0 = .ok (.iload_n 1, 1) := by decide +kernel
theorem dN_about_1 : decode cN_about 1 = .ok (.aload_n 0, 1) := by decide +kernel
theorem dN_about_2 : decode cN_about 2 = .ok (.getfield 65, 3) := by decide +kernel
theorem dN_about_5 : decode cN_about 5 = .ok (.invokestatic 73, 3) := by decide +kernel
theorem dN_about_8 : decode cN_about 8 = .ok (.ifCond .eq 5, 3) := by decide +kernel
theorem dN_about_11 : decode cN_about 11 = .ok (.iconst 0, 1) := by decide +kernel
theorem dN_about_12 : decode cN_about 12 = .ok (.ireturn, 1) := by decide +kernel
theorem dN_about_13 : decode cN_about 13 = .ok (.iload_n 2, 1) := by decide +kernel
theorem dN_about_14 : decode cN_about 14 = .ok (.tableswitch 58 0 3 #[30, 37, 44, 51], 30) := by decide +kernel
theorem dN_about_44 : decode cN_about 44 = .ok (.aload_n 0, 1) := by decide +kernel
theorem dN_about_45 : decode cN_about 45 = .ok (.getfield 7, 3) := by decide +kernel
theorem dN_about_48 : decode cN_about 48 = .ok (.iload_n 1, 1) := by decide +kernel
theorem dN_about_49 : decode cN_about 49 = .ok (.iaload, 1) := by decide +kernel
theorem dN_about_50 : decode cN_about 50 = .ok (.ireturn, 1) := by decide +kernel
theorem dN_about_51 : decode cN_about 51 = .ok (.aload_n 0, 1) := by decide +kernel
theorem dN_about_52 : decode cN_about 52 = .ok (.getfield 16, 3) := by decide +kernel
theorem dN_about_55 : decode cN_about 55 = .ok (.iload_n 1, 1) := by decide +kernel
theorem dN_about_56 : decode cN_about 56 = .ok (.iaload, 1) := by decide +kernel
theorem dN_about_57 : decode cN_about 57 = .ok (.ireturn, 1) := by decide +kernel
theorem dN_about_58 : decode cN_about 58 = .ok (.aload_n 0, 1) := by decide +kernel
theorem dN_about_59 : decode cN_about 59 = .ok (.getfield 13, 3) := by decide +kernel
theorem dN_about_62 : decode cN_about 62 = .ok (.iload_n 1, 1) := by decide +kernel
theorem dN_about_63 : decode cN_about 63 = .ok (.iaload, 1) := by decide +kernel
theorem dN_about_64 : decode cN_about 64 = .ok (.ireturn, 1) := by decide +kernel
theorem dN_about_65 : decode cN_about 65 = .ok (.aload_n 0, 1) := by decide +kernel
theorem dN_about_66 : decode cN_about 66 = .ok (.getfield 22, 3) := by decide +kernel
theorem dN_about_69 : decode cN_about 69 = .ok (.iload_n 1, 1) := by decide +kernel
theorem dN_about_70 : decode cN_about 70 = .ok (.iaload, 1) := by decide +kernel
theorem dN_about_71 : decode cN_about 71 = .ok (.ireturn, 1) := by decide +kernel
theorem dN_about_72 : decode cN_about 72 = .ok (.iconst 0, 1) := by decide +kernel
theorem dN_about_73 : decode cN_about 73 = .ok (.ireturn, 1) := by decide +kernel
theorem dN_dependency_0 : decode cN_dependency 0 = .ok (.iload_n 1, 1) := by decide +kernel
theorem dN_dependency_1 : decode cN_dependency 1 = .ok (.aload_n 0, 1) := by decide +kernel
theorem dN_dependency_2 : decode cN_dependency 2 = .ok (.getfield 65, 3) := by decide +kernel
theorem dN_dependency_5 : decode cN_dependency 5 = .ok (.invokestatic 73, 3) := by decide +kernel
theorem dN_dependency_8 : decode cN_dependency 8 = .ok (.ifCond .ne 12, 3) := by decide +kernel
theorem dN_dependency_11 : decode cN_dependency 11 = .ok (.iload_n 2, 1) := by decide +kernel
theorem dN_dependency_12 : decode cN_dependency 12 = .ok (.bipush 6, 2) := by decide +kernel
theorem dN_dependency_14 : decode cN_dependency 14 = .ok (.invokestatic 73, 3) := by decide +kernel
theorem dN_dependency_17 : decode cN_dependency 17 = .ok (.ifCond .eq 5, 3) := by decide +kernel
theorem dN_dependency_20 : decode cN_dependency 20 = .ok (.iconst (-1), 1) := by decide +kernel
theorem dN_dependency_21 : decode cN_dependency 21 = .ok (.ireturn, 1) := by decide +kernel
theorem dN_dependency_22 : decode cN_dependency 22 = .ok (.aload_n 0, 1) := by decide +kernel
theorem dN_dependency_23 : decode cN_dependency 23 = .ok (.getfield 19, 3) := by decide +kernel
theorem dN_dependency_26 : decode cN_dependency 26 = .ok (.bipush 6, 2) := by decide +kernel
theorem dN_dependency_28 : decode cN_dependency 28 = .ok (.iload_n 1, 1) := by decide +kernel
theorem dN_dependency_29 : decode cN_dependency 29 = .ok (.imul, 1) := by decide +kernel
theorem dN_dependency_30 : decode cN_dependency 30 = .ok (.iload_n 2, 1) := by decide +kernel
theorem dN_dependency_31 : decode cN_dependency 31 = .ok (.iadd, 1) := by decide +kernel
theorem dN_dependency_32 : decode cN_dependency 32 = .ok (.iaload, 1) := by decide +kernel
theorem dN_dependency_33 : decode cN_dependency 33 = .ok (.ifCond .ne 8, 3) := by decide +kernel
theorem dN_dependency_36 : decode cN_dependency 36 = .ok (.bipush (-4), 2) := by decide +kernel
theorem dN_dependency_38 : decode cN_dependency 38 = .ok (.goto 16, 3) := by decide +kernel
theorem dN_dependency_41 : decode cN_dependency 41 = .ok (.aload_n 0, 1) := by decide +kernel
theorem dN_dependency_42 : decode cN_dependency 42 = .ok (.getfield 19, 3) := by decide +kernel
theorem dN_dependency_45 : decode cN_dependency 45 = .ok (.bipush 6, 2) := by decide +kernel
theorem dN_dependency_47 : decode cN_dependency 47 = .ok (.iload_n 1, 1) := by decide +kernel
theorem dN_dependency_48 : decode cN_dependency 48 = .ok (.imul, 1) := by decide +kernel
theorem dN_dependency_49 : decode cN_dependency 49 = .ok (.iload_n 2, 1) := by decide +kernel
theorem dN_dependency_50 : decode cN_dependency 50 = .ok (.iadd, 1) := by decide +kernel
theorem dN_dependency_51 : decode cN_dependency 51 = .ok (.iaload, 1) := by decide +kernel
theorem dN_dependency_52 : decode cN_dependency 52 = .ok (.iconst 1, 1) := by decide +kernel
theorem dN_dependency_53 : decode cN_dependency 53 = .ok (.isub, 1) := by decide +kernel
theorem dN_dependency_54 : decode cN_dependency 54 = .ok (.ireturn, 1) := by decide +kernel
end
section
theorem dL_law_0 : decode cL_law 0 = .ok (.new 7, 3) := by decide +kernel
theorem dL_law_3 : decode cL_law 3 = .ok (.dup, 1) := by decide +kernel
theorem dL_law_4 : decode cL_law 4 = .ok (.invokespecial 9, 3) := by decide +kernel
theorem dL_law_7 : decode cL_law 7 = .ok (.astore_n 1, 1) := by decide +kernel
theorem dL_law_8 : decode cL_law 8 = .ok (.new 10, 3) := by decide +kernel
theorem dL_law_11 : decode cL_law 11 = .ok (.dup, 1) := by decide +kernel
theorem dL_law_12 : decode cL_law 12 = .ok (.invokespecial 12, 3) := by decide +kernel
theorem dL_law_15 : decode cL_law 15 = .ok (.astore_n 2, 1) := by decide +kernel
theorem dL_law_16 : decode cL_law 16 = .ok (.iconst 0, 1) := by decide +kernel
theorem dL_law_17 : decode cL_law 17 = .ok (.istore_n 3, 1) := by decide +kernel
theorem dL_law_18 : decode cL_law 18 = .ok (.iload_n 3, 1) := by decide +kernel
theorem dL_law_19 : decode cL_law 19 = .ok (.aload_n 0, 1) := by decide +kernel
theorem dL_law_20 : decode cL_law 20 = .ok (.arraylength, 1) := by decide +kernel
theorem dL_law_21 : decode cL_law 21 = .ok (.iconst 4, 1) := by decide +kernel
theorem dL_law_22 : decode cL_law 22 = .ok (.isub, 1) := by decide +kernel
theorem dL_law_23 : decode cL_law 23 = .ok (.if_icmp .gt 744, 3) := by decide +kernel
theorem dL_law_26 : decode cL_law 26 = .ok (.aload_n 0, 1) := by decide +kernel
theorem dL_law_27 : decode cL_law 27 = .ok (.iload_n 3, 1) := by decide +kernel
theorem dL_law_28 : decode cL_law 28 = .ok (.iaload, 1) := by decide +kernel
theorem dL_law_29 : decode cL_law 29 = .ok (.bipush 31, 2) := by decide +kernel
theorem dL_law_31 : decode cL_law 31 = .ok (.iand, 1) := by decide +kernel
theorem dL_law_32 : decode cL_law 32 = .ok (.tableswitch 729 0 18 #[92, 135, 168, 201, 224, 257, 280, 323, 356, 389, 432, 465, 508, 541, 574, 607, 640, 663, 696], 92) := by decide +kernel
theorem dL_law_124 : decode cL_law 124 = .ok (.aload_n 1, 1) := by decide +kernel
theorem dL_law_125 : decode cL_law 125 = .ok (.aload_n 0, 1) := by decide +kernel
theorem dL_law_126 : decode cL_law 126 = .ok (.iload_n 3, 1) := by decide +kernel
theorem dL_law_127 : decode cL_law 127 = .ok (.iconst 1, 1) := by decide +kernel
theorem dL_law_128 : decode cL_law 128 = .ok (.iadd, 1) := by decide +kernel
theorem dL_law_129 : decode cL_law 129 = .ok (.iaload, 1) := by decide +kernel
theorem dL_law_130 : decode cL_law 130 = .ok (.aload_n 0, 1) := by decide +kernel
theorem dL_law_131 : decode cL_law 131 = .ok (.iload_n 3, 1) := by decide +kernel
theorem dL_law_132 : decode cL_law 132 = .ok (.iconst 2, 1) := by decide +kernel
theorem dL_law_133 : decode cL_law 133 = .ok (.iadd, 1) := by decide +kernel
theorem dL_law_134 : decode cL_law 134 = .ok (.iaload, 1) := by decide +kernel
theorem dL_law_135 : decode cL_law 135 = .ok (.aload_n 0, 1) := by decide +kernel
theorem dL_law_136 : decode cL_law 136 = .ok (.iload_n 3, 1) := by decide +kernel
theorem dL_law_137 : decode cL_law 137 = .ok (.iconst 3, 1) := by decide +kernel
theorem dL_law_138 : decode cL_law 138 = .ok (.iadd, 1) := by decide +kernel
theorem dL_law_139 : decode cL_law 139 = .ok (.iaload, 1) := by decide +kernel
theorem dL_law_140 : decode cL_law 140 = .ok (.invokevirtual 13, 3) := by decide +kernel
theorem dL_law_143 : decode cL_law 143 = .ok (.aload_n 2, 1) := by decide +kernel
theorem dL_law_144 : decode cL_law 144 = .ok (.aload_n 0, 1) := by decide +kernel
theorem dL_law_145 : decode cL_law 145 = .ok (.iload_n 3, 1) := by decide +kernel
theorem dL_law_146 : decode cL_law 146 = .ok (.iconst 1, 1) := by decide +kernel
theorem dL_law_147 : decode cL_law 147 = .ok (.iadd, 1) := by decide +kernel
theorem dL_law_148 : decode cL_law 148 = .ok (.iaload, 1) := by decide +kernel
theorem dL_law_149 : decode cL_law 149 = .ok (.aload_n 0, 1) := by decide +kernel
theorem dL_law_150 : decode cL_law 150 = .ok (.iload_n 3, 1) := by decide +kernel
theorem dL_law_151 : decode cL_law 151 = .ok (.iconst 2, 1) := by decide +kernel
theorem dL_law_152 : decode cL_law 152 = .ok (.iadd, 1) := by decide +kernel
theorem dL_law_153 : decode cL_law 153 = .ok (.iaload, 1) := by decide +kernel
theorem dL_law_154 : decode cL_law 154 = .ok (.aload_n 0, 1) := by decide +kernel
theorem dL_law_155 : decode cL_law 155 = .ok (.iload_n 3, 1) := by decide +kernel
theorem dL_law_156 : decode cL_law 156 = .ok (.iconst 3, 1) := by decide +kernel
theorem dL_law_157 : decode cL_law 157 = .ok (.iadd, 1) := by decide +kernel
theorem dL_law_158 : decode cL_law 158 = .ok (.iaload, 1) := by decide +kernel
theorem dL_law_159 : decode cL_law 159 = .ok (.invokevirtual 17, 3) := by decide +kernel
theorem dL_law_162 : decode cL_law 162 = .ok (.if_icmp .eq 599, 3) := by decide +kernel
theorem dL_law_165 : decode cL_law 165 = .ok (.iconst 0, 1) := by decide +kernel
theorem dL_law_166 : decode cL_law 166 = .ok (.ireturn, 1) := by decide +kernel
theorem dL_law_167 : decode cL_law 167 = .ok (.aload_n 1, 1) := by decide +kernel
theorem dL_law_168 : decode cL_law 168 = .ok (.aload_n 0, 1) := by decide +kernel
theorem dL_law_169 : decode cL_law 169 = .ok (.iload_n 3, 1) := by decide +kernel
theorem dL_law_170 : decode cL_law 170 = .ok (.iconst 1, 1) := by decide +kernel
theorem dL_law_171 : decode cL_law 171 = .ok (.iadd, 1) := by decide +kernel
theorem dL_law_172 : decode cL_law 172 = .ok (.iaload, 1) := by decide +kernel
theorem dL_law_173 : decode cL_law 173 = .ok (.aload_n 0, 1) := by decide +kernel
theorem dL_law_174 : decode cL_law 174 = .ok (.iload_n 3, 1) := by decide +kernel
theorem dL_law_175 : decode cL_law 175 = .ok (.iconst 2, 1) := by decide +kernel
theorem dL_law_176 : decode cL_law 176 = .ok (.iadd, 1) := by decide +kernel
theorem dL_law_177 : decode cL_law 177 = .ok (.iaload, 1) := by decide +kernel
theorem dL_law_178 : decode cL_law 178 = .ok (.invokevirtual 18, 3) := by decide +kernel
theorem dL_law_181 : decode cL_law 181 = .ok (.aload_n 2, 1) := by decide +kernel
theorem dL_law_182 : decode cL_law 182 = .ok (.aload_n 0, 1) := by decide +kernel
theorem dL_law_183 : decode cL_law 183 = .ok (.iload_n 3, 1) := by decide +kernel
theorem dL_law_184 : decode cL_law 184 = .ok (.iconst 1, 1) := by decide +kernel
theorem dL_law_185 : decode cL_law 185 = .ok (.iadd, 1) := by decide +kernel
theorem dL_law_186 : decode cL_law 186 = .ok (.iaload, 1) := by decide +kernel
theorem dL_law_187 : decode cL_law 187 = .ok (.aload_n 0, 1) := by decide +kernel
theorem dL_law_188 : decode cL_law 188 = .ok (.iload_n 3, 1) := by decide +kernel
theorem dL_law_189 : decode cL_law 189 = .ok (.iconst 2, 1) := by decide +kernel
theorem dL_law_190 : decode cL_law 190 = .ok (.iadd, 1) := by decide +kernel
theorem dL_law_191 : decode cL_law 191 = .ok (.iaload, 1) := by decide +kernel
theorem dL_law_192 : decode cL_law 192 = .ok (.invokevirtual 22, 3) := by decide +kernel
theorem dL_law_195 : decode cL_law 195 = .ok (.if_icmp .eq 566, 3) := by decide +kernel
theorem dL_law_198 : decode cL_law 198 = .ok (.iconst 0, 1) := by decide +kernel
theorem dL_law_199 : decode cL_law 199 = .ok (.ireturn, 1) := by decide +kernel
theorem dL_law_200 : decode cL_law 200 = .ok (.aload_n 1, 1) := by decide +kernel
theorem dL_law_201 : decode cL_law 201 = .ok (.aload_n 0, 1) := by decide +kernel
theorem dL_law_202 : decode cL_law 202 = .ok (.iload_n 3, 1) := by decide +kernel
theorem dL_law_203 : decode cL_law 203 = .ok (.iconst 1, 1) := by decide +kernel
theorem dL_law_204 : decode cL_law 204 = .ok (.iadd, 1) := by decide +kernel
theorem dL_law_205 : decode cL_law 205 = .ok (.iaload, 1) := by decide +kernel
theorem dL_law_206 : decode cL_law 206 = .ok (.aload_n 0, 1) := by decide +kernel
theorem dL_law_207 : decode cL_law 207 = .ok (.iload_n 3, 1) := by decide +kernel
theorem dL_law_208 : decode cL_law 208 = .ok (.iconst 2, 1) := by decide +kernel
theorem dL_law_209 : decode cL_law 209 = .ok (.iadd, 1) := by decide +kernel
theorem dL_law_210 : decode cL_law 210 = .ok (.iaload, 1) := by decide +kernel
theorem dL_law_211 : decode cL_law 211 = .ok (.invokevirtual 23, 3) := by decide +kernel
theorem dL_law_214 : decode cL_law 214 = .ok (.aload_n 2, 1) := by decide +kernel
theorem dL_law_215 : decode cL_law 215 = .ok (.aload_n 0, 1) := by decide +kernel
theorem dL_law_216 : decode cL_law 216 = .ok (.iload_n 3, 1) := by decide +kernel
theorem dL_law_217 : decode cL_law 217 = .ok (.iconst 1, 1) := by decide +kernel
theorem dL_law_218 : decode cL_law 218 = .ok (.iadd, 1) := by decide +kernel
theorem dL_law_219 : decode cL_law 219 = .ok (.iaload, 1) := by decide +kernel
theorem dL_law_220 : decode cL_law 220 = .ok (.aload_n 0, 1) := by decide +kernel
theorem dL_law_221 : decode cL_law 221 = .ok (.iload_n 3, 1) := by decide +kernel
theorem dL_law_222 : decode cL_law 222 = .ok (.iconst 2, 1) := by decide +kernel
theorem dL_law_223 : decode cL_law 223 = .ok (.iadd, 1) := by decide +kernel
theorem dL_law_224 : decode cL_law 224 = .ok (.iaload, 1) := by decide +kernel
theorem dL_law_225 : decode cL_law 225 = .ok (.invokevirtual 27, 3) := by decide +kernel
theorem dL_law_228 : decode cL_law 228 = .ok (.if_icmp .eq 533, 3) := by decide +kernel
theorem dL_law_231 : decode cL_law 231 = .ok (.iconst 0, 1) := by decide +kernel
theorem dL_law_232 : decode cL_law 232 = .ok (.ireturn, 1) := by decide +kernel
theorem dL_law_233 : decode cL_law 233 = .ok (.aload_n 1, 1) := by decide +kernel
theorem dL_law_234 : decode cL_law 234 = .ok (.aload_n 0, 1) := by decide +kernel
theorem dL_law_235 : decode cL_law 235 = .ok (.iload_n 3, 1) := by decide +kernel
theorem dL_law_236 : decode cL_law 236 = .ok (.iconst 1, 1) := by decide +kernel
theorem dL_law_237 : decode cL_law 237 = .ok (.iadd, 1) := by decide +kernel
theorem dL_law_238 : decode cL_law 238 = .ok (.iaload, 1) := by decide +kernel
theorem dL_law_239 : decode cL_law 239 = .ok (.invokevirtual 28, 3) := by decide +kernel
theorem dL_law_242 : decode cL_law 242 = .ok (.aload_n 2, 1) := by decide +kernel
theorem dL_law_243 : decode cL_law 243 = .ok (.aload_n 0, 1) := by decide +kernel
theorem dL_law_244 : decode cL_law 244 = .ok (.iload_n 3, 1) := by decide +kernel
theorem dL_law_245 : decode cL_law 245 = .ok (.iconst 1, 1) := by decide +kernel
theorem dL_law_246 : decode cL_law 246 = .ok (.iadd, 1) := by decide +kernel
theorem dL_law_247 : decode cL_law 247 = .ok (.iaload, 1) := by decide +kernel
theorem dL_law_248 : decode cL_law 248 = .ok (.invokevirtual 32, 3) := by decide +kernel
theorem dL_law_251 : decode cL_law 251 = .ok (.if_icmp .eq 510, 3) := by decide +kernel
theorem dL_law_254 : decode cL_law 254 = .ok (.iconst 0, 1) := by decide +kernel
theorem dL_law_255 : decode cL_law 255 = .ok (.ireturn, 1) := by decide +kernel
theorem dL_law_256 : decode cL_law 256 = .ok (.aload_n 1, 1) := by decide +kernel
theorem dL_law_257 : decode cL_law 257 = .ok (.aload_n 0, 1) := by decide +kernel
theorem dL_law_258 : decode cL_law 258 = .ok (.iload_n 3, 1) := by decide +kernel
theorem dL_law_259 : decode cL_law 259 = .ok (.iconst 1, 1) := by decide +kernel
theorem dL_law_260 : decode cL_law 260 = .ok (.iadd, 1) := by decide +kernel
theorem dL_law_261 : decode cL_law 261 = .ok (.iaload, 1) := by decide +kernel
theorem dL_law_262 : decode cL_law 262 = .ok (.aload_n 0, 1) := by decide +kernel
theorem dL_law_263 : decode cL_law 263 = .ok (.iload_n 3, 1) := by decide +kernel
theorem dL_law_264 : decode cL_law 264 = .ok (.iconst 2, 1) := by decide +kernel
theorem dL_law_265 : decode cL_law 265 = .ok (.iadd, 1) := by decide +kernel
theorem dL_law_266 : decode cL_law 266 = .ok (.iaload, 1) := by decide +kernel
theorem dL_law_267 : decode cL_law 267 = .ok (.invokevirtual 33, 3) := by decide +kernel
theorem dL_law_270 : decode cL_law 270 = .ok (.aload_n 2, 1) := by decide +kernel
theorem dL_law_271 : decode cL_law 271 = .ok (.aload_n 0, 1) := by decide +kernel
theorem dL_law_272 : decode cL_law 272 = .ok (.iload_n 3, 1) := by decide +kernel
theorem dL_law_273 : decode cL_law 273 = .ok (.iconst 1, 1) := by decide +kernel
theorem dL_law_274 : decode cL_law 274 = .ok (.iadd, 1) := by decide +kernel
theorem dL_law_275 : decode cL_law 275 = .ok (.iaload, 1) := by decide +kernel
theorem dL_law_276 : decode cL_law 276 = .ok (.aload_n 0, 1) := by decide +kernel
theorem dL_law_277 : decode cL_law 277 = .ok (.iload_n 3, 1) := by decide +kernel
theorem dL_law_278 : decode cL_law 278 = .ok (.iconst 2, 1) := by decide +kernel
theorem dL_law_279 : decode cL_law 279 = .ok (.iadd, 1) := by decide +kernel
theorem dL_law_280 : decode cL_law 280 = .ok (.iaload, 1) := by decide +kernel
theorem dL_law_281 : decode cL_law 281 = .ok (.invokevirtual 36, 3) := by decide +kernel
theorem dL_law_284 : decode cL_law 284 = .ok (.if_icmp .eq 477, 3) := by decide +kernel
theorem dL_law_287 : decode cL_law 287 = .ok (.iconst 0, 1) := by decide +kernel
theorem dL_law_288 : decode cL_law 288 = .ok (.ireturn, 1) := by decide +kernel
theorem dL_law_289 : decode cL_law 289 = .ok (.aload_n 1, 1) := by decide +kernel
theorem dL_law_290 : decode cL_law 290 = .ok (.aload_n 0, 1) := by decide +kernel
theorem dL_law_291 : decode cL_law 291 = .ok (.iload_n 3, 1) := by decide +kernel
theorem dL_law_292 : decode cL_law 292 = .ok (.iconst 1, 1) := by decide +kernel
theorem dL_law_293 : decode cL_law 293 = .ok (.iadd, 1) := by decide +kernel
theorem dL_law_294 : decode cL_law 294 = .ok (.iaload, 1) := by decide +kernel
theorem dL_law_295 : decode cL_law 295 = .ok (.invokevirtual 37, 3) := by decide +kernel
theorem dL_law_298 : decode cL_law 298 = .ok (.aload_n 2, 1) := by decide +kernel
theorem dL_law_299 : decode cL_law 299 = .ok (.aload_n 0, 1) := by decide +kernel
theorem dL_law_300 : decode cL_law 300 = .ok (.iload_n 3, 1) := by decide +kernel
theorem dL_law_301 : decode cL_law 301 = .ok (.iconst 1, 1) := by decide +kernel
theorem dL_law_302 : decode cL_law 302 = .ok (.iadd, 1) := by decide +kernel
theorem dL_law_303 : decode cL_law 303 = .ok (.iaload, 1) := by decide +kernel
theorem dL_law_304 : decode cL_law 304 = .ok (.invokevirtual 40, 3) := by decide +kernel
theorem dL_law_307 : decode cL_law 307 = .ok (.if_icmp .eq 454, 3) := by decide +kernel
theorem dL_law_310 : decode cL_law 310 = .ok (.iconst 0, 1) := by decide +kernel
theorem dL_law_311 : decode cL_law 311 = .ok (.ireturn, 1) := by decide +kernel
theorem dL_law_312 : decode cL_law 312 = .ok (.aload_n 1, 1) := by decide +kernel
theorem dL_law_313 : decode cL_law 313 = .ok (.aload_n 0, 1) := by decide +kernel
theorem dL_law_314 : decode cL_law 314 = .ok (.iload_n 3, 1) := by decide +kernel
theorem dL_law_315 : decode cL_law 315 = .ok (.iconst 1, 1) := by decide +kernel
theorem dL_law_316 : decode cL_law 316 = .ok (.iadd, 1) := by decide +kernel
theorem dL_law_317 : decode cL_law 317 = .ok (.iaload, 1) := by decide +kernel
theorem dL_law_318 : decode cL_law 318 = .ok (.aload_n 0, 1) := by decide +kernel
theorem dL_law_319 : decode cL_law 319 = .ok (.iload_n 3, 1) := by decide +kernel
theorem dL_law_320 : decode cL_law 320 = .ok (.iconst 2, 1) := by decide +kernel
theorem dL_law_321 : decode cL_law 321 = .ok (.iadd, 1) := by decide +kernel
theorem dL_law_322 : decode cL_law 322 = .ok (.iaload, 1) := by decide +kernel
theorem dL_law_323 : decode cL_law 323 = .ok (.aload_n 0, 1) := by decide +kernel
theorem dL_law_324 : decode cL_law 324 = .ok (.iload_n 3, 1) := by decide +kernel
theorem dL_law_325 : decode cL_law 325 = .ok (.iconst 3, 1) := by decide +kernel
theorem dL_law_326 : decode cL_law 326 = .ok (.iadd, 1) := by decide +kernel
theorem dL_law_327 : decode cL_law 327 = .ok (.iaload, 1) := by decide +kernel
theorem dL_law_328 : decode cL_law 328 = .ok (.invokevirtual 41, 3) := by decide +kernel
theorem dL_law_331 : decode cL_law 331 = .ok (.aload_n 2, 1) := by decide +kernel
theorem dL_law_332 : decode cL_law 332 = .ok (.aload_n 0, 1) := by decide +kernel
theorem dL_law_333 : decode cL_law 333 = .ok (.iload_n 3, 1) := by decide +kernel
theorem dL_law_334 : decode cL_law 334 = .ok (.iconst 1, 1) := by decide +kernel
theorem dL_law_335 : decode cL_law 335 = .ok (.iadd, 1) := by decide +kernel
theorem dL_law_336 : decode cL_law 336 = .ok (.iaload, 1) := by decide +kernel
theorem dL_law_337 : decode cL_law 337 = .ok (.aload_n 0, 1) := by decide +kernel
theorem dL_law_338 : decode cL_law 338 = .ok (.iload_n 3, 1) := by decide +kernel
theorem dL_law_339 : decode cL_law 339 = .ok (.iconst 2, 1) := by decide +kernel
theorem dL_law_340 : decode cL_law 340 = .ok (.iadd, 1) := by decide +kernel
theorem dL_law_341 : decode cL_law 341 = .ok (.iaload, 1) := by decide +kernel
theorem dL_law_342 : decode cL_law 342 = .ok (.aload_n 0, 1) := by decide +kernel
theorem dL_law_343 : decode cL_law 343 = .ok (.iload_n 3, 1) := by decide +kernel
theorem dL_law_344 : decode cL_law 344 = .ok (.iconst 3, 1) := by decide +kernel
theorem dL_law_345 : decode cL_law 345 = .ok (.iadd, 1) := by decide +kernel
theorem dL_law_346 : decode cL_law 346 = .ok (.iaload, 1) := by decide +kernel
theorem dL_law_347 : decode cL_law 347 = .ok (.invokevirtual 45, 3) := by decide +kernel
theorem dL_law_350 : decode cL_law 350 = .ok (.if_icmp .eq 411, 3) := by decide +kernel
theorem dL_law_353 : decode cL_law 353 = .ok (.iconst 0, 1) := by decide +kernel
theorem dL_law_354 : decode cL_law 354 = .ok (.ireturn, 1) := by decide +kernel
theorem dL_law_355 : decode cL_law 355 = .ok (.aload_n 1, 1) := by decide +kernel
theorem dL_law_356 : decode cL_law 356 = .ok (.aload_n 0, 1) := by decide +kernel
theorem dL_law_357 : decode cL_law 357 = .ok (.iload_n 3, 1) := by decide +kernel
theorem dL_law_358 : decode cL_law 358 = .ok (.iconst 1, 1) := by decide +kernel
theorem dL_law_359 : decode cL_law 359 = .ok (.iadd, 1) := by decide +kernel
theorem dL_law_360 : decode cL_law 360 = .ok (.iaload, 1) := by decide +kernel
theorem dL_law_361 : decode cL_law 361 = .ok (.aload_n 0, 1) := by decide +kernel
theorem dL_law_362 : decode cL_law 362 = .ok (.iload_n 3, 1) := by decide +kernel
theorem dL_law_363 : decode cL_law 363 = .ok (.iconst 2, 1) := by decide +kernel
theorem dL_law_364 : decode cL_law 364 = .ok (.iadd, 1) := by decide +kernel
theorem dL_law_365 : decode cL_law 365 = .ok (.iaload, 1) := by decide +kernel
theorem dL_law_366 : decode cL_law 366 = .ok (.invokevirtual 46, 3) := by decide +kernel
theorem dL_law_369 : decode cL_law 369 = .ok (.aload_n 2, 1) := by decide +kernel
theorem dL_law_370 : decode cL_law 370 = .ok (.aload_n 0, 1) := by decide +kernel
theorem dL_law_371 : decode cL_law 371 = .ok (.iload_n 3, 1) := by decide +kernel
theorem dL_law_372 : decode cL_law 372 = .ok (.iconst 1, 1) := by decide +kernel
theorem dL_law_373 : decode cL_law 373 = .ok (.iadd, 1) := by decide +kernel
theorem dL_law_374 : decode cL_law 374 = .ok (.iaload, 1) := by decide +kernel
theorem dL_law_375 : decode cL_law 375 = .ok (.aload_n 0, 1) := by decide +kernel
theorem dL_law_376 : decode cL_law 376 = .ok (.iload_n 3, 1) := by decide +kernel
theorem dL_law_377 : decode cL_law 377 = .ok (.iconst 2, 1) := by decide +kernel
theorem dL_law_378 : decode cL_law 378 = .ok (.iadd, 1) := by decide +kernel
theorem dL_law_379 : decode cL_law 379 = .ok (.iaload, 1) := by decide +kernel
theorem dL_law_380 : decode cL_law 380 = .ok (.invokevirtual 49, 3) := by decide +kernel
theorem dL_law_383 : decode cL_law 383 = .ok (.if_icmp .eq 378, 3) := by decide +kernel
theorem dL_law_386 : decode cL_law 386 = .ok (.iconst 0, 1) := by decide +kernel
theorem dL_law_387 : decode cL_law 387 = .ok (.ireturn, 1) := by decide +kernel
theorem dL_law_388 : decode cL_law 388 = .ok (.aload_n 1, 1) := by decide +kernel
theorem dL_law_389 : decode cL_law 389 = .ok (.aload_n 0, 1) := by decide +kernel
theorem dL_law_390 : decode cL_law 390 = .ok (.iload_n 3, 1) := by decide +kernel
theorem dL_law_391 : decode cL_law 391 = .ok (.iconst 1, 1) := by decide +kernel
theorem dL_law_392 : decode cL_law 392 = .ok (.iadd, 1) := by decide +kernel
theorem dL_law_393 : decode cL_law 393 = .ok (.iaload, 1) := by decide +kernel
theorem dL_law_394 : decode cL_law 394 = .ok (.aload_n 0, 1) := by decide +kernel
theorem dL_law_395 : decode cL_law 395 = .ok (.iload_n 3, 1) := by decide +kernel
theorem dL_law_396 : decode cL_law 396 = .ok (.iconst 2, 1) := by decide +kernel
theorem dL_law_397 : decode cL_law 397 = .ok (.iadd, 1) := by decide +kernel
theorem dL_law_398 : decode cL_law 398 = .ok (.iaload, 1) := by decide +kernel
theorem dL_law_399 : decode cL_law 399 = .ok (.invokevirtual 50, 3) := by decide +kernel
theorem dL_law_402 : decode cL_law 402 = .ok (.aload_n 2, 1) := by decide +kernel
theorem dL_law_403 : decode cL_law 403 = .ok (.aload_n 0, 1) := by decide +kernel
theorem dL_law_404 : decode cL_law 404 = .ok (.iload_n 3, 1) := by decide +kernel
theorem dL_law_405 : decode cL_law 405 = .ok (.iconst 1, 1) := by decide +kernel
theorem dL_law_406 : decode cL_law 406 = .ok (.iadd, 1) := by decide +kernel
theorem dL_law_407 : decode cL_law 407 = .ok (.iaload, 1) := by decide +kernel
theorem dL_law_408 : decode cL_law 408 = .ok (.aload_n 0, 1) := by decide +kernel
theorem dL_law_409 : decode cL_law 409 = .ok (.iload_n 3, 1) := by decide +kernel
theorem dL_law_410 : decode cL_law 410 = .ok (.iconst 2, 1) := by decide +kernel
theorem dL_law_411 : decode cL_law 411 = .ok (.iadd, 1) := by decide +kernel
theorem dL_law_412 : decode cL_law 412 = .ok (.iaload, 1) := by decide +kernel
theorem dL_law_413 : decode cL_law 413 = .ok (.invokevirtual 53, 3) := by decide +kernel
theorem dL_law_416 : decode cL_law 416 = .ok (.if_icmp .eq 345, 3) := by decide +kernel
theorem dL_law_419 : decode cL_law 419 = .ok (.iconst 0, 1) := by decide +kernel
theorem dL_law_420 : decode cL_law 420 = .ok (.ireturn, 1) := by decide +kernel
theorem dL_law_421 : decode cL_law 421 = .ok (.aload_n 1, 1) := by decide +kernel
theorem dL_law_422 : decode cL_law 422 = .ok (.aload_n 0, 1) := by decide +kernel
theorem dL_law_423 : decode cL_law 423 = .ok (.iload_n 3, 1) := by decide +kernel
theorem dL_law_424 : decode cL_law 424 = .ok (.iconst 1, 1) := by decide +kernel
theorem dL_law_425 : decode cL_law 425 = .ok (.iadd, 1) := by decide +kernel
theorem dL_law_426 : decode cL_law 426 = .ok (.iaload, 1) := by decide +kernel
theorem dL_law_427 : decode cL_law 427 = .ok (.aload_n 0, 1) := by decide +kernel
theorem dL_law_428 : decode cL_law 428 = .ok (.iload_n 3, 1) := by decide +kernel
theorem dL_law_429 : decode cL_law 429 = .ok (.iconst 2, 1) := by decide +kernel
theorem dL_law_430 : decode cL_law 430 = .ok (.iadd, 1) := by decide +kernel
theorem dL_law_431 : decode cL_law 431 = .ok (.iaload, 1) := by decide +kernel
theorem dL_law_432 : decode cL_law 432 = .ok (.aload_n 0, 1) := by decide +kernel
theorem dL_law_433 : decode cL_law 433 = .ok (.iload_n 3, 1) := by decide +kernel
theorem dL_law_434 : decode cL_law 434 = .ok (.iconst 3, 1) := by decide +kernel
theorem dL_law_435 : decode cL_law 435 = .ok (.iadd, 1) := by decide +kernel
theorem dL_law_436 : decode cL_law 436 = .ok (.iaload, 1) := by decide +kernel
theorem dL_law_437 : decode cL_law 437 = .ok (.invokevirtual 54, 3) := by decide +kernel
theorem dL_law_440 : decode cL_law 440 = .ok (.aload_n 2, 1) := by decide +kernel
theorem dL_law_441 : decode cL_law 441 = .ok (.aload_n 0, 1) := by decide +kernel
theorem dL_law_442 : decode cL_law 442 = .ok (.iload_n 3, 1) := by decide +kernel
theorem dL_law_443 : decode cL_law 443 = .ok (.iconst 1, 1) := by decide +kernel
theorem dL_law_444 : decode cL_law 444 = .ok (.iadd, 1) := by decide +kernel
theorem dL_law_445 : decode cL_law 445 = .ok (.iaload, 1) := by decide +kernel
theorem dL_law_446 : decode cL_law 446 = .ok (.aload_n 0, 1) := by decide +kernel
theorem dL_law_447 : decode cL_law 447 = .ok (.iload_n 3, 1) := by decide +kernel
theorem dL_law_448 : decode cL_law 448 = .ok (.iconst 2, 1) := by decide +kernel
theorem dL_law_449 : decode cL_law 449 = .ok (.iadd, 1) := by decide +kernel
theorem dL_law_450 : decode cL_law 450 = .ok (.iaload, 1) := by decide +kernel
theorem dL_law_451 : decode cL_law 451 = .ok (.aload_n 0, 1) := by decide +kernel
theorem dL_law_452 : decode cL_law 452 = .ok (.iload_n 3, 1) := by decide +kernel
theorem dL_law_453 : decode cL_law 453 = .ok (.iconst 3, 1) := by decide +kernel
theorem dL_law_454 : decode cL_law 454 = .ok (.iadd, 1) := by decide +kernel
theorem dL_law_455 : decode cL_law 455 = .ok (.iaload, 1) := by decide +kernel
theorem dL_law_456 : decode cL_law 456 = .ok (.invokevirtual 57, 3) := by decide +kernel
theorem dL_law_459 : decode cL_law 459 = .ok (.if_icmp .eq 302, 3) := by decide +kernel
theorem dL_law_462 : decode cL_law 462 = .ok (.iconst 0, 1) := by decide +kernel
theorem dL_law_463 : decode cL_law 463 = .ok (.ireturn, 1) := by decide +kernel
theorem dL_law_464 : decode cL_law 464 = .ok (.aload_n 1, 1) := by decide +kernel
theorem dL_law_465 : decode cL_law 465 = .ok (.aload_n 0, 1) := by decide +kernel
theorem dL_law_466 : decode cL_law 466 = .ok (.iload_n 3, 1) := by decide +kernel
theorem dL_law_467 : decode cL_law 467 = .ok (.iconst 1, 1) := by decide +kernel
theorem dL_law_468 : decode cL_law 468 = .ok (.iadd, 1) := by decide +kernel
theorem dL_law_469 : decode cL_law 469 = .ok (.iaload, 1) := by decide +kernel
theorem dL_law_470 : decode cL_law 470 = .ok (.aload_n 0, 1) := by decide +kernel
theorem dL_law_471 : decode cL_law 471 = .ok (.iload_n 3, 1) := by decide +kernel
theorem dL_law_472 : decode cL_law 472 = .ok (.iconst 2, 1) := by decide +kernel
theorem dL_law_473 : decode cL_law 473 = .ok (.iadd, 1) := by decide +kernel
theorem dL_law_474 : decode cL_law 474 = .ok (.iaload, 1) := by decide +kernel
theorem dL_law_475 : decode cL_law 475 = .ok (.invokevirtual 58, 3) := by decide +kernel
theorem dL_law_478 : decode cL_law 478 = .ok (.aload_n 2, 1) := by decide +kernel
theorem dL_law_479 : decode cL_law 479 = .ok (.aload_n 0, 1) := by decide +kernel
theorem dL_law_480 : decode cL_law 480 = .ok (.iload_n 3, 1) := by decide +kernel
theorem dL_law_481 : decode cL_law 481 = .ok (.iconst 1, 1) := by decide +kernel
theorem dL_law_482 : decode cL_law 482 = .ok (.iadd, 1) := by decide +kernel
theorem dL_law_483 : decode cL_law 483 = .ok (.iaload, 1) := by decide +kernel
theorem dL_law_484 : decode cL_law 484 = .ok (.aload_n 0, 1) := by decide +kernel
theorem dL_law_485 : decode cL_law 485 = .ok (.iload_n 3, 1) := by decide +kernel
theorem dL_law_486 : decode cL_law 486 = .ok (.iconst 2, 1) := by decide +kernel
theorem dL_law_487 : decode cL_law 487 = .ok (.iadd, 1) := by decide +kernel
theorem dL_law_488 : decode cL_law 488 = .ok (.iaload, 1) := by decide +kernel
theorem dL_law_489 : decode cL_law 489 = .ok (.invokevirtual 61, 3) := by decide +kernel
theorem dL_law_492 : decode cL_law 492 = .ok (.if_icmp .eq 269, 3) := by decide +kernel
theorem dL_law_495 : decode cL_law 495 = .ok (.iconst 0, 1) := by decide +kernel
theorem dL_law_496 : decode cL_law 496 = .ok (.ireturn, 1) := by decide +kernel
theorem dL_law_497 : decode cL_law 497 = .ok (.aload_n 1, 1) := by decide +kernel
theorem dL_law_498 : decode cL_law 498 = .ok (.aload_n 0, 1) := by decide +kernel
theorem dL_law_499 : decode cL_law 499 = .ok (.iload_n 3, 1) := by decide +kernel
theorem dL_law_500 : decode cL_law 500 = .ok (.iconst 1, 1) := by decide +kernel
theorem dL_law_501 : decode cL_law 501 = .ok (.iadd, 1) := by decide +kernel
theorem dL_law_502 : decode cL_law 502 = .ok (.iaload, 1) := by decide +kernel
theorem dL_law_503 : decode cL_law 503 = .ok (.aload_n 0, 1) := by decide +kernel
theorem dL_law_504 : decode cL_law 504 = .ok (.iload_n 3, 1) := by decide +kernel
theorem dL_law_505 : decode cL_law 505 = .ok (.iconst 2, 1) := by decide +kernel
theorem dL_law_506 : decode cL_law 506 = .ok (.iadd, 1) := by decide +kernel
theorem dL_law_507 : decode cL_law 507 = .ok (.iaload, 1) := by decide +kernel
theorem dL_law_508 : decode cL_law 508 = .ok (.aload_n 0, 1) := by decide +kernel
theorem dL_law_509 : decode cL_law 509 = .ok (.iload_n 3, 1) := by decide +kernel
theorem dL_law_510 : decode cL_law 510 = .ok (.iconst 3, 1) := by decide +kernel
theorem dL_law_511 : decode cL_law 511 = .ok (.iadd, 1) := by decide +kernel
theorem dL_law_512 : decode cL_law 512 = .ok (.iaload, 1) := by decide +kernel
theorem dL_law_513 : decode cL_law 513 = .ok (.invokevirtual 62, 3) := by decide +kernel
theorem dL_law_516 : decode cL_law 516 = .ok (.aload_n 2, 1) := by decide +kernel
theorem dL_law_517 : decode cL_law 517 = .ok (.aload_n 0, 1) := by decide +kernel
theorem dL_law_518 : decode cL_law 518 = .ok (.iload_n 3, 1) := by decide +kernel
theorem dL_law_519 : decode cL_law 519 = .ok (.iconst 1, 1) := by decide +kernel
theorem dL_law_520 : decode cL_law 520 = .ok (.iadd, 1) := by decide +kernel
theorem dL_law_521 : decode cL_law 521 = .ok (.iaload, 1) := by decide +kernel
theorem dL_law_522 : decode cL_law 522 = .ok (.aload_n 0, 1) := by decide +kernel
theorem dL_law_523 : decode cL_law 523 = .ok (.iload_n 3, 1) := by decide +kernel
theorem dL_law_524 : decode cL_law 524 = .ok (.iconst 2, 1) := by decide +kernel
theorem dL_law_525 : decode cL_law 525 = .ok (.iadd, 1) := by decide +kernel
theorem dL_law_526 : decode cL_law 526 = .ok (.iaload, 1) := by decide +kernel
theorem dL_law_527 : decode cL_law 527 = .ok (.aload_n 0, 1) := by decide +kernel
theorem dL_law_528 : decode cL_law 528 = .ok (.iload_n 3, 1) := by decide +kernel
theorem dL_law_529 : decode cL_law 529 = .ok (.iconst 3, 1) := by decide +kernel
theorem dL_law_530 : decode cL_law 530 = .ok (.iadd, 1) := by decide +kernel
theorem dL_law_531 : decode cL_law 531 = .ok (.iaload, 1) := by decide +kernel
theorem dL_law_532 : decode cL_law 532 = .ok (.invokevirtual 65, 3) := by decide +kernel
theorem dL_law_535 : decode cL_law 535 = .ok (.if_icmp .eq 226, 3) := by decide +kernel
theorem dL_law_538 : decode cL_law 538 = .ok (.iconst 0, 1) := by decide +kernel
theorem dL_law_539 : decode cL_law 539 = .ok (.ireturn, 1) := by decide +kernel
theorem dL_law_540 : decode cL_law 540 = .ok (.aload_n 1, 1) := by decide +kernel
theorem dL_law_541 : decode cL_law 541 = .ok (.aload_n 0, 1) := by decide +kernel
theorem dL_law_542 : decode cL_law 542 = .ok (.iload_n 3, 1) := by decide +kernel
theorem dL_law_543 : decode cL_law 543 = .ok (.iconst 1, 1) := by decide +kernel
theorem dL_law_544 : decode cL_law 544 = .ok (.iadd, 1) := by decide +kernel
theorem dL_law_545 : decode cL_law 545 = .ok (.iaload, 1) := by decide +kernel
theorem dL_law_546 : decode cL_law 546 = .ok (.aload_n 0, 1) := by decide +kernel
theorem dL_law_547 : decode cL_law 547 = .ok (.iload_n 3, 1) := by decide +kernel
theorem dL_law_548 : decode cL_law 548 = .ok (.iconst 2, 1) := by decide +kernel
theorem dL_law_549 : decode cL_law 549 = .ok (.iadd, 1) := by decide +kernel
theorem dL_law_550 : decode cL_law 550 = .ok (.iaload, 1) := by decide +kernel
theorem dL_law_551 : decode cL_law 551 = .ok (.invokevirtual 66, 3) := by decide +kernel
theorem dL_law_554 : decode cL_law 554 = .ok (.aload_n 2, 1) := by decide +kernel
theorem dL_law_555 : decode cL_law 555 = .ok (.aload_n 0, 1) := by decide +kernel
theorem dL_law_556 : decode cL_law 556 = .ok (.iload_n 3, 1) := by decide +kernel
theorem dL_law_557 : decode cL_law 557 = .ok (.iconst 1, 1) := by decide +kernel
theorem dL_law_558 : decode cL_law 558 = .ok (.iadd, 1) := by decide +kernel
theorem dL_law_559 : decode cL_law 559 = .ok (.iaload, 1) := by decide +kernel
theorem dL_law_560 : decode cL_law 560 = .ok (.aload_n 0, 1) := by decide +kernel
theorem dL_law_561 : decode cL_law 561 = .ok (.iload_n 3, 1) := by decide +kernel
theorem dL_law_562 : decode cL_law 562 = .ok (.iconst 2, 1) := by decide +kernel
theorem dL_law_563 : decode cL_law 563 = .ok (.iadd, 1) := by decide +kernel
theorem dL_law_564 : decode cL_law 564 = .ok (.iaload, 1) := by decide +kernel
theorem dL_law_565 : decode cL_law 565 = .ok (.invokevirtual 69, 3) := by decide +kernel
theorem dL_law_568 : decode cL_law 568 = .ok (.if_icmp .eq 193, 3) := by decide +kernel
theorem dL_law_571 : decode cL_law 571 = .ok (.iconst 0, 1) := by decide +kernel
theorem dL_law_572 : decode cL_law 572 = .ok (.ireturn, 1) := by decide +kernel
theorem dL_law_573 : decode cL_law 573 = .ok (.aload_n 1, 1) := by decide +kernel
theorem dL_law_574 : decode cL_law 574 = .ok (.aload_n 0, 1) := by decide +kernel
theorem dL_law_575 : decode cL_law 575 = .ok (.iload_n 3, 1) := by decide +kernel
theorem dL_law_576 : decode cL_law 576 = .ok (.iconst 1, 1) := by decide +kernel
theorem dL_law_577 : decode cL_law 577 = .ok (.iadd, 1) := by decide +kernel
theorem dL_law_578 : decode cL_law 578 = .ok (.iaload, 1) := by decide +kernel
theorem dL_law_579 : decode cL_law 579 = .ok (.aload_n 0, 1) := by decide +kernel
theorem dL_law_580 : decode cL_law 580 = .ok (.iload_n 3, 1) := by decide +kernel
theorem dL_law_581 : decode cL_law 581 = .ok (.iconst 2, 1) := by decide +kernel
theorem dL_law_582 : decode cL_law 582 = .ok (.iadd, 1) := by decide +kernel
theorem dL_law_583 : decode cL_law 583 = .ok (.iaload, 1) := by decide +kernel
theorem dL_law_584 : decode cL_law 584 = .ok (.invokevirtual 70, 3) := by decide +kernel
theorem dL_law_587 : decode cL_law 587 = .ok (.aload_n 2, 1) := by decide +kernel
theorem dL_law_588 : decode cL_law 588 = .ok (.aload_n 0, 1) := by decide +kernel
theorem dL_law_589 : decode cL_law 589 = .ok (.iload_n 3, 1) := by decide +kernel
theorem dL_law_590 : decode cL_law 590 = .ok (.iconst 1, 1) := by decide +kernel
theorem dL_law_591 : decode cL_law 591 = .ok (.iadd, 1) := by decide +kernel
theorem dL_law_592 : decode cL_law 592 = .ok (.iaload, 1) := by decide +kernel
theorem dL_law_593 : decode cL_law 593 = .ok (.aload_n 0, 1) := by decide +kernel
theorem dL_law_594 : decode cL_law 594 = .ok (.iload_n 3, 1) := by decide +kernel
theorem dL_law_595 : decode cL_law 595 = .ok (.iconst 2, 1) := by decide +kernel
theorem dL_law_596 : decode cL_law 596 = .ok (.iadd, 1) := by decide +kernel
theorem dL_law_597 : decode cL_law 597 = .ok (.iaload, 1) := by decide +kernel
theorem dL_law_598 : decode cL_law 598 = .ok (.invokevirtual 73, 3) := by decide +kernel
theorem dL_law_601 : decode cL_law 601 = .ok (.if_icmp .eq 160, 3) := by decide +kernel
theorem dL_law_604 : decode cL_law 604 = .ok (.iconst 0, 1) := by decide +kernel
theorem dL_law_605 : decode cL_law 605 = .ok (.ireturn, 1) := by decide +kernel
theorem dL_law_606 : decode cL_law 606 = .ok (.aload_n 1, 1) := by decide +kernel
theorem dL_law_607 : decode cL_law 607 = .ok (.aload_n 0, 1) := by decide +kernel
theorem dL_law_608 : decode cL_law 608 = .ok (.iload_n 3, 1) := by decide +kernel
theorem dL_law_609 : decode cL_law 609 = .ok (.iconst 1, 1) := by decide +kernel
theorem dL_law_610 : decode cL_law 610 = .ok (.iadd, 1) := by decide +kernel
theorem dL_law_611 : decode cL_law 611 = .ok (.iaload, 1) := by decide +kernel
theorem dL_law_612 : decode cL_law 612 = .ok (.aload_n 0, 1) := by decide +kernel
theorem dL_law_613 : decode cL_law 613 = .ok (.iload_n 3, 1) := by decide +kernel
theorem dL_law_614 : decode cL_law 614 = .ok (.iconst 2, 1) := by decide +kernel
theorem dL_law_615 : decode cL_law 615 = .ok (.iadd, 1) := by decide +kernel
theorem dL_law_616 : decode cL_law 616 = .ok (.iaload, 1) := by decide +kernel
theorem dL_law_617 : decode cL_law 617 = .ok (.invokevirtual 74, 3) := by decide +kernel
theorem dL_law_620 : decode cL_law 620 = .ok (.aload_n 2, 1) := by decide +kernel
theorem dL_law_621 : decode cL_law 621 = .ok (.aload_n 0, 1) := by decide +kernel
theorem dL_law_622 : decode cL_law 622 = .ok (.iload_n 3, 1) := by decide +kernel
theorem dL_law_623 : decode cL_law 623 = .ok (.iconst 1, 1) := by decide +kernel
theorem dL_law_624 : decode cL_law 624 = .ok (.iadd, 1) := by decide +kernel
theorem dL_law_625 : decode cL_law 625 = .ok (.iaload, 1) := by decide +kernel
theorem dL_law_626 : decode cL_law 626 = .ok (.aload_n 0, 1) := by decide +kernel
theorem dL_law_627 : decode cL_law 627 = .ok (.iload_n 3, 1) := by decide +kernel
theorem dL_law_628 : decode cL_law 628 = .ok (.iconst 2, 1) := by decide +kernel
theorem dL_law_629 : decode cL_law 629 = .ok (.iadd, 1) := by decide +kernel
theorem dL_law_630 : decode cL_law 630 = .ok (.iaload, 1) := by decide +kernel
theorem dL_law_631 : decode cL_law 631 = .ok (.invokevirtual 77, 3) := by decide +kernel
theorem dL_law_634 : decode cL_law 634 = .ok (.if_icmp .eq 127, 3) := by decide +kernel
theorem dL_law_637 : decode cL_law 637 = .ok (.iconst 0, 1) := by decide +kernel
theorem dL_law_638 : decode cL_law 638 = .ok (.ireturn, 1) := by decide +kernel
theorem dL_law_639 : decode cL_law 639 = .ok (.aload_n 1, 1) := by decide +kernel
theorem dL_law_640 : decode cL_law 640 = .ok (.aload_n 0, 1) := by decide +kernel
theorem dL_law_641 : decode cL_law 641 = .ok (.iload_n 3, 1) := by decide +kernel
theorem dL_law_642 : decode cL_law 642 = .ok (.iconst 1, 1) := by decide +kernel
theorem dL_law_643 : decode cL_law 643 = .ok (.iadd, 1) := by decide +kernel
theorem dL_law_644 : decode cL_law 644 = .ok (.iaload, 1) := by decide +kernel
theorem dL_law_645 : decode cL_law 645 = .ok (.aload_n 0, 1) := by decide +kernel
theorem dL_law_646 : decode cL_law 646 = .ok (.iload_n 3, 1) := by decide +kernel
theorem dL_law_647 : decode cL_law 647 = .ok (.iconst 2, 1) := by decide +kernel
theorem dL_law_648 : decode cL_law 648 = .ok (.iadd, 1) := by decide +kernel
theorem dL_law_649 : decode cL_law 649 = .ok (.iaload, 1) := by decide +kernel
theorem dL_law_650 : decode cL_law 650 = .ok (.invokevirtual 78, 3) := by decide +kernel
theorem dL_law_653 : decode cL_law 653 = .ok (.aload_n 2, 1) := by decide +kernel
theorem dL_law_654 : decode cL_law 654 = .ok (.aload_n 0, 1) := by decide +kernel
theorem dL_law_655 : decode cL_law 655 = .ok (.iload_n 3, 1) := by decide +kernel
theorem dL_law_656 : decode cL_law 656 = .ok (.iconst 1, 1) := by decide +kernel
theorem dL_law_657 : decode cL_law 657 = .ok (.iadd, 1) := by decide +kernel
theorem dL_law_658 : decode cL_law 658 = .ok (.iaload, 1) := by decide +kernel
theorem dL_law_659 : decode cL_law 659 = .ok (.aload_n 0, 1) := by decide +kernel
theorem dL_law_660 : decode cL_law 660 = .ok (.iload_n 3, 1) := by decide +kernel
theorem dL_law_661 : decode cL_law 661 = .ok (.iconst 2, 1) := by decide +kernel
theorem dL_law_662 : decode cL_law 662 = .ok (.iadd, 1) := by decide +kernel
theorem dL_law_663 : decode cL_law 663 = .ok (.iaload, 1) := by decide +kernel
theorem dL_law_664 : decode cL_law 664 = .ok (.invokevirtual 81, 3) := by decide +kernel
theorem dL_law_667 : decode cL_law 667 = .ok (.if_icmp .eq 94, 3) := by decide +kernel
theorem dL_law_670 : decode cL_law 670 = .ok (.iconst 0, 1) := by decide +kernel
theorem dL_law_671 : decode cL_law 671 = .ok (.ireturn, 1) := by decide +kernel
theorem dL_law_672 : decode cL_law 672 = .ok (.aload_n 1, 1) := by decide +kernel
theorem dL_law_673 : decode cL_law 673 = .ok (.aload_n 0, 1) := by decide +kernel
theorem dL_law_674 : decode cL_law 674 = .ok (.iload_n 3, 1) := by decide +kernel
theorem dL_law_675 : decode cL_law 675 = .ok (.iconst 1, 1) := by decide +kernel
theorem dL_law_676 : decode cL_law 676 = .ok (.iadd, 1) := by decide +kernel
theorem dL_law_677 : decode cL_law 677 = .ok (.iaload, 1) := by decide +kernel
theorem dL_law_678 : decode cL_law 678 = .ok (.invokevirtual 82, 3) := by decide +kernel
theorem dL_law_681 : decode cL_law 681 = .ok (.aload_n 2, 1) := by decide +kernel
theorem dL_law_682 : decode cL_law 682 = .ok (.aload_n 0, 1) := by decide +kernel
theorem dL_law_683 : decode cL_law 683 = .ok (.iload_n 3, 1) := by decide +kernel
theorem dL_law_684 : decode cL_law 684 = .ok (.iconst 1, 1) := by decide +kernel
theorem dL_law_685 : decode cL_law 685 = .ok (.iadd, 1) := by decide +kernel
theorem dL_law_686 : decode cL_law 686 = .ok (.iaload, 1) := by decide +kernel
theorem dL_law_687 : decode cL_law 687 = .ok (.invokevirtual 85, 3) := by decide +kernel
theorem dL_law_690 : decode cL_law 690 = .ok (.if_icmp .eq 71, 3) := by decide +kernel
theorem dL_law_693 : decode cL_law 693 = .ok (.iconst 0, 1) := by decide +kernel
theorem dL_law_694 : decode cL_law 694 = .ok (.ireturn, 1) := by decide +kernel
theorem dL_law_695 : decode cL_law 695 = .ok (.aload_n 1, 1) := by decide +kernel
theorem dL_law_696 : decode cL_law 696 = .ok (.aload_n 0, 1) := by decide +kernel
theorem dL_law_697 : decode cL_law 697 = .ok (.iload_n 3, 1) := by decide +kernel
theorem dL_law_698 : decode cL_law 698 = .ok (.iconst 1, 1) := by decide +kernel
theorem dL_law_699 : decode cL_law 699 = .ok (.iadd, 1) := by decide +kernel
theorem dL_law_700 : decode cL_law 700 = .ok (.iaload, 1) := by decide +kernel
theorem dL_law_701 : decode cL_law 701 = .ok (.aload_n 0, 1) := by decide +kernel
theorem dL_law_702 : decode cL_law 702 = .ok (.iload_n 3, 1) := by decide +kernel
theorem dL_law_703 : decode cL_law 703 = .ok (.iconst 2, 1) := by decide +kernel
theorem dL_law_704 : decode cL_law 704 = .ok (.iadd, 1) := by decide +kernel
theorem dL_law_705 : decode cL_law 705 = .ok (.iaload, 1) := by decide +kernel
theorem dL_law_706 : decode cL_law 706 = .ok (.invokevirtual 86, 3) := by decide +kernel
theorem dL_law_709 : decode cL_law 709 = .ok (.aload_n 2, 1) := by decide +kernel
theorem dL_law_710 : decode cL_law 710 = .ok (.aload_n 0, 1) := by decide +kernel
theorem dL_law_711 : decode cL_law 711 = .ok (.iload_n 3, 1) := by decide +kernel
theorem dL_law_712 : decode cL_law 712 = .ok (.iconst 1, 1) := by decide +kernel
theorem dL_law_713 : decode cL_law 713 = .ok (.iadd, 1) := by decide +kernel
theorem dL_law_714 : decode cL_law 714 = .ok (.iaload, 1) := by decide +kernel
theorem dL_law_715 : decode cL_law 715 = .ok (.aload_n 0, 1) := by decide +kernel
theorem dL_law_716 : decode cL_law 716 = .ok (.iload_n 3, 1) := by decide +kernel
theorem dL_law_717 : decode cL_law 717 = .ok (.iconst 2, 1) := by decide +kernel
theorem dL_law_718 : decode cL_law 718 = .ok (.iadd, 1) := by decide +kernel
theorem dL_law_719 : decode cL_law 719 = .ok (.iaload, 1) := by decide +kernel
theorem dL_law_720 : decode cL_law 720 = .ok (.invokevirtual 89, 3) := by decide +kernel
theorem dL_law_723 : decode cL_law 723 = .ok (.if_icmp .eq 38, 3) := by decide +kernel
theorem dL_law_726 : decode cL_law 726 = .ok (.iconst 0, 1) := by decide +kernel
theorem dL_law_727 : decode cL_law 727 = .ok (.ireturn, 1) := by decide +kernel
theorem dL_law_728 : decode cL_law 728 = .ok (.aload_n 1, 1) := by decide +kernel
theorem dL_law_729 : decode cL_law 729 = .ok (.aload_n 0, 1) := by decide +kernel
theorem dL_law_730 : decode cL_law 730 = .ok (.iload_n 3, 1) := by decide +kernel
theorem dL_law_731 : decode cL_law 731 = .ok (.iconst 1, 1) := by decide +kernel
theorem dL_law_732 : decode cL_law 732 = .ok (.iadd, 1) := by decide +kernel
theorem dL_law_733 : decode cL_law 733 = .ok (.iaload, 1) := by decide +kernel
theorem dL_law_734 : decode cL_law 734 = .ok (.aload_n 0, 1) := by decide +kernel
theorem dL_law_735 : decode cL_law 735 = .ok (.iload_n 3, 1) := by decide +kernel
theorem dL_law_736 : decode cL_law 736 = .ok (.iconst 2, 1) := by decide +kernel
theorem dL_law_737 : decode cL_law 737 = .ok (.iadd, 1) := by decide +kernel
theorem dL_law_738 : decode cL_law 738 = .ok (.iaload, 1) := by decide +kernel
theorem dL_law_739 : decode cL_law 739 = .ok (.invokevirtual 90, 3) := by decide +kernel
theorem dL_law_742 : decode cL_law 742 = .ok (.aload_n 2, 1) := by decide +kernel
theorem dL_law_743 : decode cL_law 743 = .ok (.aload_n 0, 1) := by decide +kernel
theorem dL_law_744 : decode cL_law 744 = .ok (.iload_n 3, 1) := by decide +kernel
theorem dL_law_745 : decode cL_law 745 = .ok (.iconst 1, 1) := by decide +kernel
theorem dL_law_746 : decode cL_law 746 = .ok (.iadd, 1) := by decide +kernel
theorem dL_law_747 : decode cL_law 747 = .ok (.iaload, 1) := by decide +kernel
theorem dL_law_748 : decode cL_law 748 = .ok (.aload_n 0, 1) := by decide +kernel
theorem dL_law_749 : decode cL_law 749 = .ok (.iload_n 3, 1) := by decide +kernel
theorem dL_law_750 : decode cL_law 750 = .ok (.iconst 2, 1) := by decide +kernel
theorem dL_law_751 : decode cL_law 751 = .ok (.iadd, 1) := by decide +kernel
theorem dL_law_752 : decode cL_law 752 = .ok (.iaload, 1) := by decide +kernel
theorem dL_law_753 : decode cL_law 753 = .ok (.invokevirtual 93, 3) := by decide +kernel
theorem dL_law_756 : decode cL_law 756 = .ok (.if_icmp .eq 5, 3) := by decide +kernel
theorem dL_law_759 : decode cL_law 759 = .ok (.iconst 0, 1) := by decide +kernel
theorem dL_law_760 : decode cL_law 760 = .ok (.ireturn, 1) := by decide +kernel
theorem dL_law_761 : decode cL_law 761 = .ok (.iinc 3 4, 3) := by decide +kernel
theorem dL_law_764 : decode cL_law 764 = .ok (.goto (-746), 3) := by decide +kernel
theorem dL_law_767 : decode cL_law 767 = .ok (.iconst 1, 1) := by decide +kernel
theorem dL_law_768 : decode cL_law 768 = .ok (.ireturn, 1) := by decide +kernel
end
section
/-! Tables: methods, links of fields and of methods, as the machine's rules ask for them. -/
set_option maxRecDepth 100000
def M_C_init : oM := (yC_init, cC_init, 2, none, 2, 43)
def M_K_init : oM := (yK_init, cK_init, 2, none, 2, 43)
def M_K_isOpen : oM := (yK_isOpen, cK_isOpen, 1, (some .boolean), 0, 0)
def M_K_open : oM := (yK_open, cK_open, 2, none, 1, 23)
def M_R_init : oM := (yR_init, cR_init, 1, none, 1, 21)
def M_R_at : oM := (yR_at, cR_at, 2, (some .int), 0, 0)
def M_R_append : oM := (yR_append, cR_append, 2, none, 0, 0)
def M_R_removeAt : oM := (yR_removeAt, cR_removeAt, 2, none, 1, 26)
def M_W_init : oM := (yW_init, cW_init, 1, none, 2, 43)
def M_W_fill : oM := (yW_fill, cW_fill, 5, none, 0, 0)
def M_W_dependOn : oM := (yW_dependOn, cW_dependOn, 3, none, 1, 26)
def M_S_init : oM := (yS_init, cS_init, 2, none, 3, 64)
def M_S_put : oM := (yS_put, cS_put, 7, (some .int), 3, 68)
def M_S_get : oM := (yS_get, cS_get, 5, (some .int), 3, 67)
def M_S_begin : oM := (yS_begin, cS_begin, 3, (some .boolean), 2, 44)
def M_S_read : oM := (yS_read, cS_read, 3, (some .int), 4, 89)
def M_S_got : oM := (yS_got, cS_got, 3, (some .int), 1, 20)
def M_S_rounds : oM := (yS_rounds, cS_rounds, 2, (some .int), 1, 20)
def M_S_deliver : oM := (yS_deliver, cS_deliver, 7, (some .boolean), 2, 47)
def M_S_serve : oM := (yS_serve, cS_serve, 9, (some .int), 3, 67)
def M_S_flight : oM := (yS_flight, cS_flight, 3, (some .int), 1, 20)
def M_S_sent : oM := (yS_sent, cS_sent, 4, (some .int), 1, 21)
def M_S_pending : oM := (yS_pending, cS_pending, 3, (some .int), 1, 20)
def M_S_lacks : oM := (yS_lacks, cS_lacks, 5, (some .int), 3, 67)
def M_S_latest : oM := (yS_latest, cS_latest, 3, (some .int), 1, 20)
def M_S_visible : oM := (yS_visible, cS_visible, 3, (some .boolean), 1, 21)
def M_S_clock : oM := (yS_clock, cS_clock, 3, (some .int), 1, 20)
def M_S_context : oM := (yS_context, cS_context, 3, (some .int), 1, 20)
def M_S_nearest : oM := (yS_nearest, cS_nearest, 2, (some .int), 3, 68)
def M_S_about : oM := (yS_about, cS_about, 3, (some .int), 1, 21)
def M_S_dependency : oM := (yS_dependency, cS_dependency, 3, (some .int), 1, 21)
def M_S_isClient : oM := (yS_isClient, cS_isClient, 1, (some .boolean), 0, 0)
def M_S_isKey : oM := (yS_isKey, cS_isKey, 1, (some .boolean), 0, 0)
def M_S_isCenter : oM := (yS_isCenter, cS_isCenter, 1, (some .boolean), 0, 0)
def M_S_isPartition : oM := (yS_isPartition, cS_isPartition, 1, (some .boolean), 0, 0)
def M_S_isWrite : oM := (yS_isWrite, cS_isWrite, 2, (some .boolean), 0, 0)
def M_S_hasKey : oM := (yS_hasKey, cS_hasKey, 2, (some .boolean), 0, 0)
def M_S_tick : oM := (yS_tick, cS_tick, 7, (some .int), 1, 21)
def M_S_show : oM := (yS_show, cS_show, 5, none, 2, 43)
def M_S_send : oM := (yS_send, cS_send, 4, none, 1, 21)
def M_S_see : oM := (yS_see, cS_see, 5, none, 2, 43)
def M_S_greater : oM := (yS_greater, cS_greater, 3, (some .int), 1, 21)
def M_S_nearestKeys : oM := (yS_nearestKeys, cS_nearestKeys, 4, (some .int), 2, 45)
def M_S_isCovered : oM := (yS_isCovered, cS_isCovered, 5, (some .boolean), 1, 21)
def M_S_missingNeeds : oM := (yS_missingNeeds, cS_missingNeeds, 5, (some .int), 2, 43)
def M_S_readLowestKey : oM := (yS_readLowestKey, cS_readLowestKey, 4, none, 1, 21)
def M_S_prepareSecondRound : oM := (yS_prepareSecondRound, cS_prepareSecondRound, 3, none, 3, 67)
def M_S_dueWrite : oM := (yS_dueWrite, cS_dueWrite, 5, (some .int), 2, 43)
def M_S_seeFetched : oM := (yS_seeFetched, cS_seeFetched, 3, none, 3, 67)
def M_S_noWrites : oM := (yS_noWrites, cS_noWrites, 1, (some (.array .int)), 1, 23)
def M_L_law : oM := (yL_law, cL_law, 4, (some .boolean), 7, 226)
def M_N_init : oM := (yN_init, cN_init, 1, none, 1, 21)
def M_N_out : oM := (yN_out, cN_out, 2, (some .boolean), 0, 0)
def M_N_count : oM := (yN_count, cN_count, 3, (some .int), 0, 0)
def M_N_lowest : oM := (yN_lowest, cN_lowest, 3, (some .int), 0, 0)
def M_N_open : oM := (yN_open, cN_open, 2, (some .boolean), 0, 0)
def M_N_greater : oM := (yN_greater, cN_greater, 3, (some .int), 0, 0)
def M_N_latestOf : oM := (yN_latestOf, cN_latestOf, 5, (some .int), 1, 22)
def M_N_near : oM := (yN_near, cN_near, 8, (some .int), 0, 0)
def M_N_see : oM := (yN_see, cN_see, 4, none, 1, 22)
def M_N_send : oM := (yN_send, cN_send, 5, none, 0, 0)
def M_N_put : oM := (yN_put, cN_put, 9, (some .int), 2, 45)
def M_N_get : oM := (yN_get, cN_get, 4, (some .int), 2, 46)
def M_N_begin : oM := (yN_begin, cN_begin, 4, (some .boolean), 1, 21)
def M_N_due : oM := (yN_due, cN_due, 6, (some .int), 1, 22)
def M_N_finish : oM := (yN_finish, cN_finish, 3, none, 2, 45)
def M_N_second : oM := (yN_second, cN_second, 5, none, 3, 67)
def M_N_read : oM := (yN_read, cN_read, 3, (some .int), 4, 91)
def M_N_got : oM := (yN_got, cN_got, 3, (some .int), 1, 21)
def M_N_rounds : oM := (yN_rounds, cN_rounds, 2, (some .int), 1, 21)
def M_N_link : oM := (yN_link, cN_link, 3, (some .boolean), 1, 21)
def M_N_deliver : oM := (yN_deliver, cN_deliver, 7, (some .boolean), 2, 43)
def M_N_missing : oM := (yN_missing, cN_missing, 6, (some .int), 0, 0)
def M_N_serve : oM := (yN_serve, cN_serve, 8, (some .int), 1, 25)
def M_N_flight : oM := (yN_flight, cN_flight, 3, (some .int), 2, 43)
def M_N_sent : oM := (yN_sent, cN_sent, 4, (some .int), 2, 43)
def M_N_pending : oM := (yN_pending, cN_pending, 3, (some .int), 1, 21)
def M_N_lacks : oM := (yN_lacks, cN_lacks, 5, (some .int), 1, 25)
def M_N_latest : oM := (yN_latest, cN_latest, 4, (some .int), 2, 46)
def M_N_visible : oM := (yN_visible, cN_visible, 3, (some .boolean), 1, 21)
def M_N_clock : oM := (yN_clock, cN_clock, 3, (some .int), 1, 21)
def M_N_context : oM := (yN_context, cN_context, 3, (some .int), 1, 21)
def M_N_nearest : oM := (yN_nearest, cN_nearest, 2, (some .int), 1, 27)
def M_N_about : oM := (yN_about, cN_about, 3, (some .int), 1, 21)
def M_N_dependency : oM := (yN_dependency, cN_dependency, 3, (some .int), 1, 21)
def M_JA_fill : oM := (yJA_fill, cJA_fill, 4, none, 0, 0)
def M_JI_bitCount : oM := (yJI_bitCount, cJI_bitCount, 1, (some .int), 0, 0)
-- code, static, instance, selected
theorem mk_C_init : oMk M_C_init 0 := ⟨oMem1 (i := 67) rfl rfl, oMem1 (i := 4) rfl rfl, by decide +kernel, by decide +kernel, by decide +kernel, by decide +kernel⟩
theorem in_C_init : Cond.instanceMethod M_C_init.1 ∈ oAll := oMem1 (i := 66) rfl rfl
theorem mk_K_init : oMk M_K_init 1 := ⟨oMem1 (i := 105) rfl rfl, oMem1 (i := 6) rfl rfl, by decide +kernel, by decide +kernel, by decide +kernel, by decide +kernel⟩
theorem in_K_init : Cond.instanceMethod M_K_init.1 ∈ oAll := oMem1 (i := 104) rfl rfl
theorem mk_K_isOpen : oMk M_K_isOpen 0 := ⟨oMem1 (i := 167) rfl rfl, oMem1 (i := 6) rfl rfl, by decide +kernel, by decide +kernel, by decide +kernel, by decide +kernel⟩
theorem in_K_isOpen : Cond.instanceMethod M_K_isOpen.1 ∈ oAll := oMem1 (i := 166) rfl rfl
theorem se_K_isOpen : Cond.selects M_K_isOpen.1.cls M_K_isOpen.1 M_K_isOpen.1 ∈ oAll := oMemS (i := 0) rfl rfl
theorem mk_K_open : oMk M_K_open 1 := ⟨oMem1 (i := 229) rfl rfl, oMem1 (i := 6) rfl rfl, by decide +kernel, by decide +kernel, by decide +kernel, by decide +kernel⟩
theorem in_K_open : Cond.instanceMethod M_K_open.1 ∈ oAll := oMem1 (i := 228) rfl rfl
theorem se_K_open : Cond.selects M_K_open.1.cls M_K_open.1 M_K_open.1 ∈ oAll := oMemS (i := 12) rfl rfl
theorem mk_R_init : oMk M_R_init 0 := ⟨oMem1 (i := 74) rfl rfl, oMem1 (i := 5) rfl rfl, by decide +kernel, by decide +kernel, by decide +kernel, by decide +kernel⟩
theorem in_R_init : Cond.instanceMethod M_R_init.1 ∈ oAll := oMem1 (i := 73) rfl rfl
theorem mk_R_at : oMk M_R_at 1 := ⟨oMem2 (i := 42) rfl rfl, oMem1 (i := 5) rfl rfl, by decide +kernel, by decide +kernel, by decide +kernel, by decide +kernel⟩
theorem in_R_at : Cond.instanceMethod M_R_at.1 ∈ oAll := oMem2 (i := 41) rfl rfl
theorem se_R_at : Cond.selects M_R_at.1.cls M_R_at.1 M_R_at.1 ∈ oAll := oMemS (i := 17) rfl rfl
theorem mk_R_append : oMk M_R_append 1 := ⟨oMem1 (i := 213) rfl rfl, oMem1 (i := 5) rfl rfl, by decide +kernel, by decide +kernel, by decide +kernel, by decide +kernel⟩
theorem in_R_append : Cond.instanceMethod M_R_append.1 ∈ oAll := oMem1 (i := 212) rfl rfl
theorem se_R_append : Cond.selects M_R_append.1.cls M_R_append.1 M_R_append.1 ∈ oAll := oMemS (i := 10) rfl rfl
theorem mk_R_removeAt : oMk M_R_removeAt 1 := ⟨oMem2 (i := 46) rfl rfl, oMem1 (i := 5) rfl rfl, by decide +kernel, by decide +kernel, by decide +kernel, by decide +kernel⟩
theorem in_R_removeAt : Cond.instanceMethod M_R_removeAt.1 ∈ oAll := oMem2 (i := 45) rfl rfl
theorem se_R_removeAt : Cond.selects M_R_removeAt.1.cls M_R_removeAt.1 M_R_removeAt.1 ∈ oAll := oMemS (i := 18) rfl rfl
theorem mk_W_init : oMk M_W_init 0 := ⟨oMem1 (i := 30) rfl rfl, oMem1 (i := 2) rfl rfl, by decide +kernel, by decide +kernel, by decide +kernel, by decide +kernel⟩
theorem in_W_init : Cond.instanceMethod M_W_init.1 ∈ oAll := oMem1 (i := 29) rfl rfl
theorem mk_W_fill : oMk M_W_fill 4 := ⟨oMem1 (i := 182) rfl rfl, oMem1 (i := 2) rfl rfl, by decide +kernel, by decide +kernel, by decide +kernel, by decide +kernel⟩
theorem in_W_fill : Cond.instanceMethod M_W_fill.1 ∈ oAll := oMem1 (i := 181) rfl rfl
theorem se_W_fill : Cond.selects M_W_fill.1.cls M_W_fill.1 M_W_fill.1 ∈ oAll := oMemS (i := 3) rfl rfl
theorem mk_W_dependOn : oMk M_W_dependOn 2 := ⟨oMem1 (i := 194) rfl rfl, oMem1 (i := 2) rfl rfl, by decide +kernel, by decide +kernel, by decide +kernel, by decide +kernel⟩
theorem in_W_dependOn : Cond.instanceMethod M_W_dependOn.1 ∈ oAll := oMem1 (i := 193) rfl rfl
theorem se_W_dependOn : Cond.selects M_W_dependOn.1.cls M_W_dependOn.1 M_W_dependOn.1 ∈ oAll := oMemS (i := 6) rfl rfl
theorem mk_S_init : oMk M_S_init 0 := ⟨oMem1 (i := 15) rfl rfl, oMem1 (i := 1) rfl rfl, by decide +kernel, by decide +kernel, by decide +kernel, by decide +kernel⟩
theorem in_S_init : Cond.instanceMethod M_S_init.1 ∈ oAll := oMem1 (i := 14) rfl rfl
theorem mk_S_put : oMk M_S_put 3 := ⟨oMem1 (i := 157) rfl rfl, oMem1 (i := 1) rfl rfl, by decide +kernel, by decide +kernel, by decide +kernel, by decide +kernel⟩
theorem in_S_put : Cond.instanceMethod M_S_put.1 ∈ oAll := oMem1 (i := 155) rfl rfl
theorem se_S_put : Cond.selects M_S_put.1.cls M_S_put.1 M_S_put.1 ∈ oAll := oMem1 (i := 156) rfl rfl
theorem mk_S_get : oMk M_S_get 2 := ⟨oMem1 (i := 221) rfl rfl, oMem1 (i := 1) rfl rfl, by decide +kernel, by decide +kernel, by decide +kernel, by decide +kernel⟩
theorem in_S_get : Cond.instanceMethod M_S_get.1 ∈ oAll := oMem1 (i := 219) rfl rfl
theorem se_S_get : Cond.selects M_S_get.1.cls M_S_get.1 M_S_get.1 ∈ oAll := oMem1 (i := 220) rfl rfl
theorem mk_S_begin : oMk M_S_begin 2 := ⟨oMem1 (i := 225) rfl rfl, oMem1 (i := 1) rfl rfl, by decide +kernel, by decide +kernel, by decide +kernel, by decide +kernel⟩
theorem in_S_begin : Cond.instanceMethod M_S_begin.1 ∈ oAll := oMem1 (i := 223) rfl rfl
theorem se_S_begin : Cond.selects M_S_begin.1.cls M_S_begin.1 M_S_begin.1 ∈ oAll := oMem1 (i := 224) rfl rfl
theorem mk_S_read : oMk M_S_read 1 := ⟨oMem1 (i := 234) rfl rfl, oMem1 (i := 1) rfl rfl, by decide +kernel, by decide +kernel, by decide +kernel, by decide +kernel⟩
theorem in_S_read : Cond.instanceMethod M_S_read.1 ∈ oAll := oMem1 (i := 232) rfl rfl
theorem se_S_read : Cond.selects M_S_read.1.cls M_S_read.1 M_S_read.1 ∈ oAll := oMem1 (i := 233) rfl rfl
theorem mk_S_got : oMk M_S_got 2 := ⟨oMem2 (i := 23) rfl rfl, oMem1 (i := 1) rfl rfl, by decide +kernel, by decide +kernel, by decide +kernel, by decide +kernel⟩
theorem in_S_got : Cond.instanceMethod M_S_got.1 ∈ oAll := oMem2 (i := 21) rfl rfl
theorem se_S_got : Cond.selects M_S_got.1.cls M_S_got.1 M_S_got.1 ∈ oAll := oMem2 (i := 22) rfl rfl
theorem mk_S_rounds : oMk M_S_rounds 1 := ⟨oMem2 (i := 27) rfl rfl, oMem1 (i := 1) rfl rfl, by decide +kernel, by decide +kernel, by decide +kernel, by decide +kernel⟩
theorem in_S_rounds : Cond.instanceMethod M_S_rounds.1 ∈ oAll := oMem2 (i := 25) rfl rfl
theorem se_S_rounds : Cond.selects M_S_rounds.1.cls M_S_rounds.1 M_S_rounds.1 ∈ oAll := oMem2 (i := 26) rfl rfl
theorem mk_S_deliver : oMk M_S_deliver 3 := ⟨oMem2 (i := 31) rfl rfl, oMem1 (i := 1) rfl rfl, by decide +kernel, by decide +kernel, by decide +kernel, by decide +kernel⟩
theorem in_S_deliver : Cond.instanceMethod M_S_deliver.1 ∈ oAll := oMem2 (i := 29) rfl rfl
theorem se_S_deliver : Cond.selects M_S_deliver.1.cls M_S_deliver.1 M_S_deliver.1 ∈ oAll := oMem2 (i := 30) rfl rfl
theorem mk_S_serve : oMk M_S_serve 2 := ⟨oMem2 (i := 51) rfl rfl, oMem1 (i := 1) rfl rfl, by decide +kernel, by decide +kernel, by decide +kernel, by decide +kernel⟩
theorem in_S_serve : Cond.instanceMethod M_S_serve.1 ∈ oAll := oMem2 (i := 49) rfl rfl
theorem se_S_serve : Cond.selects M_S_serve.1.cls M_S_serve.1 M_S_serve.1 ∈ oAll := oMem2 (i := 50) rfl rfl
theorem mk_S_flight : oMk M_S_flight 2 := ⟨oMem2 (i := 66) rfl rfl, oMem1 (i := 1) rfl rfl, by decide +kernel, by decide +kernel, by decide +kernel, by decide +kernel⟩
theorem in_S_flight : Cond.instanceMethod M_S_flight.1 ∈ oAll := oMem2 (i := 64) rfl rfl
theorem se_S_flight : Cond.selects M_S_flight.1.cls M_S_flight.1 M_S_flight.1 ∈ oAll := oMem2 (i := 65) rfl rfl
theorem mk_S_sent : oMk M_S_sent 3 := ⟨oMem2 (i := 35) rfl rfl, oMem1 (i := 1) rfl rfl, by decide +kernel, by decide +kernel, by decide +kernel, by decide +kernel⟩
theorem in_S_sent : Cond.instanceMethod M_S_sent.1 ∈ oAll := oMem2 (i := 33) rfl rfl
theorem se_S_sent : Cond.selects M_S_sent.1.cls M_S_sent.1 M_S_sent.1 ∈ oAll := oMem2 (i := 34) rfl rfl
theorem mk_S_pending : oMk M_S_pending 2 := ⟨oMem2 (i := 71) rfl rfl, oMem1 (i := 1) rfl rfl, by decide +kernel, by decide +kernel, by decide +kernel, by decide +kernel⟩
theorem in_S_pending : Cond.instanceMethod M_S_pending.1 ∈ oAll := oMem2 (i := 69) rfl rfl
theorem se_S_pending : Cond.selects M_S_pending.1.cls M_S_pending.1 M_S_pending.1 ∈ oAll := oMem2 (i := 70) rfl rfl
theorem mk_S_lacks : oMk M_S_lacks 3 := ⟨oMem2 (i := 75) rfl rfl, oMem1 (i := 1) rfl rfl, by decide +kernel, by decide +kernel, by decide +kernel, by decide +kernel⟩
theorem in_S_lacks : Cond.instanceMethod M_S_lacks.1 ∈ oAll := oMem2 (i := 73) rfl rfl
theorem se_S_lacks : Cond.selects M_S_lacks.1.cls M_S_lacks.1 M_S_lacks.1 ∈ oAll := oMem2 (i := 74) rfl rfl
theorem mk_S_latest : oMk M_S_latest 2 := ⟨oMem2 (i := 79) rfl rfl, oMem1 (i := 1) rfl rfl, by decide +kernel, by decide +kernel, by decide +kernel, by decide +kernel⟩
theorem in_S_latest : Cond.instanceMethod M_S_latest.1 ∈ oAll := oMem2 (i := 77) rfl rfl
theorem se_S_latest : Cond.selects M_S_latest.1.cls M_S_latest.1 M_S_latest.1 ∈ oAll := oMem2 (i := 78) rfl rfl
theorem mk_S_visible : oMk M_S_visible 2 := ⟨oMem2 (i := 62) rfl rfl, oMem1 (i := 1) rfl rfl, by decide +kernel, by decide +kernel, by decide +kernel, by decide +kernel⟩
theorem in_S_visible : Cond.instanceMethod M_S_visible.1 ∈ oAll := oMem2 (i := 60) rfl rfl
theorem se_S_visible : Cond.selects M_S_visible.1.cls M_S_visible.1 M_S_visible.1 ∈ oAll := oMem2 (i := 61) rfl rfl
theorem mk_S_clock : oMk M_S_clock 2 := ⟨oMem2 (i := 84) rfl rfl, oMem1 (i := 1) rfl rfl, by decide +kernel, by decide +kernel, by decide +kernel, by decide +kernel⟩
theorem in_S_clock : Cond.instanceMethod M_S_clock.1 ∈ oAll := oMem2 (i := 82) rfl rfl
theorem se_S_clock : Cond.selects M_S_clock.1.cls M_S_clock.1 M_S_clock.1 ∈ oAll := oMem2 (i := 83) rfl rfl
theorem mk_S_context : oMk M_S_context 2 := ⟨oMem2 (i := 88) rfl rfl, oMem1 (i := 1) rfl rfl, by decide +kernel, by decide +kernel, by decide +kernel, by decide +kernel⟩
theorem in_S_context : Cond.instanceMethod M_S_context.1 ∈ oAll := oMem2 (i := 86) rfl rfl
theorem se_S_context : Cond.selects M_S_context.1.cls M_S_context.1 M_S_context.1 ∈ oAll := oMem2 (i := 87) rfl rfl
theorem mk_S_nearest : oMk M_S_nearest 1 := ⟨oMem2 (i := 92) rfl rfl, oMem1 (i := 1) rfl rfl, by decide +kernel, by decide +kernel, by decide +kernel, by decide +kernel⟩
theorem in_S_nearest : Cond.instanceMethod M_S_nearest.1 ∈ oAll := oMem2 (i := 90) rfl rfl
theorem se_S_nearest : Cond.selects M_S_nearest.1.cls M_S_nearest.1 M_S_nearest.1 ∈ oAll := oMem2 (i := 91) rfl rfl
theorem mk_S_about : oMk M_S_about 2 := ⟨oMem2 (i := 96) rfl rfl, oMem1 (i := 1) rfl rfl, by decide +kernel, by decide +kernel, by decide +kernel, by decide +kernel⟩
theorem in_S_about : Cond.instanceMethod M_S_about.1 ∈ oAll := oMem2 (i := 94) rfl rfl
theorem se_S_about : Cond.selects M_S_about.1.cls M_S_about.1 M_S_about.1 ∈ oAll := oMem2 (i := 95) rfl rfl
theorem mk_S_dependency : oMk M_S_dependency 2 := ⟨oMem2 (i := 100) rfl rfl, oMem1 (i := 1) rfl rfl, by decide +kernel, by decide +kernel, by decide +kernel, by decide +kernel⟩
theorem in_S_dependency : Cond.instanceMethod M_S_dependency.1 ∈ oAll := oMem2 (i := 98) rfl rfl
theorem se_S_dependency : Cond.selects M_S_dependency.1.cls M_S_dependency.1 M_S_dependency.1 ∈ oAll := oMem2 (i := 99) rfl rfl
theorem mk_S_isClient : oMk M_S_isClient 1 := ⟨oMem1 (i := 160) rfl rfl, oMem1 (i := 1) rfl rfl, by decide +kernel, by decide +kernel, by decide +kernel, by decide +kernel⟩
theorem st_S_isClient : Cond.static M_S_isClient.1 ∈ oAll := oMem1 (i := 159) rfl rfl
theorem mk_S_isKey : oMk M_S_isKey 1 := ⟨oMem1 (i := 163) rfl rfl, oMem1 (i := 1) rfl rfl, by decide +kernel, by decide +kernel, by decide +kernel, by decide +kernel⟩
theorem st_S_isKey : Cond.static M_S_isKey.1 ∈ oAll := oMem1 (i := 162) rfl rfl
theorem mk_S_isCenter : oMk M_S_isCenter 1 := ⟨oMem2 (i := 38) rfl rfl, oMem1 (i := 1) rfl rfl, by decide +kernel, by decide +kernel, by decide +kernel, by decide +kernel⟩
theorem st_S_isCenter : Cond.static M_S_isCenter.1 ∈ oAll := oMem2 (i := 37) rfl rfl
theorem mk_S_isPartition : oMk M_S_isPartition 1 := ⟨oMem2 (i := 54) rfl rfl, oMem1 (i := 1) rfl rfl, by decide +kernel, by decide +kernel, by decide +kernel, by decide +kernel⟩
theorem st_S_isPartition : Cond.static M_S_isPartition.1 ∈ oAll := oMem2 (i := 53) rfl rfl
theorem mk_S_isWrite : oMk M_S_isWrite 1 := ⟨oMem1 (i := 175) rfl rfl, oMem1 (i := 1) rfl rfl, by decide +kernel, by decide +kernel, by decide +kernel, by decide +kernel⟩
theorem in_S_isWrite : Cond.instanceMethod M_S_isWrite.1 ∈ oAll := oMem1 (i := 174) rfl rfl
theorem se_S_isWrite : Cond.selects M_S_isWrite.1.cls M_S_isWrite.1 M_S_isWrite.1 ∈ oAll := oMemS (i := 2) rfl rfl
theorem mk_S_hasKey : oMk M_S_hasKey 2 := ⟨oMem2 (i := 1) rfl rfl, oMem1 (i := 1) rfl rfl, by decide +kernel, by decide +kernel, by decide +kernel, by decide +kernel⟩
theorem st_S_hasKey : Cond.static M_S_hasKey.1 ∈ oAll := oMem2 (i := 0) rfl rfl
theorem mk_S_tick : oMk M_S_tick 2 := ⟨oMem1 (i := 171) rfl rfl, oMem1 (i := 1) rfl rfl, by decide +kernel, by decide +kernel, by decide +kernel, by decide +kernel⟩
theorem in_S_tick : Cond.instanceMethod M_S_tick.1 ∈ oAll := oMem1 (i := 170) rfl rfl
theorem se_S_tick : Cond.selects M_S_tick.1.cls M_S_tick.1 M_S_tick.1 ∈ oAll := oMemS (i := 1) rfl rfl
theorem mk_S_show : oMk M_S_show 2 := ⟨oMem1 (i := 201) rfl rfl, oMem1 (i := 1) rfl rfl, by decide +kernel, by decide +kernel, by decide +kernel, by decide +kernel⟩
theorem in_S_show : Cond.instanceMethod M_S_show.1 ∈ oAll := oMem1 (i := 200) rfl rfl
theorem se_S_show : Cond.selects M_S_show.1.cls M_S_show.1 M_S_show.1 ∈ oAll := oMemS (i := 7) rfl rfl
theorem mk_S_send : oMk M_S_send 2 := ⟨oMem1 (i := 209) rfl rfl, oMem1 (i := 1) rfl rfl, by decide +kernel, by decide +kernel, by decide +kernel, by decide +kernel⟩
theorem in_S_send : Cond.instanceMethod M_S_send.1 ∈ oAll := oMem1 (i := 208) rfl rfl
theorem se_S_send : Cond.selects M_S_send.1.cls M_S_send.1 M_S_send.1 ∈ oAll := oMemS (i := 9) rfl rfl
theorem mk_S_see : oMk M_S_see 2 := ⟨oMem1 (i := 217) rfl rfl, oMem1 (i := 1) rfl rfl, by decide +kernel, by decide +kernel, by decide +kernel, by decide +kernel⟩
theorem in_S_see : Cond.instanceMethod M_S_see.1 ∈ oAll := oMem1 (i := 216) rfl rfl
theorem se_S_see : Cond.selects M_S_see.1.cls M_S_see.1 M_S_see.1 ∈ oAll := oMemS (i := 11) rfl rfl
theorem mk_S_greater : oMk M_S_greater 2 := ⟨oMem1 (i := 205) rfl rfl, oMem1 (i := 1) rfl rfl, by decide +kernel, by decide +kernel, by decide +kernel, by decide +kernel⟩
theorem in_S_greater : Cond.instanceMethod M_S_greater.1 ∈ oAll := oMem1 (i := 204) rfl rfl
theorem se_S_greater : Cond.selects M_S_greater.1.cls M_S_greater.1 M_S_greater.1 ∈ oAll := oMemS (i := 8) rfl rfl
theorem mk_S_nearestKeys : oMk M_S_nearestKeys 1 := ⟨oMem1 (i := 186) rfl rfl, oMem1 (i := 1) rfl rfl, by decide +kernel, by decide +kernel, by decide +kernel, by decide +kernel⟩
theorem in_S_nearestKeys : Cond.instanceMethod M_S_nearestKeys.1 ∈ oAll := oMem1 (i := 185) rfl rfl
theorem se_S_nearestKeys : Cond.selects M_S_nearestKeys.1.cls M_S_nearestKeys.1 M_S_nearestKeys.1 ∈ oAll := oMemS (i := 4) rfl rfl
theorem mk_S_isCovered : oMk M_S_isCovered 2 := ⟨oMem1 (i := 190) rfl rfl, oMem1 (i := 1) rfl rfl, by decide +kernel, by decide +kernel, by decide +kernel, by decide +kernel⟩
theorem in_S_isCovered : Cond.instanceMethod M_S_isCovered.1 ∈ oAll := oMem1 (i := 189) rfl rfl
theorem se_S_isCovered : Cond.selects M_S_isCovered.1.cls M_S_isCovered.1 M_S_isCovered.1 ∈ oAll := oMemS (i := 5) rfl rfl
theorem mk_S_missingNeeds : oMk M_S_missingNeeds 2 := ⟨oMem2 (i := 58) rfl rfl, oMem1 (i := 1) rfl rfl, by decide +kernel, by decide +kernel, by decide +kernel, by decide +kernel⟩
theorem in_S_missingNeeds : Cond.instanceMethod M_S_missingNeeds.1 ∈ oAll := oMem2 (i := 57) rfl rfl
theorem se_S_missingNeeds : Cond.selects M_S_missingNeeds.1.cls M_S_missingNeeds.1 M_S_missingNeeds.1 ∈ oAll := oMemS (i := 19) rfl rfl
theorem mk_S_readLowestKey : oMk M_S_readLowestKey 1 := ⟨oMem1 (i := 238) rfl rfl, oMem1 (i := 1) rfl rfl, by decide +kernel, by decide +kernel, by decide +kernel, by decide +kernel⟩
theorem in_S_readLowestKey : Cond.instanceMethod M_S_readLowestKey.1 ∈ oAll := oMem1 (i := 237) rfl rfl
theorem se_S_readLowestKey : Cond.selects M_S_readLowestKey.1.cls M_S_readLowestKey.1 M_S_readLowestKey.1 ∈ oAll := oMemS (i := 13) rfl rfl
theorem mk_S_prepareSecondRound : oMk M_S_prepareSecondRound 1 := ⟨oMem2 (i := 5) rfl rfl, oMem1 (i := 1) rfl rfl, by decide +kernel, by decide +kernel, by decide +kernel, by decide +kernel⟩
theorem in_S_prepareSecondRound : Cond.instanceMethod M_S_prepareSecondRound.1 ∈ oAll := oMem2 (i := 4) rfl rfl
theorem se_S_prepareSecondRound : Cond.selects M_S_prepareSecondRound.1.cls M_S_prepareSecondRound.1 M_S_prepareSecondRound.1 ∈ oAll := oMemS (i := 14) rfl rfl
theorem mk_S_dueWrite : oMk M_S_dueWrite 2 := ⟨oMem2 (i := 9) rfl rfl, oMem1 (i := 1) rfl rfl, by decide +kernel, by decide +kernel, by decide +kernel, by decide +kernel⟩
theorem in_S_dueWrite : Cond.instanceMethod M_S_dueWrite.1 ∈ oAll := oMem2 (i := 8) rfl rfl
theorem se_S_dueWrite : Cond.selects M_S_dueWrite.1.cls M_S_dueWrite.1 M_S_dueWrite.1 ∈ oAll := oMemS (i := 15) rfl rfl
theorem mk_S_seeFetched : oMk M_S_seeFetched 1 := ⟨oMem2 (i := 13) rfl rfl, oMem1 (i := 1) rfl rfl, by decide +kernel, by decide +kernel, by decide +kernel, by decide +kernel⟩
theorem in_S_seeFetched : Cond.instanceMethod M_S_seeFetched.1 ∈ oAll := oMem2 (i := 12) rfl rfl
theorem se_S_seeFetched : Cond.selects M_S_seeFetched.1.cls M_S_seeFetched.1 M_S_seeFetched.1 ∈ oAll := oMemS (i := 16) rfl rfl
theorem mk_S_noWrites : oMk M_S_noWrites 0 := ⟨oMem1 (i := 34) rfl rfl, oMem1 (i := 1) rfl rfl, by decide +kernel, by decide +kernel, by decide +kernel, by decide +kernel⟩
theorem st_S_noWrites : Cond.static M_S_noWrites.1 ∈ oAll := oMem1 (i := 33) rfl rfl
theorem mk_N_init : oMk M_N_init 0 := ⟨oMem2 (i := 105) rfl rfl, oMem1 (i := 7) rfl rfl, by decide +kernel, by decide +kernel, by decide +kernel, by decide +kernel⟩
theorem in_N_init : Cond.instanceMethod M_N_init.1 ∈ oAll := oMem2 (i := 104) rfl rfl
theorem mk_N_out : oMk M_N_out 2 := ⟨oMem2 (i := 171) rfl rfl, oMem1 (i := 7) rfl rfl, by decide +kernel, by decide +kernel, by decide +kernel, by decide +kernel⟩
theorem st_N_out : Cond.static M_N_out.1 ∈ oAll := oMem2 (i := 170) rfl rfl
theorem mk_N_count : oMk M_N_count 1 := ⟨oMem2 (i := 225) rfl rfl, oMem1 (i := 7) rfl rfl, by decide +kernel, by decide +kernel, by decide +kernel, by decide +kernel⟩
theorem st_N_count : Cond.static M_N_count.1 ∈ oAll := oMem2 (i := 224) rfl rfl
theorem mk_N_lowest : oMk M_N_lowest 1 := ⟨oMem2 (i := 210) rfl rfl, oMem1 (i := 7) rfl rfl, by decide +kernel, by decide +kernel, by decide +kernel, by decide +kernel⟩
theorem st_N_lowest : Cond.static M_N_lowest.1 ∈ oAll := oMem2 (i := 209) rfl rfl
theorem mk_N_open : oMk M_N_open 1 := ⟨oMem2 (i := 175) rfl rfl, oMem1 (i := 7) rfl rfl, by decide +kernel, by decide +kernel, by decide +kernel, by decide +kernel⟩
theorem in_N_open : Cond.instanceMethod M_N_open.1 ∈ oAll := oMem2 (i := 174) rfl rfl
theorem se_N_open : Cond.selects M_N_open.1.cls M_N_open.1 M_N_open.1 ∈ oAll := oMemS (i := 20) rfl rfl
theorem mk_N_greater : oMk M_N_greater 2 := ⟨oMem2 (i := 191) rfl rfl, oMem1 (i := 7) rfl rfl, by decide +kernel, by decide +kernel, by decide +kernel, by decide +kernel⟩
theorem in_N_greater : Cond.instanceMethod M_N_greater.1 ∈ oAll := oMem2 (i := 190) rfl rfl
theorem se_N_greater : Cond.selects M_N_greater.1.cls M_N_greater.1 M_N_greater.1 ∈ oAll := oMemS (i := 24) rfl rfl
theorem mk_N_latestOf : oMk M_N_latestOf 2 := ⟨oMem2 (i := 199) rfl rfl, oMem1 (i := 7) rfl rfl, by decide +kernel, by decide +kernel, by decide +kernel, by decide +kernel⟩
theorem in_N_latestOf : Cond.instanceMethod M_N_latestOf.1 ∈ oAll := oMem2 (i := 198) rfl rfl
theorem se_N_latestOf : Cond.selects M_N_latestOf.1.cls M_N_latestOf.1 M_N_latestOf.1 ∈ oAll := oMemS (i := 25) rfl rfl
theorem mk_N_near : oMk M_N_near 1 := ⟨oMem2 (i := 179) rfl rfl, oMem1 (i := 7) rfl rfl, by decide +kernel, by decide +kernel, by decide +kernel, by decide +kernel⟩
theorem in_N_near : Cond.instanceMethod M_N_near.1 ∈ oAll := oMem2 (i := 178) rfl rfl
theorem se_N_near : Cond.selects M_N_near.1.cls M_N_near.1 M_N_near.1 ∈ oAll := oMemS (i := 21) rfl rfl
theorem mk_N_see : oMk M_N_see 2 := ⟨oMem2 (i := 187) rfl rfl, oMem1 (i := 7) rfl rfl, by decide +kernel, by decide +kernel, by decide +kernel, by decide +kernel⟩
theorem in_N_see : Cond.instanceMethod M_N_see.1 ∈ oAll := oMem2 (i := 186) rfl rfl
theorem se_N_see : Cond.selects M_N_see.1.cls M_N_see.1 M_N_see.1 ∈ oAll := oMemS (i := 23) rfl rfl
theorem mk_N_send : oMk M_N_send 3 := ⟨oMem2 (i := 183) rfl rfl, oMem1 (i := 7) rfl rfl, by decide +kernel, by decide +kernel, by decide +kernel, by decide +kernel⟩
theorem in_N_send : Cond.instanceMethod M_N_send.1 ∈ oAll := oMem2 (i := 182) rfl rfl
theorem se_N_send : Cond.selects M_N_send.1.cls M_N_send.1 M_N_send.1 ∈ oAll := oMemS (i := 22) rfl rfl
theorem mk_N_put : oMk M_N_put 3 := ⟨oMem2 (i := 168) rfl rfl, oMem1 (i := 7) rfl rfl, by decide +kernel, by decide +kernel, by decide +kernel, by decide +kernel⟩
theorem in_N_put : Cond.instanceMethod M_N_put.1 ∈ oAll := oMem2 (i := 166) rfl rfl
theorem se_N_put : Cond.selects M_N_put.1.cls M_N_put.1 M_N_put.1 ∈ oAll := oMem2 (i := 167) rfl rfl
theorem mk_N_get : oMk M_N_get 2 := ⟨oMem2 (i := 195) rfl rfl, oMem1 (i := 7) rfl rfl, by decide +kernel, by decide +kernel, by decide +kernel, by decide +kernel⟩
theorem in_N_get : Cond.instanceMethod M_N_get.1 ∈ oAll := oMem2 (i := 193) rfl rfl
theorem se_N_get : Cond.selects M_N_get.1.cls M_N_get.1 M_N_get.1 ∈ oAll := oMem2 (i := 194) rfl rfl
theorem mk_N_begin : oMk M_N_begin 2 := ⟨oMem2 (i := 203) rfl rfl, oMem1 (i := 7) rfl rfl, by decide +kernel, by decide +kernel, by decide +kernel, by decide +kernel⟩
theorem in_N_begin : Cond.instanceMethod M_N_begin.1 ∈ oAll := oMem2 (i := 201) rfl rfl
theorem se_N_begin : Cond.selects M_N_begin.1.cls M_N_begin.1 M_N_begin.1 ∈ oAll := oMem2 (i := 202) rfl rfl
theorem mk_N_due : oMk M_N_due 2 := ⟨oMem2 (i := 218) rfl rfl, oMem1 (i := 7) rfl rfl, by decide +kernel, by decide +kernel, by decide +kernel, by decide +kernel⟩
theorem in_N_due : Cond.instanceMethod M_N_due.1 ∈ oAll := oMem2 (i := 217) rfl rfl
theorem se_N_due : Cond.selects M_N_due.1.cls M_N_due.1 M_N_due.1 ∈ oAll := oMemS (i := 27) rfl rfl
theorem mk_N_finish : oMk M_N_finish 1 := ⟨oMem2 (i := 222) rfl rfl, oMem1 (i := 7) rfl rfl, by decide +kernel, by decide +kernel, by decide +kernel, by decide +kernel⟩
theorem in_N_finish : Cond.instanceMethod M_N_finish.1 ∈ oAll := oMem2 (i := 221) rfl rfl
theorem se_N_finish : Cond.selects M_N_finish.1.cls M_N_finish.1 M_N_finish.1 ∈ oAll := oMemS (i := 28) rfl rfl
theorem mk_N_second : oMk M_N_second 1 := ⟨oMem2 (i := 214) rfl rfl, oMem1 (i := 7) rfl rfl, by decide +kernel, by decide +kernel, by decide +kernel, by decide +kernel⟩
theorem in_N_second : Cond.instanceMethod M_N_second.1 ∈ oAll := oMem2 (i := 213) rfl rfl
theorem se_N_second : Cond.selects M_N_second.1.cls M_N_second.1 M_N_second.1 ∈ oAll := oMemS (i := 26) rfl rfl
theorem mk_N_read : oMk M_N_read 1 := ⟨oMem2 (i := 207) rfl rfl, oMem1 (i := 7) rfl rfl, by decide +kernel, by decide +kernel, by decide +kernel, by decide +kernel⟩
theorem in_N_read : Cond.instanceMethod M_N_read.1 ∈ oAll := oMem2 (i := 205) rfl rfl
theorem se_N_read : Cond.selects M_N_read.1.cls M_N_read.1 M_N_read.1 ∈ oAll := oMem2 (i := 206) rfl rfl
theorem mk_N_got : oMk M_N_got 2 := ⟨oMem2 (i := 229) rfl rfl, oMem1 (i := 7) rfl rfl, by decide +kernel, by decide +kernel, by decide +kernel, by decide +kernel⟩
theorem in_N_got : Cond.instanceMethod M_N_got.1 ∈ oAll := oMem2 (i := 227) rfl rfl
theorem se_N_got : Cond.selects M_N_got.1.cls M_N_got.1 M_N_got.1 ∈ oAll := oMem2 (i := 228) rfl rfl
theorem mk_N_rounds : oMk M_N_rounds 1 := ⟨oMem2 (i := 233) rfl rfl, oMem1 (i := 7) rfl rfl, by decide +kernel, by decide +kernel, by decide +kernel, by decide +kernel⟩
theorem in_N_rounds : Cond.instanceMethod M_N_rounds.1 ∈ oAll := oMem2 (i := 231) rfl rfl
theorem se_N_rounds : Cond.selects M_N_rounds.1.cls M_N_rounds.1 M_N_rounds.1 ∈ oAll := oMem2 (i := 232) rfl rfl
theorem mk_N_link : oMk M_N_link 2 := ⟨oMem3 (i := 1) rfl rfl, oMem1 (i := 7) rfl rfl, by decide +kernel, by decide +kernel, by decide +kernel, by decide +kernel⟩
theorem in_N_link : Cond.instanceMethod M_N_link.1 ∈ oAll := oMem3 (i := 0) rfl rfl
theorem se_N_link : Cond.selects M_N_link.1.cls M_N_link.1 M_N_link.1 ∈ oAll := oMemS (i := 29) rfl rfl
theorem mk_N_deliver : oMk M_N_deliver 3 := ⟨oMem2 (i := 237) rfl rfl, oMem1 (i := 7) rfl rfl, by decide +kernel, by decide +kernel, by decide +kernel, by decide +kernel⟩
theorem in_N_deliver : Cond.instanceMethod M_N_deliver.1 ∈ oAll := oMem2 (i := 235) rfl rfl
theorem se_N_deliver : Cond.selects M_N_deliver.1.cls M_N_deliver.1 M_N_deliver.1 ∈ oAll := oMem2 (i := 236) rfl rfl
theorem mk_N_missing : oMk M_N_missing 2 := ⟨oMem3 (i := 9) rfl rfl, oMem1 (i := 7) rfl rfl, by decide +kernel, by decide +kernel, by decide +kernel, by decide +kernel⟩
theorem in_N_missing : Cond.instanceMethod M_N_missing.1 ∈ oAll := oMem3 (i := 8) rfl rfl
theorem se_N_missing : Cond.selects M_N_missing.1.cls M_N_missing.1 M_N_missing.1 ∈ oAll := oMemS (i := 30) rfl rfl
theorem mk_N_serve : oMk M_N_serve 2 := ⟨oMem3 (i := 5) rfl rfl, oMem1 (i := 7) rfl rfl, by decide +kernel, by decide +kernel, by decide +kernel, by decide +kernel⟩
theorem in_N_serve : Cond.instanceMethod M_N_serve.1 ∈ oAll := oMem3 (i := 3) rfl rfl
theorem se_N_serve : Cond.selects M_N_serve.1.cls M_N_serve.1 M_N_serve.1 ∈ oAll := oMem3 (i := 4) rfl rfl
theorem mk_N_flight : oMk M_N_flight 2 := ⟨oMem3 (i := 13) rfl rfl, oMem1 (i := 7) rfl rfl, by decide +kernel, by decide +kernel, by decide +kernel, by decide +kernel⟩
theorem in_N_flight : Cond.instanceMethod M_N_flight.1 ∈ oAll := oMem3 (i := 11) rfl rfl
theorem se_N_flight : Cond.selects M_N_flight.1.cls M_N_flight.1 M_N_flight.1 ∈ oAll := oMem3 (i := 12) rfl rfl
theorem mk_N_sent : oMk M_N_sent 3 := ⟨oMem3 (i := 17) rfl rfl, oMem1 (i := 7) rfl rfl, by decide +kernel, by decide +kernel, by decide +kernel, by decide +kernel⟩
theorem in_N_sent : Cond.instanceMethod M_N_sent.1 ∈ oAll := oMem3 (i := 15) rfl rfl
theorem se_N_sent : Cond.selects M_N_sent.1.cls M_N_sent.1 M_N_sent.1 ∈ oAll := oMem3 (i := 16) rfl rfl
theorem mk_N_pending : oMk M_N_pending 2 := ⟨oMem3 (i := 21) rfl rfl, oMem1 (i := 7) rfl rfl, by decide +kernel, by decide +kernel, by decide +kernel, by decide +kernel⟩
theorem in_N_pending : Cond.instanceMethod M_N_pending.1 ∈ oAll := oMem3 (i := 19) rfl rfl
theorem se_N_pending : Cond.selects M_N_pending.1.cls M_N_pending.1 M_N_pending.1 ∈ oAll := oMem3 (i := 20) rfl rfl
theorem mk_N_lacks : oMk M_N_lacks 3 := ⟨oMem3 (i := 25) rfl rfl, oMem1 (i := 7) rfl rfl, by decide +kernel, by decide +kernel, by decide +kernel, by decide +kernel⟩
theorem in_N_lacks : Cond.instanceMethod M_N_lacks.1 ∈ oAll := oMem3 (i := 23) rfl rfl
theorem se_N_lacks : Cond.selects M_N_lacks.1.cls M_N_lacks.1 M_N_lacks.1 ∈ oAll := oMem3 (i := 24) rfl rfl
theorem mk_N_latest : oMk M_N_latest 2 := ⟨oMem3 (i := 29) rfl rfl, oMem1 (i := 7) rfl rfl, by decide +kernel, by decide +kernel, by decide +kernel, by decide +kernel⟩
theorem in_N_latest : Cond.instanceMethod M_N_latest.1 ∈ oAll := oMem3 (i := 27) rfl rfl
theorem se_N_latest : Cond.selects M_N_latest.1.cls M_N_latest.1 M_N_latest.1 ∈ oAll := oMem3 (i := 28) rfl rfl
theorem mk_N_visible : oMk M_N_visible 2 := ⟨oMem3 (i := 33) rfl rfl, oMem1 (i := 7) rfl rfl, by decide +kernel, by decide +kernel, by decide +kernel, by decide +kernel⟩
theorem in_N_visible : Cond.instanceMethod M_N_visible.1 ∈ oAll := oMem3 (i := 31) rfl rfl
theorem se_N_visible : Cond.selects M_N_visible.1.cls M_N_visible.1 M_N_visible.1 ∈ oAll := oMem3 (i := 32) rfl rfl
theorem mk_N_clock : oMk M_N_clock 2 := ⟨oMem3 (i := 37) rfl rfl, oMem1 (i := 7) rfl rfl, by decide +kernel, by decide +kernel, by decide +kernel, by decide +kernel⟩
theorem in_N_clock : Cond.instanceMethod M_N_clock.1 ∈ oAll := oMem3 (i := 35) rfl rfl
theorem se_N_clock : Cond.selects M_N_clock.1.cls M_N_clock.1 M_N_clock.1 ∈ oAll := oMem3 (i := 36) rfl rfl
theorem mk_N_context : oMk M_N_context 2 := ⟨oMem3 (i := 41) rfl rfl, oMem1 (i := 7) rfl rfl, by decide +kernel, by decide +kernel, by decide +kernel, by decide +kernel⟩
theorem in_N_context : Cond.instanceMethod M_N_context.1 ∈ oAll := oMem3 (i := 39) rfl rfl
theorem se_N_context : Cond.selects M_N_context.1.cls M_N_context.1 M_N_context.1 ∈ oAll := oMem3 (i := 40) rfl rfl
theorem mk_N_nearest : oMk M_N_nearest 1 := ⟨oMem3 (i := 45) rfl rfl, oMem1 (i := 7) rfl rfl, by decide +kernel, by decide +kernel, by decide +kernel, by decide +kernel⟩
theorem in_N_nearest : Cond.instanceMethod M_N_nearest.1 ∈ oAll := oMem3 (i := 43) rfl rfl
theorem se_N_nearest : Cond.selects M_N_nearest.1.cls M_N_nearest.1 M_N_nearest.1 ∈ oAll := oMem3 (i := 44) rfl rfl
theorem mk_N_about : oMk M_N_about 2 := ⟨oMem3 (i := 49) rfl rfl, oMem1 (i := 7) rfl rfl, by decide +kernel, by decide +kernel, by decide +kernel, by decide +kernel⟩
theorem in_N_about : Cond.instanceMethod M_N_about.1 ∈ oAll := oMem3 (i := 47) rfl rfl
theorem se_N_about : Cond.selects M_N_about.1.cls M_N_about.1 M_N_about.1 ∈ oAll := oMem3 (i := 48) rfl rfl
theorem mk_N_dependency : oMk M_N_dependency 2 := ⟨oMem3 (i := 53) rfl rfl, oMem1 (i := 7) rfl rfl, by decide +kernel, by decide +kernel, by decide +kernel, by decide +kernel⟩
theorem in_N_dependency : Cond.instanceMethod M_N_dependency.1 ∈ oAll := oMem3 (i := 51) rfl rfl
theorem se_N_dependency : Cond.selects M_N_dependency.1.cls M_N_dependency.1 M_N_dependency.1 ∈ oAll := oMem3 (i := 52) rfl rfl
theorem mk_JA_fill : oMk M_JA_fill 2 := ⟨oMem1 (i := 37) rfl rfl, oMem1 (i := 3) rfl rfl, by decide +kernel, by decide +kernel, by decide +kernel, by decide +kernel⟩
theorem st_JA_fill : Cond.static M_JA_fill.1 ∈ oAll := oMem1 (i := 36) rfl rfl
theorem mk_JI_bitCount : oMk M_JI_bitCount 1 := ⟨oMem2 (i := 16) rfl rfl, oMem1 (i := 10) rfl rfl, by decide +kernel, by decide +kernel, by decide +kernel, by decide +kernel⟩
theorem st_JI_bitCount : Cond.static M_JI_bitCount.1 ∈ oAll := oMem2 (i := 15) rfl rfl
-- links
theorem oi_C_3 : Cond.methodLink RC 3 Lib.objectInit ∈ oAll := oMem1 (i := 68) rfl rfl
theorem fl_C_9 : oF RC 9 2 0 := ⟨_, rfl, by decide, Or.inl (oMem1 (i := 85) rfl rfl)⟩
theorem ff_C_9 : oFf RC 9 2 0 (.array .boolean) := ⟨_, rfl, by decide, oMem1 (i := 85) rfl rfl, rfl, rfl, by decide +kernel⟩
theorem ml_C_15 : oMl RC 15 M_S_noWrites := Or.inr ⟨"CausalStore", List.mem_of_getElem? (i := 3) rfl⟩
theorem fl_C_19 : oF RC 19 2 1 := ⟨_, rfl, by decide, Or.inl (oMem1 (i := 87) rfl rfl)⟩
theorem ff_C_19 : oFf RC 19 2 1 (.array .int) := ⟨_, rfl, by decide, oMem1 (i := 87) rfl rfl, rfl, rfl, by decide +kernel⟩
theorem fl_C_23 : oF RC 23 2 2 := ⟨_, rfl, by decide, Or.inl (oMem1 (i := 89) rfl rfl)⟩
theorem ff_C_23 : oFf RC 23 2 2 (.array .int) := ⟨_, rfl, by decide, oMem1 (i := 89) rfl rfl, rfl, rfl, by decide +kernel⟩
theorem cl_C_26 : Cond.classLink RC 26 RR ∈ oAll := oMem1 (i := 70) rfl rfl
theorem fl_C_28 : oF RC 28 2 3 := ⟨_, rfl, by decide, Or.inl (oMem1 (i := 91) rfl rfl)⟩
theorem ff_C_28 : oFf RC 28 2 3 (.array (.object "CausalStore$Row")) := ⟨_, rfl, by decide, oMem1 (i := 91) rfl rfl, rfl, rfl, by decide +kernel⟩
theorem ml_C_32 : oMl RC 32 M_R_init := Or.inr ⟨"CausalStore", List.mem_of_getElem? (i := 4) rfl⟩
theorem oi_K_3 : Cond.methodLink RK 3 Lib.objectInit ∈ oAll := oMem1 (i := 106) rfl rfl
theorem ml_K_9 : oMl RK 9 M_S_noWrites := Or.inr ⟨"CausalStore", List.mem_of_getElem? (i := 6) rfl⟩
theorem fl_K_13 : oF RK 13 3 1 := ⟨_, rfl, by decide, Or.inl (oMem1 (i := 110) rfl rfl)⟩
theorem ff_K_13 : oFf RK 13 3 1 (.array .int) := ⟨_, rfl, by decide, oMem1 (i := 110) rfl rfl, rfl, rfl, by decide +kernel⟩
theorem fl_K_19 : oF RK 19 3 2 := ⟨_, rfl, by decide, Or.inl (oMem1 (i := 112) rfl rfl)⟩
theorem ff_K_19 : oFf RK 19 3 2 (.array .int) := ⟨_, rfl, by decide, oMem1 (i := 112) rfl rfl, rfl, rfl, by decide +kernel⟩
theorem fl_K_22 : oF RK 22 3 3 := ⟨_, rfl, by decide, Or.inl (oMem1 (i := 114) rfl rfl)⟩
theorem ff_K_22 : oFf RK 22 3 3 (.array .int) := ⟨_, rfl, by decide, oMem1 (i := 114) rfl rfl, rfl, rfl, by decide +kernel⟩
theorem fl_K_25 : oF RK 25 3 0 := ⟨_, rfl, by decide, Or.inl (oMem1 (i := 108) rfl rfl)⟩
theorem ff_K_25 : oFf RK 25 3 0 (.int) := ⟨_, rfl, by decide, oMem1 (i := 108) rfl rfl, rfl, rfl, by decide +kernel⟩
theorem fl_K_29 : oF RK 29 3 5 := ⟨_, rfl, by decide, Or.inl (oMem1 (i := 118) rfl rfl)⟩
theorem fl_K_32 : oF RK 32 3 4 := ⟨_, rfl, by decide, Or.inl (oMem1 (i := 116) rfl rfl)⟩
theorem fs_K_32 : oFs RK 32 3 4 (.int) := ⟨fl_K_32, fun q h => by
  cases h
  exact ⟨rfl, by decide +kernel⟩⟩
theorem fs_K_29 : oFs RK 29 3 5 (.int) := ⟨fl_K_29, fun q h => by
  cases h
  exact ⟨rfl, by decide +kernel⟩⟩
theorem fl_K_35 : oF RK 35 3 6 := ⟨_, rfl, by decide, Or.inl (oMem1 (i := 120) rfl rfl)⟩
theorem fs_K_35 : oFs RK 35 3 6 (.int) := ⟨fl_K_35, fun q h => by
  cases h
  exact ⟨rfl, by decide +kernel⟩⟩
theorem ml_K_38 : oMl RK 38 M_JA_fill := Or.inl (oMem1 (i := 230) rfl rfl)
theorem oi_R_3 : Cond.methodLink RR 3 Lib.objectInit ∈ oAll := oMem1 (i := 75) rfl rfl
theorem fl_R_9 : oF RR 9 4 0 := ⟨_, rfl, by decide, Or.inl (oMem1 (i := 76) rfl rfl)⟩
theorem ff_R_9 : oFf RR 9 4 0 (.array .int) := ⟨_, rfl, by decide, oMem1 (i := 76) rfl rfl, rfl, rfl, by decide +kernel⟩
theorem fl_R_15 : oF RR 15 4 1 := ⟨_, rfl, by decide, Or.inl (oMem1 (i := 77) rfl rfl)⟩
theorem fs_R_15 : oFs RR 15 4 1 (.int) := ⟨fl_R_15, fun q h => by
  cases h
  exact ⟨rfl, by decide +kernel⟩⟩
theorem cp_R_19 : Cond.methodLink RR 19 arraycopyName ∈ oAll := oMem2 (i := 47) rfl rfl
theorem oi_W_3 : Cond.methodLink RW 3 Lib.objectInit ∈ oAll := oMem1 (i := 31) rfl rfl
theorem ml_W_9 : oMl RW 9 M_S_noWrites := Or.inr ⟨"CausalStore", List.mem_of_getElem? (i := 1) rfl⟩
theorem fl_W_13 : oF RW 13 1 0 := ⟨_, rfl, by decide, Or.inl (oMem1 (i := 38) rfl rfl)⟩
theorem ff_W_13 : oFf RW 13 1 0 (.array .int) := ⟨_, rfl, by decide, oMem1 (i := 38) rfl rfl, rfl, rfl, by decide +kernel⟩
theorem fl_W_19 : oF RW 19 1 1 := ⟨_, rfl, by decide, Or.inl (oMem1 (i := 40) rfl rfl)⟩
theorem fs_W_19 : oFs RW 19 1 1 (.int) := ⟨fl_W_19, fun q h => by
  cases h
  exact ⟨rfl, by decide +kernel⟩⟩
theorem fl_W_23 : oF RW 23 1 2 := ⟨_, rfl, by decide, Or.inl (oMem1 (i := 42) rfl rfl)⟩
theorem fs_W_23 : oFs RW 23 1 2 (.int) := ⟨fl_W_23, fun q h => by
  cases h
  exact ⟨rfl, by decide +kernel⟩⟩
theorem fl_W_26 : oF RW 26 1 3 := ⟨_, rfl, by decide, Or.inl (oMem1 (i := 44) rfl rfl)⟩
theorem fs_W_26 : oFs RW 26 1 3 (.int) := ⟨fl_W_26, fun q h => by
  cases h
  exact ⟨rfl, by decide +kernel⟩⟩
theorem fl_W_29 : oF RW 29 1 4 := ⟨_, rfl, by decide, Or.inl (oMem1 (i := 46) rfl rfl)⟩
theorem fs_W_29 : oFs RW 29 1 4 (.int) := ⟨fl_W_29, fun q h => by
  cases h
  exact ⟨rfl, by decide +kernel⟩⟩
theorem cp_W_32 : Cond.methodLink RW 32 arraycopyName ∈ oAll := oMem1 (i := 195) rfl rfl
theorem fl_W_38 : oF RW 38 1 5 := ⟨_, rfl, by decide, Or.inl (oMem1 (i := 48) rfl rfl)⟩
theorem fs_W_38 : oFs RW 38 1 5 (.int) := ⟨fl_W_38, fun q h => by
  cases h
  exact ⟨rfl, by decide +kernel⟩⟩
theorem oi_S_1 : Cond.methodLink RS 1 Lib.objectInit ∈ oAll := oMem1 (i := 16) rfl rfl
theorem cl_S_9 : Cond.classLink RS 9 RW ∈ oAll := oMem1 (i := 19) rfl rfl
theorem fl_S_11 : oF RS 11 0 0 := ⟨_, rfl, by decide, Or.inl (oMem1 (i := 138) rfl rfl)⟩
theorem ff_S_11 : oFf RS 11 0 0 (.array (.object "CausalStore$Write")) := ⟨_, rfl, by decide, oMem1 (i := 138) rfl rfl, rfl, rfl, by decide +kernel⟩
theorem cl_S_15 : Cond.classLink RS 15 RC ∈ oAll := oMem1 (i := 21) rfl rfl
theorem fl_S_17 : oF RS 17 0 1 := ⟨_, rfl, by decide, Or.inl (oMem1 (i := 139) rfl rfl)⟩
theorem ff_S_17 : oFf RS 17 0 1 (.array (.object "CausalStore$Center")) := ⟨_, rfl, by decide, oMem1 (i := 139) rfl rfl, rfl, rfl, by decide +kernel⟩
theorem cl_S_21 : Cond.classLink RS 21 RK ∈ oAll := oMem1 (i := 23) rfl rfl
theorem fl_S_23 : oF RS 23 0 2 := ⟨_, rfl, by decide, Or.inl (oMem1 (i := 140) rfl rfl)⟩
theorem ff_S_23 : oFf RS 23 0 2 (.array (.object "CausalStore$Client")) := ⟨_, rfl, by decide, oMem1 (i := 140) rfl rfl, rfl, rfl, by decide +kernel⟩
theorem cl_S_27 : Cond.classLink RS 27 RR ∈ oAll := oMem1 (i := 25) rfl rfl
theorem fl_S_29 : oF RS 29 0 3 := ⟨_, rfl, by decide, Or.inl (oMem1 (i := 141) rfl rfl)⟩
theorem ff_S_29 : oFf RS 29 0 3 (.array (.object "CausalStore$Row")) := ⟨_, rfl, by decide, oMem1 (i := 141) rfl rfl, rfl, rfl, by decide +kernel⟩
theorem ml_S_33 : oMl RS 33 M_W_init := Or.inr ⟨"CausalStore", List.mem_of_getElem? (i := 0) rfl⟩
theorem ml_S_34 : oMl RS 34 M_C_init := Or.inr ⟨"CausalStore", List.mem_of_getElem? (i := 2) rfl⟩
theorem ml_S_35 : oMl RS 35 M_K_init := Or.inr ⟨"CausalStore", List.mem_of_getElem? (i := 5) rfl⟩
theorem ml_S_38 : oMl RS 38 M_R_init := Or.inr ⟨"CausalStore", List.mem_of_getElem? (i := 7) rfl⟩
theorem ml_S_39 : oMl RS 39 M_S_isClient := Or.inl (oMem1 (i := 158) rfl rfl)
theorem ml_S_43 : oMl RS 43 M_S_isKey := Or.inl (oMem1 (i := 161) rfl rfl)
theorem ml_S_46 : oMl RS 46 M_K_isOpen := Or.inr ⟨"CausalStore", List.mem_of_getElem? (i := 8) rfl⟩
theorem fl_S_50 : oF RS 50 0 4 := ⟨_, rfl, by decide, Or.inl (oMem1 (i := 142) rfl rfl)⟩
theorem ml_S_54 : oMl RS 54 M_S_tick := Or.inl (oMem1 (i := 168) rfl rfl)
theorem fl_S_58 : oF RS 58 3 0 := ⟨_, rfl, by decide, Or.inr ⟨"CausalStore", List.mem_of_getElem? (i := 11) rfl⟩⟩
theorem ml_S_61 : oMl RS 61 M_W_fill := Or.inr ⟨"CausalStore", List.mem_of_getElem? (i := 9) rfl⟩
theorem fl_S_65 : oF RS 65 3 1 := ⟨_, rfl, by decide, Or.inr ⟨"CausalStore", List.mem_of_getElem? (i := 12) rfl⟩⟩
theorem ml_S_69 : oMl RS 69 M_S_nearestKeys := Or.inl (oMem1 (i := 183) rfl rfl)
theorem ml_S_73 : oMl RS 73 M_W_dependOn := Or.inr ⟨"CausalStore", List.mem_of_getElem? (i := 10) rfl⟩
theorem fs_S_50 : oFs RS 50 0 4 (.int) := ⟨fl_S_50, fun q h => by
  cases h
  exact ⟨rfl, by decide +kernel⟩⟩
theorem ml_S_77 : oMl RS 77 M_S_show := Or.inl (oMem1 (i := 198) rfl rfl)
theorem ml_S_81 : oMl RS 81 M_S_send := Or.inl (oMem1 (i := 206) rfl rfl)
theorem ml_S_84 : oMl RS 84 M_S_see := Or.inl (oMem1 (i := 214) rfl rfl)
theorem fl_S_88 : oF RS 88 2 1 := ⟨_, rfl, by decide, Or.inr ⟨"CausalStore", List.mem_of_getElem? (i := 8) rfl⟩⟩
theorem ml_S_91 : oMl RS 91 M_K_open := Or.inr ⟨"CausalStore", List.mem_of_getElem? (i := 12) rfl⟩
theorem ml_S_94 : oMl RS 94 M_S_readLowestKey := Or.inl (oMem1 (i := 235) rfl rfl)
theorem fl_S_98 : oF RS 98 3 5 := ⟨_, rfl, by decide, Or.inr ⟨"CausalStore", List.mem_of_getElem? (i := 16) rfl⟩⟩
theorem fl_S_101 : oF RS 101 3 6 := ⟨_, rfl, by decide, Or.inr ⟨"CausalStore", List.mem_of_getElem? (i := 17) rfl⟩⟩
theorem ml_S_104 : oMl RS 104 M_S_prepareSecondRound := Or.inl (oMem2 (i := 2) rfl rfl)
theorem ml_S_107 : oMl RS 107 M_S_seeFetched := Or.inl (oMem2 (i := 10) rfl rfl)
theorem ml_S_110 : oMl RS 110 M_JI_bitCount := Or.inl (oMem2 (i := 14) rfl rfl)
theorem fl_S_116 : oF RS 116 3 2 := ⟨_, rfl, by decide, Or.inr ⟨"CausalStore", List.mem_of_getElem? (i := 13) rfl⟩⟩
theorem ml_S_119 : oMl RS 119 M_S_sent := Or.inl (oMem2 (i := 32) rfl rfl)
theorem ml_S_123 : oMl RS 123 M_S_isWrite := Or.inl (oMem1 (i := 172) rfl rfl)
theorem ml_S_126 : oMl RS 126 M_R_removeAt := Or.inr ⟨"CausalStore", List.mem_of_getElem? (i := 14) rfl⟩
theorem fl_S_129 : oF RS 129 1 1 := ⟨_, rfl, by decide, Or.inr ⟨"CausalStore", List.mem_of_getElem? (i := 1) rfl⟩⟩
theorem fl_S_132 : oF RS 132 2 2 := ⟨_, rfl, by decide, Or.inr ⟨"CausalStore", List.mem_of_getElem? (i := 9) rfl⟩⟩
theorem fl_S_135 : oF RS 135 1 3 := ⟨_, rfl, by decide, Or.inr ⟨"CausalStore", List.mem_of_getElem? (i := 3) rfl⟩⟩
theorem mx_S_138 : Cond.methodLink RS 138 Lib.Math.max.name ∈ oAll := oMem1 (i := 176) rfl rfl
theorem fl_S_144 : oF RS 144 2 3 := ⟨_, rfl, by decide, Or.inr ⟨"CausalStore", List.mem_of_getElem? (i := 10) rfl⟩⟩
theorem ml_S_147 : oMl RS 147 M_R_append := Or.inr ⟨"CausalStore", List.mem_of_getElem? (i := 11) rfl⟩
theorem ml_S_150 : oMl RS 150 M_S_isCenter := Or.inl (oMem2 (i := 36) rfl rfl)
theorem ml_S_153 : oMl RS 153 M_S_isPartition := Or.inl (oMem2 (i := 52) rfl rfl)
theorem fl_S_156 : oF RS 156 4 1 := ⟨_, rfl, by decide, Or.inr ⟨"CausalStore", List.mem_of_getElem? (i := 6) rfl⟩⟩
theorem ml_S_159 : oMl RS 159 M_R_at := Or.inr ⟨"CausalStore", List.mem_of_getElem? (i := 13) rfl⟩
theorem ml_S_162 : oMl RS 162 M_S_missingNeeds := Or.inl (oMem2 (i := 55) rfl rfl)
theorem fl_S_165 : oF RS 165 2 0 := ⟨_, rfl, by decide, Or.inr ⟨"CausalStore", List.mem_of_getElem? (i := 7) rfl⟩⟩
theorem fl_S_169 : oF RS 169 1 4 := ⟨_, rfl, by decide, Or.inr ⟨"CausalStore", List.mem_of_getElem? (i := 4) rfl⟩⟩
theorem fl_S_172 : oF RS 172 1 2 := ⟨_, rfl, by decide, Or.inr ⟨"CausalStore", List.mem_of_getElem? (i := 2) rfl⟩⟩
theorem fl_S_175 : oF RS 175 1 5 := ⟨_, rfl, by decide, Or.inr ⟨"CausalStore", List.mem_of_getElem? (i := 5) rfl⟩⟩
theorem fl_S_178 : oF RS 178 1 0 := ⟨_, rfl, by decide, Or.inr ⟨"CausalStore", List.mem_of_getElem? (i := 0) rfl⟩⟩
theorem ml_S_179 : oMl RS 179 M_S_greater := Or.inl (oMem1 (i := 202) rfl rfl)
theorem ml_S_182 : oMl RS 182 M_S_isCovered := Or.inl (oMem1 (i := 187) rfl rfl)
theorem ml_S_186 : oMl RS 186 M_S_hasKey := Or.inl (oMem1 (i := 239) rfl rfl)
theorem ml_S_190 : oMl RS 190 M_S_visible := Or.inl (oMem2 (i := 59) rfl rfl)
theorem fl_S_193 : oF RS 193 3 3 := ⟨_, rfl, by decide, Or.inr ⟨"CausalStore", List.mem_of_getElem? (i := 14) rfl⟩⟩
theorem fs_S_98 : oFs RS 98 3 5 (.int) := ⟨fl_S_98, fun q h => by
  cases h
  exact ⟨rfl, by decide +kernel⟩⟩
theorem ml_S_196 : oMl RS 196 M_S_dueWrite := Or.inl (oMem2 (i := 6) rfl rfl)
theorem fl_S_200 : oF RS 200 3 4 := ⟨_, rfl, by decide, Or.inr ⟨"CausalStore", List.mem_of_getElem? (i := 15) rfl⟩⟩
theorem fs_S_101 : oFs RS 101 3 6 (.int) := ⟨fl_S_101, fun q h => by
  cases h
  exact ⟨rfl, by decide +kernel⟩⟩
theorem ml_S_203 : oMl RS 203 M_JA_fill := Or.inl (oMem1 (i := 35) rfl rfl)
theorem cl_L_7 : Cond.classLink RL 7 RS ∈ oAll := oMem1 (i := 11) rfl rfl
theorem ml_L_9 : oMl RL 9 M_S_init := Or.inl (oMem1 (i := 13) rfl rfl)
theorem cl_L_10 : Cond.classLink RL 10 RN ∈ oAll := oMem2 (i := 101) rfl rfl
theorem ml_L_12 : oMl RL 12 M_N_init := Or.inl (oMem2 (i := 103) rfl rfl)
theorem ml_L_13 : oMl RL 13 M_S_put := Or.inl (oMem1 (i := 154) rfl rfl)
theorem ml_L_17 : oMl RL 17 M_N_put := Or.inl (oMem2 (i := 165) rfl rfl)
theorem ml_L_18 : oMl RL 18 M_S_get := Or.inl (oMem1 (i := 218) rfl rfl)
theorem ml_L_22 : oMl RL 22 M_N_get := Or.inl (oMem2 (i := 192) rfl rfl)
theorem ml_L_23 : oMl RL 23 M_S_begin := Or.inl (oMem1 (i := 222) rfl rfl)
theorem ml_L_27 : oMl RL 27 M_N_begin := Or.inl (oMem2 (i := 200) rfl rfl)
theorem ml_L_28 : oMl RL 28 M_S_read := Or.inl (oMem1 (i := 231) rfl rfl)
theorem ml_L_32 : oMl RL 32 M_N_read := Or.inl (oMem2 (i := 204) rfl rfl)
theorem ml_L_33 : oMl RL 33 M_S_got := Or.inl (oMem2 (i := 20) rfl rfl)
theorem ml_L_36 : oMl RL 36 M_N_got := Or.inl (oMem2 (i := 226) rfl rfl)
theorem ml_L_37 : oMl RL 37 M_S_rounds := Or.inl (oMem2 (i := 24) rfl rfl)
theorem ml_L_40 : oMl RL 40 M_N_rounds := Or.inl (oMem2 (i := 230) rfl rfl)
theorem ml_L_41 : oMl RL 41 M_S_deliver := Or.inl (oMem2 (i := 28) rfl rfl)
theorem ml_L_45 : oMl RL 45 M_N_deliver := Or.inl (oMem2 (i := 234) rfl rfl)
theorem ml_L_46 : oMl RL 46 M_S_serve := Or.inl (oMem2 (i := 48) rfl rfl)
theorem ml_L_49 : oMl RL 49 M_N_serve := Or.inl (oMem3 (i := 2) rfl rfl)
theorem ml_L_50 : oMl RL 50 M_S_flight := Or.inl (oMem2 (i := 63) rfl rfl)
theorem ml_L_53 : oMl RL 53 M_N_flight := Or.inl (oMem3 (i := 10) rfl rfl)
theorem ml_L_54 : oMl RL 54 M_S_sent := Or.inl (oMem2 (i := 67) rfl rfl)
theorem ml_L_57 : oMl RL 57 M_N_sent := Or.inl (oMem3 (i := 14) rfl rfl)
theorem ml_L_58 : oMl RL 58 M_S_pending := Or.inl (oMem2 (i := 68) rfl rfl)
theorem ml_L_61 : oMl RL 61 M_N_pending := Or.inl (oMem3 (i := 18) rfl rfl)
theorem ml_L_62 : oMl RL 62 M_S_lacks := Or.inl (oMem2 (i := 72) rfl rfl)
theorem ml_L_65 : oMl RL 65 M_N_lacks := Or.inl (oMem3 (i := 22) rfl rfl)
theorem ml_L_66 : oMl RL 66 M_S_latest := Or.inl (oMem2 (i := 76) rfl rfl)
theorem ml_L_69 : oMl RL 69 M_N_latest := Or.inl (oMem3 (i := 26) rfl rfl)
theorem ml_L_70 : oMl RL 70 M_S_visible := Or.inl (oMem2 (i := 80) rfl rfl)
theorem ml_L_73 : oMl RL 73 M_N_visible := Or.inl (oMem3 (i := 30) rfl rfl)
theorem ml_L_74 : oMl RL 74 M_S_clock := Or.inl (oMem2 (i := 81) rfl rfl)
theorem ml_L_77 : oMl RL 77 M_N_clock := Or.inl (oMem3 (i := 34) rfl rfl)
theorem ml_L_78 : oMl RL 78 M_S_context := Or.inl (oMem2 (i := 85) rfl rfl)
theorem ml_L_81 : oMl RL 81 M_N_context := Or.inl (oMem3 (i := 38) rfl rfl)
theorem ml_L_82 : oMl RL 82 M_S_nearest := Or.inl (oMem2 (i := 89) rfl rfl)
theorem ml_L_85 : oMl RL 85 M_N_nearest := Or.inl (oMem3 (i := 42) rfl rfl)
theorem ml_L_86 : oMl RL 86 M_S_about := Or.inl (oMem2 (i := 93) rfl rfl)
theorem ml_L_89 : oMl RL 89 M_N_about := Or.inl (oMem3 (i := 46) rfl rfl)
theorem ml_L_90 : oMl RL 90 M_S_dependency := Or.inl (oMem2 (i := 97) rfl rfl)
theorem ml_L_93 : oMl RL 93 M_N_dependency := Or.inl (oMem3 (i := 50) rfl rfl)
theorem oi_N_1 : Cond.methodLink RN 1 Lib.objectInit ∈ oAll := oMem2 (i := 106) rfl rfl
theorem fl_N_7 : oF RN 7 5 1 := ⟨_, rfl, by decide, Or.inl (oMem2 (i := 108) rfl rfl)⟩
theorem ff_N_7 : oFf RN 7 5 1 (.array .int) := ⟨_, rfl, by decide, oMem2 (i := 108) rfl rfl, rfl, rfl, by decide +kernel⟩
theorem fl_N_13 : oF RN 13 5 2 := ⟨_, rfl, by decide, Or.inl (oMem2 (i := 109) rfl rfl)⟩
theorem ff_N_13 : oFf RN 13 5 2 (.array .int) := ⟨_, rfl, by decide, oMem2 (i := 109) rfl rfl, rfl, rfl, by decide +kernel⟩
theorem fl_N_16 : oF RN 16 5 3 := ⟨_, rfl, by decide, Or.inl (oMem2 (i := 110) rfl rfl)⟩
theorem ff_N_16 : oFf RN 16 5 3 (.array .int) := ⟨_, rfl, by decide, oMem2 (i := 110) rfl rfl, rfl, rfl, by decide +kernel⟩
theorem fl_N_19 : oF RN 19 5 4 := ⟨_, rfl, by decide, Or.inl (oMem2 (i := 111) rfl rfl)⟩
theorem ff_N_19 : oFf RN 19 5 4 (.array .int) := ⟨_, rfl, by decide, oMem2 (i := 111) rfl rfl, rfl, rfl, by decide +kernel⟩
theorem fl_N_22 : oF RN 22 5 5 := ⟨_, rfl, by decide, Or.inl (oMem2 (i := 112) rfl rfl)⟩
theorem ff_N_22 : oFf RN 22 5 5 (.array .int) := ⟨_, rfl, by decide, oMem2 (i := 112) rfl rfl, rfl, rfl, by decide +kernel⟩
theorem fl_N_25 : oF RN 25 5 6 := ⟨_, rfl, by decide, Or.inl (oMem2 (i := 113) rfl rfl)⟩
theorem ff_N_25 : oFf RN 25 5 6 (.array .boolean) := ⟨_, rfl, by decide, oMem2 (i := 113) rfl rfl, rfl, rfl, by decide +kernel⟩
theorem fl_N_29 : oF RN 29 5 7 := ⟨_, rfl, by decide, Or.inl (oMem2 (i := 114) rfl rfl)⟩
theorem ff_N_29 : oFf RN 29 5 7 (.array .int) := ⟨_, rfl, by decide, oMem2 (i := 114) rfl rfl, rfl, rfl, by decide +kernel⟩
theorem fl_N_32 : oF RN 32 5 8 := ⟨_, rfl, by decide, Or.inl (oMem2 (i := 115) rfl rfl)⟩
theorem ff_N_32 : oFf RN 32 5 8 (.array .int) := ⟨_, rfl, by decide, oMem2 (i := 115) rfl rfl, rfl, rfl, by decide +kernel⟩
theorem fl_N_35 : oF RN 35 5 9 := ⟨_, rfl, by decide, Or.inl (oMem2 (i := 116) rfl rfl)⟩
theorem ff_N_35 : oFf RN 35 5 9 (.array .int) := ⟨_, rfl, by decide, oMem2 (i := 116) rfl rfl, rfl, rfl, by decide +kernel⟩
theorem fl_N_38 : oF RN 38 5 10 := ⟨_, rfl, by decide, Or.inl (oMem2 (i := 117) rfl rfl)⟩
theorem ff_N_38 : oFf RN 38 5 10 (.array .int) := ⟨_, rfl, by decide, oMem2 (i := 117) rfl rfl, rfl, rfl, by decide +kernel⟩
theorem fl_N_41 : oF RN 41 5 11 := ⟨_, rfl, by decide, Or.inl (oMem2 (i := 118) rfl rfl)⟩
theorem ff_N_41 : oFf RN 41 5 11 (.array .int) := ⟨_, rfl, by decide, oMem2 (i := 118) rfl rfl, rfl, rfl, by decide +kernel⟩
theorem fl_N_44 : oF RN 44 5 12 := ⟨_, rfl, by decide, Or.inl (oMem2 (i := 119) rfl rfl)⟩
theorem ff_N_44 : oFf RN 44 5 12 (.array .int) := ⟨_, rfl, by decide, oMem2 (i := 119) rfl rfl, rfl, rfl, by decide +kernel⟩
theorem fl_N_47 : oF RN 47 5 13 := ⟨_, rfl, by decide, Or.inl (oMem2 (i := 120) rfl rfl)⟩
theorem ff_N_47 : oFf RN 47 5 13 (.array .int) := ⟨_, rfl, by decide, oMem2 (i := 120) rfl rfl, rfl, rfl, by decide +kernel⟩
theorem fl_N_50 : oF RN 50 5 14 := ⟨_, rfl, by decide, Or.inl (oMem2 (i := 121) rfl rfl)⟩
theorem ff_N_50 : oFf RN 50 5 14 (.array .int) := ⟨_, rfl, by decide, oMem2 (i := 121) rfl rfl, rfl, rfl, by decide +kernel⟩
theorem fl_N_53 : oF RN 53 5 15 := ⟨_, rfl, by decide, Or.inl (oMem2 (i := 122) rfl rfl)⟩
theorem ff_N_53 : oFf RN 53 5 15 (.array .int) := ⟨_, rfl, by decide, oMem2 (i := 122) rfl rfl, rfl, rfl, by decide +kernel⟩
theorem fl_N_56 : oF RN 56 5 16 := ⟨_, rfl, by decide, Or.inl (oMem2 (i := 123) rfl rfl)⟩
theorem ff_N_56 : oFf RN 56 5 16 (.array .int) := ⟨_, rfl, by decide, oMem2 (i := 123) rfl rfl, rfl, rfl, by decide +kernel⟩
theorem fl_N_59 : oF RN 59 5 17 := ⟨_, rfl, by decide, Or.inl (oMem2 (i := 124) rfl rfl)⟩
theorem ff_N_59 : oFf RN 59 5 17 (.array .int) := ⟨_, rfl, by decide, oMem2 (i := 124) rfl rfl, rfl, rfl, by decide +kernel⟩
theorem fl_N_62 : oF RN 62 5 18 := ⟨_, rfl, by decide, Or.inl (oMem2 (i := 125) rfl rfl)⟩
theorem ff_N_62 : oFf RN 62 5 18 (.array .int) := ⟨_, rfl, by decide, oMem2 (i := 125) rfl rfl, rfl, rfl, by decide +kernel⟩
theorem fl_N_65 : oF RN 65 5 0 := ⟨_, rfl, by decide, Or.inl (oMem2 (i := 107) rfl rfl)⟩
theorem ml_N_69 : oMl RN 69 M_N_greater := Or.inl (oMem2 (i := 188) rfl rfl)
theorem ml_N_73 : oMl RN 73 M_N_out := Or.inl (oMem2 (i := 169) rfl rfl)
theorem ml_N_77 : oMl RN 77 M_N_open := Or.inl (oMem2 (i := 172) rfl rfl)
theorem ml_N_81 : oMl RN 81 M_N_near := Or.inl (oMem2 (i := 176) rfl rfl)
theorem fs_N_65 : oFs RN 65 5 0 (.int) := ⟨fl_N_65, fun q h => by
  cases h
  exact ⟨rfl, by decide +kernel⟩⟩
theorem ml_N_85 : oMl RN 85 M_N_send := Or.inl (oMem2 (i := 180) rfl rfl)
theorem ml_N_89 : oMl RN 89 M_N_see := Or.inl (oMem2 (i := 184) rfl rfl)
theorem ml_N_93 : oMl RN 93 M_N_latestOf := Or.inl (oMem2 (i := 196) rfl rfl)
theorem ml_N_96 : oMl RN 96 M_N_due := Or.inl (oMem2 (i := 215) rfl rfl)
theorem ml_N_99 : oMl RN 99 M_N_finish := Or.inl (oMem2 (i := 219) rfl rfl)
theorem ml_N_103 : oMl RN 103 M_N_lowest := Or.inl (oMem2 (i := 208) rfl rfl)
theorem ml_N_106 : oMl RN 106 M_N_second := Or.inl (oMem2 (i := 211) rfl rfl)
theorem ml_N_109 : oMl RN 109 M_N_count := Or.inl (oMem2 (i := 223) rfl rfl)
theorem ml_N_112 : oMl RN 112 M_N_link := Or.inl (oMem2 (i := 238) rfl rfl)
theorem ml_N_115 : oMl RN 115 M_N_missing := Or.inl (oMem3 (i := 6) rfl rfl)
-- single words
theorem it_S : Cond.instantiable RS 5 ∈ oAll := oMem1 (i := 12) rfl rfl
theorem nt_S : Cond.initialized RS ∈ oAll := oMem1 (i := 1) rfl rfl
theorem it_W : Cond.instantiable RW 6 ∈ oAll := oMem1 (i := 27) rfl rfl
theorem nt_W : Cond.initialized RW ∈ oAll := oMem1 (i := 2) rfl rfl
theorem it_C : Cond.instantiable RC 4 ∈ oAll := oMem1 (i := 64) rfl rfl
theorem nt_C : Cond.initialized RC ∈ oAll := oMem1 (i := 4) rfl rfl
theorem it_K : Cond.instantiable RK 7 ∈ oAll := oMem1 (i := 102) rfl rfl
theorem nt_K : Cond.initialized RK ∈ oAll := oMem1 (i := 6) rfl rfl
theorem it_R : Cond.instantiable RR 2 ∈ oAll := oMem1 (i := 71) rfl rfl
theorem nt_R : Cond.initialized RR ∈ oAll := oMem1 (i := 5) rfl rfl
theorem it_N : Cond.instantiable RN 19 ∈ oAll := oMem2 (i := 102) rfl rfl
theorem nt_N : Cond.initialized RN ∈ oAll := oMem1 (i := 7) rfl rfl
theorem wm_s : Cond.static Lib.Math.max.name ∈ oAll := oMem1 (i := 177) rfl rfl
theorem wm_i : Cond.initialized "java/lang/Math" ∈ oAll := oMem1 (i := 8) rfl rfl
theorem wm_c : Cond.code Lib.Math.max.name Lib.Math.max.code 2 (some .int) ∈ oAll := oMem1 (i := 178) rfl rfl
theorem wc_n : Cond.native arraycopyName ∈ oAll := oMem1 (i := 197) rfl rfl
theorem wc_s : Cond.static arraycopyName ∈ oAll := oMem1 (i := 196) rfl rfl
theorem wc_i : Cond.initialized "java/lang/System" ∈ oAll := oMem1 (i := 9) rfl rfl
theorem wo_i : Cond.instanceMethod Lib.objectInit ∈ oAll := oMem1 (i := 17) rfl rfl
theorem wo_c : Cond.code Lib.objectInit ⟨#[0xb1]⟩ 1 none ∈ oAll := oMem1 (i := 18) rfl rfl
theorem wa_i : Cond.arrayClass .int ∈ oAll := oMem1 (i := 63) rfl rfl
theorem wa_z : Cond.arrayClass .boolean ∈ oAll := oMem1 (i := 84) rfl rfl
end
section
/-! The class's leaves. -/
def mfr (L : List (Nat × Nat)) (mu mu' : oMu) : Prop := ∀ t i, (t, i) ∉ L → mu' t i = mu t i
theorem mfr_rf {L : List (Nat × Nat)} {mu : oMu} : mfr L mu mu := fun _ _ _ => rfl
theorem mfr_up {L : List (Nat × Nat)} {mu mu' : oMu} {t i : Nat} {x : Nat → Int32} (h : mu' = up2 mu t i x) (hL : (t, i) ∈ L) : mfr L mu mu' := by
  intro t' i' hn
  rw [h]
  exact if_neg fun q => hn (by rw [q.1, q.2]; exact hL)
theorem mfr.tr {L : List (Nat × Nat)} {a b c : oMu} (h1 : mfr L a b) (h2 : mfr L b c) : mfr L a c := fun t i h => (h2 t i h).trans (h1 t i h)
theorem mfr.wk {L L' : List (Nat × Nat)} {a b : oMu} (h1 : mfr L a b) (h : ∀ q ∈ L, q ∈ L') : mfr L' a b := fun t i hn => h1 t i fun q => hn (h _ q)
set_option maxRecDepth 100000 in
theorem b_has : ∀ s, s < 64 → ∀ k, k < 6 → (nI s &&& (nI 1 <<< (nI k &&& 31)) = 0 ↔ s.testBit k = false) := by decide +kernel
theorem dec_nI {a w m : Nat} (ha : a ≤ m) (hm : m ≤ 40) (hw : w < m) (h : dec a = nI w) : a = w + 1 := by
  cases a with
  | zero =>
    exfalso
    have h2 : (-4 : Int32) = nI w := h
    have h3 : ¬ nI w < 0 := nI_pos (by omega)
    rw [← h2] at h3
    exact h3 (by decide)
  | succ n =>
    have h2 : nI n = nI w := h
    rw [(nI_eq (by omega) (by omega)).mp h2]
theorem dec_no {a m : Nat} (ha : a ≤ m) (h : ∀ w, w < m → ¬ dec a = nI w) : a = 0 := by
  cases a with
  | zero => rfl
  | succ n => exact absurd rfl (h n (by omega))
theorem c_isClient {G : oG} {mu : oMu} {Q : oPm} {x : Int32} (kt : ∀ j, j < 6 → x = nI j → Q (some (.inl (nI 1))) mu) (kf : (∀ j, j < 6 → ¬ x = nI j) → Q (some (.inl (nI 0))) mu) : Om G M_S_isClient 0 [(0, .inl x)] [] mu Q := by
  refine o_iload_n dS_isClient_0 rfl ?_
  refine o_if_lt 14 dS_isClient_1 rfl (fun hb1 => ?_) (fun hb1 => ?_)
  · skip
    refine o_iconst (nI 0) dS_isClient_14 rfl ?_
    refine m_zret dS_isClient_15 rfl rfl ?_
    exact kf (by first | exact fun j hj e => absurd hb1 (by subst e; exact nI_pos (by omega)) | exact fun j hj e => absurd hb7 (by subst e; exact nI_ge hj (by decide)))
  · skip
    refine o_iload_n dS_isClient_4 rfl ?_
    refine o_bipush (nI 6) dS_isClient_5 rfl ?_
    refine o_icmp_ge 14 dS_isClient_7 rfl (fun hb7 => ?_) (fun hb7 => ?_)
    · skip
      refine o_iconst (nI 0) dS_isClient_14 rfl ?_
      refine m_zret dS_isClient_15 rfl rfl ?_
      exact kf (by first | exact fun j hj e => absurd hb1 (by subst e; exact nI_pos (by omega)) | exact fun j hj e => absurd hb7 (by subst e; exact nI_ge hj (by decide)))
    · skip
      refine o_iconst (nI 1) dS_isClient_10 rfl ?_
      refine o_goto 15 dS_isClient_11 rfl ?_
      refine m_zret dS_isClient_15 rfl rfl ?_
      obtain h | h | ⟨j, hj, e⟩ := pk_ix x (n := 6) (by decide)
      · exact absurd h hb1
      · exact absurd h hb7
      · exact kt j hj e
theorem c_isKey {G : oG} {mu : oMu} {Q : oPm} {x : Int32} (kt : ∀ j, j < 6 → x = nI j → Q (some (.inl (nI 1))) mu) (kf : (∀ j, j < 6 → ¬ x = nI j) → Q (some (.inl (nI 0))) mu) : Om G M_S_isKey 0 [(0, .inl x)] [] mu Q := by
  refine o_iload_n dS_isKey_0 rfl ?_
  refine o_if_lt 14 dS_isKey_1 rfl (fun hb1 => ?_) (fun hb1 => ?_)
  · skip
    refine o_iconst (nI 0) dS_isKey_14 rfl ?_
    refine m_zret dS_isKey_15 rfl rfl ?_
    exact kf (by first | exact fun j hj e => absurd hb1 (by subst e; exact nI_pos (by omega)) | exact fun j hj e => absurd hb7 (by subst e; exact nI_ge hj (by decide)))
  · skip
    refine o_iload_n dS_isKey_4 rfl ?_
    refine o_bipush (nI 6) dS_isKey_5 rfl ?_
    refine o_icmp_ge 14 dS_isKey_7 rfl (fun hb7 => ?_) (fun hb7 => ?_)
    · skip
      refine o_iconst (nI 0) dS_isKey_14 rfl ?_
      refine m_zret dS_isKey_15 rfl rfl ?_
      exact kf (by first | exact fun j hj e => absurd hb1 (by subst e; exact nI_pos (by omega)) | exact fun j hj e => absurd hb7 (by subst e; exact nI_ge hj (by decide)))
    · skip
      refine o_iconst (nI 1) dS_isKey_10 rfl ?_
      refine o_goto 15 dS_isKey_11 rfl ?_
      refine m_zret dS_isKey_15 rfl rfl ?_
      obtain h | h | ⟨j, hj, e⟩ := pk_ix x (n := 6) (by decide)
      · exact absurd h hb1
      · exact absurd h hb7
      · exact kt j hj e
theorem c_isCenter {G : oG} {mu : oMu} {Q : oPm} {x : Int32} (kt : ∀ j, j < 3 → x = nI j → Q (some (.inl (nI 1))) mu) (kf : (∀ j, j < 3 → ¬ x = nI j) → Q (some (.inl (nI 0))) mu) : Om G M_S_isCenter 0 [(0, .inl x)] [] mu Q := by
  refine o_iload_n dS_isCenter_0 rfl ?_
  refine o_if_lt 13 dS_isCenter_1 rfl (fun hb1 => ?_) (fun hb1 => ?_)
  · skip
    refine o_iconst (nI 0) dS_isCenter_13 rfl ?_
    refine m_zret dS_isCenter_14 rfl rfl ?_
    exact kf (by first | exact fun j hj e => absurd hb1 (by subst e; exact nI_pos (by omega)) | exact fun j hj e => absurd hb6 (by subst e; exact nI_ge hj (by decide)))
  · skip
    refine o_iload_n dS_isCenter_4 rfl ?_
    refine o_iconst (nI 3) dS_isCenter_5 rfl ?_
    refine o_icmp_ge 13 dS_isCenter_6 rfl (fun hb6 => ?_) (fun hb6 => ?_)
    · skip
      refine o_iconst (nI 0) dS_isCenter_13 rfl ?_
      refine m_zret dS_isCenter_14 rfl rfl ?_
      exact kf (by first | exact fun j hj e => absurd hb1 (by subst e; exact nI_pos (by omega)) | exact fun j hj e => absurd hb6 (by subst e; exact nI_ge hj (by decide)))
    · skip
      refine o_iconst (nI 1) dS_isCenter_9 rfl ?_
      refine o_goto 14 dS_isCenter_10 rfl ?_
      refine m_zret dS_isCenter_14 rfl rfl ?_
      obtain h | h | ⟨j, hj, e⟩ := pk_ix x (n := 3) (by decide)
      · exact absurd h hb1
      · exact absurd h hb6
      · exact kt j hj e
theorem c_isPartition {G : oG} {mu : oMu} {Q : oPm} {x : Int32} (kt : ∀ j, j < 2 → x = nI j → Q (some (.inl (nI 1))) mu) (kf : (∀ j, j < 2 → ¬ x = nI j) → Q (some (.inl (nI 0))) mu) : Om G M_S_isPartition 0 [(0, .inl x)] [] mu Q := by
  refine o_iload_n dS_isPartition_0 rfl ?_
  refine o_if_lt 13 dS_isPartition_1 rfl (fun hb1 => ?_) (fun hb1 => ?_)
  · skip
    refine o_iconst (nI 0) dS_isPartition_13 rfl ?_
    refine m_zret dS_isPartition_14 rfl rfl ?_
    exact kf (by first | exact fun j hj e => absurd hb1 (by subst e; exact nI_pos (by omega)) | exact fun j hj e => absurd hb6 (by subst e; exact nI_ge hj (by decide)))
  · skip
    refine o_iload_n dS_isPartition_4 rfl ?_
    refine o_iconst (nI 2) dS_isPartition_5 rfl ?_
    refine o_icmp_ge 13 dS_isPartition_6 rfl (fun hb6 => ?_) (fun hb6 => ?_)
    · skip
      refine o_iconst (nI 0) dS_isPartition_13 rfl ?_
      refine m_zret dS_isPartition_14 rfl rfl ?_
      exact kf (by first | exact fun j hj e => absurd hb1 (by subst e; exact nI_pos (by omega)) | exact fun j hj e => absurd hb6 (by subst e; exact nI_ge hj (by decide)))
    · skip
      refine o_iconst (nI 1) dS_isPartition_9 rfl ?_
      refine o_goto 14 dS_isPartition_10 rfl ?_
      refine m_zret dS_isPartition_14 rfl rfl ?_
      obtain h | h | ⟨j, hj, e⟩ := pk_ix x (n := 2) (by decide)
      · exact absurd h hb1
      · exact absurd h hb6
      · exact kt j hj e
theorem c_isWrite {G : oG} {mu : oMu} {Q : oPm} {x : Int32} {m : Nat} (hm : mu 0 0 4 = nI m) (hm4 : m ≤ 40) (kt : ∀ j, j < m → x = nI j → Q (some (.inl (nI 1))) mu) (kf : (∀ j, j < m → ¬ x = nI j) → Q (some (.inl (nI 0))) mu) : Om G M_S_isWrite 0 [(0, .inr (some (ad 0 0))), (1, .inl x)] [] mu Q := by
  refine o_iload_n dS_isWrite_0 rfl ?_
  refine o_if_lt 16 dS_isWrite_1 rfl (fun hb1 => ?_) (fun hb1 => ?_)
  · skip
    refine o_iconst (nI 0) dS_isWrite_16 rfl ?_
    refine m_zret dS_isWrite_17 rfl rfl ?_
    exact kf (by first | exact fun j hj e => absurd hb1 (by subst e; exact nI_pos (by omega)) | exact fun j hj e => absurd hb9 (by subst e; exact nI_ge hj (by omega)))
  · skip
    refine o_iload_n dS_isWrite_4 rfl ?_
    refine o_aload_n dS_isWrite_5 rfl ?_
    refine m_geti dS_isWrite_6 fl_S_50 rfl rfl (by decide) ?_
    refine o_top (nI m) hm ?_
    refine o_icmp_ge 16 dS_isWrite_9 rfl (fun hb9 => ?_) (fun hb9 => ?_)
    · skip
      refine o_iconst (nI 0) dS_isWrite_16 rfl ?_
      refine m_zret dS_isWrite_17 rfl rfl ?_
      exact kf (by first | exact fun j hj e => absurd hb1 (by subst e; exact nI_pos (by omega)) | exact fun j hj e => absurd hb9 (by subst e; exact nI_ge hj (by omega)))
    · skip
      refine o_iconst (nI 1) dS_isWrite_12 rfl ?_
      refine o_goto 17 dS_isWrite_13 rfl ?_
      refine m_zret dS_isWrite_17 rfl rfl ?_
      obtain h | h | ⟨j, hj, e⟩ := pk_ix x (n := m) (by omega)
      · exact absurd h hb1
      · exact absurd h hb9
      · exact kt j hj e
theorem c_isWriteD {G : oG} {mu : oMu} {Q : oPm} {a m : Nat} (hm : mu 0 0 4 = nI m) (hm4 : m ≤ 40) (ha : a ≤ m) (kt : ∀ w, w < m → a = w + 1 → Q (some (.inl (nI 1))) mu) (kf : a = 0 → Q (some (.inl (nI 0))) mu) : Om G M_S_isWrite 0 [(0, .inr (some (ad 0 0))), (1, .inl (dec a))] [] mu Q :=
  c_isWrite hm hm4 (fun j hj e => kt j hj (dec_nI ha hm4 hj e)) (fun h => kf (dec_no ha h))
theorem c_hasKey {G : oG} {mu : oMu} {Q : oPm} {s k : Nat} (hs : s < 64) (hk : k < 6) (kt : s.testBit k = true → Q (some (.inl (nI 1))) mu) (kf : s.testBit k = false → Q (some (.inl (nI 0))) mu) : Om G M_S_hasKey 0 [(0, .inl (nI s)), (1, .inl (nI k))] [] mu Q := by
  refine o_iload_n dS_hasKey_0 rfl ?_
  refine o_iconst (nI 1) dS_hasKey_1 rfl ?_
  refine o_iload_n dS_hasKey_2 rfl ?_
  refine o_ishl dS_hasKey_3 ?_
  refine o_iand dS_hasKey_4 ?_
  refine o_if_eq 12 dS_hasKey_5 rfl (fun hb5 => ?_) (fun hb5 => ?_)
  · skip
    refine o_iconst (nI 0) dS_hasKey_12 rfl ?_
    refine m_zret dS_hasKey_13 rfl rfl ?_
    exact kf ((b_has s hs k hk).mp hb5)
  · skip
    refine o_iconst (nI 1) dS_hasKey_8 rfl ?_
    refine o_goto 13 dS_hasKey_9 rfl ?_
    refine m_zret dS_hasKey_13 rfl rfl ?_
    exact kt (by cases h : s.testBit k with
      | true => rfl
      | false => exact absurd ((b_has s hs k hk).mpr h) hb5)
theorem c_at_12 {G : oG} {mu : oMu} {Q : oPm} {i n : Nat} (hi : i < 6) (hn : mu 12 i 1 = nI n) (hn4 : n ≤ 40) {x : Int32} (kt : ∀ j, j < n → x = nI j → Q (some (.inl (mu 13 i j))) mu) (kf : (∀ j, j < n → ¬ x = nI j) → Q (some (.inl (-4))) mu) : Om G M_R_at 0 [(0, .inr (some (ad 12 i))), (1, .inl x)] [] mu Q := by
  refine o_iload_n dR_at_0 rfl ?_
  refine o_if_lt 21 dR_at_1 rfl (fun hb1 => ?_) (fun hb1 => ?_)
  · skip
    refine o_bipush (-4) dR_at_21 rfl ?_
    refine m_iret dR_at_23 rfl ?_
    exact kf (by first | exact fun j hj e => absurd hb1 (by subst e; exact nI_pos (by omega)) | exact fun j hj e => absurd hb9 (by subst e; exact nI_ge hj (by omega)))
  · skip
    refine o_iload_n dR_at_4 rfl ?_
    refine o_aload_n dR_at_5 rfl ?_
    refine m_geti dR_at_6 fl_R_15 rfl rfl hi ?_
    refine o_top (nI n) hn ?_
    refine o_icmp_ge 21 dR_at_9 rfl (fun hb9 => ?_) (fun hb9 => ?_)
    · skip
      refine o_bipush (-4) dR_at_21 rfl ?_
      refine m_iret dR_at_23 rfl ?_
      exact kf (by first | exact fun j hj e => absurd hb1 (by subst e; exact nI_pos (by omega)) | exact fun j hj e => absurd hb9 (by subst e; exact nI_ge hj (by omega)))
    · skip
      obtain h | h | ⟨j, hj, e⟩ := pk_ix x (n := n) (by omega)
      · exact absurd h hb1
      · exact absurd h hb9
      subst e
      refine o_aload_n dR_at_12 rfl ?_
      refine m_getr dR_at_13 fl_R_9 rfl rfl hi ?_
      refine o_iload_n dR_at_16 rfl ?_
      refine m_iald j dR_at_17 rfl rfl rfl hi rfl (by omega) ?_
      refine o_goto 23 dR_at_18 rfl ?_
      refine m_iret dR_at_23 rfl ?_
      exact kt j hj rfl
theorem c_append_12 {G : oG} {mu : oMu} {Q : oPm} {i n : Nat} (hi : i < 6) (hn : mu 12 i 1 = nI n) (hn4 : n ≤ 40) (hn3 : n < 40) {x : Int32} (k : ∀ mu' : oMu, mu' 13 i = upd (mu 13 i) n x → mu' 12 i = upd (mu 12 i) 1 (nI (n + 1)) → mfr [(12, i), (13, i)] mu mu' → Q none mu') : Om G M_R_append 0 [(0, .inr (some (ad 12 i))), (1, .inl x)] [] mu Q := by
  refine o_aload_n dR_append_0 rfl ?_
  refine m_geti dR_append_1 fl_R_15 rfl rfl hi ?_
  refine o_top (nI n) hn ?_
  refine o_bipush (nI 40) dR_append_4 rfl ?_
  refine n_icmp_ge 29 dR_append_6 rfl (by omega) (by omega) (fun h => absurd h (by omega)) (fun h => ?_)
  refine o_aload_n dR_append_9 rfl ?_
  refine m_getr dR_append_10 fl_R_9 rfl rfl hi ?_
  refine o_aload_n dR_append_13 rfl ?_
  refine m_geti dR_append_14 fl_R_15 rfl rfl hi ?_
  refine o_top (nI n) hn ?_
  refine o_iload_n dR_append_17 rfl ?_
  refine m_iast n dR_append_18 rfl rfl rfl hi rfl (by omega) (fun mu1 hmu1 => ?_)
  refine o_aload_n dR_append_19 rfl ?_
  refine o_dup dR_append_20 ?_
  refine m_geti dR_append_21 fl_R_15 rfl rfl hi ?_
  refine o_top (nI n) (by rw [hmu1, up2_t (by decide)]; exact hn) ?_
  refine o_iconst (nI 1) dR_append_24 rfl ?_
  refine o_iadd dR_append_25 ?_
  refine o_top _ (nI_add _ _) ?_
  refine m_puti dR_append_26 fs_R_15 rfl rfl hi (fun mu2 hmu2 => ?_)
  refine m_vret dR_append_29 rfl ?_
  exact k mu2 (by rw [hmu2, up2_t (by decide), hmu1, up2_s]) (by rw [hmu2, up2_s, hmu1, up2_t (by decide)]) ((mfr_up hmu1 (by simp)).tr (mfr_up hmu2 (by simp)))
theorem c_removeAt_12 {G : oG} {mu : oMu} {Q : oPm} {i n : Nat} (hi : i < 6) (hn : mu 12 i 1 = nI n) (hn4 : n ≤ 40) {j : Nat} (hj : j < n) (k : ∀ mu' : oMu, mu' 13 i = va_cpy (mu 13 i) (mu 13 i) (j + 1) j (n - j - 1) → mu' 12 i = upd (mu 12 i) 1 (nI (n - 1)) → mfr [(12, i), (13, i)] mu mu' → Q none mu') : Om G M_R_removeAt 0 [(0, .inr (some (ad 12 i))), (1, .inl (nI j))] [] mu Q := by
  refine o_iload_n dR_removeAt_0 rfl ?_
  refine n_if_lt 45 dR_removeAt_1 rfl (by omega) (fun h => absurd h (by omega)) (fun h => ?_)
  refine o_iload_n dR_removeAt_4 rfl ?_
  refine o_aload_n dR_removeAt_5 rfl ?_
  refine m_geti dR_removeAt_6 fl_R_15 rfl rfl hi ?_
  refine o_top (nI n) hn ?_
  refine n_icmp_ge 45 dR_removeAt_9 rfl (by omega) (by omega) (fun h => absurd h (by omega)) (fun h => ?_)
  refine o_aload_n dR_removeAt_12 rfl ?_
  refine m_getr dR_removeAt_13 fl_R_9 rfl rfl hi ?_
  refine o_iload_n dR_removeAt_16 rfl ?_
  refine o_iconst (nI 1) dR_removeAt_17 rfl ?_
  refine o_iadd dR_removeAt_18 ?_
  refine o_top _ (nI_add _ _) ?_
  refine o_aload_n dR_removeAt_19 rfl ?_
  refine m_getr dR_removeAt_20 fl_R_9 rfl rfl hi ?_
  refine o_iload_n dR_removeAt_23 rfl ?_
  refine o_aload_n dR_removeAt_24 rfl ?_
  refine m_geti dR_removeAt_25 fl_R_15 rfl rfl hi ?_
  refine o_top (nI n) hn ?_
  refine o_iload_n dR_removeAt_28 rfl ?_
  refine o_isub dR_removeAt_29 ?_
  refine o_top _ (pk_sub (by omega)) ?_
  refine o_iconst (nI 1) dR_removeAt_30 rfl ?_
  refine o_isub dR_removeAt_31 ?_
  refine o_top _ (pk_sub (by omega)) ?_
  refine m_copy (j + 1) j (n - j - 1) dR_removeAt_32 cp_R_19 wc_n wc_s wc_i rfl rfl rfl rfl rfl rfl rfl hi hi rfl rfl rfl (by omega) (by omega) (fun mu1 hmu1 => ?_)
  refine o_aload_n dR_removeAt_35 rfl ?_
  refine o_dup dR_removeAt_36 ?_
  refine m_geti dR_removeAt_37 fl_R_15 rfl rfl hi ?_
  refine o_top (nI n) (by rw [hmu1, up2_t (by decide)]; exact hn) ?_
  refine o_iconst (nI 1) dR_removeAt_40 rfl ?_
  refine o_isub dR_removeAt_41 ?_
  refine o_top _ (pk_sub (by omega)) ?_
  refine m_puti dR_removeAt_42 fs_R_15 rfl rfl hi (fun mu2 hmu2 => ?_)
  refine m_vret dR_removeAt_45 rfl ?_
  exact k mu2 (by rw [hmu2, up2_t (by decide), hmu1, up2_s]) (by rw [hmu2, up2_s, hmu1, up2_t (by decide)]) ((mfr_up hmu1 (by simp)).tr (mfr_up hmu2 (by simp)))
theorem c_at_18 {G : oG} {mu : oMu} {Q : oPm} {i n : Nat} (hi : i < 9) (hn : mu 18 i 1 = nI n) (hn4 : n ≤ 40) {x : Int32} (kt : ∀ j, j < n → x = nI j → Q (some (.inl (mu 19 i j))) mu) (kf : (∀ j, j < n → ¬ x = nI j) → Q (some (.inl (-4))) mu) : Om G M_R_at 0 [(0, .inr (some (ad 18 i))), (1, .inl x)] [] mu Q := by
  refine o_iload_n dR_at_0 rfl ?_
  refine o_if_lt 21 dR_at_1 rfl (fun hb1 => ?_) (fun hb1 => ?_)
  · skip
    refine o_bipush (-4) dR_at_21 rfl ?_
    refine m_iret dR_at_23 rfl ?_
    exact kf (by first | exact fun j hj e => absurd hb1 (by subst e; exact nI_pos (by omega)) | exact fun j hj e => absurd hb9 (by subst e; exact nI_ge hj (by omega)))
  · skip
    refine o_iload_n dR_at_4 rfl ?_
    refine o_aload_n dR_at_5 rfl ?_
    refine m_geti dR_at_6 fl_R_15 rfl rfl hi ?_
    refine o_top (nI n) hn ?_
    refine o_icmp_ge 21 dR_at_9 rfl (fun hb9 => ?_) (fun hb9 => ?_)
    · skip
      refine o_bipush (-4) dR_at_21 rfl ?_
      refine m_iret dR_at_23 rfl ?_
      exact kf (by first | exact fun j hj e => absurd hb1 (by subst e; exact nI_pos (by omega)) | exact fun j hj e => absurd hb9 (by subst e; exact nI_ge hj (by omega)))
    · skip
      obtain h | h | ⟨j, hj, e⟩ := pk_ix x (n := n) (by omega)
      · exact absurd h hb1
      · exact absurd h hb9
      subst e
      refine o_aload_n dR_at_12 rfl ?_
      refine m_getr dR_at_13 fl_R_9 rfl rfl hi ?_
      refine o_iload_n dR_at_16 rfl ?_
      refine m_iald j dR_at_17 rfl rfl rfl hi rfl (by omega) ?_
      refine o_goto 23 dR_at_18 rfl ?_
      refine m_iret dR_at_23 rfl ?_
      exact kt j hj rfl
theorem c_append_18 {G : oG} {mu : oMu} {Q : oPm} {i n : Nat} (hi : i < 9) (hn : mu 18 i 1 = nI n) (hn4 : n ≤ 40) (hn3 : n < 40) {x : Int32} (k : ∀ mu' : oMu, mu' 19 i = upd (mu 19 i) n x → mu' 18 i = upd (mu 18 i) 1 (nI (n + 1)) → mfr [(18, i), (19, i)] mu mu' → Q none mu') : Om G M_R_append 0 [(0, .inr (some (ad 18 i))), (1, .inl x)] [] mu Q := by
  refine o_aload_n dR_append_0 rfl ?_
  refine m_geti dR_append_1 fl_R_15 rfl rfl hi ?_
  refine o_top (nI n) hn ?_
  refine o_bipush (nI 40) dR_append_4 rfl ?_
  refine n_icmp_ge 29 dR_append_6 rfl (by omega) (by omega) (fun h => absurd h (by omega)) (fun h => ?_)
  refine o_aload_n dR_append_9 rfl ?_
  refine m_getr dR_append_10 fl_R_9 rfl rfl hi ?_
  refine o_aload_n dR_append_13 rfl ?_
  refine m_geti dR_append_14 fl_R_15 rfl rfl hi ?_
  refine o_top (nI n) hn ?_
  refine o_iload_n dR_append_17 rfl ?_
  refine m_iast n dR_append_18 rfl rfl rfl hi rfl (by omega) (fun mu1 hmu1 => ?_)
  refine o_aload_n dR_append_19 rfl ?_
  refine o_dup dR_append_20 ?_
  refine m_geti dR_append_21 fl_R_15 rfl rfl hi ?_
  refine o_top (nI n) (by rw [hmu1, up2_t (by decide)]; exact hn) ?_
  refine o_iconst (nI 1) dR_append_24 rfl ?_
  refine o_iadd dR_append_25 ?_
  refine o_top _ (nI_add _ _) ?_
  refine m_puti dR_append_26 fs_R_15 rfl rfl hi (fun mu2 hmu2 => ?_)
  refine m_vret dR_append_29 rfl ?_
  exact k mu2 (by rw [hmu2, up2_t (by decide), hmu1, up2_s]) (by rw [hmu2, up2_s, hmu1, up2_t (by decide)]) ((mfr_up hmu1 (by simp)).tr (mfr_up hmu2 (by simp)))
theorem c_removeAt_18 {G : oG} {mu : oMu} {Q : oPm} {i n : Nat} (hi : i < 9) (hn : mu 18 i 1 = nI n) (hn4 : n ≤ 40) {j : Nat} (hj : j < n) (k : ∀ mu' : oMu, mu' 19 i = va_cpy (mu 19 i) (mu 19 i) (j + 1) j (n - j - 1) → mu' 18 i = upd (mu 18 i) 1 (nI (n - 1)) → mfr [(18, i), (19, i)] mu mu' → Q none mu') : Om G M_R_removeAt 0 [(0, .inr (some (ad 18 i))), (1, .inl (nI j))] [] mu Q := by
  refine o_iload_n dR_removeAt_0 rfl ?_
  refine n_if_lt 45 dR_removeAt_1 rfl (by omega) (fun h => absurd h (by omega)) (fun h => ?_)
  refine o_iload_n dR_removeAt_4 rfl ?_
  refine o_aload_n dR_removeAt_5 rfl ?_
  refine m_geti dR_removeAt_6 fl_R_15 rfl rfl hi ?_
  refine o_top (nI n) hn ?_
  refine n_icmp_ge 45 dR_removeAt_9 rfl (by omega) (by omega) (fun h => absurd h (by omega)) (fun h => ?_)
  refine o_aload_n dR_removeAt_12 rfl ?_
  refine m_getr dR_removeAt_13 fl_R_9 rfl rfl hi ?_
  refine o_iload_n dR_removeAt_16 rfl ?_
  refine o_iconst (nI 1) dR_removeAt_17 rfl ?_
  refine o_iadd dR_removeAt_18 ?_
  refine o_top _ (nI_add _ _) ?_
  refine o_aload_n dR_removeAt_19 rfl ?_
  refine m_getr dR_removeAt_20 fl_R_9 rfl rfl hi ?_
  refine o_iload_n dR_removeAt_23 rfl ?_
  refine o_aload_n dR_removeAt_24 rfl ?_
  refine m_geti dR_removeAt_25 fl_R_15 rfl rfl hi ?_
  refine o_top (nI n) hn ?_
  refine o_iload_n dR_removeAt_28 rfl ?_
  refine o_isub dR_removeAt_29 ?_
  refine o_top _ (pk_sub (by omega)) ?_
  refine o_iconst (nI 1) dR_removeAt_30 rfl ?_
  refine o_isub dR_removeAt_31 ?_
  refine o_top _ (pk_sub (by omega)) ?_
  refine m_copy (j + 1) j (n - j - 1) dR_removeAt_32 cp_R_19 wc_n wc_s wc_i rfl rfl rfl rfl rfl rfl rfl hi hi rfl rfl rfl (by omega) (by omega) (fun mu1 hmu1 => ?_)
  refine o_aload_n dR_removeAt_35 rfl ?_
  refine o_dup dR_removeAt_36 ?_
  refine m_geti dR_removeAt_37 fl_R_15 rfl rfl hi ?_
  refine o_top (nI n) (by rw [hmu1, up2_t (by decide)]; exact hn) ?_
  refine o_iconst (nI 1) dR_removeAt_40 rfl ?_
  refine o_isub dR_removeAt_41 ?_
  refine o_top _ (pk_sub (by omega)) ?_
  refine m_puti dR_removeAt_42 fs_R_15 rfl rfl hi (fun mu2 hmu2 => ?_)
  refine m_vret dR_removeAt_45 rfl ?_
  exact k mu2 (by rw [hmu2, up2_t (by decide), hmu1, up2_s]) (by rw [hmu2, up2_s, hmu1, up2_t (by decide)]) ((mfr_up hmu1 (by simp)).tr (mfr_up hmu2 (by simp)))
def gr (v : Nat → Nat) (a c : Nat) : Nat := if a = 0 then c else if c = 0 then a else if v (a - 1) < v (c - 1) then c else a
theorem gr_zz {v : Nat → Nat} {c : Nat} : gr v 0 c = c := if_pos rfl
theorem gr_n0 {v : Nat → Nat} {a : Nat} : gr v (a + 1) 0 = a + 1 := by simp [gr]
theorem gr_lt {v : Nat → Nat} {a c : Nat} (h : v a < v c) : gr v (a + 1) (c + 1) = c + 1 := by simp [gr, h]
theorem gr_ge {v : Nat → Nat} {a c : Nat} (h : v c ≤ v a) : gr v (a + 1) (c + 1) = a + 1 := by simp [gr, Nat.not_lt.mpr h]
theorem gr_le {v : Nat → Nat} {a c m : Nat} (ha : a ≤ m) (hc : c ≤ m) : gr v a c ≤ m := by
  unfold gr
  split
  · exact hc
  · split
    · exact ha
    · split
      · exact hc
      · exact ha
theorem c_greater {G : oG} {mu : oMu} {Q : oPm} {a c m : Nat} {v : Nat → Nat} (hm : mu 0 0 4 = nI m) (hm4 : m ≤ 40) (hv : ∀ w, w < m → mu 5 w 4 = nI (v w)) (hv2 : ∀ w, w < m → v w < 2147483648) (ha : a ≤ m) (hc : c ≤ m) (k : Q (some (.inl (dec (gr v a c)))) mu) : Om G M_S_greater 0 [(0, .inr (some (ad 0 0))), (1, .inl (dec a)), (2, .inl (dec c))] [] mu Q := by
  refine o_aload_n dS_greater_0 rfl ?_
  refine o_iload_n dS_greater_1 rfl ?_
  refine m_callV M_S_isWrite [.inl (dec a)] [] dS_greater_2 mk_S_isWrite in_S_isWrite se_S_isWrite rfl (by decide) rfl rfl ml_S_123 rfl rfl rfl (Nat.le_of_ble_eq_true rfl) rfl ?_
  refine c_isWriteD hm hm4 ha (fun w hw e => ?_) (fun e => ?_)
  · skip
    subst e
    show Om G M_S_greater 5 [(0, .inr (some (ad 0 0))), (1, .inl (nI w)), (2, .inl (dec c))] [.inl (nI 1)] mu Q
    refine n_if_ne 10 dS_greater_5 rfl (by omega) (fun _ => ?_) (fun h => absurd h (by decide))
    refine o_aload_n dS_greater_10 rfl ?_
    refine o_iload_n dS_greater_11 rfl ?_
    refine m_callV M_S_isWrite [.inl (dec c)] [] dS_greater_12 mk_S_isWrite in_S_isWrite se_S_isWrite rfl (by decide) rfl rfl ml_S_123 rfl rfl rfl (Nat.le_of_ble_eq_true rfl) rfl ?_
    refine c_isWriteD hm hm4 hc (fun u hu e => ?_) (fun e => ?_)
    · skip
      subst e
      show Om G M_S_greater 15 [(0, .inr (some (ad 0 0))), (1, .inl (nI w)), (2, .inl (nI u))] [.inl (nI 1)] mu Q
      refine n_if_ne 20 dS_greater_15 rfl (by omega) (fun _ => ?_) (fun h => absurd h (by decide))
      refine o_aload_n dS_greater_20 rfl ?_
      refine m_getr dS_greater_21 fl_S_11 rfl rfl (by decide) ?_
      refine o_iload_n dS_greater_24 rfl ?_
      refine m_aald u dS_greater_25 rfl rfl rfl (by decide) rfl (sh_q1 (by omega)) ?_
      refine m_geti dS_greater_26 fl_S_169 rfl rfl (show u < 40 by omega) ?_
      refine o_top (nI (v u)) (hv u hu) ?_
      refine o_aload_n dS_greater_29 rfl ?_
      refine m_getr dS_greater_30 fl_S_11 rfl rfl (by decide) ?_
      refine o_iload_n dS_greater_33 rfl ?_
      refine m_aald w dS_greater_34 rfl rfl rfl (by decide) rfl (sh_q1 (by omega)) ?_
      refine m_geti dS_greater_35 fl_S_169 rfl rfl (show w < 40 by omega) ?_
      refine o_top (nI (v w)) (hv w hw) ?_
      have b1 := hv2 u hu
      have b2 := hv2 w hw
      refine n_icmp_le 45 dS_greater_38 rfl (by omega) (by omega) (fun hb38 => ?_) (fun hb38 => ?_)
      · skip
        refine o_iload_n dS_greater_45 rfl ?_
        refine m_iret dS_greater_46 rfl ?_
        rw [gr_ge hb38] at k
        exact k
      · skip
        refine o_iload_n dS_greater_41 rfl ?_
        refine o_goto 46 dS_greater_42 rfl ?_
        refine m_iret dS_greater_46 rfl ?_
        rw [gr_lt hb38] at k
        exact k
    · skip
      subst e
      show Om G M_S_greater 15 [(0, .inr (some (ad 0 0))), (1, .inl (nI w)), (2, .inl (dec 0))] [.inl (nI 0)] mu Q
      refine n_if_ne 20 dS_greater_15 rfl (by omega) (fun h => absurd h (by decide)) (fun _ => ?_)
      refine o_iload_n dS_greater_18 rfl ?_
      refine m_iret dS_greater_19 rfl ?_
      rw [gr_n0] at k
      exact k
  · skip
    subst e
    show Om G M_S_greater 5 [(0, .inr (some (ad 0 0))), (1, .inl (dec 0)), (2, .inl (dec c))] [.inl (nI 0)] mu Q
    refine n_if_ne 10 dS_greater_5 rfl (by omega) (fun h => absurd h (by decide)) (fun _ => ?_)
    refine o_iload_n dS_greater_8 rfl ?_
    refine m_iret dS_greater_9 rfl ?_
    rw [gr_zz] at k
    exact k
theorem c_isOpen {G : oG} {mu : oMu} {Q : oPm} {i l : Nat} (hi : i < 6) (hl : mu 14 i 5 = nI l) (hl2 : l < 64) (kt : ¬ l = 0 → Q (some (.inl (nI 1))) mu) (kf : l = 0 → Q (some (.inl (nI 0))) mu) : Om G M_K_isOpen 0 [(0, .inr (some (ad 14 i)))] [] mu Q := by
  refine o_aload_n dK_isOpen_0 rfl ?_
  refine m_geti dK_isOpen_1 fl_K_29 rfl rfl hi ?_
  refine o_top (nI l) hl ?_
  refine n_if_eq 11 dK_isOpen_4 rfl (by omega) (fun hb4 => ?_) (fun hb4 => ?_)
  · skip
    refine o_iconst (nI 0) dK_isOpen_11 rfl ?_
    refine m_zret dK_isOpen_12 rfl rfl ?_
    exact kf hb4
  · skip
    refine o_iconst (nI 1) dK_isOpen_7 rfl ?_
    refine o_goto 12 dK_isOpen_8 rfl ?_
    refine m_zret dK_isOpen_12 rfl rfl ?_
    exact kt hb4
theorem c_fill {G : oG} {mu : oMu} {Q : oPm} {w q t c : Nat} {x : Int32} (hw : w < 40) (k : ∀ mu' : oMu, mu' 5 w = upd (upd (upd (upd (mu 5 w) 1 (nI q)) 2 x) 3 (nI t)) 4 (nI (4 * t + c)) → mfr [(5, w)] mu mu' → Q none mu') : Om G M_W_fill 0 [(0, .inr (some (ad 5 w))), (1, .inl (nI q)), (2, .inl x), (3, .inl (nI t)), (4, .inl (nI c))] [] mu Q := by
  refine o_aload_n dW_fill_0 rfl ?_
  refine o_iload_n dW_fill_1 rfl ?_
  refine m_puti dW_fill_2 fs_W_19 rfl rfl hw (fun mu1 hmu1 => ?_)
  refine o_aload_n dW_fill_5 rfl ?_
  refine o_iload_n dW_fill_6 rfl ?_
  refine m_puti dW_fill_7 fs_W_23 rfl rfl hw (fun mu2 hmu2 => ?_)
  refine o_aload_n dW_fill_10 rfl ?_
  refine o_iload_n dW_fill_11 rfl ?_
  refine m_puti dW_fill_12 fs_W_26 rfl rfl hw (fun mu3 hmu3 => ?_)
  refine o_aload_n dW_fill_15 rfl ?_
  refine o_iconst (nI 4) dW_fill_16 rfl ?_
  refine o_iload_n dW_fill_17 rfl ?_
  refine o_imul dW_fill_18 ?_
  refine o_top _ (pk_mul _ _) ?_
  refine o_iload dW_fill_19 rfl ?_
  refine o_iadd dW_fill_21 ?_
  refine o_top _ (nI_add _ _) ?_
  refine m_puti dW_fill_22 fs_W_29 rfl rfl hw (fun mu4 hmu4 => ?_)
  refine m_vret dW_fill_25 rfl ?_
  refine k mu4 ?_ (((mfr_up hmu1 (by simp)).tr (mfr_up hmu2 (by simp))).tr ((mfr_up hmu3 (by simp)).tr (mfr_up hmu4 (by simp))))
  rw [hmu4, up2_s, hmu3, up2_s, hmu2, up2_s, hmu1, up2_s]
theorem c_dependOn {G : oG} {mu : oMu} {Q : oPm} {w i z : Nat} (hw : w < 40) (hi : i < 6) (k : ∀ mu' : oMu, mu' 6 w = va_cpy (mu 15 i) (mu 6 w) 0 0 6 → mu' 5 w = upd (mu 5 w) 5 (nI z) → mfr [(5, w), (6, w)] mu mu' → Q none mu') : Om G M_W_dependOn 0 [(0, .inr (some (ad 5 w))), (1, .inr (some (ad 15 i))), (2, .inl (nI z))] [] mu Q := by
  refine o_aload_n dW_dependOn_0 rfl ?_
  refine o_iconst (nI 0) dW_dependOn_1 rfl ?_
  refine o_aload_n dW_dependOn_2 rfl ?_
  refine m_getr dW_dependOn_3 fl_W_13 rfl rfl hw ?_
  refine o_iconst (nI 0) dW_dependOn_6 rfl ?_
  refine o_bipush (nI 6) dW_dependOn_7 rfl ?_
  refine m_copy 0 0 6 dW_dependOn_9 cp_W_32 wc_n wc_s wc_i rfl rfl rfl rfl rfl rfl rfl hi hw rfl rfl rfl (by decide) (by decide) (fun mu1 hmu1 => ?_)
  refine o_aload_n dW_dependOn_12 rfl ?_
  refine o_iload_n dW_dependOn_13 rfl ?_
  refine m_puti dW_dependOn_14 fs_W_38 rfl rfl hw (fun mu2 hmu2 => ?_)
  refine m_vret dW_dependOn_17 rfl ?_
  exact k mu2 (by rw [hmu2, up2_t (by decide), hmu1, up2_s]) (by rw [hmu2, up2_s, hmu1, up2_t (by decide)]) ((mfr_up hmu1 (by simp)).tr (mfr_up hmu2 (by simp)))
end
section
/-! The class's inner methods. -/
def wOk (mu : oMu) (m : Nat) (ky vr nd : Nat → Nat) (dp : Nat → Nat → Nat) : Prop := mu 0 0 4 = nI m ∧ m ≤ 40 ∧ ∀ w, w < m → (mu 5 w 1 = nI (ky w) ∧ mu 5 w 3 = nI (vr w / 4) ∧ mu 5 w 4 = nI (vr w) ∧ mu 5 w 5 = nI (nd w)) ∧ (ky w < 6 ∧ vr w < 1000 ∧ nd w < 64) ∧ ∀ k, k < 6 → mu 6 w k = dec (dp w k) ∧ dp w k ≤ m
def xOk (mu : oMu) (t i m : Nat) (x : Nat → Nat) : Prop := ∀ k, k < 6 → mu t i k = dec (x k) ∧ x k ≤ m
section WK
variable {mu mu' : oMu} {m w : Nat} {ky vr nd : Nat → Nat} {dp : Nat → Nat → Nat} {L : List (Nat × Nat)}
theorem wOk.mm (h : wOk mu m ky vr nd dp) : mu 0 0 4 = nI m := h.1
theorem wOk.m4 (h : wOk mu m ky vr nd dp) : m ≤ 40 := h.2.1
theorem wOk.key (h : wOk mu m ky vr nd dp) (hw : w < m) : mu 5 w 1 = nI (ky w) := (h.2.2 w hw).1.1
theorem wOk.time (h : wOk mu m ky vr nd dp) (hw : w < m) : mu 5 w 3 = nI (vr w / 4) := (h.2.2 w hw).1.2.1
theorem wOk.ver (h : wOk mu m ky vr nd dp) (w : Nat) (hw : w < m) : mu 5 w 4 = nI (vr w) := (h.2.2 w hw).1.2.2.1
theorem wOk.need (h : wOk mu m ky vr nd dp) (hw : w < m) : mu 5 w 5 = nI (nd w) := (h.2.2 w hw).1.2.2.2
theorem wOk.key6 (h : wOk mu m ky vr nd dp) (hw : w < m) : ky w < 6 := (h.2.2 w hw).2.1.1
theorem wOk.verB (h : wOk mu m ky vr nd dp) (w : Nat) (hw : w < m) : vr w < 2147483648 := Nat.lt_trans (h.2.2 w hw).2.1.2.1 (by decide)
theorem wOk.verK (h : wOk mu m ky vr nd dp) (hw : w < m) : vr w < 1000 := (h.2.2 w hw).2.1.2.1
theorem wOk.needB (h : wOk mu m ky vr nd dp) (hw : w < m) : nd w < 64 := (h.2.2 w hw).2.1.2.2
theorem wOk.dep (h : wOk mu m ky vr nd dp) (hw : w < m) {k : Nat} (hk : k < 6) : mu 6 w k = dec (dp w k) := ((h.2.2 w hw).2.2 k hk).1
theorem wOk.depB (h : wOk mu m ky vr nd dp) (hw : w < m) {k : Nat} (hk : k < 6) : dp w k ≤ m := ((h.2.2 w hw).2.2 k hk).2
def offW (L : List (Nat × Nat)) : Bool := L.all fun q => !(Nat.beq q.1 0) && !(Nat.beq q.1 5) && !(Nat.beq q.1 6)
theorem offW_not {t i : Nat} (h : offW L = true) (ht : t = 0 ∨ t = 5 ∨ t = 6) : (t, i) ∉ L := by
  intro hq
  have h2 := List.all_eq_true.mp h _ hq
  rcases ht with rfl | rfl | rfl <;> simp at h2
theorem wOk.fr (h : wOk mu m ky vr nd dp) (hf : mfr L mu mu') (hL : offW L = true) : wOk mu' m ky vr nd dp := by
  refine ⟨by rw [hf 0 0 (offW_not hL (by simp))]; exact h.1, h.2.1, fun w hw => ?_⟩
  rw [hf 5 w (offW_not hL (by simp)), hf 6 w (offW_not hL (by simp))]
  exact h.2.2 w hw
theorem xOk.fr {t i : Nat} {x : Nat → Nat} (h : xOk mu t i m x) (hf : mfr L mu mu') (hL : (t, i) ∉ L) : xOk mu' t i m x := fun k hk => by rw [hf t i hL]; exact h k hk
theorem xOk.step {t i j b : Nat} {x y : Nat → Nat} (h : xOk mu t i m x) (e : mu' = up2 mu t i (upd (mu t i) j (dec b))) (hb : b ≤ m) (hy : ∀ q, q < 6 → y q = if q = j then b else x q) : xOk mu' t i m y := by
  intro q hq
  rw [e, up2_s, hy q hq]
  by_cases hqj : q = j
  · subst hqj
    simp [upd, hb]
  · simp [upd, hqj]
    exact h q hq
end WK
theorem nI_max {a b : Nat} (ha : a < 2147483648) (hb : b < 2147483648) : (if nI a < nI b then nI b else nI a) = nI (if a < b then b else a) := by
  by_cases h : a < b
  · rw [if_pos ((nI_ltI ha hb).mpr h), if_pos h]
  · rw [if_neg (fun q => h ((nI_ltI ha hb).mp q)), if_neg h]
def tmx (t0 : Nat) (x vr : Nat → Nat) : Nat → Nat
  | 0 => t0
  | k + 1 => if x k = 0 then tmx t0 x vr k else if tmx t0 x vr k < vr (x k - 1) / 4 then vr (x k - 1) / 4 else tmx t0 x vr k
theorem tmx_lt {t0 m : Nat} {x vr : Nat → Nat} (h0 : t0 < 1000) (hx : ∀ k, k < 6 → x k ≤ m) (hv : ∀ w, w < m → vr w < 1000) : ∀ k, k ≤ 6 → tmx t0 x vr k < 1000
  | 0, _ => h0
  | k + 1, hk => by
    have ih := tmx_lt h0 hx hv k (by omega)
    rw [tmx]
    split
    · exact ih
    · split
      · have h1 := hx k (by omega)
        have h2 := hv (x k - 1) (by omega)
        omega
      · exact ih
theorem l_tick {G : oG} {mu : oMu} {Q : oPm} {m : Nat} {ky vr nd : Nat → Nat} {dp : Nat → Nat → Nat} (hW : wOk mu m ky vr nd dp) {i c p t0 : Nat} {x : Nat → Nat} (hi : i < 6) (hc : c < 3) (hp : p < 2) (ht0 : t0 < 1000) (hx : xOk mu 15 i m x) (j : Nat) (hj : j ≤ 6) (k : ∀ mu' : oMu, mu' = up2 mu 10 c (upd (mu 10 c) p (nI (tmx t0 x vr 6 + 1))) → Q (some (.inl (nI (tmx t0 x vr 6 + 1)))) mu') : Om G M_S_tick 21 [(0, .inr (some (ad 0 0))), (1, .inr (some (ad 14 i))), (2, .inl (nI p)), (3, .inr (some (ad 10 c))), (4, .inl (nI (tmx t0 x vr j))), (5, .inl (nI j))] [] mu Q := by
  refine o_iload dS_tick_21 rfl ?_
  refine o_bipush (nI 6) dS_tick_23 rfl ?_
  refine n_icmp_ge 69 dS_tick_25 rfl (by omega) (by omega) (fun hb25 => ?_) (fun hb25 => ?_)
  · skip
    have hj6 : j = 6 := by omega
    refine o_aload_n dS_tick_69 rfl ?_
    refine o_iload_n dS_tick_70 rfl ?_
    refine o_iload dS_tick_71 rfl ?_
    refine o_iconst (nI 1) dS_tick_73 rfl ?_
    refine o_iadd dS_tick_74 ?_
    refine o_top _ (nI_add _ _) ?_
    refine m_iast p dS_tick_75 rfl rfl rfl hc rfl hp (fun mu1 hmu1 => ?_)
    refine o_iload dS_tick_76 rfl ?_
    refine o_iconst (nI 1) dS_tick_78 rfl ?_
    refine o_iadd dS_tick_79 ?_
    refine o_top _ (nI_add _ _) ?_
    refine m_iret dS_tick_80 rfl ?_
    subst hj6
    exact k mu1 hmu1
  · skip
    refine o_aload_n dS_tick_28 rfl ?_
    refine m_getr dS_tick_29 fl_S_65 rfl rfl hi ?_
    refine o_iload dS_tick_32 rfl ?_
    refine m_iald j dS_tick_34 rfl rfl rfl hi rfl hb25 ?_
    refine o_top (dec (x j)) (hx j hb25).1 ?_
    refine o_istore [(0, _), (1, _), (2, _), (3, _), (4, _), (5, _), (6, _)] dS_tick_35 rfl rfl ?_
    refine o_aload_n dS_tick_37 rfl ?_
    refine o_iload dS_tick_38 rfl ?_
    refine m_callV M_S_isWrite [.inl (dec (x j))] [] dS_tick_40 mk_S_isWrite in_S_isWrite se_S_isWrite rfl (by decide) rfl rfl ml_S_123 rfl rfl rfl (Nat.le_of_ble_eq_true rfl) rfl ?_
    refine c_isWriteD hW.mm hW.m4 (hx j hb25).2 (fun w hw e => ?_) (fun e => ?_)
    · skip
      rw [e]
      have hm4 := hW.m4
      have hvk := hW.verK hw
      have htm := tmx_lt (vr := vr) ht0 (fun q hq => (hx q hq).2) (fun u hu => hW.verK hu) j hj
      show Om G M_S_tick 43 [(0, .inr (some (ad 0 0))), (1, .inr (some (ad 14 i))), (2, .inl (nI p)), (3, .inr (some (ad 10 c))), (4, .inl (nI (tmx t0 x vr j))), (5, .inl (nI j)), (6, .inl (nI w))] [.inl (nI 1)] mu Q
      refine n_if_eq 63 dS_tick_43 rfl (by omega) (fun h => absurd h (by decide)) (fun _ => ?_)
      refine o_iload dS_tick_46 rfl ?_
      refine o_aload_n dS_tick_48 rfl ?_
      refine m_getr dS_tick_49 fl_S_11 rfl rfl (by decide) ?_
      refine o_iload dS_tick_52 rfl ?_
      refine m_aald w dS_tick_54 rfl rfl rfl (by decide) rfl (sh_q1 (by omega)) ?_
      refine m_geti dS_tick_55 fl_S_135 rfl rfl (show w < 40 by omega) ?_
      refine o_top (nI (vr w / 4)) (hW.time hw) ?_
      refine o_mmax dS_tick_58 mx_S_138 wm_s wm_i wm_c rfl rfl ?_
      refine o_top (nI (if tmx t0 x vr j < vr w / 4 then vr w / 4 else tmx t0 x vr j)) (nI_max (by omega) (by omega)) ?_
      refine o_istore [(0, _), (1, _), (2, _), (3, _), (4, _), (5, _), (6, _)] dS_tick_61 rfl rfl ?_
      refine o_iinc (nI (j + 1)) [(0, _), (1, _), (2, _), (3, _), (4, _), (5, _), (6, _)] dS_tick_63 rfl (nInc _) rfl rfl ?_
      refine o_goto 21 dS_tick_66 rfl ?_
      refine o_lv [(0, _), (1, _), (2, _), (3, _), (4, _), (5, _)] [0, 1, 2, 3, 4, 5] rfl ?_
      rw [show (if tmx t0 x vr j < vr w / 4 then vr w / 4 else tmx t0 x vr j) = tmx t0 x vr (j + 1) by simp [tmx, e]]
      exact l_tick hW hi hc hp ht0 hx (j + 1) (by omega) k
    · skip
      rw [e]
      show Om G M_S_tick 43 [(0, .inr (some (ad 0 0))), (1, .inr (some (ad 14 i))), (2, .inl (nI p)), (3, .inr (some (ad 10 c))), (4, .inl (nI (tmx t0 x vr j))), (5, .inl (nI j)), (6, .inl (dec 0))] [.inl (nI 0)] mu Q
      refine n_if_eq 63 dS_tick_43 rfl (by omega) (fun _ => ?_) (fun h => absurd h (by decide))
      refine o_iinc (nI (j + 1)) [(0, _), (1, _), (2, _), (3, _), (4, _), (5, _), (6, _)] dS_tick_63 rfl (nInc _) rfl rfl ?_
      refine o_goto 21 dS_tick_66 rfl ?_
      refine o_lv [(0, _), (1, _), (2, _), (3, _), (4, _), (5, _)] [0, 1, 2, 3, 4, 5] rfl ?_
      rw [show (tmx t0 x vr j) = tmx t0 x vr (j + 1) by simp [tmx, e]]
      exact l_tick hW hi hc hp ht0 hx (j + 1) (by omega) k
termination_by 6 - j
theorem c_tick {G : oG} {mu : oMu} {Q : oPm} {m : Nat} {ky vr nd : Nat → Nat} {dp : Nat → Nat → Nat} (hW : wOk mu m ky vr nd dp) {i c p t0 : Nat} {x : Nat → Nat} (hi : i < 6) (hc : c < 3) (hp : p < 2) (ht0 : t0 < 1000) (hx : xOk mu 15 i m x) (hcen : mu 14 i 0 = nI c) (hclk : mu 10 c p = nI t0) (k : ∀ mu' : oMu, mu' = up2 mu 10 c (upd (mu 10 c) p (nI (tmx t0 x vr 6 + 1))) → Q (some (.inl (nI (tmx t0 x vr 6 + 1)))) mu') : Om G M_S_tick 0 [(0, .inr (some (ad 0 0))), (1, .inr (some (ad 14 i))), (2, .inl (nI p))] [] mu Q := by
  refine o_aload_n dS_tick_0 rfl ?_
  refine m_getr dS_tick_1 fl_S_17 rfl rfl (by decide) ?_
  refine o_aload_n dS_tick_4 rfl ?_
  refine m_geti dS_tick_5 fl_S_58 rfl rfl hi ?_
  refine o_top (nI c) hcen ?_
  refine m_aald c dS_tick_8 rfl rfl rfl (by decide) rfl (sh_q2 hc) ?_
  refine m_getr dS_tick_9 fl_S_132 rfl rfl hc ?_
  refine o_astore_n [(0, _), (1, _), (2, _), (3, _)] dS_tick_12 rfl rfl ?_
  refine o_aload_n dS_tick_13 rfl ?_
  refine o_iload_n dS_tick_14 rfl ?_
  refine m_iald p dS_tick_15 rfl rfl rfl hc rfl hp ?_
  refine o_top (nI t0) hclk ?_
  refine o_istore [(0, _), (1, _), (2, _), (3, _), (4, _)] dS_tick_16 rfl rfl ?_
  refine o_iconst (nI 0) dS_tick_18 rfl ?_
  refine o_istore [(0, _), (1, _), (2, _), (3, _), (4, _), (5, _)] dS_tick_19 rfl rfl ?_
  exact l_tick hW hi hc hp ht0 hx 0 (by omega) k
theorem c_show {G : oG} {mu : oMu} {Q : oPm} {m : Nat} {ky vr nd : Nat → Nat} {dp : Nat → Nat → Nat} (hW : wOk mu m ky vr nd dp) {c w a : Nat} (hc : c < 3) (hw : w < m) (hn : mu 9 c (ky w) = dec a) (ha : a ≤ m) (k : ∀ mu' : oMu, mu' 8 c = upd (mu 8 c) w (nI 1) → mu' 9 c = upd (mu 9 c) (ky w) (dec (gr vr a (w + 1))) → mfr [(8, c), (9, c)] mu mu' → Q none mu') : Om G M_S_show 0 [(0, .inr (some (ad 0 0))), (1, .inl (nI c)), (2, .inl (nI w))] [] mu Q := by
  have hm4 := hW.m4
  have hk6 := hW.key6 hw
  refine o_aload_n dS_show_0 rfl ?_
  refine m_getr dS_show_1 fl_S_11 rfl rfl (by decide) ?_
  refine o_iload_n dS_show_4 rfl ?_
  refine m_aald w dS_show_5 rfl rfl rfl (by decide) rfl (sh_q1 (by omega)) ?_
  refine m_geti dS_show_6 fl_S_129 rfl rfl (show w < 40 by omega) ?_
  refine o_top (nI (ky w)) (hW.key hw) ?_
  refine o_istore_n [(0, _), (1, _), (2, _), (3, _)] dS_show_9 rfl rfl ?_
  refine o_aload_n dS_show_10 rfl ?_
  refine m_getr dS_show_11 fl_S_17 rfl rfl (by decide) ?_
  refine o_iload_n dS_show_14 rfl ?_
  refine m_aald c dS_show_15 rfl rfl rfl (by decide) rfl (sh_q2 hc) ?_
  refine m_getr dS_show_16 fl_S_88 rfl rfl hc ?_
  refine o_astore [(0, _), (1, _), (2, _), (3, _), (4, _)] dS_show_19 rfl rfl ?_
  refine o_aload_n dS_show_21 rfl ?_
  refine m_getr dS_show_22 fl_S_17 rfl rfl (by decide) ?_
  refine o_iload_n dS_show_25 rfl ?_
  refine m_aald c dS_show_26 rfl rfl rfl (by decide) rfl (sh_q2 hc) ?_
  refine m_getr dS_show_27 fl_S_165 rfl rfl hc ?_
  refine o_iload_n dS_show_30 rfl ?_
  refine o_iconst (nI 1) dS_show_31 rfl ?_
  refine m_zast w dS_show_32 rfl rfl rfl hc rfl (by omega) rfl (fun mu1 hmu1 => ?_)
  have hf1 := mfr_up (L := [(8, c), (9, c)]) hmu1 (by simp)
  have hW1 := hW.fr hf1 rfl
  refine o_aload dS_show_33 rfl ?_
  refine o_iload_n dS_show_35 rfl ?_
  refine o_aload_n dS_show_36 rfl ?_
  refine o_aload dS_show_37 rfl ?_
  refine o_iload_n dS_show_39 rfl ?_
  refine m_iald (ky w) dS_show_40 rfl rfl rfl hc rfl hk6 ?_
  refine o_top (dec a) (by rw [hmu1, up2_t (by decide)]; exact hn) ?_
  refine o_iload_n dS_show_41 rfl ?_
  refine m_callV M_S_greater [.inl (dec a), .inl (nI w)] [.inl (nI (ky w)), .inr (some (ad 9 c))] dS_show_42 mk_S_greater in_S_greater se_S_greater rfl (by decide) rfl rfl ml_S_179 rfl rfl rfl (Nat.le_of_ble_eq_true rfl) rfl ?_
  refine c_greater (a := a) (c := w + 1) hW1.mm hW1.m4 hW1.ver hW1.verB ha hw ?_
  show Om G M_S_show 45 [(0, .inr (some (ad 0 0))), (1, .inl (nI c)), (2, .inl (nI w)), (3, .inl (nI (ky w))), (4, .inr (some (ad 9 c)))] [.inl (dec (gr vr a (w + 1))), .inl (nI (ky w)), .inr (some (ad 9 c))] mu1 Q
  refine m_iast (ky w) dS_show_45 rfl rfl rfl hc rfl hk6 (fun mu2 hmu2 => ?_)
  refine m_vret dS_show_46 rfl ?_
  exact k mu2 (by rw [hmu2, up2_t (by decide), hmu1, up2_s]) (by rw [hmu2, up2_s, hmu1, up2_t (by decide)]) (hf1.tr (mfr_up hmu2 (by simp)))
def sY (x d vr : Nat → Nat) (j : Nat) : Nat → Nat := fun q => if q < j then gr vr (x q) (d q) else x q
def sX (x d vr : Nat → Nat) (ky w : Nat) : Nat → Nat := fun q => if q = ky then gr vr (gr vr (x q) (d q)) (w + 1) else gr vr (x q) (d q)
theorem sY_0 {x d vr : Nat → Nat} : sY x d vr 0 = x := by
  funext q
  simp [sY]
theorem sY_le {x d vr : Nat → Nat} {j m q : Nat} (hx : x q ≤ m) (hd : d q ≤ m) : sY x d vr j q ≤ m := by
  unfold sY
  split
  · exact gr_le hx hd
  · exact hx
theorem l_see {G : oG} {mu : oMu} {Q : oPm} {m : Nat} {ky vr nd : Nat → Nat} {dp : Nat → Nat → Nat} (hW : wOk mu m ky vr nd dp) {i w : Nat} {x : Nat → Nat} (hi : i < 6) (hw : w < m) (j : Nat) (hj : j ≤ 6) (hxm : ∀ q, q < 6 → x q ≤ m) (hy : xOk mu 15 i m (sY x (dp w) vr j)) (k : ∀ mu' : oMu, xOk mu' 15 i m (sX x (dp w) vr (ky w) w) → mfr [(15, i)] mu mu' → Q none mu') : Om G M_S_see 19 [(0, .inr (some (ad 0 0))), (1, .inr (some (ad 14 i))), (2, .inl (nI w)), (3, .inr (some (ad 5 w))), (4, .inl (nI j))] [] mu Q := by
  have hm4 := hW.m4
  have hw4 : w < 40 := by omega
  have hk6 := hW.key6 hw
  refine o_iload dS_see_19 rfl ?_
  refine o_bipush (nI 6) dS_see_21 rfl ?_
  refine n_icmp_ge 57 dS_see_23 rfl (by omega) (by omega) (fun hb23 => ?_) (fun hb23 => ?_)
  · skip
    have hj6 : j = 6 := by omega
    refine o_aload_n dS_see_57 rfl ?_
    refine m_getr dS_see_58 fl_S_65 rfl rfl hi ?_
    refine o_aload_n dS_see_61 rfl ?_
    refine m_geti dS_see_62 fl_S_129 rfl rfl hw4 ?_
    refine o_top (nI (ky w)) (hW.key hw) ?_
    refine o_aload_n dS_see_65 rfl ?_
    refine o_aload_n dS_see_66 rfl ?_
    refine m_getr dS_see_67 fl_S_65 rfl rfl hi ?_
    refine o_aload_n dS_see_70 rfl ?_
    refine m_geti dS_see_71 fl_S_129 rfl rfl hw4 ?_
    refine o_top (nI (ky w)) (hW.key hw) ?_
    refine m_iald (ky w) dS_see_74 rfl rfl rfl hi rfl hk6 ?_
    refine o_top (dec (gr vr (x (ky w)) (dp w (ky w)))) ((hy _ hk6).1.trans (by simp [sY, hk6, hj6])) ?_
    refine o_iload_n dS_see_75 rfl ?_
    refine m_callV M_S_greater [.inl (dec (gr vr (x (ky w)) (dp w (ky w)))), .inl (nI w)] [.inl (nI (ky w)), .inr (some (ad 15 i))] dS_see_76 mk_S_greater in_S_greater se_S_greater rfl (by decide) rfl rfl ml_S_179 rfl rfl rfl (Nat.le_of_ble_eq_true rfl) rfl ?_
    refine c_greater (a := gr vr (x (ky w)) (dp w (ky w))) (c := w + 1) hW.mm hW.m4 hW.ver hW.verB (gr_le (hxm _ hk6) (hW.depB hw hk6)) hw ?_
    show Om G M_S_see 79 [(0, .inr (some (ad 0 0))), (1, .inr (some (ad 14 i))), (2, .inl (nI w)), (3, .inr (some (ad 5 w))), (4, .inl (nI j))] [.inl (dec (gr vr (gr vr (x (ky w)) (dp w (ky w))) (w + 1))), .inl (nI (ky w)), .inr (some (ad 15 i))] mu Q
    refine m_iast (ky w) dS_see_79 rfl rfl rfl hi rfl hk6 (fun mu1 hmu1 => ?_)
    refine m_vret dS_see_80 rfl ?_
    subst hj6
    exact k mu1 (hy.step hmu1 (gr_le (gr_le (hxm _ hk6) (hW.depB hw hk6)) hw) (fun q hq => by
      by_cases hqk : q = ky w
      · subst hqk
        simp [sX]
      · simp [sX, sY, hqk, hq])) (mfr_up hmu1 (by simp))
  · skip
    refine o_aload_n dS_see_26 rfl ?_
    refine m_getr dS_see_27 fl_S_65 rfl rfl hi ?_
    refine o_iload dS_see_30 rfl ?_
    refine o_aload_n dS_see_32 rfl ?_
    refine o_aload_n dS_see_33 rfl ?_
    refine m_getr dS_see_34 fl_S_65 rfl rfl hi ?_
    refine o_iload dS_see_37 rfl ?_
    refine m_iald j dS_see_39 rfl rfl rfl hi rfl hb23 ?_
    refine o_top (dec (x j)) ((hy j hb23).1.trans (by simp [sY])) ?_
    refine o_aload_n dS_see_40 rfl ?_
    refine m_getr dS_see_41 fl_S_178 rfl rfl hw4 ?_
    refine o_iload dS_see_44 rfl ?_
    refine m_iald j dS_see_46 rfl rfl rfl hw4 rfl hb23 ?_
    refine o_top (dec (dp w j)) (hW.dep hw hb23) ?_
    refine m_callV M_S_greater [.inl (dec (x j)), .inl (dec (dp w j))] [.inl (nI j), .inr (some (ad 15 i))] dS_see_47 mk_S_greater in_S_greater se_S_greater rfl (by decide) rfl rfl ml_S_179 rfl rfl rfl (Nat.le_of_ble_eq_true rfl) rfl ?_
    refine c_greater (a := x j) (c := dp w j) hW.mm hW.m4 hW.ver hW.verB (hxm j hb23) (hW.depB hw hb23) ?_
    show Om G M_S_see 50 [(0, .inr (some (ad 0 0))), (1, .inr (some (ad 14 i))), (2, .inl (nI w)), (3, .inr (some (ad 5 w))), (4, .inl (nI j))] [.inl (dec (gr vr (x j) (dp w j))), .inl (nI j), .inr (some (ad 15 i))] mu Q
    refine m_iast j dS_see_50 rfl rfl rfl hi rfl hb23 (fun mu1 hmu1 => ?_)
    refine o_iinc (nI (j + 1)) [(0, _), (1, _), (2, _), (3, _), (4, _)] dS_see_51 rfl (nInc _) rfl rfl ?_
    refine o_goto 19 dS_see_54 rfl ?_
    have hf1 := mfr_up (L := [(15, i)]) hmu1 (by simp)
    exact l_see (hW.fr hf1 rfl) hi hw (j + 1) (by omega) hxm (hy.step hmu1 (gr_le (hxm j hb23) (hW.depB hw hb23)) (fun q hq => by
      by_cases hqj : q = j
      · subst hqj
        simp [sY]
      · by_cases hql : q < j
        · simp [sY, hqj, hql, Nat.lt_succ_of_lt hql]
        · have h3 : ¬ q < j + 1 := by omega
          simp [sY, hqj, hql, h3])) (fun mu' h1 h2 => k mu' h1 (hf1.tr h2))
termination_by 6 - j
theorem c_see {G : oG} {mu : oMu} {Q : oPm} {m : Nat} {ky vr nd : Nat → Nat} {dp : Nat → Nat → Nat} (hW : wOk mu m ky vr nd dp) {i a : Nat} {x : Nat → Nat} (hi : i < 6) (ha : a ≤ m) (hx : xOk mu 15 i m x) (kf : a = 0 → Q none mu) (kt : ∀ w, w < m → a = w + 1 → ∀ mu' : oMu, xOk mu' 15 i m (sX x (dp w) vr (ky w) w) → mfr [(15, i)] mu mu' → Q none mu') : Om G M_S_see 0 [(0, .inr (some (ad 0 0))), (1, .inr (some (ad 14 i))), (2, .inl (dec a))] [] mu Q := by
  refine o_aload_n dS_see_0 rfl ?_
  refine o_iload_n dS_see_1 rfl ?_
  refine m_callV M_S_isWrite [.inl (dec a)] [] dS_see_2 mk_S_isWrite in_S_isWrite se_S_isWrite rfl (by decide) rfl rfl ml_S_123 rfl rfl rfl (Nat.le_of_ble_eq_true rfl) rfl ?_
  refine c_isWriteD hW.mm hW.m4 ha (fun w hw e => ?_) (fun e => ?_)
  · skip
    subst e
    have hm4 := hW.m4
    show Om G M_S_see 5 [(0, .inr (some (ad 0 0))), (1, .inr (some (ad 14 i))), (2, .inl (nI w))] [.inl (nI 1)] mu Q
    refine n_if_ne 9 dS_see_5 rfl (by omega) (fun _ => ?_) (fun h => absurd h (by decide))
    refine o_aload_n dS_see_9 rfl ?_
    refine m_getr dS_see_10 fl_S_11 rfl rfl (by decide) ?_
    refine o_iload_n dS_see_13 rfl ?_
    refine m_aald w dS_see_14 rfl rfl rfl (by decide) rfl (sh_q1 (by omega)) ?_
    refine o_astore_n [(0, _), (1, _), (2, _), (3, _)] dS_see_15 rfl rfl ?_
    refine o_iconst (nI 0) dS_see_16 rfl ?_
    refine o_istore [(0, _), (1, _), (2, _), (3, _), (4, _)] dS_see_17 rfl rfl ?_
    exact l_see hW hi hw 0 (by omega) (fun q hq => (hx q hq).2) (by rw [sY_0]; exact hx) (kt w hw rfl)
  · skip
    subst e
    show Om G M_S_see 5 [(0, .inr (some (ad 0 0))), (1, .inr (some (ad 14 i))), (2, .inl (dec 0))] [.inl (nI 0)] mu Q
    refine n_if_ne 9 dS_see_5 rfl (by omega) (fun h => absurd h (by decide)) (fun _ => ?_)
    refine m_vret dS_see_8 rfl ?_
    exact kf rfl
def covB (x : Nat → Nat) (dp : Nat → Nat → Nat) (k : Nat) : Nat → Bool
  | 0 => false
  | q + 1 => covB x dp k q || (!(q == k) && !(x q == 0) && (dp (x q - 1) k == x k))
def nearB (x : Nat → Nat) (dp : Nat → Nat → Nat) : Nat → Nat
  | 0 => 0
  | k + 1 => if x k ≠ 0 ∧ covB x dp k 6 = false then nearB x dp k ||| 1 <<< k else nearB x dp k
theorem dec_inj {a b m : Nat} (ha : a ≤ m) (hb : b ≤ m) (hm : m ≤ 40) : dec a = dec b ↔ a = b := by
  constructor
  · intro h
    cases a with
    | zero =>
      cases b with
      | zero => rfl
      | succ b => exact (dec_nI (a := 0) (Nat.zero_le _) hm (by omega : b < m) h).symm ▸ rfl
    | succ a =>
      exact (dec_nI hb hm (by omega : a < m) h.symm).symm
  · intro h
    rw [h]
set_option maxRecDepth 100000 in
theorem b_or : ∀ s, s < 64 → ∀ k, k < 6 → nI s ||| (nI 1 <<< (nI k &&& 31)) = nI (s ||| 1 <<< k) ∧ s ||| 1 <<< k < 64 := by decide +kernel
theorem nearB_lt {x : Nat → Nat} {dp : Nat → Nat → Nat} : ∀ k, k ≤ 6 → nearB x dp k < 64
  | 0, _ => (by decide : 0 < 64)
  | k + 1, hk => by
    have ih := nearB_lt (x := x) (dp := dp) k (by omega)
    rw [nearB]
    split
    · exact (b_or _ ih k (by omega)).2
    · exact ih
theorem covB_mono {x : Nat → Nat} {dp : Nat → Nat → Nat} {k : Nat} : ∀ (q n : Nat), covB x dp k q = true → covB x dp k (q + n) = true
  | _, 0, h => h
  | q, n + 1, h => by
    show covB x dp k (q + n + 1) = true
    rw [covB, covB_mono q n h]
    rfl
theorem l_isCovered {G : oG} {mu : oMu} {Q : oPm} {m : Nat} {ky vr nd : Nat → Nat} {dp : Nat → Nat → Nat} (hW : wOk mu m ky vr nd dp) {i q : Nat} {x : Nat → Nat} (hi : i < 6) (hq : q < 6) (hx : xOk mu 15 i m x) (j : Nat) (hj : j ≤ 6) (hcv : covB x dp q j = false) (kt : covB x dp q 6 = true → Q (some (.inl (nI 1))) mu) (kf : covB x dp q 6 = false → Q (some (.inl (nI 0))) mu) : Om G M_S_isCovered 2 [(0, .inr (some (ad 0 0))), (1, .inr (some (ad 15 i))), (2, .inl (nI q)), (3, .inl (nI j))] [] mu Q := by
  refine o_iload_n dS_isCovered_2 rfl ?_
  refine o_bipush (nI 6) dS_isCovered_3 rfl ?_
  refine n_icmp_ge 53 dS_isCovered_5 rfl (by omega) (by omega) (fun hb5 => ?_) (fun hb5 => ?_)
  · skip
    have hj6 : j = 6 := by omega
    refine o_iconst (nI 0) dS_isCovered_53 rfl ?_
    refine m_zret dS_isCovered_54 rfl rfl ?_
    subst hj6
    exact kf hcv
  · skip
    refine o_aload_n dS_isCovered_8 rfl ?_
    refine o_iload_n dS_isCovered_9 rfl ?_
    refine m_iald j dS_isCovered_10 rfl rfl rfl hi rfl hb5 ?_
    refine o_top (dec (x j)) (hx j hb5).1 ?_
    refine o_istore [(0, _), (1, _), (2, _), (3, _), (4, _)] dS_isCovered_11 rfl rfl ?_
    refine o_iload_n dS_isCovered_13 rfl ?_
    refine o_iload_n dS_isCovered_14 rfl ?_
    have hx1 := hx j hb5
    refine n_icmp_eq 47 dS_isCovered_15 rfl (by omega) (by omega) (fun hb15 => ?_) (fun hb15 => ?_)
    · skip
      refine o_iinc (nI (j + 1)) [(0, _), (1, _), (2, _), (3, _), (4, _)] dS_isCovered_47 rfl (nInc _) rfl rfl ?_
      refine o_goto 2 dS_isCovered_50 rfl ?_
      refine o_lv [(0, _), (1, _), (2, _), (3, _)] [0, 1, 2, 3] rfl ?_
      exact l_isCovered hW hi hq hx (j + 1) (by omega) (by rw [covB, hcv]; first | (simp [hb15]; done) | (simp [e]; done) | (rw [e]; simp; exact fun _ z => hb42 z)) kt kf
    · skip
      refine o_aload_n dS_isCovered_18 rfl ?_
      refine o_iload dS_isCovered_19 rfl ?_
      refine m_callV M_S_isWrite [.inl (dec (x j))] [] dS_isCovered_21 mk_S_isWrite in_S_isWrite se_S_isWrite rfl (by decide) rfl rfl ml_S_123 rfl rfl rfl (Nat.le_of_ble_eq_true rfl) rfl ?_
      refine c_isWriteD hW.mm hW.m4 (hx j hb5).2 (fun w hw e => ?_) (fun e => ?_)
      · skip
        rw [e]
        have hm4 := hW.m4
        show Om G M_S_isCovered 24 [(0, .inr (some (ad 0 0))), (1, .inr (some (ad 15 i))), (2, .inl (nI q)), (3, .inl (nI j)), (4, .inl (nI w))] [.inl (nI 1)] mu Q
        refine n_if_eq 47 dS_isCovered_24 rfl (by omega) (fun h => absurd h (by decide)) (fun _ => ?_)
        refine o_aload_n dS_isCovered_27 rfl ?_
        refine m_getr dS_isCovered_28 fl_S_11 rfl rfl (by decide) ?_
        refine o_iload dS_isCovered_31 rfl ?_
        refine m_aald w dS_isCovered_33 rfl rfl rfl (by decide) rfl (sh_q1 (by omega)) ?_
        refine m_getr dS_isCovered_34 fl_S_178 rfl rfl (show w < 40 by omega) ?_
        refine o_iload_n dS_isCovered_37 rfl ?_
        refine m_iald q dS_isCovered_38 rfl rfl rfl (show w < 40 by omega) rfl hq ?_
        refine o_top (dec (dp w q)) (hW.dep hw hq) ?_
        refine o_aload_n dS_isCovered_39 rfl ?_
        refine o_iload_n dS_isCovered_40 rfl ?_
        refine m_iald q dS_isCovered_41 rfl rfl rfl hi rfl hq ?_
        refine o_top (dec (x q)) (hx q hq).1 ?_
        refine o_icmp_ne 47 dS_isCovered_42 rfl (fun hb42 => ?_) (fun hb42 => ?_)
        · skip
          have hb42 := fun z => hb42 ((dec_inj (hW.depB hw hq) (hx q hq).2 hW.m4).mpr z)
          refine o_iinc (nI (j + 1)) [(0, _), (1, _), (2, _), (3, _), (4, _)] dS_isCovered_47 rfl (nInc _) rfl rfl ?_
          refine o_goto 2 dS_isCovered_50 rfl ?_
          refine o_lv [(0, _), (1, _), (2, _), (3, _)] [0, 1, 2, 3] rfl ?_
          exact l_isCovered hW hi hq hx (j + 1) (by omega) (by rw [covB, hcv]; first | (simp [hb15]; done) | (simp [e]; done) | (rw [e]; simp; exact fun _ z => hb42 z)) kt kf
        · skip
          have hb42 := (dec_inj (hW.depB hw hq) (hx q hq).2 hW.m4).mp hb42
          refine o_iconst (nI 1) dS_isCovered_45 rfl ?_
          refine m_zret dS_isCovered_46 rfl rfl ?_
          refine kt ?_
          have h1 : covB x dp q (j + 1) = true := by
            rw [covB, hcv, e]
            simp [hb15, hb42]
          have h2 := covB_mono (j + 1) (5 - j) h1
          rw [show j + 1 + (5 - j) = 6 by omega] at h2
          exact h2
      · skip
        rw [e]
        show Om G M_S_isCovered 24 [(0, .inr (some (ad 0 0))), (1, .inr (some (ad 15 i))), (2, .inl (nI q)), (3, .inl (nI j)), (4, .inl (dec 0))] [.inl (nI 0)] mu Q
        refine n_if_eq 47 dS_isCovered_24 rfl (by omega) (fun _ => ?_) (fun h => absurd h (by decide))
        refine o_iinc (nI (j + 1)) [(0, _), (1, _), (2, _), (3, _), (4, _)] dS_isCovered_47 rfl (nInc _) rfl rfl ?_
        refine o_goto 2 dS_isCovered_50 rfl ?_
        refine o_lv [(0, _), (1, _), (2, _), (3, _)] [0, 1, 2, 3] rfl ?_
        exact l_isCovered hW hi hq hx (j + 1) (by omega) (by rw [covB, hcv]; first | (simp [hb15]; done) | (simp [e]; done) | (rw [e]; simp; exact fun _ z => hb42 z)) kt kf
termination_by 6 - j
theorem c_isCovered {G : oG} {mu : oMu} {Q : oPm} {m : Nat} {ky vr nd : Nat → Nat} {dp : Nat → Nat → Nat} (hW : wOk mu m ky vr nd dp) {i q : Nat} {x : Nat → Nat} (hi : i < 6) (hq : q < 6) (hx : xOk mu 15 i m x) (kt : covB x dp q 6 = true → Q (some (.inl (nI 1))) mu) (kf : covB x dp q 6 = false → Q (some (.inl (nI 0))) mu) : Om G M_S_isCovered 0 [(0, .inr (some (ad 0 0))), (1, .inr (some (ad 15 i))), (2, .inl (nI q))] [] mu Q := by
  refine o_iconst (nI 0) dS_isCovered_0 rfl ?_
  refine o_istore_n [(0, _), (1, _), (2, _), (3, _)] dS_isCovered_1 rfl rfl ?_
  exact l_isCovered hW hi hq hx 0 (by omega) rfl kt kf
theorem l_nearestKeys {G : oG} {mu : oMu} {Q : oPm} {m : Nat} {ky vr nd : Nat → Nat} {dp : Nat → Nat → Nat} (hW : wOk mu m ky vr nd dp) {i : Nat} {x : Nat → Nat} (hi : i < 6) (hx : xOk mu 15 i m x) (j : Nat) (hj : j ≤ 6) (k : Q (some (.inl (nI (nearB x dp 6)))) mu) : Om G M_S_nearestKeys 4 [(0, .inr (some (ad 0 0))), (1, .inr (some (ad 15 i))), (2, .inl (nI (nearB x dp j))), (3, .inl (nI j))] [] mu Q := by
  refine o_iload_n dS_nearestKeys_4 rfl ?_
  refine o_bipush (nI 6) dS_nearestKeys_5 rfl ?_
  refine n_icmp_ge 41 dS_nearestKeys_7 rfl (by omega) (by omega) (fun hb7 => ?_) (fun hb7 => ?_)
  · skip
    have hj6 : j = 6 := by omega
    refine o_iload_n dS_nearestKeys_41 rfl ?_
    refine m_iret dS_nearestKeys_42 rfl ?_
    subst hj6
    exact k
  · skip
    refine o_aload_n dS_nearestKeys_10 rfl ?_
    refine o_aload_n dS_nearestKeys_11 rfl ?_
    refine o_iload_n dS_nearestKeys_12 rfl ?_
    refine m_iald j dS_nearestKeys_13 rfl rfl rfl hi rfl hb7 ?_
    refine o_top (dec (x j)) (hx j hb7).1 ?_
    refine m_callV M_S_isWrite [.inl (dec (x j))] [] dS_nearestKeys_14 mk_S_isWrite in_S_isWrite se_S_isWrite rfl (by decide) rfl rfl ml_S_123 rfl rfl rfl (Nat.le_of_ble_eq_true rfl) rfl ?_
    refine c_isWriteD hW.mm hW.m4 (hx j hb7).2 (fun w hw e => ?_) (fun e => ?_)
    · skip
      show Om G M_S_nearestKeys 17 [(0, .inr (some (ad 0 0))), (1, .inr (some (ad 15 i))), (2, .inl (nI (nearB x dp j))), (3, .inl (nI j))] [.inl (nI 1)] mu Q
      refine n_if_eq 35 dS_nearestKeys_17 rfl (by omega) (fun h => absurd h (by decide)) (fun _ => ?_)
      refine o_aload_n dS_nearestKeys_20 rfl ?_
      refine o_aload_n dS_nearestKeys_21 rfl ?_
      refine o_iload_n dS_nearestKeys_22 rfl ?_
      refine m_callV M_S_isCovered [.inr (some (ad 15 i)), .inl (nI j)] [] dS_nearestKeys_23 mk_S_isCovered in_S_isCovered se_S_isCovered rfl (by decide) rfl rfl ml_S_182 rfl rfl rfl (Nat.le_of_ble_eq_true rfl) rfl ?_
      refine c_isCovered hW hi hb7 hx (fun hcv => ?_) (fun hcv => ?_)
      · skip
        show Om G M_S_nearestKeys 26 [(0, .inr (some (ad 0 0))), (1, .inr (some (ad 15 i))), (2, .inl (nI (nearB x dp j))), (3, .inl (nI j))] [.inl (nI 1)] mu Q
        refine n_if_ne 35 dS_nearestKeys_26 rfl (by omega) (fun _ => ?_) (fun h => absurd h (by decide))
        refine o_iinc (nI (j + 1)) [(0, _), (1, _), (2, _), (3, _)] dS_nearestKeys_35 rfl (nInc _) rfl rfl ?_
        refine o_goto 4 dS_nearestKeys_38 rfl ?_
        rw [show nearB x dp j = nearB x dp (j + 1) by rw [nearB, if_neg (by first | exact fun z => z.1 e | (intro z; rw [hcv] at z; exact absurd z.2 (by decide)))]]
        exact l_nearestKeys hW hi hx (j + 1) (by omega) k
      · skip
        show Om G M_S_nearestKeys 26 [(0, .inr (some (ad 0 0))), (1, .inr (some (ad 15 i))), (2, .inl (nI (nearB x dp j))), (3, .inl (nI j))] [.inl (nI 0)] mu Q
        refine n_if_ne 35 dS_nearestKeys_26 rfl (by omega) (fun h => absurd h (by decide)) (fun _ => ?_)
        refine o_iload_n dS_nearestKeys_29 rfl ?_
        refine o_iconst (nI 1) dS_nearestKeys_30 rfl ?_
        refine o_iload_n dS_nearestKeys_31 rfl ?_
        refine o_ishl dS_nearestKeys_32 ?_
        refine o_ior dS_nearestKeys_33 ?_
        refine o_top (nI (nearB x dp j ||| 1 <<< j)) (b_or _ (nearB_lt j hj) j hb7).1 ?_
        refine o_istore_n [(0, _), (1, _), (2, _), (3, _)] dS_nearestKeys_34 rfl rfl ?_
        refine o_iinc (nI (j + 1)) [(0, _), (1, _), (2, _), (3, _)] dS_nearestKeys_35 rfl (nInc _) rfl rfl ?_
        refine o_goto 4 dS_nearestKeys_38 rfl ?_
        rw [show nearB x dp j ||| 1 <<< j = nearB x dp (j + 1) by rw [nearB, if_pos ⟨by omega, hcv⟩]]
        exact l_nearestKeys hW hi hx (j + 1) (by omega) k
    · skip
      show Om G M_S_nearestKeys 17 [(0, .inr (some (ad 0 0))), (1, .inr (some (ad 15 i))), (2, .inl (nI (nearB x dp j))), (3, .inl (nI j))] [.inl (nI 0)] mu Q
      refine n_if_eq 35 dS_nearestKeys_17 rfl (by omega) (fun _ => ?_) (fun h => absurd h (by decide))
      refine o_iinc (nI (j + 1)) [(0, _), (1, _), (2, _), (3, _)] dS_nearestKeys_35 rfl (nInc _) rfl rfl ?_
      refine o_goto 4 dS_nearestKeys_38 rfl ?_
      rw [show nearB x dp j = nearB x dp (j + 1) by rw [nearB, if_neg (by first | exact fun z => z.1 e | (intro z; rw [hcv] at z; exact absurd z.2 (by decide)))]]
      exact l_nearestKeys hW hi hx (j + 1) (by omega) k
termination_by 6 - j
theorem c_nearestKeys {G : oG} {mu : oMu} {Q : oPm} {m : Nat} {ky vr nd : Nat → Nat} {dp : Nat → Nat → Nat} (hW : wOk mu m ky vr nd dp) {i : Nat} {x : Nat → Nat} (hi : i < 6) (hx : xOk mu 15 i m x) (k : Q (some (.inl (nI (nearB x dp 6)))) mu) : Om G M_S_nearestKeys 0 [(0, .inr (some (ad 0 0))), (1, .inr (some (ad 15 i)))] [] mu Q := by
  refine o_iconst (nI 0) dS_nearestKeys_0 rfl ?_
  refine o_istore_n [(0, _), (1, _), (2, _)] dS_nearestKeys_1 rfl rfl ?_
  refine o_iconst (nI 0) dS_nearestKeys_2 rfl ?_
  refine o_istore_n [(0, _), (1, _), (2, _), (3, _)] dS_nearestKeys_3 rfl rfl ?_
  exact l_nearestKeys hW hi hx 0 (by omega) k
end
section
/-! The class's inner methods, on. -/
theorem c_visible {G : oG} {mu : oMu} {Q : oPm} {x y : Int32} {m : Nat} (hm : mu 0 0 4 = nI m) (hm4 : m ≤ 40) (k0 : (∀ j, j < 3 → ¬ x = nI j) → Q (some (.inl (nI 0))) mu) (k1 : ∀ c, c < 3 → x = nI c → (∀ w, w < m → ¬ y = nI w) → Q (some (.inl (nI 0))) mu) (k2 : ∀ c, c < 3 → x = nI c → ∀ w, w < m → y = nI w → mu 8 c w = 0 → Q (some (.inl (nI 0))) mu) (k3 : ∀ c, c < 3 → x = nI c → ∀ w, w < m → y = nI w → ¬ mu 8 c w = 0 → Q (some (.inl (nI 1))) mu) : Om G M_S_visible 0 [(0, .inr (some (ad 0 0))), (1, .inl x), (2, .inl y)] [] mu Q := by
  refine o_iload_n dS_visible_0 rfl ?_
  refine m_callS M_S_isCenter [.inl x] [] dS_visible_1 mk_S_isCenter st_S_isCenter ml_S_150 rfl rfl rfl (Nat.le_of_ble_eq_true rfl) rfl ?_
  refine c_isCenter (fun c hc e => ?_) (fun hx => ?_)
  · skip
    subst e
    show Om G M_S_visible 4 [(0, .inr (some (ad 0 0))), (1, .inl (nI c)), (2, .inl y)] [.inl (nI 1)] mu Q
    refine n_if_eq 33 dS_visible_4 rfl (by omega) (fun h => absurd h (by decide)) (fun _ => ?_)
    refine o_aload_n dS_visible_7 rfl ?_
    refine o_iload_n dS_visible_8 rfl ?_
    refine m_callV M_S_isWrite [.inl y] [] dS_visible_9 mk_S_isWrite in_S_isWrite se_S_isWrite rfl (by decide) rfl rfl ml_S_123 rfl rfl rfl (Nat.le_of_ble_eq_true rfl) rfl ?_
    refine c_isWrite hm hm4 (fun w hw e => ?_) (fun hy => ?_)
    · skip
      subst e
      show Om G M_S_visible 12 [(0, .inr (some (ad 0 0))), (1, .inl (nI c)), (2, .inl (nI w))] [.inl (nI 1)] mu Q
      refine n_if_eq 33 dS_visible_12 rfl (by omega) (fun h => absurd h (by decide)) (fun _ => ?_)
      refine o_aload_n dS_visible_15 rfl ?_
      refine m_getr dS_visible_16 fl_S_17 rfl rfl (by decide) ?_
      refine o_iload_n dS_visible_19 rfl ?_
      refine m_aald c dS_visible_20 rfl rfl rfl (by decide) rfl (sh_q2 hc) ?_
      refine m_getr dS_visible_21 fl_S_165 rfl rfl hc ?_
      refine o_iload_n dS_visible_24 rfl ?_
      refine m_zald w dS_visible_25 rfl rfl rfl hc rfl (by omega) ?_
      refine o_if_eq 33 dS_visible_26 rfl (fun hb26 => ?_) (fun hb26 => ?_)
      · skip
        refine o_iconst (nI 0) dS_visible_33 rfl ?_
        refine m_zret dS_visible_34 rfl rfl ?_
        first | exact k0 hx | exact k1 c hc rfl hy | exact k2 c hc rfl w hw rfl hb26
      · skip
        refine o_iconst (nI 1) dS_visible_29 rfl ?_
        refine o_goto 34 dS_visible_30 rfl ?_
        refine m_zret dS_visible_34 rfl rfl ?_
        exact k3 c hc rfl w hw rfl hb26
    · skip
      show Om G M_S_visible 12 [(0, .inr (some (ad 0 0))), (1, .inl (nI c)), (2, .inl y)] [.inl (nI 0)] mu Q
      refine n_if_eq 33 dS_visible_12 rfl (by omega) (fun _ => ?_) (fun h => absurd h (by decide))
      refine o_iconst (nI 0) dS_visible_33 rfl ?_
      refine m_zret dS_visible_34 rfl rfl ?_
      first | exact k0 hx | exact k1 c hc rfl hy | exact k2 c hc rfl w hw rfl hb26
  · skip
    show Om G M_S_visible 4 [(0, .inr (some (ad 0 0))), (1, .inl x), (2, .inl y)] [.inl (nI 0)] mu Q
    refine n_if_eq 33 dS_visible_4 rfl (by omega) (fun _ => ?_) (fun h => absurd h (by decide))
    refine o_iconst (nI 0) dS_visible_33 rfl ?_
    refine m_zret dS_visible_34 rfl rfl ?_
    first | exact k0 hx | exact k1 c hc rfl hy | exact k2 c hc rfl w hw rfl hb26
def misB (nd : Nat) (d sn : Nat → Nat) (k : Nat) : Bool := nd.testBit k && (d k == 0 || sn (d k - 1) == 0)
def misN (nd : Nat) (d sn : Nat → Nat) : Nat → Nat
  | 0 => 0
  | k + 1 => if misB nd d sn k = true then misN nd d sn k + 1 else misN nd d sn k
def sOk (mu : oMu) (c : Nat) (sn : Nat → Nat) : Prop := ∀ w, w < 40 → mu 8 c w = nI (sn w) ∧ sn w < 2
theorem sOk.z {mu : oMu} {c w : Nat} {sn : Nat → Nat} (h : sOk mu c sn) (hw : w < 40) : mu 8 c w = 0 ↔ sn w = 0 := by
  have h1 := h w hw
  rw [h1.1]
  exact nI_eq (b := 0) (by omega) (by decide)
theorem l_missingNeeds {G : oG} {mu : oMu} {Q : oPm} {m : Nat} {ky vr nd : Nat → Nat} {dp : Nat → Nat → Nat} (hW : wOk mu m ky vr nd dp) {c w : Nat} {sn : Nat → Nat} (hc : c < 3) (hw : w < m) (hs : sOk mu c sn) (j : Nat) (hj : j ≤ 6) (k : Q (some (.inl (nI (misN (nd w) (dp w) sn 6)))) mu) : Om G M_S_missingNeeds 5 [(0, .inr (some (ad 0 0))), (1, .inl (nI c)), (2, .inl (nI w)), (3, .inl (nI (misN (nd w) (dp w) sn j))), (4, .inl (nI j))] [] mu Q := by
  have hm4 := hW.m4
  have hw4 : w < 40 := by omega
  refine o_iload dS_missingNeeds_5 rfl ?_
  refine o_bipush (nI 6) dS_missingNeeds_7 rfl ?_
  refine n_icmp_ge 58 dS_missingNeeds_9 rfl (by omega) (by omega) (fun hb9 => ?_) (fun hb9 => ?_)
  · skip
    have hj6 : j = 6 := by omega
    refine o_iload_n dS_missingNeeds_58 rfl ?_
    refine m_iret dS_missingNeeds_59 rfl ?_
    subst hj6
    exact k
  · skip
    refine o_aload_n dS_missingNeeds_12 rfl ?_
    refine m_getr dS_missingNeeds_13 fl_S_11 rfl rfl (by decide) ?_
    refine o_iload_n dS_missingNeeds_16 rfl ?_
    refine m_aald w dS_missingNeeds_17 rfl rfl rfl (by decide) rfl (sh_q1 hw4) ?_
    refine m_geti dS_missingNeeds_18 fl_S_175 rfl rfl hw4 ?_
    refine o_top (nI (nd w)) (hW.need hw) ?_
    refine o_iload dS_missingNeeds_21 rfl ?_
    refine m_callS M_S_hasKey [.inl (nI (nd w)), .inl (nI j)] [] dS_missingNeeds_23 mk_S_hasKey st_S_hasKey ml_S_186 rfl rfl rfl (Nat.le_of_ble_eq_true rfl) rfl ?_
    refine c_hasKey (hW.needB hw) hb9 (fun hbt => ?_) (fun hbf => ?_)
    · skip
      show Om G M_S_missingNeeds 26 [(0, .inr (some (ad 0 0))), (1, .inl (nI c)), (2, .inl (nI w)), (3, .inl (nI (misN (nd w) (dp w) sn j))), (4, .inl (nI j))] [.inl (nI 1)] mu Q
      refine n_if_eq 52 dS_missingNeeds_26 rfl (by omega) (fun h => absurd h (by decide)) (fun _ => ?_)
      refine o_aload_n dS_missingNeeds_29 rfl ?_
      refine o_iload_n dS_missingNeeds_30 rfl ?_
      refine o_aload_n dS_missingNeeds_31 rfl ?_
      refine m_getr dS_missingNeeds_32 fl_S_11 rfl rfl (by decide) ?_
      refine o_iload_n dS_missingNeeds_35 rfl ?_
      refine m_aald w dS_missingNeeds_36 rfl rfl rfl (by decide) rfl (sh_q1 hw4) ?_
      refine m_getr dS_missingNeeds_37 fl_S_178 rfl rfl hw4 ?_
      refine o_iload dS_missingNeeds_40 rfl ?_
      refine m_iald j dS_missingNeeds_42 rfl rfl rfl hw4 rfl hb9 ?_
      refine o_top (dec (dp w j)) (hW.dep hw hb9) ?_
      refine m_callV M_S_visible [.inl (nI c), .inl (dec (dp w j))] [] dS_missingNeeds_43 mk_S_visible in_S_visible se_S_visible rfl (by decide) rfl rfl ml_S_190 rfl rfl rfl (Nat.le_of_ble_eq_true rfl) rfl ?_
      refine c_visible hW.mm hW.m4 (fun h => ?_) (fun c9 hc9 e9 h => ?_) (fun c9 hc9 e9 u hu eu h => ?_) (fun c9 hc9 e9 u hu eu h => ?_)
      · skip
        exact absurd rfl (h c hc)
      · skip
        have hd0 := dec_no (hW.depB hw hb9) h
        have hmz : dp w j = 0 ∨ sn (dp w j - 1) = 0 := Or.inl hd0
        show Om G M_S_missingNeeds 46 [(0, .inr (some (ad 0 0))), (1, .inl (nI c)), (2, .inl (nI w)), (3, .inl (nI (misN (nd w) (dp w) sn j))), (4, .inl (nI j))] [.inl (nI 0)] mu Q
        refine n_if_ne 52 dS_missingNeeds_46 rfl (by omega) (fun h => absurd h (by decide)) (fun _ => ?_)
        refine o_iinc (nI (misN (nd w) (dp w) sn j + 1)) [(0, _), (1, _), (2, _), (3, _), (4, _)] dS_missingNeeds_49 rfl (nInc _) rfl rfl ?_
        refine o_iinc (nI (j + 1)) [(0, _), (1, _), (2, _), (3, _), (4, _)] dS_missingNeeds_52 rfl (nInc _) rfl rfl ?_
        refine o_goto 5 dS_missingNeeds_55 rfl ?_
        rw [show misN (nd w) (dp w) sn j + 1 = misN (nd w) (dp w) sn (j + 1) by rw [misN, if_pos (by simp [misB, hbt, hmz])]]
        exact l_missingNeeds hW hc hw hs (j + 1) (by omega) k
      · skip
        have hd1 := dec_nI (hW.depB hw hb9) hW.m4 hu eu
        obtain rfl : c = c9 := (nI_eq (by omega) (by omega)).mp e9
        have hmz : dp w j = 0 ∨ sn (dp w j - 1) = 0 := Or.inr (by rw [hd1]; exact (hs.z (by omega)).mp h)
        show Om G M_S_missingNeeds 46 [(0, .inr (some (ad 0 0))), (1, .inl (nI c)), (2, .inl (nI w)), (3, .inl (nI (misN (nd w) (dp w) sn j))), (4, .inl (nI j))] [.inl (nI 0)] mu Q
        refine n_if_ne 52 dS_missingNeeds_46 rfl (by omega) (fun h => absurd h (by decide)) (fun _ => ?_)
        refine o_iinc (nI (misN (nd w) (dp w) sn j + 1)) [(0, _), (1, _), (2, _), (3, _), (4, _)] dS_missingNeeds_49 rfl (nInc _) rfl rfl ?_
        refine o_iinc (nI (j + 1)) [(0, _), (1, _), (2, _), (3, _), (4, _)] dS_missingNeeds_52 rfl (nInc _) rfl rfl ?_
        refine o_goto 5 dS_missingNeeds_55 rfl ?_
        rw [show misN (nd w) (dp w) sn j + 1 = misN (nd w) (dp w) sn (j + 1) by rw [misN, if_pos (by simp [misB, hbt, hmz])]]
        exact l_missingNeeds hW hc hw hs (j + 1) (by omega) k
      · skip
        have hd1 := dec_nI (hW.depB hw hb9) hW.m4 hu eu
        obtain rfl : c = c9 := (nI_eq (by omega) (by omega)).mp e9
        have hmz : ¬ dp w j = 0 ∧ ¬ sn (dp w j - 1) = 0 := ⟨by omega, fun z => h ((hs.z (by omega)).mpr (by rw [hd1] at z; exact z))⟩
        show Om G M_S_missingNeeds 46 [(0, .inr (some (ad 0 0))), (1, .inl (nI c)), (2, .inl (nI w)), (3, .inl (nI (misN (nd w) (dp w) sn j))), (4, .inl (nI j))] [.inl (nI 1)] mu Q
        refine n_if_ne 52 dS_missingNeeds_46 rfl (by omega) (fun _ => ?_) (fun h => absurd h (by decide))
        refine o_iinc (nI (j + 1)) [(0, _), (1, _), (2, _), (3, _), (4, _)] dS_missingNeeds_52 rfl (nInc _) rfl rfl ?_
        refine o_goto 5 dS_missingNeeds_55 rfl ?_
        rw [show misN (nd w) (dp w) sn j = misN (nd w) (dp w) sn (j + 1) by rw [misN, if_neg (by first | (simp [misB, hbf]; done) | (simp [misB, hbt, hmz]))]]
        exact l_missingNeeds hW hc hw hs (j + 1) (by omega) k
    · skip
      show Om G M_S_missingNeeds 26 [(0, .inr (some (ad 0 0))), (1, .inl (nI c)), (2, .inl (nI w)), (3, .inl (nI (misN (nd w) (dp w) sn j))), (4, .inl (nI j))] [.inl (nI 0)] mu Q
      refine n_if_eq 52 dS_missingNeeds_26 rfl (by omega) (fun _ => ?_) (fun h => absurd h (by decide))
      refine o_iinc (nI (j + 1)) [(0, _), (1, _), (2, _), (3, _), (4, _)] dS_missingNeeds_52 rfl (nInc _) rfl rfl ?_
      refine o_goto 5 dS_missingNeeds_55 rfl ?_
      rw [show misN (nd w) (dp w) sn j = misN (nd w) (dp w) sn (j + 1) by rw [misN, if_neg (by first | (simp [misB, hbf]; done) | (simp [misB, hbt, hmz]))]]
      exact l_missingNeeds hW hc hw hs (j + 1) (by omega) k
termination_by 6 - j
theorem c_missingNeeds {G : oG} {mu : oMu} {Q : oPm} {m : Nat} {ky vr nd : Nat → Nat} {dp : Nat → Nat → Nat} (hW : wOk mu m ky vr nd dp) {c w : Nat} {sn : Nat → Nat} (hc : c < 3) (hw : w < m) (hs : sOk mu c sn) (k : Q (some (.inl (nI (misN (nd w) (dp w) sn 6)))) mu) : Om G M_S_missingNeeds 0 [(0, .inr (some (ad 0 0))), (1, .inl (nI c)), (2, .inl (nI w))] [] mu Q := by
  refine o_iconst (nI 0) dS_missingNeeds_0 rfl ?_
  refine o_istore_n [(0, _), (1, _), (2, _), (3, _)] dS_missingNeeds_1 rfl rfl ?_
  refine o_iconst (nI 0) dS_missingNeeds_2 rfl ?_
  refine o_istore [(0, _), (1, _), (2, _), (3, _), (4, _)] dS_missingNeeds_3 rfl rfl ?_
  exact l_missingNeeds hW hc hw hs 0 (by omega) k
def dueN (h : Nat → Nat) (dp : Nat → Nat → Nat) (vr : Nat → Nat) (q : Nat) : Nat → Nat
  | 0 => h q
  | j + 1 => if h j = 0 then dueN h dp vr q j else gr vr (dueN h dp vr q j) (dp (h j - 1) q)
theorem dueN_le {h vr : Nat → Nat} {dp : Nat → Nat → Nat} {q m : Nat} (hq : q < 6) (hh : ∀ k, k < 6 → h k ≤ m) (hd : ∀ w, w < m → dp w q ≤ m) : ∀ j, j ≤ 6 → dueN h dp vr q j ≤ m
  | 0, _ => hh q hq
  | j + 1, hj => by
    have ih := dueN_le (vr := vr) hq hh hd j (by omega)
    have h1 := hh j (by omega)
    rw [dueN]
    split
    · exact ih
    · exact gr_le ih (hd _ (by omega))
theorem l_dueWrite {G : oG} {mu : oMu} {Q : oPm} {m : Nat} {ky vr nd : Nat → Nat} {dp : Nat → Nat → Nat} (hW : wOk mu m ky vr nd dp) {i q : Nat} {h : Nat → Nat} (hi : i < 6) (hq : q < 6) (hh : xOk mu 16 i m h) (j : Nat) (hj : j ≤ 6) (k : Q (some (.inl (dec (dueN h dp vr q 6)))) mu) : Om G M_S_dueWrite 7 [(0, .inr (some (ad 0 0))), (1, .inr (some (ad 16 i))), (2, .inl (nI q)), (3, .inl (dec (dueN h dp vr q j))), (4, .inl (nI j))] [] mu Q := by
  refine o_iload dS_dueWrite_7 rfl ?_
  refine o_bipush (nI 6) dS_dueWrite_9 rfl ?_
  refine n_icmp_ge 51 dS_dueWrite_11 rfl (by omega) (by omega) (fun hb11 => ?_) (fun hb11 => ?_)
  · skip
    have hj6 : j = 6 := by omega
    refine o_iload_n dS_dueWrite_51 rfl ?_
    refine m_iret dS_dueWrite_52 rfl ?_
    subst hj6
    exact k
  · skip
    refine o_aload_n dS_dueWrite_14 rfl ?_
    refine o_aload_n dS_dueWrite_15 rfl ?_
    refine o_iload dS_dueWrite_16 rfl ?_
    refine m_iald j dS_dueWrite_18 rfl rfl rfl hi rfl hb11 ?_
    refine o_top (dec (h j)) (hh j hb11).1 ?_
    refine m_callV M_S_isWrite [.inl (dec (h j))] [] dS_dueWrite_19 mk_S_isWrite in_S_isWrite se_S_isWrite rfl (by decide) rfl rfl ml_S_123 rfl rfl rfl (Nat.le_of_ble_eq_true rfl) rfl ?_
    refine c_isWriteD hW.mm hW.m4 (hh j hb11).2 (fun w hw e => ?_) (fun e => ?_)
    · skip
      have hm4 := hW.m4
      show Om G M_S_dueWrite 22 [(0, .inr (some (ad 0 0))), (1, .inr (some (ad 16 i))), (2, .inl (nI q)), (3, .inl (dec (dueN h dp vr q j))), (4, .inl (nI j))] [.inl (nI 1)] mu Q
      refine n_if_eq 45 dS_dueWrite_22 rfl (by omega) (fun h => absurd h (by decide)) (fun _ => ?_)
      refine o_aload_n dS_dueWrite_25 rfl ?_
      refine o_iload_n dS_dueWrite_26 rfl ?_
      refine o_aload_n dS_dueWrite_27 rfl ?_
      refine m_getr dS_dueWrite_28 fl_S_11 rfl rfl (by decide) ?_
      refine o_aload_n dS_dueWrite_31 rfl ?_
      refine o_iload dS_dueWrite_32 rfl ?_
      refine m_iald j dS_dueWrite_34 rfl rfl rfl hi rfl hb11 ?_
      refine o_top (nI w) ((hh j hb11).1.trans (by rw [e]; rfl)) ?_
      refine m_aald w dS_dueWrite_35 rfl rfl rfl (by decide) rfl (sh_q1 (by omega)) ?_
      refine m_getr dS_dueWrite_36 fl_S_178 rfl rfl (show w < 40 by omega) ?_
      refine o_iload_n dS_dueWrite_39 rfl ?_
      refine m_iald q dS_dueWrite_40 rfl rfl rfl (show w < 40 by omega) rfl hq ?_
      refine o_top (dec (dp w q)) (hW.dep hw hq) ?_
      refine m_callV M_S_greater [.inl (dec (dueN h dp vr q j)), .inl (dec (dp w q))] [] dS_dueWrite_41 mk_S_greater in_S_greater se_S_greater rfl (by decide) rfl rfl ml_S_179 rfl rfl rfl (Nat.le_of_ble_eq_true rfl) rfl ?_
      refine c_greater (a := dueN h dp vr q j) (c := dp w q) hW.mm hW.m4 hW.ver hW.verB (dueN_le hq (fun z hz => (hh z hz).2) (fun u hu => hW.depB hu hq) j hj) (hW.depB hw hq) ?_
      show Om G M_S_dueWrite 44 [(0, .inr (some (ad 0 0))), (1, .inr (some (ad 16 i))), (2, .inl (nI q)), (3, .inl (dec (dueN h dp vr q j))), (4, .inl (nI j))] [.inl (dec (gr vr (dueN h dp vr q j) (dp w q)))] mu Q
      refine o_istore_n [(0, _), (1, _), (2, _), (3, _), (4, _)] dS_dueWrite_44 rfl rfl ?_
      refine o_iinc (nI (j + 1)) [(0, _), (1, _), (2, _), (3, _), (4, _)] dS_dueWrite_45 rfl (nInc _) rfl rfl ?_
      refine o_goto 7 dS_dueWrite_48 rfl ?_
      rw [show gr vr (dueN h dp vr q j) (dp w q) = dueN h dp vr q (j + 1) by rw [dueN, if_neg (by omega), e]; rfl]
      exact l_dueWrite hW hi hq hh (j + 1) (by omega) k
    · skip
      show Om G M_S_dueWrite 22 [(0, .inr (some (ad 0 0))), (1, .inr (some (ad 16 i))), (2, .inl (nI q)), (3, .inl (dec (dueN h dp vr q j))), (4, .inl (nI j))] [.inl (nI 0)] mu Q
      refine n_if_eq 45 dS_dueWrite_22 rfl (by omega) (fun _ => ?_) (fun h => absurd h (by decide))
      refine o_iinc (nI (j + 1)) [(0, _), (1, _), (2, _), (3, _), (4, _)] dS_dueWrite_45 rfl (nInc _) rfl rfl ?_
      refine o_goto 7 dS_dueWrite_48 rfl ?_
      rw [show dueN h dp vr q j = dueN h dp vr q (j + 1) by rw [dueN, if_pos e]]
      exact l_dueWrite hW hi hq hh (j + 1) (by omega) k
termination_by 6 - j
theorem c_dueWrite {G : oG} {mu : oMu} {Q : oPm} {m : Nat} {ky vr nd : Nat → Nat} {dp : Nat → Nat → Nat} (hW : wOk mu m ky vr nd dp) {i q : Nat} {h : Nat → Nat} (hi : i < 6) (hq : q < 6) (hh : xOk mu 16 i m h) (k : Q (some (.inl (dec (dueN h dp vr q 6)))) mu) : Om G M_S_dueWrite 0 [(0, .inr (some (ad 0 0))), (1, .inr (some (ad 16 i))), (2, .inl (nI q))] [] mu Q := by
  refine o_aload_n dS_dueWrite_0 rfl ?_
  refine o_iload_n dS_dueWrite_1 rfl ?_
  refine m_iald q dS_dueWrite_2 rfl rfl rfl hi rfl hq ?_
  refine o_top (dec (h q)) (hh q hq).1 ?_
  refine o_istore_n [(0, _), (1, _), (2, _), (3, _)] dS_dueWrite_3 rfl rfl ?_
  refine o_iconst (nI 0) dS_dueWrite_4 rfl ?_
  refine o_istore [(0, _), (1, _), (2, _), (3, _), (4, _)] dS_dueWrite_5 rfl rfl ?_
  exact l_dueWrite hW hi hq hh 0 (by omega) k
set_option maxRecDepth 100000 in
theorem b_clr : ∀ l, l < 64 → ∀ j, j < 6 → nI l &&& ((nI 1 <<< (nI j &&& 31)) ^^^ (-1)) = nI (l &&& (63 - 2 ^ j)) ∧ l &&& (63 - 2 ^ j) < 64 := by decide +kernel
theorem b_bits : ∀ l, l < 64 → (∀ k, k < 6 → l.testBit k = false) → l = 0 := by decide +kernel
theorem l_readLowestKey {G : oG} {mu : oMu} {Q : oPm} {m : Nat} {ky vr nd : Nat → Nat} {dp : Nat → Nat → Nat} (hW : wOk mu m ky vr nd dp) {i c l r : Nat} {nw du : Nat → Nat} (hi : i < 6) (hc : c < 3) (hcen : mu 14 i 0 = nI c) (hl : mu 14 i 5 = nI l) (hl6 : l < 64) (hl0 : ¬ l = 0) (hr : mu 14 i 6 = nI r) (hr3 : r < 3) (hnw : xOk mu 9 c m nw) (hdu : xOk mu 17 i m du) (j : Nat) (hj : j ≤ 6) (hlo : ∀ b, b < j → l.testBit b = false) (k : ∀ j, j < 6 → l.testBit j = true → (∀ b, b < j → l.testBit b = false) → ∀ mu' : oMu, mu' 16 i = upd (mu 16 i) j (dec (if r = 1 then nw j else du j)) → mu' 14 i = upd (mu 14 i) 5 (nI (l &&& (63 - 2 ^ j))) → mfr [(14, i), (16, i)] mu mu' → Q none mu') : Om G M_S_readLowestKey 2 [(0, .inr (some (ad 0 0))), (1, .inr (some (ad 14 i))), (2, .inl (nI j))] [] mu Q := by
  refine o_iload_n dS_readLowestKey_2 rfl ?_
  refine o_bipush (nI 6) dS_readLowestKey_3 rfl ?_
  refine n_icmp_ge 77 dS_readLowestKey_5 rfl (by omega) (by omega) (fun hb5 => ?_) (fun hb5 => ?_)
  · skip
    obtain rfl : j = 6 := by omega
    exact absurd (b_bits l hl6 hlo) hl0
  · skip
    refine o_aload_n dS_readLowestKey_8 rfl ?_
    refine m_geti dS_readLowestKey_9 fl_S_98 rfl rfl hi ?_
    refine o_top (nI l) hl ?_
    refine o_iload_n dS_readLowestKey_12 rfl ?_
    refine m_callS M_S_hasKey [.inl (nI l), .inl (nI j)] [] dS_readLowestKey_13 mk_S_hasKey st_S_hasKey ml_S_186 rfl rfl rfl (Nat.le_of_ble_eq_true rfl) rfl ?_
    refine c_hasKey hl6 hb5 (fun hbt => ?_) (fun hbf => ?_)
    · skip
      show Om G M_S_readLowestKey 16 [(0, .inr (some (ad 0 0))), (1, .inr (some (ad 14 i))), (2, .inl (nI j))] [.inl (nI 1)] mu Q
      refine n_if_eq 71 dS_readLowestKey_16 rfl (by omega) (fun h => absurd h (by decide)) (fun _ => ?_)
      refine o_aload_n dS_readLowestKey_19 rfl ?_
      refine m_geti dS_readLowestKey_20 fl_S_101 rfl rfl hi ?_
      refine o_top (nI r) hr ?_
      refine o_iconst (nI 1) dS_readLowestKey_23 rfl ?_
      refine n_icmp_ne 42 dS_readLowestKey_24 rfl (by omega) (by omega) (fun hb24 => ?_) (fun hb24 => ?_)
      · skip
        refine o_aload_n dS_readLowestKey_42 rfl ?_
        refine m_getr dS_readLowestKey_43 fl_S_193 rfl rfl hi ?_
        refine o_astore_n [(0, _), (1, _), (2, _), (3, _)] dS_readLowestKey_46 rfl rfl ?_
        refine o_aload_n dS_readLowestKey_47 rfl ?_
        refine m_getr dS_readLowestKey_48 fl_S_116 rfl rfl hi ?_
        refine o_iload_n dS_readLowestKey_51 rfl ?_
        refine o_aload_n dS_readLowestKey_52 rfl ?_
        refine o_iload_n dS_readLowestKey_53 rfl ?_
        refine m_iald j dS_readLowestKey_54 rfl rfl rfl hi rfl hb5 ?_
        refine m_iast j dS_readLowestKey_55 rfl rfl rfl hi rfl hb5 (fun mu1 hmu1 => ?_)
        refine o_aload_n dS_readLowestKey_56 rfl ?_
        refine o_dup dS_readLowestKey_57 ?_
        refine m_geti dS_readLowestKey_58 fl_S_98 rfl rfl hi ?_
        refine o_top (nI l) (by rw [hmu1, up2_t (by decide)]; exact hl) ?_
        refine o_iconst (nI 1) dS_readLowestKey_61 rfl ?_
        refine o_iload_n dS_readLowestKey_62 rfl ?_
        refine o_ishl dS_readLowestKey_63 ?_
        refine o_iconst (-1) dS_readLowestKey_64 rfl ?_
        refine o_ixor dS_readLowestKey_65 ?_
        refine o_iand dS_readLowestKey_66 ?_
        refine o_top (nI (l &&& (63 - 2 ^ j))) (b_clr l hl6 j hb5).1 ?_
        refine m_puti dS_readLowestKey_67 fs_S_98 rfl rfl hi (fun mu2 hmu2 => ?_)
        refine m_vret dS_readLowestKey_70 rfl ?_
        refine k j hb5 hbt hlo mu2 ?_ (by rw [hmu2, up2_s, hmu1, up2_t (by decide)]) ((mfr_up hmu1 (by simp)).tr (mfr_up hmu2 (by simp)))
        rw [hmu2, up2_t (by decide), hmu1, up2_s]
        first | rw [if_pos hb24, (hnw j hb5).1] | rw [if_neg hb24, (hdu j hb5).1]
      · skip
        refine o_aload_n dS_readLowestKey_27 rfl ?_
        refine m_getr dS_readLowestKey_28 fl_S_17 rfl rfl (by decide) ?_
        refine o_aload_n dS_readLowestKey_31 rfl ?_
        refine m_geti dS_readLowestKey_32 fl_S_58 rfl rfl hi ?_
        refine o_top (nI c) hcen ?_
        refine m_aald c dS_readLowestKey_35 rfl rfl rfl (by decide) rfl (sh_q2 hc) ?_
        refine m_getr dS_readLowestKey_36 fl_S_88 rfl rfl hc ?_
        refine o_goto 46 dS_readLowestKey_39 rfl ?_
        refine o_astore_n [(0, _), (1, _), (2, _), (3, _)] dS_readLowestKey_46 rfl rfl ?_
        refine o_aload_n dS_readLowestKey_47 rfl ?_
        refine m_getr dS_readLowestKey_48 fl_S_116 rfl rfl hi ?_
        refine o_iload_n dS_readLowestKey_51 rfl ?_
        refine o_aload_n dS_readLowestKey_52 rfl ?_
        refine o_iload_n dS_readLowestKey_53 rfl ?_
        refine m_iald j dS_readLowestKey_54 rfl rfl rfl hc rfl hb5 ?_
        refine m_iast j dS_readLowestKey_55 rfl rfl rfl hi rfl hb5 (fun mu1 hmu1 => ?_)
        refine o_aload_n dS_readLowestKey_56 rfl ?_
        refine o_dup dS_readLowestKey_57 ?_
        refine m_geti dS_readLowestKey_58 fl_S_98 rfl rfl hi ?_
        refine o_top (nI l) (by rw [hmu1, up2_t (by decide)]; exact hl) ?_
        refine o_iconst (nI 1) dS_readLowestKey_61 rfl ?_
        refine o_iload_n dS_readLowestKey_62 rfl ?_
        refine o_ishl dS_readLowestKey_63 ?_
        refine o_iconst (-1) dS_readLowestKey_64 rfl ?_
        refine o_ixor dS_readLowestKey_65 ?_
        refine o_iand dS_readLowestKey_66 ?_
        refine o_top (nI (l &&& (63 - 2 ^ j))) (b_clr l hl6 j hb5).1 ?_
        refine m_puti dS_readLowestKey_67 fs_S_98 rfl rfl hi (fun mu2 hmu2 => ?_)
        refine m_vret dS_readLowestKey_70 rfl ?_
        refine k j hb5 hbt hlo mu2 ?_ (by rw [hmu2, up2_s, hmu1, up2_t (by decide)]) ((mfr_up hmu1 (by simp)).tr (mfr_up hmu2 (by simp)))
        rw [hmu2, up2_t (by decide), hmu1, up2_s]
        first | rw [if_pos hb24, (hnw j hb5).1] | rw [if_neg hb24, (hdu j hb5).1]
    · skip
      show Om G M_S_readLowestKey 16 [(0, .inr (some (ad 0 0))), (1, .inr (some (ad 14 i))), (2, .inl (nI j))] [.inl (nI 0)] mu Q
      refine n_if_eq 71 dS_readLowestKey_16 rfl (by omega) (fun _ => ?_) (fun h => absurd h (by decide))
      refine o_iinc (nI (j + 1)) [(0, _), (1, _), (2, _)] dS_readLowestKey_71 rfl (nInc _) rfl rfl ?_
      refine o_goto 2 dS_readLowestKey_74 rfl ?_
      exact l_readLowestKey hW hi hc hcen hl hl6 hl0 hr hr3 hnw hdu (j + 1) (by omega) (fun b hb => by
        by_cases hbj : b = j
        · rw [hbj]; exact hbf
        · exact hlo b (by omega)) k
termination_by 6 - j
theorem c_readLowestKey {G : oG} {mu : oMu} {Q : oPm} {m : Nat} {ky vr nd : Nat → Nat} {dp : Nat → Nat → Nat} (hW : wOk mu m ky vr nd dp) {i c l r : Nat} {nw du : Nat → Nat} (hi : i < 6) (hc : c < 3) (hcen : mu 14 i 0 = nI c) (hl : mu 14 i 5 = nI l) (hl6 : l < 64) (hl0 : ¬ l = 0) (hr : mu 14 i 6 = nI r) (hr3 : r < 3) (hnw : xOk mu 9 c m nw) (hdu : xOk mu 17 i m du) (k : ∀ j, j < 6 → l.testBit j = true → (∀ b, b < j → l.testBit b = false) → ∀ mu' : oMu, mu' 16 i = upd (mu 16 i) j (dec (if r = 1 then nw j else du j)) → mu' 14 i = upd (mu 14 i) 5 (nI (l &&& (63 - 2 ^ j))) → mfr [(14, i), (16, i)] mu mu' → Q none mu') : Om G M_S_readLowestKey 0 [(0, .inr (some (ad 0 0))), (1, .inr (some (ad 14 i)))] [] mu Q := by
  refine o_iconst (nI 0) dS_readLowestKey_0 rfl ?_
  refine o_istore_n [(0, _), (1, _), (2, _)] dS_readLowestKey_1 rfl rfl ?_
  exact l_readLowestKey hW hi hc hcen hl hl6 hl0 hr hr3 hnw hdu 0 (by omega) (fun b hb => absurd hb (by omega)) k
def secN (h : Nat → Nat) (dp : Nat → Nat → Nat) (vr : Nat → Nat) (s : Nat) : Nat → Nat
  | 0 => 0
  | j + 1 => if s.testBit j = true ∧ ¬ dueN h dp vr j 6 = h j then secN h dp vr s j ||| 1 <<< j else secN h dp vr s j
theorem secN_lt {h vr : Nat → Nat} {dp : Nat → Nat → Nat} {s : Nat} : ∀ j, j ≤ 6 → secN h dp vr s j < 64
  | 0, _ => (by decide : 0 < 64)
  | j + 1, hj => by
    have ih := secN_lt (h := h) (vr := vr) (dp := dp) (s := s) j (by omega)
    rw [secN]
    split
    · exact (b_or _ ih j (by omega)).2
    · exact ih
theorem upd_upd {f : Nat → Int32} {k : Nat} {a b : Int32} : upd (upd f k a) k b = upd f k b := by
  funext q
  by_cases hq : q = k <;> simp [upd, hq]
theorem upd_self {f : Nat → Int32} {k : Nat} {a : Int32} (h : f k = a) : upd f k a = f := by
  funext q
  by_cases hq : q = k
  · subst hq; simp [upd, h]
  · simp [upd, hq]
def dY (du h : Nat → Nat) (dp : Nat → Nat → Nat) (vr : Nat → Nat) (j : Nat) : Nat → Nat := fun q => if q < j then dueN h dp vr q 6 else du q
theorem dY_0 {du h vr : Nat → Nat} {dp : Nat → Nat → Nat} : dY du h dp vr 0 = du := by
  funext q
  simp [dY]
theorem l_prepareSecondRound {G : oG} {mu : oMu} {Q : oPm} {m : Nat} {ky vr nd : Nat → Nat} {dp : Nat → Nat → Nat} (hW : wOk mu m ky vr nd dp) {i s : Nat} {h du : Nat → Nat} (hi : i < 6) (hh : xOk mu 16 i m h) (hs6 : s < 64) {g : Nat → Int32} (j : Nat) (hj : j ≤ 6) (hgs : g 4 = nI s) (hg : mu 14 i = upd g 5 (nI (secN h dp vr s j))) (hd : xOk mu 17 i m (dY du h dp vr j)) (k0 : secN h dp vr s 6 = 0 → ∀ mu' : oMu, xOk mu' 17 i m (fun q => dueN h dp vr q 6) → mu' 14 i = upd g 5 (nI 0) → mfr [(14, i), (17, i)] mu mu' → Q none mu') (k1 : ¬ secN h dp vr s 6 = 0 → ∀ mu' : oMu, xOk mu' 17 i m (fun q => dueN h dp vr q 6) → mu' 14 i = upd (upd g 5 (nI (secN h dp vr s 6))) 6 (nI 2) → mfr [(14, i), (17, i)] mu mu' → Q none mu') : Om G M_S_prepareSecondRound 2 [(0, .inr (some (ad 0 0))), (1, .inr (some (ad 14 i))), (2, .inl (nI j))] [] mu Q := by
  refine o_iload_n dS_prepareSecondRound_2 rfl ?_
  refine o_bipush (nI 6) dS_prepareSecondRound_3 rfl ?_
  refine n_icmp_ge 67 dS_prepareSecondRound_5 rfl (by omega) (by omega) (fun hb5 => ?_) (fun hb5 => ?_)
  · skip
    refine o_aload_n dS_prepareSecondRound_67 rfl ?_
    obtain rfl : j = 6 := by omega
    have hsl := secN_lt (h := h) (vr := vr) (dp := dp) (s := s) 6 (Nat.le_refl _)
    have hd6 : xOk mu 17 i m (fun q => dueN h dp vr q 6) := fun q hq => by
      have h1 := hd q hq
      simp only [dY, hq, if_true] at h1
      exact h1
    refine m_geti dS_prepareSecondRound_68 fl_S_98 rfl rfl hi ?_
    refine o_top (nI (secN h dp vr s 6)) (by rw [hg]; simp [upd]) ?_
    refine n_if_eq 79 dS_prepareSecondRound_71 rfl (by omega) (fun hb71 => ?_) (fun hb71 => ?_)
    · skip
      refine m_vret dS_prepareSecondRound_79 rfl ?_
      exact k0 hb71 mu hd6 (by rw [hg, hb71]) mfr_rf
    · skip
      refine o_aload_n dS_prepareSecondRound_74 rfl ?_
      refine o_iconst (nI 2) dS_prepareSecondRound_75 rfl ?_
      refine m_puti dS_prepareSecondRound_76 fs_S_101 rfl rfl hi (fun mu1 hmu1 => ?_)
      refine m_vret dS_prepareSecondRound_79 rfl ?_
      exact k1 hb71 mu1 (hd6.fr (mfr_up (L := [(14, i)]) hmu1 (by simp)) (by simp)) (by rw [hmu1, up2_s, hg]) (mfr_up hmu1 (by simp))
  · skip
    refine o_aload_n dS_prepareSecondRound_8 rfl ?_
    refine m_getr dS_prepareSecondRound_9 fl_S_193 rfl rfl hi ?_
    refine o_iload_n dS_prepareSecondRound_12 rfl ?_
    refine o_aload_n dS_prepareSecondRound_13 rfl ?_
    refine o_aload_n dS_prepareSecondRound_14 rfl ?_
    refine m_getr dS_prepareSecondRound_15 fl_S_116 rfl rfl hi ?_
    refine o_iload_n dS_prepareSecondRound_18 rfl ?_
    refine m_callV M_S_dueWrite [.inr (some (ad 16 i)), .inl (nI j)] [.inl (nI j), .inr (some (ad 17 i))] dS_prepareSecondRound_19 mk_S_dueWrite in_S_dueWrite se_S_dueWrite rfl (by decide) rfl rfl ml_S_196 rfl rfl rfl (Nat.le_of_ble_eq_true rfl) rfl ?_
    refine c_dueWrite hW hi hb5 hh ?_
    show Om G M_S_prepareSecondRound 22 [(0, .inr (some (ad 0 0))), (1, .inr (some (ad 14 i))), (2, .inl (nI j))] [.inl (dec (dueN h dp vr j 6)), .inl (nI j), .inr (some (ad 17 i))] mu Q
    refine m_iast j dS_prepareSecondRound_22 rfl rfl rfl hi rfl hb5 (fun mu1 hmu1 => ?_)
    have hf1 := mfr_up (L := [(14, i), (17, i)]) hmu1 (by simp)
    have hdl : dueN h dp vr j 6 ≤ m := dueN_le hb5 (fun z hz => (hh z hz).2) (fun u hu => hW.depB hu hb5) 6 (Nat.le_refl _)
    have hd1 : xOk mu1 17 i m (dY du h dp vr (j + 1)) := hd.step hmu1 hdl (fun q hq => by
      by_cases hqj : q = j
      · subst hqj
        simp [dY]
      · by_cases hql : q < j
        · simp [dY, hqj, hql, Nat.lt_succ_of_lt hql]
        · have h3 : ¬ q < j + 1 := by omega
          simp [dY, hqj, hql, h3])
    refine o_aload_n dS_prepareSecondRound_23 rfl ?_
    refine m_geti dS_prepareSecondRound_24 fl_S_200 rfl rfl hi ?_
    refine o_top (nI s) (by rw [hmu1, up2_t (by decide), hg]; exact hgs) ?_
    refine o_iload_n dS_prepareSecondRound_27 rfl ?_
    refine m_callS M_S_hasKey [.inl (nI s), .inl (nI j)] [] dS_prepareSecondRound_28 mk_S_hasKey st_S_hasKey ml_S_186 rfl rfl rfl (Nat.le_of_ble_eq_true rfl) rfl ?_
    refine c_hasKey hs6 hb5 (fun hbt => ?_) (fun hbf => ?_)
    · skip
      show Om G M_S_prepareSecondRound 31 [(0, .inr (some (ad 0 0))), (1, .inr (some (ad 14 i))), (2, .inl (nI j))] [.inl (nI 1)] mu1 Q
      refine n_if_eq 61 dS_prepareSecondRound_31 rfl (by omega) (fun h => absurd h (by decide)) (fun _ => ?_)
      refine o_aload_n dS_prepareSecondRound_34 rfl ?_
      refine m_getr dS_prepareSecondRound_35 fl_S_193 rfl rfl hi ?_
      refine o_iload_n dS_prepareSecondRound_38 rfl ?_
      refine m_iald j dS_prepareSecondRound_39 rfl rfl rfl hi rfl hb5 ?_
      refine o_top (dec (dueN h dp vr j 6)) ((hd1 j hb5).1.trans (by simp [dY])) ?_
      refine o_aload_n dS_prepareSecondRound_40 rfl ?_
      refine m_getr dS_prepareSecondRound_41 fl_S_116 rfl rfl hi ?_
      refine o_iload_n dS_prepareSecondRound_44 rfl ?_
      refine m_iald j dS_prepareSecondRound_45 rfl rfl rfl hi rfl hb5 ?_
      refine o_top (dec (h j)) (by rw [hmu1, up2_t (by decide)]; exact (hh j hb5).1) ?_
      refine o_icmp_eq 61 dS_prepareSecondRound_46 rfl (fun hb46 => ?_) (fun hb46 => ?_)
      · skip
        have hb46 := (dec_inj hdl (hh j hb5).2 hW.m4).mp hb46
        refine o_iinc (nI (j + 1)) [(0, _), (1, _), (2, _)] dS_prepareSecondRound_61 rfl (nInc _) rfl rfl ?_
        refine o_goto 2 dS_prepareSecondRound_64 rfl ?_
        exact l_prepareSecondRound (du := du) (g := g) (hW.fr hf1 rfl) hi (hh.fr hf1 (by simp)) hs6 (j + 1) (by omega) hgs (by rw [hmu1, up2_t (by decide), hg, secN, if_neg (by first | (intro z; rw [hbf] at z; exact absurd z.1 (by decide)) | exact fun z => z.2 hb46)]) hd1 (fun e9 mu' a b c => k0 e9 mu' a b (hf1.tr c)) (fun e9 mu' a b c => k1 e9 mu' a b (hf1.tr c))
      · skip
        have hb46 : ¬ dueN h dp vr j 6 = h j := fun z => hb46 ((dec_inj hdl (hh j hb5).2 hW.m4).mpr z)
        refine o_aload_n dS_prepareSecondRound_49 rfl ?_
        refine o_dup dS_prepareSecondRound_50 ?_
        refine m_geti dS_prepareSecondRound_51 fl_S_98 rfl rfl hi ?_
        refine o_top (nI (secN h dp vr s j)) (by rw [hmu1, up2_t (by decide), hg]; simp [upd]) ?_
        refine o_iconst (nI 1) dS_prepareSecondRound_54 rfl ?_
        refine o_iload_n dS_prepareSecondRound_55 rfl ?_
        refine o_ishl dS_prepareSecondRound_56 ?_
        refine o_ior dS_prepareSecondRound_57 ?_
        refine o_top (nI (secN h dp vr s j ||| 1 <<< j)) (b_or _ (secN_lt j hj) j hb5).1 ?_
        refine m_puti dS_prepareSecondRound_58 fs_S_98 rfl rfl hi (fun mu2 hmu2 => ?_)
        refine o_iinc (nI (j + 1)) [(0, _), (1, _), (2, _)] dS_prepareSecondRound_61 rfl (nInc _) rfl rfl ?_
        refine o_goto 2 dS_prepareSecondRound_64 rfl ?_
        have hf2 := hf1.tr (mfr_up (L := [(14, i), (17, i)]) hmu2 (by simp))
        exact l_prepareSecondRound (du := du) (g := g) (hW.fr hf2 rfl) hi (hh.fr hf2 (by simp)) hs6 (j + 1) (by omega) hgs (by rw [hmu2, up2_s, hmu1, up2_t (by decide), hg, upd_upd, secN, if_pos ⟨hbt, hb46⟩]) (hd1.fr (mfr_up (L := [(14, i)]) hmu2 (by simp)) (by simp)) (fun e9 mu' a b c => k0 e9 mu' a b (hf2.tr c)) (fun e9 mu' a b c => k1 e9 mu' a b (hf2.tr c))
    · skip
      show Om G M_S_prepareSecondRound 31 [(0, .inr (some (ad 0 0))), (1, .inr (some (ad 14 i))), (2, .inl (nI j))] [.inl (nI 0)] mu1 Q
      refine n_if_eq 61 dS_prepareSecondRound_31 rfl (by omega) (fun _ => ?_) (fun h => absurd h (by decide))
      refine o_iinc (nI (j + 1)) [(0, _), (1, _), (2, _)] dS_prepareSecondRound_61 rfl (nInc _) rfl rfl ?_
      refine o_goto 2 dS_prepareSecondRound_64 rfl ?_
      exact l_prepareSecondRound (du := du) (g := g) (hW.fr hf1 rfl) hi (hh.fr hf1 (by simp)) hs6 (j + 1) (by omega) hgs (by rw [hmu1, up2_t (by decide), hg, secN, if_neg (by first | (intro z; rw [hbf] at z; exact absurd z.1 (by decide)) | exact fun z => z.2 hb46)]) hd1 (fun e9 mu' a b c => k0 e9 mu' a b (hf1.tr c)) (fun e9 mu' a b c => k1 e9 mu' a b (hf1.tr c))
termination_by 6 - j
theorem c_prepareSecondRound {G : oG} {mu : oMu} {Q : oPm} {m : Nat} {ky vr nd : Nat → Nat} {dp : Nat → Nat → Nat} (hW : wOk mu m ky vr nd dp) {i s : Nat} {g : Nat → Int32} {h du : Nat → Nat} (hi : i < 6) (hh : xOk mu 16 i m h) (hs6 : s < 64) (hset : mu 14 i 4 = nI s) (hl : mu 14 i 5 = nI 0) (hg : mu 14 i = g) (hd : xOk mu 17 i m du) (k0 : secN h dp vr s 6 = 0 → ∀ mu' : oMu, xOk mu' 17 i m (fun q => dueN h dp vr q 6) → mu' 14 i = upd g 5 (nI 0) → mfr [(14, i), (17, i)] mu mu' → Q none mu') (k1 : ¬ secN h dp vr s 6 = 0 → ∀ mu' : oMu, xOk mu' 17 i m (fun q => dueN h dp vr q 6) → mu' 14 i = upd (upd g 5 (nI (secN h dp vr s 6))) 6 (nI 2) → mfr [(14, i), (17, i)] mu mu' → Q none mu') : Om G M_S_prepareSecondRound 0 [(0, .inr (some (ad 0 0))), (1, .inr (some (ad 14 i)))] [] mu Q := by
  refine o_iconst (nI 0) dS_prepareSecondRound_0 rfl ?_
  refine o_istore_n [(0, _), (1, _), (2, _)] dS_prepareSecondRound_1 rfl rfl ?_
  exact l_prepareSecondRound (du := du) hW hi hh hs6 0 (by omega) (by rw [← hg]; exact hset) (by rw [hg]; exact (upd_self (by rw [← hg]; exact hl)).symm) (by rw [dY_0]; exact hd) k0 k1
def sF (x h : Nat → Nat) (ky vr : Nat → Nat) (dp : Nat → Nat → Nat) : Nat → Nat → Nat
  | 0 => x
  | j + 1 => if h j = 0 then sF x h ky vr dp j else sX (sF x h ky vr dp j) (dp (h j - 1)) vr (ky (h j - 1)) (h j - 1)
theorem l_seeFetched {G : oG} {mu : oMu} {Q : oPm} {m : Nat} {ky vr nd : Nat → Nat} {dp : Nat → Nat → Nat} (hW : wOk mu m ky vr nd dp) {i : Nat} {x h : Nat → Nat} (hi : i < 6) (hh : xOk mu 16 i m h) (j : Nat) (hj : j ≤ 6) (hx : xOk mu 15 i m (sF x h ky vr dp j)) (k : ∀ mu' : oMu, xOk mu' 15 i m (sF x h ky vr dp 6) → mfr [(15, i)] mu mu' → Q none mu') : Om G M_S_seeFetched 2 [(0, .inr (some (ad 0 0))), (1, .inr (some (ad 14 i))), (2, .inl (nI j))] [] mu Q := by
  refine o_iload_n dS_seeFetched_2 rfl ?_
  refine o_bipush (nI 6) dS_seeFetched_3 rfl ?_
  refine n_icmp_ge 25 dS_seeFetched_5 rfl (by omega) (by omega) (fun hb5 => ?_) (fun hb5 => ?_)
  · skip
    have hj6 : j = 6 := by omega
    refine m_vret dS_seeFetched_25 rfl ?_
    subst hj6
    exact k mu hx mfr_rf
  · skip
    refine o_aload_n dS_seeFetched_8 rfl ?_
    refine o_aload_n dS_seeFetched_9 rfl ?_
    refine o_aload_n dS_seeFetched_10 rfl ?_
    refine m_getr dS_seeFetched_11 fl_S_116 rfl rfl hi ?_
    refine o_iload_n dS_seeFetched_14 rfl ?_
    refine m_iald j dS_seeFetched_15 rfl rfl rfl hi rfl hb5 ?_
    refine o_top (dec (h j)) (hh j hb5).1 ?_
    refine m_callV M_S_see [.inr (some (ad 14 i)), .inl (dec (h j))] [] dS_seeFetched_16 mk_S_see in_S_see se_S_see rfl (by decide) rfl rfl ml_S_84 rfl rfl rfl (Nat.le_of_ble_eq_true rfl) rfl ?_
    refine c_see hW hi (hh j hb5).2 hx (fun e => ?_) (fun w hw e mu1 hx1 hf1 => ?_)
    · skip
      show Om G M_S_seeFetched 19 [(0, .inr (some (ad 0 0))), (1, .inr (some (ad 14 i))), (2, .inl (nI j))] [] mu Q
      refine o_iinc (nI (j + 1)) [(0, _), (1, _), (2, _)] dS_seeFetched_19 rfl (nInc _) rfl rfl ?_
      refine o_goto 2 dS_seeFetched_22 rfl ?_
      exact l_seeFetched hW hi hh (j + 1) (by omega) (by rw [sF, if_pos e]; exact hx) k
    · skip
      show Om G M_S_seeFetched 19 [(0, .inr (some (ad 0 0))), (1, .inr (some (ad 14 i))), (2, .inl (nI j))] [] mu1 Q
      refine o_iinc (nI (j + 1)) [(0, _), (1, _), (2, _)] dS_seeFetched_19 rfl (nInc _) rfl rfl ?_
      refine o_goto 2 dS_seeFetched_22 rfl ?_
      exact l_seeFetched (hW.fr hf1 rfl) hi (hh.fr hf1 (by simp)) (j + 1) (by omega) (by rw [sF, if_neg (by omega), e]; exact hx1) (fun mu' a b => k mu' a (hf1.tr b))
termination_by 6 - j
theorem c_seeFetched {G : oG} {mu : oMu} {Q : oPm} {m : Nat} {ky vr nd : Nat → Nat} {dp : Nat → Nat → Nat} (hW : wOk mu m ky vr nd dp) {i : Nat} {x h : Nat → Nat} (hi : i < 6) (hh : xOk mu 16 i m h) (hx : xOk mu 15 i m x) (k : ∀ mu' : oMu, xOk mu' 15 i m (sF x h ky vr dp 6) → mfr [(15, i)] mu mu' → Q none mu') : Om G M_S_seeFetched 0 [(0, .inr (some (ad 0 0))), (1, .inr (some (ad 14 i)))] [] mu Q := by
  refine o_iconst (nI 0) dS_seeFetched_0 rfl ?_
  refine o_istore_n [(0, _), (1, _), (2, _)] dS_seeFetched_1 rfl rfl ?_
  exact l_seeFetched hW hi hh 0 (by omega) hx k
def snd (c j q : Nat) : Prop := q / 3 = c ∧ ¬ q % 3 = c ∧ q % 3 < j
def rOk (g mu : oMu) (c j w : Nat) (sz : Nat → Nat) : Prop := (∀ q, q < 9 → (snd c j q → mu 18 q = upd (g 18 q) 1 (nI (sz q + 1)) ∧ mu 19 q = upd (g 19 q) (sz q) (nI w)) ∧ (¬ snd c j q → mu 18 q = g 18 q ∧ mu 19 q = g 19 q)) ∧ ∀ t i, ¬ t = 18 → ¬ t = 19 → mu t i = g t i
theorem rOk_eq {g mu : oMu} {c j w : Nat} {sz : Nat → Nat} (hc : c < 3) (h : j = c) (hr : rOk g mu c j w sz) : rOk g mu c (j + 1) w sz := by
  refine ⟨fun q hq => ⟨fun z => (hr.1 q hq).1 ⟨z.1, z.2.1, by have := z.2; omega⟩, fun z => (hr.1 q hq).2 fun y => z ⟨y.1, y.2.1, by have := y.2; omega⟩⟩, hr.2⟩
theorem rOk_ap {g mu mu1 : oMu} {c j w : Nat} {sz : Nat → Nat} (hc : c < 3) (hj : j < 3) (h : ¬ j = c) (hr : rOk g mu c j w sz) (h19 : mu1 19 (c * 3 + j) = upd (mu 19 (c * 3 + j)) (sz (c * 3 + j)) (nI w)) (h18 : mu1 18 (c * 3 + j) = upd (mu 18 (c * 3 + j)) 1 (nI (sz (c * 3 + j) + 1))) (hf : mfr [(18, c * 3 + j), (19, c * 3 + j)] mu mu1) : rOk g mu1 c (j + 1) w sz := by
  refine ⟨fun q hq => ?_, fun t i h1 h2 => (hf t i (by simp [h1, h2])).trans (hr.2 t i h1 h2)⟩
  have hq3 : q / 3 * 3 + q % 3 = q := by omega
  by_cases hqj : q = c * 3 + j
  · subst hqj
    have h3 := (hr.1 (c * 3 + j) hq).2 (fun z => by have := z.2.2; omega)
    refine ⟨fun _ => ?_, fun z => absurd ⟨by omega, by omega, by omega⟩ z⟩
    rw [h18, h19, h3.1, h3.2]
    exact ⟨rfl, rfl⟩
  · rw [hf 18 q (by simp [hqj]), hf 19 q (by simp [hqj])]
    refine ⟨fun z => (hr.1 q hq).1 ⟨z.1, z.2.1, ?_⟩, fun z => (hr.1 q hq).2 fun y => z ⟨y.1, y.2.1, by have := y.2.2; omega⟩⟩
    have := z.1
    have := z.2.2
    omega
theorem l_send {G : oG} {mu : oMu} {Q : oPm} {g : oMu} {c w : Nat} {sz : Nat → Nat} (hc : c < 3) (hsz : ∀ q, q < 9 → g 18 q 1 = nI (sz q) ∧ sz q < 40) (j : Nat) (hj : j ≤ 3) (hr : rOk g mu c j w sz) (k : ∀ mu' : oMu, rOk g mu' c 3 w sz → Q none mu') : Om G M_S_send 2 [(0, .inr (some (ad 0 0))), (1, .inl (nI c)), (2, .inl (nI w)), (3, .inl (nI j))] [] mu Q := by
  refine o_iload_n dS_send_2 rfl ?_
  refine o_iconst (nI 3) dS_send_3 rfl ?_
  refine n_icmp_ge 32 dS_send_4 rfl (by omega) (by omega) (fun hb4 => ?_) (fun hb4 => ?_)
  · skip
    have hj6 : j = 3 := by omega
    refine m_vret dS_send_32 rfl ?_
    subst hj6
    exact k mu hr
  · skip
    refine o_iload_n dS_send_7 rfl ?_
    refine o_iload_n dS_send_8 rfl ?_
    refine n_icmp_eq 26 dS_send_9 rfl (by omega) (by omega) (fun hb9 => ?_) (fun hb9 => ?_)
    · skip
      refine o_iinc (nI (j + 1)) [(0, _), (1, _), (2, _), (3, _)] dS_send_26 rfl (nInc _) rfl rfl ?_
      refine o_goto 2 dS_send_29 rfl ?_
      exact l_send hc hsz (j + 1) (by omega) (rOk_eq hc hb9 hr) k
    · skip
      refine o_aload_n dS_send_12 rfl ?_
      refine m_getr dS_send_13 fl_S_29 rfl rfl (by decide) ?_
      refine o_iload_n dS_send_16 rfl ?_
      refine o_iconst (nI 3) dS_send_17 rfl ?_
      refine o_imul dS_send_18 ?_
      refine o_top _ (pk_mul _ _) ?_
      refine o_iload_n dS_send_19 rfl ?_
      refine o_iadd dS_send_20 ?_
      refine o_top _ (nI_add _ _) ?_
      refine m_aald (c * 3 + j) dS_send_21 rfl rfl rfl (by decide) rfl (sh_q4 (by omega)) ?_
      refine o_iload_n dS_send_22 rfl ?_
      refine m_callV M_R_append [.inl (nI w)] [] dS_send_23 mk_R_append in_R_append se_R_append rfl (show c * 3 + j < 9 by omega) rfl rfl ml_S_147 rfl rfl rfl (Nat.le_of_ble_eq_true rfl) rfl ?_
      refine c_append_18 (i := c * 3 + j) (n := sz (c * 3 + j)) (by omega) (by rw [((hr.1 (c * 3 + j) (by omega)).2 (fun z => by have := z.2.2; omega)).1]; exact (hsz _ (by omega)).1) (Nat.le_of_lt (hsz _ (by omega)).2) (hsz _ (by omega)).2 (fun mu1 h19 h18 hf1 => ?_)
      show Om G M_S_send 26 [(0, .inr (some (ad 0 0))), (1, .inl (nI c)), (2, .inl (nI w)), (3, .inl (nI j))] [] mu1 Q
      refine o_iinc (nI (j + 1)) [(0, _), (1, _), (2, _), (3, _)] dS_send_26 rfl (nInc _) rfl rfl ?_
      refine o_goto 2 dS_send_29 rfl ?_
      exact l_send hc hsz (j + 1) (by omega) (rOk_ap hc hb4 hb9 hr h19 h18 hf1) k
termination_by 3 - j
theorem c_send {G : oG} {mu : oMu} {Q : oPm} {c w : Nat} {sz : Nat → Nat} (hc : c < 3) (hsz : ∀ q, q < 9 → mu 18 q 1 = nI (sz q) ∧ sz q < 40) (k : ∀ mu' : oMu, rOk mu mu' c 3 w sz → Q none mu') : Om G M_S_send 0 [(0, .inr (some (ad 0 0))), (1, .inl (nI c)), (2, .inl (nI w))] [] mu Q := by
  refine o_iconst (nI 0) dS_send_0 rfl ?_
  refine o_istore_n [(0, _), (1, _), (2, _), (3, _)] dS_send_1 rfl rfl ?_
  exact l_send hc hsz 0 (by omega) ⟨fun q hq => ⟨fun z => by have := z.2.2; omega, fun _ => ⟨rfl, rfl⟩⟩, fun _ _ _ _ => rfl⟩ k
end
section
/-! The reference's inner methods. -/
def vOk (mu : oMu) (m : Nat) (ky vr nd : Nat → Nat) (dp : Nat → Nat → Nat) : Prop := mu 20 0 0 = nI m ∧ m ≤ 40 ∧ ∀ w, w < m → (mu 21 0 w = nI (ky w) ∧ mu 23 0 w = nI (vr w) ∧ mu 25 0 w = nI (nd w)) ∧ (ky w < 6 ∧ vr w < 1000 ∧ nd w < 64) ∧ ∀ k, k < 6 → mu 24 0 (6 * w + k) = nI (dp w k) ∧ dp w k ≤ m
def yOk (mu : oMu) (t i m : Nat) (x : Nat → Nat) : Prop := ∀ k, k < 6 → mu t 0 (6 * i + k) = nI (x k) ∧ x k ≤ m
def mfs (t lo n : Nat) (mu mu' : oMu) : Prop := (∀ t' i', ¬ (t' = t ∧ i' = 0) → mu' t' i' = mu t' i') ∧ ∀ j, ¬ (lo ≤ j ∧ j < lo + n) → mu' t 0 j = mu t 0 j
theorem mfs.tr {t lo n : Nat} {a b c : oMu} (h1 : mfs t lo n a b) (h2 : mfs t lo n b c) : mfs t lo n a c := ⟨fun t' i' h => (h2.1 t' i' h).trans (h1.1 t' i' h), fun j h => (h2.2 j h).trans (h1.2 j h)⟩
theorem mfs_rf {t lo n : Nat} {a : oMu} : mfs t lo n a a := ⟨fun _ _ _ => rfl, fun _ _ => rfl⟩
theorem mfs_up {t lo n j : Nat} {x : Int32} {mu mu' : oMu} (h : mu' = up2 mu t 0 (upd (mu t 0) j x)) (h1 : lo ≤ j) (h2 : j < lo + n) : mfs t lo n mu mu' := by
  refine ⟨fun t' i' hn => by rw [h]; exact if_neg hn, fun q hq => ?_⟩
  rw [h, up2_s]
  have hqj : ¬ q = j := fun e => hq (by rw [e]; exact ⟨h1, h2⟩)
  simp [upd, hqj]
section VK
variable {mu mu' : oMu} {m w : Nat} {ky vr nd : Nat → Nat} {dp : Nat → Nat → Nat}
theorem vOk.mm (h : vOk mu m ky vr nd dp) : mu 20 0 0 = nI m := h.1
theorem vOk.m4 (h : vOk mu m ky vr nd dp) : m ≤ 40 := h.2.1
theorem vOk.key (h : vOk mu m ky vr nd dp) (hw : w < m) : mu 21 0 w = nI (ky w) := (h.2.2 w hw).1.1
theorem vOk.ver (h : vOk mu m ky vr nd dp) (w : Nat) (hw : w < m) : mu 23 0 w = nI (vr w) := (h.2.2 w hw).1.2.1
theorem vOk.need (h : vOk mu m ky vr nd dp) (hw : w < m) : mu 25 0 w = nI (nd w) := (h.2.2 w hw).1.2.2
theorem vOk.key6 (h : vOk mu m ky vr nd dp) (hw : w < m) : ky w < 6 := (h.2.2 w hw).2.1.1
theorem vOk.verK (h : vOk mu m ky vr nd dp) (w : Nat) (hw : w < m) : vr w < 1000 := (h.2.2 w hw).2.1.2.1
theorem vOk.needB (h : vOk mu m ky vr nd dp) (hw : w < m) : nd w < 64 := (h.2.2 w hw).2.1.2.2
theorem vOk.dep (h : vOk mu m ky vr nd dp) (hw : w < m) {k : Nat} (hk : k < 6) : mu 24 0 (6 * w + k) = nI (dp w k) := ((h.2.2 w hw).2.2 k hk).1
theorem vOk.depB (h : vOk mu m ky vr nd dp) (hw : w < m) {k : Nat} (hk : k < 6) : dp w k ≤ m := ((h.2.2 w hw).2.2 k hk).2
theorem vOk.mv (h : vOk mu m ky vr nd dp) (h0 : mu' 20 0 = mu 20 0) (h1 : mu' 21 0 = mu 21 0) (h2 : mu' 23 0 = mu 23 0) (h3 : mu' 24 0 = mu 24 0) (h4 : mu' 25 0 = mu 25 0) : vOk mu' m ky vr nd dp := by
  refine ⟨by rw [h0]; exact h.1, h.2.1, fun w hw => ?_⟩
  rw [h1, h2, h3, h4]
  exact h.2.2 w hw
theorem vOk.fs {t lo n : Nat} (h : vOk mu m ky vr nd dp) (hf : mfs t lo n mu mu') (ht : 25 < t) : vOk mu' m ky vr nd dp := h.mv (hf.1 20 0 (by omega)) (hf.1 21 0 (by omega)) (hf.1 23 0 (by omega)) (hf.1 24 0 (by omega)) (hf.1 25 0 (by omega))
theorem yOk.step {t i j b : Nat} {x y : Nat → Nat} (h : yOk mu t i m x) (e : mu' = up2 mu t 0 (upd (mu t 0) (6 * i + j) (nI b))) (hb : b ≤ m) (hy : ∀ q, q < 6 → y q = if q = j then b else x q) : yOk mu' t i m y := by
  intro q hq
  rw [e, up2_s, hy q hq]
  by_cases hqj : q = j
  · subst hqj
    simp [upd, hb]
  · have h2 : ¬ 6 * i + q = 6 * i + j := by omega
    simp [upd, hqj, h2]
    exact h q hq
theorem yOk.fs {t i t' lo n : Nat} {x : Nat → Nat} (h : yOk mu t i m x) (hf : mfs t' lo n mu mu') (ht : ¬ t = t') : yOk mu' t i m x := fun k hk => by rw [hf.1 t 0 (fun z => ht z.1)]; exact h k hk
end VK
theorem r_out {G : oG} {mu : oMu} {Q : oPm} {x : Int32} {n : Nat} (hn : n < 2147483648) (kt : (∀ j, j < n → ¬ x = nI j) → Q (some (.inl (nI 1))) mu) (kf : ∀ j, j < n → x = nI j → Q (some (.inl (nI 0))) mu) : Om G M_N_out 0 [(0, .inl x), (1, .inl (nI n))] [] mu Q := by
  refine o_iload_n dN_out_0 rfl ?_
  refine o_if_lt 9 dN_out_1 rfl (fun hb1 => ?_) (fun hb1 => ?_)
  · skip
    refine o_iconst (nI 1) dN_out_9 rfl ?_
    refine o_goto 14 dN_out_10 rfl ?_
    refine m_zret dN_out_14 rfl rfl ?_
    exact kt (by first | exact fun j hj e => absurd hb1 (by subst e; exact nI_pos (by omega)) | exact fun j hj e => hb6 (by subst e; exact nI_lt hj (by omega)))
  · skip
    refine o_iload_n dN_out_4 rfl ?_
    refine o_iload_n dN_out_5 rfl ?_
    refine o_icmp_lt 13 dN_out_6 rfl (fun hb6 => ?_) (fun hb6 => ?_)
    · skip
      refine o_iconst (nI 0) dN_out_13 rfl ?_
      refine m_zret dN_out_14 rfl rfl ?_
      obtain ⟨j, hj, e⟩ := nI_of hb1
      exact kf j ((nI_ltI hj hn).mp (by rw [← e]; exact hb6)) e
    · skip
      refine o_iconst (nI 1) dN_out_9 rfl ?_
      refine o_goto 14 dN_out_10 rfl ?_
      refine m_zret dN_out_14 rfl rfl ?_
      exact kt (by first | exact fun j hj e => absurd hb1 (by subst e; exact nI_pos (by omega)) | exact fun j hj e => hb6 (by subst e; exact nI_lt hj (by omega)))
set_option maxRecDepth 100000 in
theorem b_bit : ∀ l, l < 64 → ∀ k, k < 6 → (nI l >>> (nI k &&& 31)) &&& nI 1 = nI (if l.testBit k = true then 1 else 0) := by decide +kernel
def cntN (l : Nat) : Nat → Nat
  | 0 => 0
  | k + 1 => cntN l k + (if l.testBit k = true then 1 else 0)
theorem l_count {G : oG} {mu : oMu} {Q : oPm} {l : Nat} (hl : l < 64) (j : Nat) (hj : j ≤ 6) (k : Q (some (.inl (nI (cntN l 6)))) mu) : Om G M_N_count 4 [(0, .inl (nI l)), (1, .inl (nI (cntN l j))), (2, .inl (nI j))] [] mu Q := by
  refine o_iload_n dN_count_4 rfl ?_
  refine o_bipush (nI 6) dN_count_5 rfl ?_
  refine n_icmp_ge 24 dN_count_7 rfl (by omega) (by omega) (fun hb7 => ?_) (fun hb7 => ?_)
  · skip
    have hj6 : j = 6 := by omega
    refine o_iload_n dN_count_24 rfl ?_
    refine m_iret dN_count_25 rfl ?_
    subst hj6
    exact k
  · skip
    refine o_iload_n dN_count_10 rfl ?_
    refine o_iload_n dN_count_11 rfl ?_
    refine o_iload_n dN_count_12 rfl ?_
    refine o_ishr dN_count_13 ?_
    refine o_iconst (nI 1) dN_count_14 rfl ?_
    refine o_iand dN_count_15 ?_
    refine o_top (nI (if l.testBit j = true then 1 else 0)) (b_bit l hl j hb7) ?_
    refine o_iadd dN_count_16 ?_
    refine o_top _ (nI_add _ _) ?_
    refine o_istore_n [(0, _), (1, _), (2, _)] dN_count_17 rfl rfl ?_
    refine o_iinc (nI (j + 1)) [(0, _), (1, _), (2, _)] dN_count_18 rfl (nInc _) rfl rfl ?_
    refine o_goto 4 dN_count_21 rfl ?_
    exact l_count hl (j + 1) (by omega) k
termination_by 6 - j
theorem r_count {G : oG} {mu : oMu} {Q : oPm} {l : Nat} (hl : l < 64) (k : Q (some (.inl (nI (cntN l 6)))) mu) : Om G M_N_count 0 [(0, .inl (nI l))] [] mu Q := by
  refine o_iconst (nI 0) dN_count_0 rfl ?_
  refine o_istore_n [(0, _), (1, _)] dN_count_1 rfl rfl ?_
  refine o_iconst (nI 0) dN_count_2 rfl ?_
  refine o_istore_n [(0, _), (1, _), (2, _)] dN_count_3 rfl rfl ?_
  exact l_count hl 0 (by omega) k
def lowT (l : Nat) : Nat → Int32
  | 0 => -1
  | d + 1 => if l.testBit (5 - d) = true then nI (5 - d) else lowT l d
theorem lowD : ∀ d, d < 5 → nI (5 - d) + Int32.ofInt (-1) = nI (5 - (d + 1)) := by decide +kernel
set_option maxRecDepth 100000 in
theorem low_is : ∀ l, l < 64 → ¬ l = 0 → ∃ j, j < 6 ∧ l.testBit j = true ∧ (∀ b, b < j → l.testBit b = false) ∧ lowT l 6 = nI j := by decide +kernel
theorem b1_iff (l : Nat) (hl : l < 64) (k : Nat) (hk : k < 6) : (nI l >>> (nI k &&& 31)) &&& nI 1 = nI 1 ↔ l.testBit k = true := by
  rw [b_bit l hl k hk]
  cases l.testBit k <;> decide
theorem l_lowest {G : oG} {mu : oMu} {Q : oPm} {l : Nat} (hl : l < 64) (d : Nat) (hd : d < 6) (k : Q (some (.inl (lowT l 6))) mu) : Om G M_N_lowest 4 [(0, .inl (nI l)), (1, .inl (lowT l d)), (2, .inl (nI (5 - d)))] [] mu Q := by
  refine o_iload_n dN_lowest_4 rfl ?_
  refine n_if_lt 29 dN_lowest_5 rfl (by omega) (fun h => absurd h (by omega)) (fun h => ?_)
  refine o_iload_n dN_lowest_8 rfl ?_
  refine o_iload_n dN_lowest_9 rfl ?_
  refine o_ishr dN_lowest_10 ?_
  refine o_iconst (nI 1) dN_lowest_11 rfl ?_
  refine o_iand dN_lowest_12 ?_
  refine o_iconst (nI 1) dN_lowest_13 rfl ?_
  refine o_icmp_ne 21 dN_lowest_14 rfl (fun hb14 => ?_) (fun hb14 => ?_)
  · skip
    refine o_iload_n dN_lowest_21 rfl ?_
    refine o_istore_n [(0, _), (1, _), (2, _)] dN_lowest_22 rfl rfl ?_
    refine o_iinc (nI (5 - d) + Int32.ofInt (-1)) [(0, _), (1, _), (2, _)] dN_lowest_23 rfl rfl rfl rfl ?_
    refine o_goto 4 dN_lowest_26 rfl ?_
    have e9 : lowT l d = lowT l (d + 1) := by rw [lowT, if_neg (fun z => hb14 ((b1_iff l hl _ (by omega)).mpr z))]
    by_cases hd5 : d < 5
    · rw [lowD d hd5, e9]
      exact l_lowest hl (d + 1) (by omega) k
    · obtain rfl : d = 5 := by omega
      refine o_iload_n dN_lowest_4 rfl ?_
      refine o_if_lt 29 dN_lowest_5 rfl (fun _ => ?_) (fun h => absurd (by decide) h)
      refine o_iload_n dN_lowest_29 rfl ?_
      refine m_iret dN_lowest_30 rfl ?_
      rw [e9]
      exact k
  · skip
    refine o_iload_n dN_lowest_17 rfl ?_
    refine o_goto 22 dN_lowest_18 rfl ?_
    refine o_istore_n [(0, _), (1, _), (2, _)] dN_lowest_22 rfl rfl ?_
    refine o_iinc (nI (5 - d) + Int32.ofInt (-1)) [(0, _), (1, _), (2, _)] dN_lowest_23 rfl rfl rfl rfl ?_
    refine o_goto 4 dN_lowest_26 rfl ?_
    have e9 : nI (5 - d) = lowT l (d + 1) := by rw [lowT, if_pos ((b1_iff l hl _ (by omega)).mp hb14)]
    by_cases hd5 : d < 5
    · rw [lowD d hd5, e9]
      exact l_lowest hl (d + 1) (by omega) k
    · obtain rfl : d = 5 := by omega
      refine o_iload_n dN_lowest_4 rfl ?_
      refine o_if_lt 29 dN_lowest_5 rfl (fun _ => ?_) (fun h => absurd (by decide) h)
      refine o_iload_n dN_lowest_29 rfl ?_
      refine m_iret dN_lowest_30 rfl ?_
      rw [e9]
      exact k
termination_by 6 - d
theorem r_lowest {G : oG} {mu : oMu} {Q : oPm} {l : Nat} (hl : l < 64) (k : Q (some (.inl (lowT l 6))) mu) : Om G M_N_lowest 0 [(0, .inl (nI l))] [] mu Q := by
  refine o_iconst (-1) dN_lowest_0 rfl ?_
  refine o_istore_n [(0, _), (1, _)] dN_lowest_1 rfl rfl ?_
  refine o_iconst (nI 5) dN_lowest_2 rfl ?_
  refine o_istore_n [(0, _), (1, _), (2, _)] dN_lowest_3 rfl rfl ?_
  exact l_lowest hl 0 (by omega) k
theorem r_open {G : oG} {mu : oMu} {Q : oPm} {i p : Nat} (hi : i < 6) (hp : mu 33 0 i = nI p) (hp4 : p < 4) (kt : p = 1 ∨ p = 2 → Q (some (.inl (nI 1))) mu) (kf : ¬ (p = 1 ∨ p = 2) → Q (some (.inl (nI 0))) mu) : Om G M_N_open 0 [(0, .inr (some (ad 20 0))), (1, .inl (nI i))] [] mu Q := by
  refine o_aload_n dN_open_0 rfl ?_
  refine m_getr dN_open_1 fl_N_47 rfl rfl (by decide) ?_
  refine o_iload_n dN_open_4 rfl ?_
  refine m_iald i dN_open_5 rfl rfl rfl (by decide) rfl hi ?_
  refine o_top (nI p) hp ?_
  refine o_iconst (nI 1) dN_open_6 rfl ?_
  refine n_icmp_eq 20 dN_open_7 rfl (by omega) (by omega) (fun hb7 => ?_) (fun hb7 => ?_)
  · skip
    refine o_iconst (nI 1) dN_open_20 rfl ?_
    refine o_goto 25 dN_open_21 rfl ?_
    refine m_zret dN_open_25 rfl rfl ?_
    exact kt (by omega)
  · skip
    refine o_aload_n dN_open_10 rfl ?_
    refine m_getr dN_open_11 fl_N_47 rfl rfl (by decide) ?_
    refine o_iload_n dN_open_14 rfl ?_
    refine m_iald i dN_open_15 rfl rfl rfl (by decide) rfl hi ?_
    refine o_top (nI p) hp ?_
    refine o_iconst (nI 2) dN_open_16 rfl ?_
    refine n_icmp_ne 24 dN_open_17 rfl (by omega) (by omega) (fun hb17 => ?_) (fun hb17 => ?_)
    · skip
      refine o_iconst (nI 0) dN_open_24 rfl ?_
      refine m_zret dN_open_25 rfl rfl ?_
      exact kf (by omega)
    · skip
      refine o_iconst (nI 1) dN_open_20 rfl ?_
      refine o_goto 25 dN_open_21 rfl ?_
      refine m_zret dN_open_25 rfl rfl ?_
      exact kt (by omega)
theorem r_greater {G : oG} {mu : oMu} {Q : oPm} {a c m : Nat} {v : Nat → Nat} (hm4 : m ≤ 40) (hv : ∀ w, w < m → mu 23 0 w = nI (v w)) (hv2 : ∀ w, w < m → v w < 1000) (ha : a ≤ m) (hc : c ≤ m) (k : Q (some (.inl (nI (gr v a c)))) mu) : Om G M_N_greater 0 [(0, .inr (some (ad 20 0))), (1, .inl (nI a)), (2, .inl (nI c))] [] mu Q := by
  refine o_iload_n dN_greater_0 rfl ?_
  refine n_if_eq 8 dN_greater_1 rfl (by omega) (fun hb1 => ?_) (fun hb1 => ?_)
  · skip
    refine o_iload_n dN_greater_8 rfl ?_
    refine o_iload_n dN_greater_9 rfl ?_
    refine o_iadd dN_greater_10 ?_
    refine o_top _ (nI_add _ _) ?_
    refine m_iret dN_greater_11 rfl ?_
    first | (subst hb1; rw [gr_zz] at k; rw [Nat.zero_add]; exact k) | (subst hb5; obtain ⟨z, rfl⟩ : ∃ z, a = z + 1 := ⟨a - 1, by omega⟩; rw [gr_n0] at k; exact k)
  · skip
    refine o_iload_n dN_greater_4 rfl ?_
    refine n_if_ne 12 dN_greater_5 rfl (by omega) (fun hb5 => ?_) (fun hb5 => ?_)
    · skip
      obtain ⟨u, rfl⟩ : ∃ u, a = u + 1 := ⟨a - 1, by omega⟩
      obtain ⟨z, rfl⟩ : ∃ z, c = z + 1 := ⟨c - 1, by omega⟩
      have b1 := hv2 u (by omega)
      have b2 := hv2 z (by omega)
      refine o_aload_n dN_greater_12 rfl ?_
      refine m_getr dN_greater_13 fl_N_16 rfl rfl (by decide) ?_
      refine o_iload_n dN_greater_16 rfl ?_
      refine o_iconst (nI 1) dN_greater_17 rfl ?_
      refine o_isub dN_greater_18 ?_
      refine o_top (nI z) (pk_sub (show 1 ≤ z + 1 by omega)) ?_
      refine m_iald z dN_greater_19 rfl rfl rfl (by decide) rfl (by omega) ?_
      refine o_top (nI (v z)) (hv z (by omega)) ?_
      refine o_aload_n dN_greater_20 rfl ?_
      refine m_getr dN_greater_21 fl_N_16 rfl rfl (by decide) ?_
      refine o_iload_n dN_greater_24 rfl ?_
      refine o_iconst (nI 1) dN_greater_25 rfl ?_
      refine o_isub dN_greater_26 ?_
      refine o_top (nI u) (pk_sub (show 1 ≤ u + 1 by omega)) ?_
      refine m_iald u dN_greater_27 rfl rfl rfl (by decide) rfl (by omega) ?_
      refine o_top (nI (v u)) (hv u (by omega)) ?_
      refine n_icmp_le 35 dN_greater_28 rfl (by omega) (by omega) (fun hb28 => ?_) (fun hb28 => ?_)
      · skip
        refine o_iload_n dN_greater_35 rfl ?_
        refine m_iret dN_greater_36 rfl ?_
        rw [gr_ge hb28] at k
        exact k
      · skip
        refine o_iload_n dN_greater_31 rfl ?_
        refine o_goto 36 dN_greater_32 rfl ?_
        refine m_iret dN_greater_36 rfl ?_
        rw [gr_lt hb28] at k
        exact k
    · skip
      refine o_iload_n dN_greater_8 rfl ?_
      refine o_iload_n dN_greater_9 rfl ?_
      refine o_iadd dN_greater_10 ?_
      refine o_top _ (nI_add _ _) ?_
      refine m_iret dN_greater_11 rfl ?_
      first | (subst hb1; rw [gr_zz] at k; rw [Nat.zero_add]; exact k) | (subst hb5; obtain ⟨z, rfl⟩ : ∃ z, a = z + 1 := ⟨a - 1, by omega⟩; rw [gr_n0] at k; exact k)
def latN (sn ky vr : Nat → Nat) (q : Nat) : Nat → Nat
  | 0 => 0
  | w + 1 => if ¬ sn w = 0 ∧ ky w = q then gr vr (latN sn ky vr q w) (w + 1) else latN sn ky vr q w
theorem latN_le {sn ky vr : Nat → Nat} {q : Nat} : ∀ w, latN sn ky vr q w ≤ w
  | 0 => Nat.le_refl _
  | w + 1 => by
    have ih := latN_le (sn := sn) (ky := ky) (vr := vr) (q := q) w
    rw [latN]
    split
    · exact gr_le (by omega) (Nat.le_refl _)
    · omega
def tOk (mu : oMu) (c : Nat) (sn : Nat → Nat) : Prop := ∀ w, w < 40 → mu 26 0 (40 * c + w) = nI (sn w) ∧ sn w < 2
theorem l_latestOf {G : oG} {mu : oMu} {Q : oPm} {m : Nat} {ky vr nd : Nat → Nat} {dp : Nat → Nat → Nat} (hV : vOk mu m ky vr nd dp) {c q : Nat} {sn : Nat → Nat} (hc : c < 3) (hq : q < 6) (hs : tOk mu c sn) (j : Nat) (hj : j ≤ m) (k : Q (some (.inl (nI (latN sn ky vr q m)))) mu) : Om G M_N_latestOf 5 [(0, .inr (some (ad 20 0))), (1, .inl (nI c)), (2, .inl (nI q)), (3, .inl (nI (latN sn ky vr q j))), (4, .inl (nI j))] [] mu Q := by
  have hm4 := hV.m4
  refine o_iload dN_latestOf_5 rfl ?_
  refine o_aload_n dN_latestOf_7 rfl ?_
  refine m_geti dN_latestOf_8 fl_N_65 rfl rfl (by decide) ?_
  refine o_top (nI m) hV.mm ?_
  refine n_icmp_ge 60 dN_latestOf_11 rfl (by omega) (by omega) (fun hb11 => ?_) (fun hb11 => ?_)
  · skip
    have hj6 : j = m := by omega
    refine o_iload_n dN_latestOf_60 rfl ?_
    refine m_iret dN_latestOf_61 rfl ?_
    subst hj6
    exact k
  · skip
    have hs1 := hs j (by omega)
    have hk6 := hV.key6 hb11
    refine o_aload_n dN_latestOf_14 rfl ?_
    refine m_getr dN_latestOf_15 fl_N_25 rfl rfl (by decide) ?_
    refine o_bipush (nI 40) dN_latestOf_18 rfl ?_
    refine o_iload_n dN_latestOf_20 rfl ?_
    refine o_imul dN_latestOf_21 ?_
    refine o_top _ (pk_mul _ _) ?_
    refine o_iload dN_latestOf_22 rfl ?_
    refine o_iadd dN_latestOf_24 ?_
    refine o_top _ (nI_add _ _) ?_
    refine m_zald (40 * c + j) dN_latestOf_25 rfl rfl rfl (by decide) rfl (by omega) ?_
    refine o_top (nI (sn j)) hs1.1 ?_
    refine n_if_eq 52 dN_latestOf_26 rfl (by omega) (fun hb26 => ?_) (fun hb26 => ?_)
    · skip
      refine o_iload_n dN_latestOf_52 rfl ?_
      refine o_istore_n [(0, _), (1, _), (2, _), (3, _), (4, _)] dN_latestOf_53 rfl rfl ?_
      refine o_iinc (nI (j + 1)) [(0, _), (1, _), (2, _), (3, _), (4, _)] dN_latestOf_54 rfl (nInc _) rfl rfl ?_
      refine o_goto 5 dN_latestOf_57 rfl ?_
      rw [show latN sn ky vr q j = latN sn ky vr q (j + 1) by rw [latN, if_neg (by first | exact fun z => z.1 hb26 | exact fun z => hb37 z.2)]]
      exact l_latestOf hV hc hq hs (j + 1) (by omega) k
    · skip
      refine o_aload_n dN_latestOf_29 rfl ?_
      refine m_getr dN_latestOf_30 fl_N_7 rfl rfl (by decide) ?_
      refine o_iload dN_latestOf_33 rfl ?_
      refine m_iald j dN_latestOf_35 rfl rfl rfl (by decide) rfl (by omega) ?_
      refine o_top (nI (ky j)) (hV.key hb11) ?_
      refine o_iload_n dN_latestOf_36 rfl ?_
      refine n_icmp_ne 52 dN_latestOf_37 rfl (by omega) (by omega) (fun hb37 => ?_) (fun hb37 => ?_)
      · skip
        refine o_iload_n dN_latestOf_52 rfl ?_
        refine o_istore_n [(0, _), (1, _), (2, _), (3, _), (4, _)] dN_latestOf_53 rfl rfl ?_
        refine o_iinc (nI (j + 1)) [(0, _), (1, _), (2, _), (3, _), (4, _)] dN_latestOf_54 rfl (nInc _) rfl rfl ?_
        refine o_goto 5 dN_latestOf_57 rfl ?_
        rw [show latN sn ky vr q j = latN sn ky vr q (j + 1) by rw [latN, if_neg (by first | exact fun z => z.1 hb26 | exact fun z => hb37 z.2)]]
        exact l_latestOf hV hc hq hs (j + 1) (by omega) k
      · skip
        refine o_aload_n dN_latestOf_40 rfl ?_
        refine o_iload_n dN_latestOf_41 rfl ?_
        refine o_iload dN_latestOf_42 rfl ?_
        refine o_iconst (nI 1) dN_latestOf_44 rfl ?_
        refine o_iadd dN_latestOf_45 ?_
        refine o_top _ (nI_add _ _) ?_
        refine m_callV M_N_greater [.inl (nI (latN sn ky vr q j)), .inl (nI (j + 1))] [] dN_latestOf_46 mk_N_greater in_N_greater se_N_greater rfl (by decide) rfl rfl ml_N_69 rfl rfl rfl (Nat.le_of_ble_eq_true rfl) rfl ?_
        refine r_greater (a := latN sn ky vr q j) (c := j + 1) hV.m4 hV.ver hV.verK (Nat.le_trans (latN_le j) hj) hb11 ?_
        show Om G M_N_latestOf 49 [(0, .inr (some (ad 20 0))), (1, .inl (nI c)), (2, .inl (nI q)), (3, .inl (nI (latN sn ky vr q j))), (4, .inl (nI j))] [.inl (nI (gr vr (latN sn ky vr q j) (j + 1)))] mu Q
        refine o_goto 53 dN_latestOf_49 rfl ?_
        refine o_istore_n [(0, _), (1, _), (2, _), (3, _), (4, _)] dN_latestOf_53 rfl rfl ?_
        refine o_iinc (nI (j + 1)) [(0, _), (1, _), (2, _), (3, _), (4, _)] dN_latestOf_54 rfl (nInc _) rfl rfl ?_
        refine o_goto 5 dN_latestOf_57 rfl ?_
        rw [show gr vr (latN sn ky vr q j) (j + 1) = latN sn ky vr q (j + 1) by rw [latN, if_pos ⟨hb26, hb37⟩]]
        exact l_latestOf hV hc hq hs (j + 1) (by omega) k
termination_by m - j
theorem r_latestOf {G : oG} {mu : oMu} {Q : oPm} {m : Nat} {ky vr nd : Nat → Nat} {dp : Nat → Nat → Nat} (hV : vOk mu m ky vr nd dp) {c q : Nat} {sn : Nat → Nat} (hc : c < 3) (hq : q < 6) (hs : tOk mu c sn) (k : Q (some (.inl (nI (latN sn ky vr q m)))) mu) : Om G M_N_latestOf 0 [(0, .inr (some (ad 20 0))), (1, .inl (nI c)), (2, .inl (nI q))] [] mu Q := by
  refine o_iconst (nI 0) dN_latestOf_0 rfl ?_
  refine o_istore_n [(0, _), (1, _), (2, _), (3, _)] dN_latestOf_1 rfl rfl ?_
  refine o_iconst (nI 0) dN_latestOf_2 rfl ?_
  refine o_istore [(0, _), (1, _), (2, _), (3, _), (4, _)] dN_latestOf_3 rfl rfl ?_
  exact l_latestOf hV hc hq hs 0 (by omega) k
def fr (x : Nat → Nat) (dp : Nat → Nat → Nat) (j q : Nat) : Nat := if ¬ x j = 0 ∧ covB x dp j q = false then 1 else 0
theorem fr_z {x : Nat → Nat} {dp : Nat → Nat → Nat} {j q : Nat} (h : fr x dp j q = 0) : fr x dp j (q + 1) = 0 := by
  unfold fr at h ⊢
  rw [if_neg]
  intro z
  rw [if_pos] at h
  · exact absurd h (by decide)
  · refine ⟨z.1, ?_⟩
    have h2 := z.2
    rw [covB, Bool.or_eq_false_iff] at h2
    exact h2.1
theorem fr_o {x : Nat → Nat} {dp : Nat → Nat → Nat} {j q : Nat} (h : ¬ fr x dp j q = 0) : ¬ x j = 0 ∧ covB x dp j q = false := by
  unfold fr at h
  by_cases z : ¬ x j = 0 ∧ covB x dp j q = false
  · exact z
  · rw [if_neg z] at h
    exact absurd rfl h
theorem fr_s1 {x : Nat → Nat} {dp : Nat → Nat → Nat} {j q : Nat} (h : ¬ fr x dp j q = 0) (hc : q = j ∨ x q = 0 ∨ ¬ dp (x q - 1) j = x j) : fr x dp j (q + 1) = 1 := by
  have h1 := fr_o h
  have h2 : covB x dp j (q + 1) = false := by
    rw [covB, h1.2]
    rcases hc with e | e | e <;> simp [e]
  unfold fr
  exact if_pos ⟨h1.1, h2⟩
theorem fr_s0 {x : Nat → Nat} {dp : Nat → Nat → Nat} {j q : Nat} (h1 : ¬ q = j) (h2 : ¬ x q = 0) (h3 : dp (x q - 1) j = x j) : fr x dp j (q + 1) = 0 := by
  unfold fr
  rw [if_neg]
  intro z
  have z2 := z.2
  rw [covB] at z2
  simp [h1, h2, h3] at z2
theorem fr_le {x : Nat → Nat} {dp : Nat → Nat → Nat} {j q : Nat} : fr x dp j q ≤ 1 := by
  unfold fr
  split <;> omega
theorem l_nearI {G : oG} {mu : oMu} {Q : oPm} {m : Nat} {ky vr nd : Nat → Nat} {dp : Nat → Nat → Nat} (hV : vOk mu m ky vr nd dp) {i : Nat} {x : Nat → Nat} (hi : i < 6) (hx : yOk mu 32 i m x) {j z : Nat} (hj6 : j < 6) (q : Nat) (hq : q ≤ 6) (kx : Om G M_N_near 107 [(0, .inr (some (ad 20 0))), (1, .inl (nI i)), (2, .inl (nI z)), (3, .inl (nI j)), (4, .inl (nI (x j))), (5, .inl (nI (fr x dp j 6))), (6, .inl (nI 6))] [] mu Q) : Om G M_N_near 38 [(0, .inr (some (ad 20 0))), (1, .inl (nI i)), (2, .inl (nI z)), (3, .inl (nI j)), (4, .inl (nI (x j))), (5, .inl (nI (fr x dp j q))), (6, .inl (nI q))] [] mu Q := by
  have hm4 := hV.m4
  refine o_iload dN_near_38 rfl ?_
  refine o_bipush (nI 6) dN_near_40 rfl ?_
  refine n_icmp_ge 107 dN_near_42 rfl (by omega) (by omega) (fun hb42 => ?_) (fun hb42 => ?_)
  · skip
    have hj6 : q = 6 := by omega
    subst hj6
    exact kx
  · skip
    have hx1 := hx q hb42
    have hx2 := hx j hj6
    refine o_aload_n dN_near_45 rfl ?_
    refine m_getr dN_near_46 fl_N_44 rfl rfl (by decide) ?_
    refine o_bipush (nI 6) dN_near_49 rfl ?_
    refine o_iload_n dN_near_51 rfl ?_
    refine o_imul dN_near_52 ?_
    refine o_top _ (pk_mul _ _) ?_
    refine o_iload dN_near_53 rfl ?_
    refine o_iadd dN_near_55 ?_
    refine o_top _ (nI_add _ _) ?_
    refine m_iald (6 * i + q) dN_near_56 rfl rfl rfl (by decide) rfl (by omega) ?_
    refine o_top (nI (x q)) hx1.1 ?_
    refine o_istore [(0, _), (1, _), (2, _), (3, _), (4, _), (5, _), (6, _), (7, _)] dN_near_57 rfl rfl ?_
    refine o_iload dN_near_59 rfl ?_
    have hfl := fr_le (x := x) (dp := dp) (j := j) (q := q)
    refine n_if_eq 98 dN_near_61 rfl (by omega) (fun hb61 => ?_) (fun hb61 => ?_)
    · skip
      refine o_iconst (nI 0) dN_near_98 rfl ?_
      refine o_istore [(0, _), (1, _), (2, _), (3, _), (4, _), (5, _), (6, _), (7, _)] dN_near_99 rfl rfl ?_
      refine o_iinc (nI (q + 1)) [(0, _), (1, _), (2, _), (3, _), (4, _), (5, _), (6, _), (7, _)] dN_near_101 rfl (nInc _) rfl rfl ?_
      refine o_goto 38 dN_near_104 rfl ?_
      refine o_lv [(0, _), (1, _), (2, _), (3, _), (4, _), (5, _), (6, _)] [0, 1, 2, 3, 4, 5, 6] rfl ?_
      have e9 : fr x dp j (q + 1) = 0 := by first | exact fr_z hb61 | exact fr_s0 hb67 hb72 (by rw [hw]; exact hb91)
      have z9 := l_nearI hV hi hx hj6 (q + 1) (by omega) kx
      rw [e9] at z9
      exact z9
    · skip
      refine o_iload dN_near_64 rfl ?_
      refine o_iload_n dN_near_66 rfl ?_
      refine n_icmp_eq 94 dN_near_67 rfl (by omega) (by omega) (fun hb67 => ?_) (fun hb67 => ?_)
      · skip
        refine o_iconst (nI 1) dN_near_94 rfl ?_
        refine o_goto 99 dN_near_95 rfl ?_
        refine o_istore [(0, _), (1, _), (2, _), (3, _), (4, _), (5, _), (6, _), (7, _)] dN_near_99 rfl rfl ?_
        refine o_iinc (nI (q + 1)) [(0, _), (1, _), (2, _), (3, _), (4, _), (5, _), (6, _), (7, _)] dN_near_101 rfl (nInc _) rfl rfl ?_
        refine o_goto 38 dN_near_104 rfl ?_
        refine o_lv [(0, _), (1, _), (2, _), (3, _), (4, _), (5, _), (6, _)] [0, 1, 2, 3, 4, 5, 6] rfl ?_
        have e9 : fr x dp j (q + 1) = 1 := fr_s1 hb61 (by first | exact Or.inl hb67 | exact Or.inr (Or.inl hb72) | exact Or.inr (Or.inr (by rw [hw]; exact hb91)))
        have z9 := l_nearI hV hi hx hj6 (q + 1) (by omega) kx
        rw [e9] at z9
        exact z9
      · skip
        refine o_iload dN_near_70 rfl ?_
        refine n_if_eq 94 dN_near_72 rfl (by omega) (fun hb72 => ?_) (fun hb72 => ?_)
        · skip
          refine o_iconst (nI 1) dN_near_94 rfl ?_
          refine o_goto 99 dN_near_95 rfl ?_
          refine o_istore [(0, _), (1, _), (2, _), (3, _), (4, _), (5, _), (6, _), (7, _)] dN_near_99 rfl rfl ?_
          refine o_iinc (nI (q + 1)) [(0, _), (1, _), (2, _), (3, _), (4, _), (5, _), (6, _), (7, _)] dN_near_101 rfl (nInc _) rfl rfl ?_
          refine o_goto 38 dN_near_104 rfl ?_
          refine o_lv [(0, _), (1, _), (2, _), (3, _), (4, _), (5, _), (6, _)] [0, 1, 2, 3, 4, 5, 6] rfl ?_
          have e9 : fr x dp j (q + 1) = 1 := fr_s1 hb61 (by first | exact Or.inl hb67 | exact Or.inr (Or.inl hb72) | exact Or.inr (Or.inr (by rw [hw]; exact hb91)))
          have z9 := l_nearI hV hi hx hj6 (q + 1) (by omega) kx
          rw [e9] at z9
          exact z9
        · skip
          obtain ⟨w, hw⟩ : ∃ w, x q = w + 1 := ⟨x q - 1, by omega⟩
          have hww : w < m := by omega
          rw [hw]
          refine o_aload_n dN_near_75 rfl ?_
          refine m_getr dN_near_76 fl_N_19 rfl rfl (by decide) ?_
          refine o_bipush (nI 6) dN_near_79 rfl ?_
          refine o_iload dN_near_81 rfl ?_
          refine o_iconst (nI 1) dN_near_83 rfl ?_
          refine o_isub dN_near_84 ?_
          refine o_top (nI w) (pk_sub (show 1 ≤ w + 1 by omega)) ?_
          refine o_imul dN_near_85 ?_
          refine o_top _ (pk_mul _ _) ?_
          refine o_iload_n dN_near_86 rfl ?_
          refine o_iadd dN_near_87 ?_
          refine o_top _ (nI_add _ _) ?_
          refine m_iald (6 * w + j) dN_near_88 rfl rfl rfl (by decide) rfl (by omega) ?_
          refine o_top (nI (dp w j)) (hV.dep hww hj6) ?_
          refine o_iload dN_near_89 rfl ?_
          have hd1 := hV.depB hww hj6
          refine n_icmp_eq 98 dN_near_91 rfl (by omega) (by omega) (fun hb91 => ?_) (fun hb91 => ?_)
          · skip
            refine o_iconst (nI 0) dN_near_98 rfl ?_
            refine o_istore [(0, _), (1, _), (2, _), (3, _), (4, _), (5, _), (6, _), (7, _)] dN_near_99 rfl rfl ?_
            refine o_iinc (nI (q + 1)) [(0, _), (1, _), (2, _), (3, _), (4, _), (5, _), (6, _), (7, _)] dN_near_101 rfl (nInc _) rfl rfl ?_
            refine o_goto 38 dN_near_104 rfl ?_
            refine o_lv [(0, _), (1, _), (2, _), (3, _), (4, _), (5, _), (6, _)] [0, 1, 2, 3, 4, 5, 6] rfl ?_
            have e9 : fr x dp j (q + 1) = 0 := by first | exact fr_z hb61 | exact fr_s0 hb67 hb72 (by rw [hw]; exact hb91)
            have z9 := l_nearI hV hi hx hj6 (q + 1) (by omega) kx
            rw [e9] at z9
            exact z9
          · skip
            refine o_iconst (nI 1) dN_near_94 rfl ?_
            refine o_goto 99 dN_near_95 rfl ?_
            refine o_istore [(0, _), (1, _), (2, _), (3, _), (4, _), (5, _), (6, _), (7, _)] dN_near_99 rfl rfl ?_
            refine o_iinc (nI (q + 1)) [(0, _), (1, _), (2, _), (3, _), (4, _), (5, _), (6, _), (7, _)] dN_near_101 rfl (nInc _) rfl rfl ?_
            refine o_goto 38 dN_near_104 rfl ?_
            refine o_lv [(0, _), (1, _), (2, _), (3, _), (4, _), (5, _), (6, _)] [0, 1, 2, 3, 4, 5, 6] rfl ?_
            have e9 : fr x dp j (q + 1) = 1 := fr_s1 hb61 (by first | exact Or.inl hb67 | exact Or.inr (Or.inl hb72) | exact Or.inr (Or.inr (by rw [hw]; exact hb91)))
            have z9 := l_nearI hV hi hx hj6 (q + 1) (by omega) kx
            rw [e9] at z9
            exact z9
termination_by 6 - q
theorem nearTail {G : oG} {mu : oMu} {Q : oPm} {m : Nat} {ky vr nd : Nat → Nat} {dp : Nat → Nat → Nat} (hV : vOk mu m ky vr nd dp) {i : Nat} {x : Nat → Nat} (hi : i < 6) (hx : yOk mu 32 i m x) {j b : Nat} (hj : j < 6) (hb : fr x dp j 0 = b) (k : Om G M_N_near 4 [(0, .inr (some (ad 20 0))), (1, .inl (nI i)), (2, .inl (nI (nearB x dp (j + 1)))), (3, .inl (nI (j + 1)))] [] mu Q) : Om G M_N_near 38 [(0, .inr (some (ad 20 0))), (1, .inl (nI i)), (2, .inl (nI (nearB x dp j))), (3, .inl (nI j)), (4, .inl (nI (x j))), (5, .inl (nI b)), (6, .inl (nI 0))] [] mu Q := by
  subst hb
  refine l_nearI hV hi hx hj 0 (by omega) ?_
  have hfl := fr_le (x := x) (dp := dp) (j := j) (q := 6)
  refine o_iload dN_near_107 rfl ?_
  refine n_if_eq 120 dN_near_109 rfl (by omega) (fun hb109 => ?_) (fun hb109 => ?_)
  · skip
    refine o_iload_n dN_near_120 rfl ?_
    refine o_istore_n [(0, _), (1, _), (2, _), (3, _), (4, _), (5, _), (6, _)] dN_near_121 rfl rfl ?_
    refine o_iinc (nI (j + 1)) [(0, _), (1, _), (2, _), (3, _), (4, _), (5, _), (6, _)] dN_near_122 rfl (nInc _) rfl rfl ?_
    refine o_goto 4 dN_near_125 rfl ?_
    refine o_lv [(0, _), (1, _), (2, _), (3, _)] [0, 1, 2, 3] rfl ?_
    rw [show nearB x dp j = nearB x dp (j + 1) by rw [nearB, if_neg (fun z => by unfold fr at hb109; rw [if_pos z] at hb109; exact absurd hb109 (by decide))]]
    exact k
  · skip
    refine o_iload_n dN_near_112 rfl ?_
    refine o_iconst (nI 1) dN_near_113 rfl ?_
    refine o_iload_n dN_near_114 rfl ?_
    refine o_ishl dN_near_115 ?_
    refine o_ior dN_near_116 ?_
    refine o_top (nI (nearB x dp j ||| 1 <<< j)) (b_or _ (nearB_lt j (by omega)) j hj).1 ?_
    refine o_goto 121 dN_near_117 rfl ?_
    refine o_istore_n [(0, _), (1, _), (2, _), (3, _), (4, _), (5, _), (6, _)] dN_near_121 rfl rfl ?_
    refine o_iinc (nI (j + 1)) [(0, _), (1, _), (2, _), (3, _), (4, _), (5, _), (6, _)] dN_near_122 rfl (nInc _) rfl rfl ?_
    refine o_goto 4 dN_near_125 rfl ?_
    refine o_lv [(0, _), (1, _), (2, _), (3, _)] [0, 1, 2, 3] rfl ?_
    rw [show nearB x dp j ||| 1 <<< j = nearB x dp (j + 1) by rw [nearB, if_pos (fr_o hb109)]]
    exact k
theorem l_near {G : oG} {mu : oMu} {Q : oPm} {m : Nat} {ky vr nd : Nat → Nat} {dp : Nat → Nat → Nat} (hV : vOk mu m ky vr nd dp) {i : Nat} {x : Nat → Nat} (hi : i < 6) (hx : yOk mu 32 i m x) (j : Nat) (hj : j ≤ 6) (k : Q (some (.inl (nI (nearB x dp 6)))) mu) : Om G M_N_near 4 [(0, .inr (some (ad 20 0))), (1, .inl (nI i)), (2, .inl (nI (nearB x dp j))), (3, .inl (nI j))] [] mu Q := by
  have hm4 := hV.m4
  refine o_iload_n dN_near_4 rfl ?_
  refine o_bipush (nI 6) dN_near_5 rfl ?_
  refine n_icmp_ge 128 dN_near_7 rfl (by omega) (by omega) (fun hb7 => ?_) (fun hb7 => ?_)
  · skip
    have hj6 : j = 6 := by omega
    refine o_iload_n dN_near_128 rfl ?_
    refine m_iret dN_near_129 rfl ?_
    subst hj6
    exact k
  · skip
    have hx1 := hx j hb7
    refine o_aload_n dN_near_10 rfl ?_
    refine m_getr dN_near_11 fl_N_44 rfl rfl (by decide) ?_
    refine o_bipush (nI 6) dN_near_14 rfl ?_
    refine o_iload_n dN_near_16 rfl ?_
    refine o_imul dN_near_17 ?_
    refine o_top _ (pk_mul _ _) ?_
    refine o_iload_n dN_near_18 rfl ?_
    refine o_iadd dN_near_19 ?_
    refine o_top _ (nI_add _ _) ?_
    refine m_iald (6 * i + j) dN_near_20 rfl rfl rfl (by decide) rfl (by omega) ?_
    refine o_top (nI (x j)) hx1.1 ?_
    refine o_istore [(0, _), (1, _), (2, _), (3, _), (4, _)] dN_near_21 rfl rfl ?_
    refine o_iload dN_near_23 rfl ?_
    refine n_if_le 32 dN_near_25 rfl (by omega) (fun hb25 => ?_) (fun hb25 => ?_)
    · skip
      refine o_iconst (nI 0) dN_near_32 rfl ?_
      refine o_istore [(0, _), (1, _), (2, _), (3, _), (4, _), (5, _)] dN_near_33 rfl rfl ?_
      refine o_iconst (nI 0) dN_near_35 rfl ?_
      refine o_istore [(0, _), (1, _), (2, _), (3, _), (4, _), (5, _), (6, _)] dN_near_36 rfl rfl ?_
      refine nearTail hV hi hx hb7 (by unfold fr; rw [if_neg (fun z => z.1 (by omega))]) (l_near hV hi hx (j + 1) (by omega) k)
    · skip
      refine o_iconst (nI 1) dN_near_28 rfl ?_
      refine o_goto 33 dN_near_29 rfl ?_
      refine o_istore [(0, _), (1, _), (2, _), (3, _), (4, _), (5, _)] dN_near_33 rfl rfl ?_
      refine o_iconst (nI 0) dN_near_35 rfl ?_
      refine o_istore [(0, _), (1, _), (2, _), (3, _), (4, _), (5, _), (6, _)] dN_near_36 rfl rfl ?_
      refine nearTail hV hi hx hb7 (by unfold fr; rw [if_pos ⟨by omega, rfl⟩]) (l_near hV hi hx (j + 1) (by omega) k)
termination_by 6 - j
theorem r_near {G : oG} {mu : oMu} {Q : oPm} {m : Nat} {ky vr nd : Nat → Nat} {dp : Nat → Nat → Nat} (hV : vOk mu m ky vr nd dp) {i : Nat} {x : Nat → Nat} (hi : i < 6) (hx : yOk mu 32 i m x) (k : Q (some (.inl (nI (nearB x dp 6)))) mu) : Om G M_N_near 0 [(0, .inr (some (ad 20 0))), (1, .inl (nI i))] [] mu Q := by
  refine o_iconst (nI 0) dN_near_0 rfl ?_
  refine o_istore_n [(0, _), (1, _), (2, _)] dN_near_1 rfl rfl ?_
  refine o_iconst (nI 0) dN_near_2 rfl ?_
  refine o_istore_n [(0, _), (1, _), (2, _), (3, _)] dN_near_3 rfl rfl ?_
  exact l_near hV hi hx 0 (by omega) k
theorem l_rsee {G : oG} {mu : oMu} {Q : oPm} {m : Nat} {ky vr nd : Nat → Nat} {dp : Nat → Nat → Nat} (hV : vOk mu m ky vr nd dp) {i w : Nat} {x : Nat → Nat} (hi : i < 6) (hw : w < m) (j : Nat) (hj : j ≤ 6) (hxm : ∀ q, q < 6 → x q ≤ m) (hy : yOk mu 32 i m (sY x (dp w) vr j)) (k : ∀ mu' : oMu, yOk mu' 32 i m (sX x (dp w) vr (ky w) w) → mfs 32 (6 * i) 6 mu mu' → Q none mu') : Om G M_N_see 2 [(0, .inr (some (ad 20 0))), (1, .inl (nI i)), (2, .inl (nI w)), (3, .inl (nI j))] [] mu Q := by
  have hm4 := hV.m4
  have hk6 := hV.key6 hw
  refine o_iload_n dN_see_2 rfl ?_
  refine o_bipush (nI 6) dN_see_3 rfl ?_
  refine n_icmp_ge 51 dN_see_5 rfl (by omega) (by omega) (fun hb5 => ?_) (fun hb5 => ?_)
  · skip
    have hj6 : j = 6 := by omega
    refine o_bipush (nI 6) dN_see_51 rfl ?_
    refine o_iload_n dN_see_53 rfl ?_
    refine o_imul dN_see_54 ?_
    refine o_top _ (pk_mul _ _) ?_
    refine o_aload_n dN_see_55 rfl ?_
    refine m_getr dN_see_56 fl_N_7 rfl rfl (by decide) ?_
    refine o_iload_n dN_see_59 rfl ?_
    refine m_iald w dN_see_60 rfl rfl rfl (by decide) rfl (by omega) ?_
    refine o_top (nI (ky w)) (hV.key hw) ?_
    refine o_iadd dN_see_61 ?_
    refine o_top _ (nI_add _ _) ?_
    refine o_istore_n [(0, _), (1, _), (2, _), (3, _)] dN_see_62 rfl rfl ?_
    refine o_aload_n dN_see_63 rfl ?_
    refine m_getr dN_see_64 fl_N_44 rfl rfl (by decide) ?_
    refine o_iload_n dN_see_67 rfl ?_
    refine o_aload_n dN_see_68 rfl ?_
    refine o_aload_n dN_see_69 rfl ?_
    refine m_getr dN_see_70 fl_N_44 rfl rfl (by decide) ?_
    refine o_iload_n dN_see_73 rfl ?_
    refine m_iald (6 * i + (ky w)) dN_see_74 rfl rfl rfl (by decide) rfl (by omega) ?_
    refine o_top (nI (gr vr (x (ky w)) (dp w (ky w)))) ((hy _ hk6).1.trans (by simp [sY, hk6, hj6])) ?_
    refine o_iload_n dN_see_75 rfl ?_
    refine o_iconst (nI 1) dN_see_76 rfl ?_
    refine o_iadd dN_see_77 ?_
    refine o_top _ (nI_add _ _) ?_
    refine m_callV M_N_greater [.inl (nI (gr vr (x (ky w)) (dp w (ky w)))), .inl (nI (w + 1))] [.inl (nI (6 * i + (ky w))), .inr (some (ad 32 0))] dN_see_78 mk_N_greater in_N_greater se_N_greater rfl (by decide) rfl rfl ml_N_69 rfl rfl rfl (Nat.le_of_ble_eq_true rfl) rfl ?_
    refine r_greater (a := gr vr (x (ky w)) (dp w (ky w))) (c := w + 1) hV.m4 hV.ver hV.verK (gr_le (hxm _ hk6) (hV.depB hw hk6)) hw ?_
    show Om G M_N_see 81 [(0, .inr (some (ad 20 0))), (1, .inl (nI i)), (2, .inl (nI w)), (3, .inl (nI (6 * i + (ky w))))] [.inl (nI (gr vr (gr vr (x (ky w)) (dp w (ky w))) (w + 1))), .inl (nI (6 * i + (ky w))), .inr (some (ad 32 0))] mu Q
    refine m_iast (6 * i + (ky w)) dN_see_81 rfl rfl rfl (by decide) rfl (by omega) (fun mu1 hmu1 => ?_)
    refine m_vret dN_see_82 rfl ?_
    subst hj6
    exact k mu1 (hy.step hmu1 (gr_le (gr_le (hxm _ hk6) (hV.depB hw hk6)) hw) (fun q hq => by
      by_cases hqk : q = ky w
      · subst hqk
        simp [sX]
      · simp [sX, sY, hqk, hq])) (mfs_up hmu1 (by omega) (by omega))
  · skip
    refine o_aload_n dN_see_8 rfl ?_
    refine m_getr dN_see_9 fl_N_44 rfl rfl (by decide) ?_
    refine o_bipush (nI 6) dN_see_12 rfl ?_
    refine o_iload_n dN_see_14 rfl ?_
    refine o_imul dN_see_15 ?_
    refine o_top _ (pk_mul _ _) ?_
    refine o_iload_n dN_see_16 rfl ?_
    refine o_iadd dN_see_17 ?_
    refine o_top _ (nI_add _ _) ?_
    refine o_aload_n dN_see_18 rfl ?_
    refine o_aload_n dN_see_19 rfl ?_
    refine m_getr dN_see_20 fl_N_44 rfl rfl (by decide) ?_
    refine o_bipush (nI 6) dN_see_23 rfl ?_
    refine o_iload_n dN_see_25 rfl ?_
    refine o_imul dN_see_26 ?_
    refine o_top _ (pk_mul _ _) ?_
    refine o_iload_n dN_see_27 rfl ?_
    refine o_iadd dN_see_28 ?_
    refine o_top _ (nI_add _ _) ?_
    refine m_iald (6 * i + j) dN_see_29 rfl rfl rfl (by decide) rfl (by omega) ?_
    refine o_top (nI (x j)) ((hy j hb5).1.trans (by simp [sY])) ?_
    refine o_aload_n dN_see_30 rfl ?_
    refine m_getr dN_see_31 fl_N_19 rfl rfl (by decide) ?_
    refine o_bipush (nI 6) dN_see_34 rfl ?_
    refine o_iload_n dN_see_36 rfl ?_
    refine o_imul dN_see_37 ?_
    refine o_top _ (pk_mul _ _) ?_
    refine o_iload_n dN_see_38 rfl ?_
    refine o_iadd dN_see_39 ?_
    refine o_top _ (nI_add _ _) ?_
    refine m_iald (6 * w + j) dN_see_40 rfl rfl rfl (by decide) rfl (by omega) ?_
    refine o_top (nI (dp w j)) (hV.dep hw hb5) ?_
    refine m_callV M_N_greater [.inl (nI (x j)), .inl (nI (dp w j))] [.inl (nI (6 * i + j)), .inr (some (ad 32 0))] dN_see_41 mk_N_greater in_N_greater se_N_greater rfl (by decide) rfl rfl ml_N_69 rfl rfl rfl (Nat.le_of_ble_eq_true rfl) rfl ?_
    refine r_greater (a := x j) (c := dp w j) hV.m4 hV.ver hV.verK (hxm j hb5) (hV.depB hw hb5) ?_
    show Om G M_N_see 44 [(0, .inr (some (ad 20 0))), (1, .inl (nI i)), (2, .inl (nI w)), (3, .inl (nI j))] [.inl (nI (gr vr (x j) (dp w j))), .inl (nI (6 * i + j)), .inr (some (ad 32 0))] mu Q
    refine m_iast (6 * i + j) dN_see_44 rfl rfl rfl (by decide) rfl (by omega) (fun mu1 hmu1 => ?_)
    refine o_iinc (nI (j + 1)) [(0, _), (1, _), (2, _), (3, _)] dN_see_45 rfl (nInc _) rfl rfl ?_
    refine o_goto 2 dN_see_48 rfl ?_
    have hf1 := mfs_up (lo := 6 * i) (n := 6) hmu1 (by omega) (by omega)
    exact l_rsee (hV.fs hf1 (by decide)) hi hw (j + 1) (by omega) hxm (hy.step hmu1 (gr_le (hxm j hb5) (hV.depB hw hb5)) (fun q hq => by
      by_cases hqj : q = j
      · subst hqj
        simp [sY]
      · by_cases hql : q < j
        · simp [sY, hqj, hql, Nat.lt_succ_of_lt hql]
        · have h3 : ¬ q < j + 1 := by omega
          simp [sY, hqj, hql, h3])) (fun mu' h1 h2 => k mu' h1 (hf1.tr h2))
termination_by 6 - j
theorem r_see {G : oG} {mu : oMu} {Q : oPm} {m : Nat} {ky vr nd : Nat → Nat} {dp : Nat → Nat → Nat} (hV : vOk mu m ky vr nd dp) {i w : Nat} {x : Nat → Nat} (hi : i < 6) (hw : w < m) (hx : yOk mu 32 i m x) (k : ∀ mu' : oMu, yOk mu' 32 i m (sX x (dp w) vr (ky w) w) → mfs 32 (6 * i) 6 mu mu' → Q none mu') : Om G M_N_see 0 [(0, .inr (some (ad 20 0))), (1, .inl (nI i)), (2, .inl (nI w))] [] mu Q := by
  refine o_iconst (nI 0) dN_see_0 rfl ?_
  refine o_istore_n [(0, _), (1, _), (2, _), (3, _)] dN_see_1 rfl rfl ?_
  exact l_rsee hV hi hw 0 (by omega) (fun q hq => (hx q hq).2) (by rw [sY_0]; exact hx) k
theorem r_send {G : oG} {mu : oMu} {Q : oPm} {w f t n : Nat} (hf : f < 3) (ht : t < 3) (hn : mu 30 0 (3 * f + t) = nI n) (hn4 : n < 40) (k : ∀ mu' : oMu, mu' 31 0 = upd (mu 31 0) (40 * (3 * f + t) + n) (nI w) → mu' 30 0 = upd (mu 30 0) (3 * f + t) (nI (n + 1)) → mfr [(30, 0), (31, 0)] mu mu' → Q none mu') : Om G M_N_send 0 [(0, .inr (some (ad 20 0))), (1, .inl (nI w)), (2, .inl (nI f)), (3, .inl (nI t))] [] mu Q := by
  refine o_iconst (nI 3) dN_send_0 rfl ?_
  refine o_iload_n dN_send_1 rfl ?_
  refine o_imul dN_send_2 ?_
  refine o_top _ (pk_mul _ _) ?_
  refine o_iload_n dN_send_3 rfl ?_
  refine o_iadd dN_send_4 ?_
  refine o_top _ (nI_add _ _) ?_
  refine o_istore [(0, _), (1, _), (2, _), (3, _), (4, _)] dN_send_5 rfl rfl ?_
  refine o_aload_n dN_send_7 rfl ?_
  refine m_getr dN_send_8 fl_N_41 rfl rfl (by decide) ?_
  refine o_bipush (nI 40) dN_send_11 rfl ?_
  refine o_iload dN_send_13 rfl ?_
  refine o_imul dN_send_15 ?_
  refine o_top _ (pk_mul _ _) ?_
  refine o_aload_n dN_send_16 rfl ?_
  refine m_getr dN_send_17 fl_N_38 rfl rfl (by decide) ?_
  refine o_iload dN_send_20 rfl ?_
  refine m_iald (3 * f + t) dN_send_22 rfl rfl rfl (by decide) rfl (by omega) ?_
  refine o_top (nI n) hn ?_
  refine o_iadd dN_send_23 ?_
  refine o_top _ (nI_add _ _) ?_
  refine o_iload_n dN_send_24 rfl ?_
  refine m_iast (40 * (3 * f + t) + n) dN_send_25 rfl rfl rfl (by decide) rfl (by omega) (fun mu1 hmu1 => ?_)
  refine o_aload_n dN_send_26 rfl ?_
  refine m_getr dN_send_27 fl_N_38 rfl rfl (by decide) ?_
  refine o_iload dN_send_30 rfl ?_
  refine o_dup2 dN_send_32 ?_
  refine m_iald (3 * f + t) dN_send_33 rfl rfl rfl (by decide) rfl (by omega) ?_
  refine o_top (nI n) (by rw [hmu1, up2_t (by decide)]; exact hn) ?_
  refine o_iconst (nI 1) dN_send_34 rfl ?_
  refine o_iadd dN_send_35 ?_
  refine o_top _ (nI_add _ _) ?_
  refine m_iast (3 * f + t) dN_send_36 rfl rfl rfl (by decide) rfl (by omega) (fun mu2 hmu2 => ?_)
  refine m_vret dN_send_37 rfl ?_
  exact k mu2 (by rw [hmu2, up2_t (by decide), hmu1, up2_s]) (by rw [hmu2, up2_s, hmu1, up2_t (by decide)]) ((mfr_up hmu1 (by simp)).tr (mfr_up hmu2 (by simp)))
end
section
/-! The reference's inner methods, on. -/
theorem tOk.z {mu : oMu} {c w : Nat} {sn : Nat → Nat} (h : tOk mu c sn) (hw : w < 40) : mu 26 0 (40 * c + w) = nI (sn w) := (h w hw).1
theorem l_missing {G : oG} {mu : oMu} {Q : oPm} {m : Nat} {ky vr nd : Nat → Nat} {dp : Nat → Nat → Nat} (hV : vOk mu m ky vr nd dp) {c w : Nat} {sn : Nat → Nat} (hc : c < 3) (hw : w < m) (hs : tOk mu c sn) (hnd : ∀ k, k < 6 → (nd w).testBit k = true → ¬ dp w k = 0) (j : Nat) (hj : j ≤ 6) (k : Q (some (.inl (nI (misN (nd w) (dp w) sn 6)))) mu) : Om G M_N_missing 5 [(0, .inr (some (ad 20 0))), (1, .inl (nI c)), (2, .inl (nI w)), (3, .inl (nI (misN (nd w) (dp w) sn j))), (4, .inl (nI j))] [] mu Q := by
  have hm4 := hV.m4
  refine o_iload dN_missing_5 rfl ?_
  refine o_bipush (nI 6) dN_missing_7 rfl ?_
  refine n_icmp_ge 80 dN_missing_9 rfl (by omega) (by omega) (fun hb9 => ?_) (fun hb9 => ?_)
  · skip
    have hj6 : j = 6 := by omega
    refine o_iload_n dN_missing_80 rfl ?_
    refine m_iret dN_missing_81 rfl ?_
    subst hj6
    exact k
  · skip
    refine o_aload_n dN_missing_12 rfl ?_
    refine m_getr dN_missing_13 fl_N_22 rfl rfl (by decide) ?_
    refine o_iload_n dN_missing_16 rfl ?_
    refine m_iald w dN_missing_17 rfl rfl rfl (by decide) rfl (by omega) ?_
    refine o_top (nI (nd w)) (hV.need hw) ?_
    refine o_iload dN_missing_18 rfl ?_
    refine o_ishr dN_missing_20 ?_
    refine o_iconst (nI 1) dN_missing_21 rfl ?_
    refine o_iand dN_missing_22 ?_
    refine o_iconst (nI 1) dN_missing_23 rfl ?_
    refine o_icmp_ne 31 dN_missing_24 rfl (fun hb24 => ?_) (fun hb24 => ?_)
    · skip
      have hbf : (nd w).testBit j = false := by
        cases hz : (nd w).testBit j with
        | false => rfl
        | true => exact absurd ((b1_iff _ (hV.needB hw) j hb9).mpr hz) hb24
      refine o_iconst (nI 0) dN_missing_31 rfl ?_
      refine o_istore [(0, _), (1, _), (2, _), (3, _), (4, _), (5, _)] dN_missing_32 rfl rfl ?_
      refine o_iload dN_missing_34 rfl ?_
      refine n_if_eq 72 dN_missing_36 rfl (by omega) (fun _ => ?_) (fun h => absurd h (by decide))
      refine o_iload_n dN_missing_72 rfl ?_
      refine o_istore_n [(0, _), (1, _), (2, _), (3, _), (4, _), (5, _)] dN_missing_73 rfl rfl ?_
      refine o_iinc (nI (j + 1)) [(0, _), (1, _), (2, _), (3, _), (4, _), (5, _)] dN_missing_74 rfl (nInc _) rfl rfl ?_
      refine o_goto 5 dN_missing_77 rfl ?_
      refine o_lv [(0, _), (1, _), (2, _), (3, _), (4, _)] [0, 1, 2, 3, 4] rfl ?_
      rw [show misN (nd w) (dp w) sn j = misN (nd w) (dp w) sn (j + 1) by rw [misN, if_neg (by first | (simp [misB, hbf]; done) | (simp [misB, hbt, hz, hb63]))]]
      exact l_missing hV hc hw hs hnd (j + 1) (by omega) k
    · skip
      have hbt := (b1_iff _ (hV.needB hw) j hb9).mp hb24
      have hz := hnd j hb9 hbt
      have hdb := hV.depB hw hb9
      obtain ⟨u, hu⟩ : ∃ u, dp w j = u + 1 := ⟨dp w j - 1, by omega⟩
      refine o_iconst (nI 1) dN_missing_27 rfl ?_
      refine o_goto 32 dN_missing_28 rfl ?_
      refine o_istore [(0, _), (1, _), (2, _), (3, _), (4, _), (5, _)] dN_missing_32 rfl rfl ?_
      refine o_iload dN_missing_34 rfl ?_
      refine n_if_eq 72 dN_missing_36 rfl (by omega) (fun h => absurd h (by decide)) (fun _ => ?_)
      refine o_aload_n dN_missing_39 rfl ?_
      refine m_getr dN_missing_40 fl_N_25 rfl rfl (by decide) ?_
      refine o_bipush (nI 40) dN_missing_43 rfl ?_
      refine o_iload_n dN_missing_45 rfl ?_
      refine o_imul dN_missing_46 ?_
      refine o_top _ (pk_mul _ _) ?_
      refine o_aload_n dN_missing_47 rfl ?_
      refine m_getr dN_missing_48 fl_N_19 rfl rfl (by decide) ?_
      refine o_bipush (nI 6) dN_missing_51 rfl ?_
      refine o_iload_n dN_missing_53 rfl ?_
      refine o_imul dN_missing_54 ?_
      refine o_top _ (pk_mul _ _) ?_
      refine o_iload dN_missing_55 rfl ?_
      refine o_iadd dN_missing_57 ?_
      refine o_top _ (nI_add _ _) ?_
      refine m_iald (6 * w + j) dN_missing_58 rfl rfl rfl (by decide) rfl (by omega) ?_
      refine o_top (nI (u + 1)) ((hV.dep hw hb9).trans (by rw [hu])) ?_
      refine o_iadd dN_missing_59 ?_
      refine o_top _ (nI_add _ _) ?_
      refine o_iconst (nI 1) dN_missing_60 rfl ?_
      refine o_isub dN_missing_61 ?_
      refine o_top (nI (40 * c + u)) (pk_sub (show 1 ≤ 40 * c + (u + 1) by omega)) ?_
      refine m_zald (40 * c + u) dN_missing_62 rfl rfl rfl (by decide) rfl (by omega) ?_
      refine o_top (nI (sn u)) (hs.z (by omega)) ?_
      have hsn := hs u (by omega)
      refine n_if_ne 72 dN_missing_63 rfl (by omega) (fun hb63 => ?_) (fun hb63 => ?_)
      · skip
        have hb63 : ¬ sn (dp w j - 1) = 0 := by rw [hu]; exact hb63
        refine o_iload_n dN_missing_72 rfl ?_
        refine o_istore_n [(0, _), (1, _), (2, _), (3, _), (4, _), (5, _)] dN_missing_73 rfl rfl ?_
        refine o_iinc (nI (j + 1)) [(0, _), (1, _), (2, _), (3, _), (4, _), (5, _)] dN_missing_74 rfl (nInc _) rfl rfl ?_
        refine o_goto 5 dN_missing_77 rfl ?_
        refine o_lv [(0, _), (1, _), (2, _), (3, _), (4, _)] [0, 1, 2, 3, 4] rfl ?_
        rw [show misN (nd w) (dp w) sn j = misN (nd w) (dp w) sn (j + 1) by rw [misN, if_neg (by first | (simp [misB, hbf]; done) | (simp [misB, hbt, hz, hb63]))]]
        exact l_missing hV hc hw hs hnd (j + 1) (by omega) k
      · skip
        have hb63 : sn (dp w j - 1) = 0 := by rw [hu]; exact hb63
        refine o_iload_n dN_missing_66 rfl ?_
        refine o_iconst (nI 1) dN_missing_67 rfl ?_
        refine o_iadd dN_missing_68 ?_
        refine o_top _ (nI_add _ _) ?_
        refine o_goto 73 dN_missing_69 rfl ?_
        refine o_istore_n [(0, _), (1, _), (2, _), (3, _), (4, _), (5, _)] dN_missing_73 rfl rfl ?_
        refine o_iinc (nI (j + 1)) [(0, _), (1, _), (2, _), (3, _), (4, _), (5, _)] dN_missing_74 rfl (nInc _) rfl rfl ?_
        refine o_goto 5 dN_missing_77 rfl ?_
        refine o_lv [(0, _), (1, _), (2, _), (3, _), (4, _)] [0, 1, 2, 3, 4] rfl ?_
        rw [show misN (nd w) (dp w) sn j + 1 = misN (nd w) (dp w) sn (j + 1) by rw [misN, if_pos (by simp [misB, hbt, hz, hb63])]]
        exact l_missing hV hc hw hs hnd (j + 1) (by omega) k
termination_by 6 - j
theorem r_missing {G : oG} {mu : oMu} {Q : oPm} {m : Nat} {ky vr nd : Nat → Nat} {dp : Nat → Nat → Nat} (hV : vOk mu m ky vr nd dp) {c w : Nat} {sn : Nat → Nat} (hc : c < 3) (hw : w < m) (hs : tOk mu c sn) (hnd : ∀ k, k < 6 → (nd w).testBit k = true → ¬ dp w k = 0) (k : Q (some (.inl (nI (misN (nd w) (dp w) sn 6)))) mu) : Om G M_N_missing 0 [(0, .inr (some (ad 20 0))), (1, .inl (nI c)), (2, .inl (nI w))] [] mu Q := by
  refine o_iconst (nI 0) dN_missing_0 rfl ?_
  refine o_istore_n [(0, _), (1, _), (2, _), (3, _)] dN_missing_1 rfl rfl ?_
  refine o_iconst (nI 0) dN_missing_2 rfl ?_
  refine o_istore [(0, _), (1, _), (2, _), (3, _), (4, _)] dN_missing_3 rfl rfl ?_
  exact l_missing hV hc hw hs hnd 0 (by omega) k
theorem l_due {G : oG} {mu : oMu} {Q : oPm} {m : Nat} {ky vr nd : Nat → Nat} {dp : Nat → Nat → Nat} (hV : vOk mu m ky vr nd dp) {i q s : Nat} {h : Nat → Nat} (hi : i < 6) (hq : q < 6) (hh : yOk mu 37 i m h) (hset : mu 34 0 i = nI s) (hs6 : s < 64) (hin : ∀ z, z < 6 → ¬ h z = 0 → s.testBit z = true) (j : Nat) (hj : j ≤ 6) (k : Q (some (.inl (nI (dueN h dp vr q 6)))) mu) : Om G M_N_due 15 [(0, .inr (some (ad 20 0))), (1, .inl (nI i)), (2, .inl (nI q)), (3, .inl (nI (dueN h dp vr q j))), (4, .inl (nI j))] [] mu Q := by
  have hm4 := hV.m4
  refine o_iload dN_due_15 rfl ?_
  refine o_bipush (nI 6) dN_due_17 rfl ?_
  refine n_icmp_ge 90 dN_due_19 rfl (by omega) (by omega) (fun hb19 => ?_) (fun hb19 => ?_)
  · skip
    have hj6 : j = 6 := by omega
    refine o_iload_n dN_due_90 rfl ?_
    refine m_iret dN_due_91 rfl ?_
    subst hj6
    exact k
  · skip
    have hh1 := hh j hb19
    refine o_aload_n dN_due_22 rfl ?_
    refine m_getr dN_due_23 fl_N_50 rfl rfl (by decide) ?_
    refine o_iload_n dN_due_26 rfl ?_
    refine m_iald i dN_due_27 rfl rfl rfl (by decide) rfl (by omega) ?_
    refine o_top (nI s) hset ?_
    refine o_iload dN_due_28 rfl ?_
    refine o_ishr dN_due_30 ?_
    refine o_iconst (nI 1) dN_due_31 rfl ?_
    refine o_iand dN_due_32 ?_
    refine o_iconst (nI 1) dN_due_33 rfl ?_
    refine o_icmp_ne 52 dN_due_34 rfl (fun hb34 => ?_) (fun hb34 => ?_)
    · skip
      have hz0 : h j = 0 := by
        rcases Nat.eq_zero_or_pos (h j) with z | z
        · exact z
        · exact absurd ((b1_iff _ hs6 j hb19).mpr (hin j hb19 (by omega))) hb34
      refine o_iconst (nI 0) dN_due_52 rfl ?_
      refine o_istore [(0, _), (1, _), (2, _), (3, _), (4, _), (5, _)] dN_due_53 rfl rfl ?_
      refine o_iload dN_due_55 rfl ?_
      refine n_if_le 82 dN_due_57 rfl (by omega) (fun _ => ?_) (fun h => absurd h (by decide))
      refine o_iload_n dN_due_82 rfl ?_
      refine o_istore_n [(0, _), (1, _), (2, _), (3, _), (4, _), (5, _)] dN_due_83 rfl rfl ?_
      refine o_iinc (nI (j + 1)) [(0, _), (1, _), (2, _), (3, _), (4, _), (5, _)] dN_due_84 rfl (nInc _) rfl rfl ?_
      refine o_goto 15 dN_due_87 rfl ?_
      refine o_lv [(0, _), (1, _), (2, _), (3, _), (4, _)] [0, 1, 2, 3, 4] rfl ?_
      rw [show dueN h dp vr q j = dueN h dp vr q (j + 1) by rw [dueN, if_pos (by first | omega | exact hz0)]]
      exact l_due hV hi hq hh hset hs6 hin (j + 1) (by omega) k
    · skip
      refine o_aload_n dN_due_37 rfl ?_
      refine m_getr dN_due_38 fl_N_59 rfl rfl (by decide) ?_
      refine o_bipush (nI 6) dN_due_41 rfl ?_
      refine o_iload_n dN_due_43 rfl ?_
      refine o_imul dN_due_44 ?_
      refine o_top _ (pk_mul _ _) ?_
      refine o_iload dN_due_45 rfl ?_
      refine o_iadd dN_due_47 ?_
      refine o_top _ (nI_add _ _) ?_
      refine m_iald (6 * i + j) dN_due_48 rfl rfl rfl (by decide) rfl (by omega) ?_
      refine o_top (nI (h j)) hh1.1 ?_
      refine o_goto 53 dN_due_49 rfl ?_
      refine o_istore [(0, _), (1, _), (2, _), (3, _), (4, _), (5, _)] dN_due_53 rfl rfl ?_
      refine o_iload dN_due_55 rfl ?_
      refine n_if_le 82 dN_due_57 rfl (by omega) (fun hb57 => ?_) (fun hb57 => ?_)
      · skip
        refine o_iload_n dN_due_82 rfl ?_
        refine o_istore_n [(0, _), (1, _), (2, _), (3, _), (4, _), (5, _)] dN_due_83 rfl rfl ?_
        refine o_iinc (nI (j + 1)) [(0, _), (1, _), (2, _), (3, _), (4, _), (5, _)] dN_due_84 rfl (nInc _) rfl rfl ?_
        refine o_goto 15 dN_due_87 rfl ?_
        refine o_lv [(0, _), (1, _), (2, _), (3, _), (4, _)] [0, 1, 2, 3, 4] rfl ?_
        rw [show dueN h dp vr q j = dueN h dp vr q (j + 1) by rw [dueN, if_pos (by first | omega | exact hz0)]]
        exact l_due hV hi hq hh hset hs6 hin (j + 1) (by omega) k
      · skip
        obtain ⟨w, hw⟩ : ∃ w, h j = w + 1 := ⟨h j - 1, by omega⟩
        have hww : w < m := by omega
        rw [hw]
        refine o_aload_n dN_due_60 rfl ?_
        refine o_iload_n dN_due_61 rfl ?_
        refine o_aload_n dN_due_62 rfl ?_
        refine m_getr dN_due_63 fl_N_19 rfl rfl (by decide) ?_
        refine o_bipush (nI 6) dN_due_66 rfl ?_
        refine o_iload dN_due_68 rfl ?_
        refine o_iconst (nI 1) dN_due_70 rfl ?_
        refine o_isub dN_due_71 ?_
        refine o_top (nI w) (pk_sub (show 1 ≤ w + 1 by omega)) ?_
        refine o_imul dN_due_72 ?_
        refine o_top _ (pk_mul _ _) ?_
        refine o_iload_n dN_due_73 rfl ?_
        refine o_iadd dN_due_74 ?_
        refine o_top _ (nI_add _ _) ?_
        refine m_iald (6 * w + q) dN_due_75 rfl rfl rfl (by decide) rfl (by omega) ?_
        refine o_top (nI (dp w q)) (hV.dep hww hq) ?_
        refine m_callV M_N_greater [.inl (nI (dueN h dp vr q j)), .inl (nI (dp w q))] [] dN_due_76 mk_N_greater in_N_greater se_N_greater rfl (by decide) rfl rfl ml_N_69 rfl rfl rfl (Nat.le_of_ble_eq_true rfl) rfl ?_
        refine r_greater (a := dueN h dp vr q j) (c := dp w q) hV.m4 hV.ver hV.verK (dueN_le hq (fun z hz => (hh z hz).2) (fun u hu => hV.depB hu hq) j hj) (hV.depB hww hq) ?_
        show Om G M_N_due 79 [(0, .inr (some (ad 20 0))), (1, .inl (nI i)), (2, .inl (nI q)), (3, .inl (nI (dueN h dp vr q j))), (4, .inl (nI j)), (5, .inl (nI (w + 1)))] [.inl (nI (gr vr (dueN h dp vr q j) (dp w q)))] mu Q
        refine o_goto 83 dN_due_79 rfl ?_
        refine o_istore_n [(0, _), (1, _), (2, _), (3, _), (4, _), (5, _)] dN_due_83 rfl rfl ?_
        refine o_iinc (nI (j + 1)) [(0, _), (1, _), (2, _), (3, _), (4, _), (5, _)] dN_due_84 rfl (nInc _) rfl rfl ?_
        refine o_goto 15 dN_due_87 rfl ?_
        refine o_lv [(0, _), (1, _), (2, _), (3, _), (4, _)] [0, 1, 2, 3, 4] rfl ?_
        rw [show gr vr (dueN h dp vr q j) (dp w q) = dueN h dp vr q (j + 1) by rw [dueN, if_neg (by omega), hw]; rfl]
        exact l_due hV hi hq hh hset hs6 hin (j + 1) (by omega) k
termination_by 6 - j
theorem r_due {G : oG} {mu : oMu} {Q : oPm} {m : Nat} {ky vr nd : Nat → Nat} {dp : Nat → Nat → Nat} (hV : vOk mu m ky vr nd dp) {i q s : Nat} {h : Nat → Nat} (hi : i < 6) (hq : q < 6) (hh : yOk mu 37 i m h) (hset : mu 34 0 i = nI s) (hs6 : s < 64) (hin : ∀ z, z < 6 → ¬ h z = 0 → s.testBit z = true) (k : Q (some (.inl (nI (dueN h dp vr q 6)))) mu) : Om G M_N_due 0 [(0, .inr (some (ad 20 0))), (1, .inl (nI i)), (2, .inl (nI q))] [] mu Q := by
  refine o_aload_n dN_due_0 rfl ?_
  refine m_getr dN_due_1 fl_N_59 rfl rfl (by decide) ?_
  refine o_bipush (nI 6) dN_due_4 rfl ?_
  refine o_iload_n dN_due_6 rfl ?_
  refine o_imul dN_due_7 ?_
  refine o_top _ (pk_mul _ _) ?_
  refine o_iload_n dN_due_8 rfl ?_
  refine o_iadd dN_due_9 ?_
  refine o_top _ (nI_add _ _) ?_
  refine m_iald (6 * i + q) dN_due_10 rfl rfl rfl (by decide) rfl (by omega) ?_
  refine o_top (nI (h q)) (hh q hq).1 ?_
  refine o_istore_n [(0, _), (1, _), (2, _), (3, _)] dN_due_11 rfl rfl ?_
  refine o_iconst (nI 0) dN_due_12 rfl ?_
  refine o_istore [(0, _), (1, _), (2, _), (3, _), (4, _)] dN_due_13 rfl rfl ?_
  exact l_due hV hi hq hh hset hs6 hin 0 (by omega) k
theorem l_finish {G : oG} {mu : oMu} {Q : oPm} {m : Nat} {ky vr nd : Nat → Nat} {dp : Nat → Nat → Nat} (hV : vOk mu m ky vr nd dp) {i : Nat} {x h : Nat → Nat} (hi : i < 6) (hh : yOk mu 37 i m h) (j : Nat) (hj : j ≤ 6) (hx : yOk mu 32 i m (sF x h ky vr dp j)) (k : ∀ mu' : oMu, yOk mu' 32 i m (sF x h ky vr dp 6) → mfs 32 (6 * i) 6 mu mu' → Q none mu') : Om G M_N_finish 9 [(0, .inr (some (ad 20 0))), (1, .inl (nI i)), (2, .inl (nI j))] [] mu Q := by
  have hm4 := hV.m4
  refine o_iload_n dN_finish_9 rfl ?_
  refine o_bipush (nI 6) dN_finish_10 rfl ?_
  refine n_icmp_ge 53 dN_finish_12 rfl (by omega) (by omega) (fun hb12 => ?_) (fun hb12 => ?_)
  · skip
    have hj6 : j = 6 := by omega
    refine m_vret dN_finish_53 rfl ?_
    subst hj6
    exact k mu hx mfs_rf
  · skip
    have hh1 := hh j hb12
    refine o_aload_n dN_finish_15 rfl ?_
    refine m_getr dN_finish_16 fl_N_59 rfl rfl (by decide) ?_
    refine o_bipush (nI 6) dN_finish_19 rfl ?_
    refine o_iload_n dN_finish_21 rfl ?_
    refine o_imul dN_finish_22 ?_
    refine o_top _ (pk_mul _ _) ?_
    refine o_iload_n dN_finish_23 rfl ?_
    refine o_iadd dN_finish_24 ?_
    refine o_top _ (nI_add _ _) ?_
    refine m_iald (6 * i + j) dN_finish_25 rfl rfl rfl (by decide) rfl (by omega) ?_
    refine o_top (nI (h j)) hh1.1 ?_
    refine n_if_le 47 dN_finish_26 rfl (by omega) (fun hb26 => ?_) (fun hb26 => ?_)
    · skip
      refine o_iinc (nI (j + 1)) [(0, _), (1, _), (2, _)] dN_finish_47 rfl (nInc _) rfl rfl ?_
      refine o_goto 9 dN_finish_50 rfl ?_
      exact l_finish hV hi hh (j + 1) (by omega) (by rw [sF, if_pos (by omega)]; exact hx) k
    · skip
      obtain ⟨w, hw⟩ : ∃ w, h j = w + 1 := ⟨h j - 1, by omega⟩
      have hww : w < m := by omega
      refine o_aload_n dN_finish_29 rfl ?_
      refine o_iload_n dN_finish_30 rfl ?_
      refine o_aload_n dN_finish_31 rfl ?_
      refine m_getr dN_finish_32 fl_N_59 rfl rfl (by decide) ?_
      refine o_bipush (nI 6) dN_finish_35 rfl ?_
      refine o_iload_n dN_finish_37 rfl ?_
      refine o_imul dN_finish_38 ?_
      refine o_top _ (pk_mul _ _) ?_
      refine o_iload_n dN_finish_39 rfl ?_
      refine o_iadd dN_finish_40 ?_
      refine o_top _ (nI_add _ _) ?_
      refine m_iald (6 * i + j) dN_finish_41 rfl rfl rfl (by decide) rfl (by omega) ?_
      refine o_top (nI (w + 1)) (hh1.1.trans (by rw [hw])) ?_
      refine o_iconst (nI 1) dN_finish_42 rfl ?_
      refine o_isub dN_finish_43 ?_
      refine o_top (nI w) (pk_sub (show 1 ≤ w + 1 by omega)) ?_
      refine m_callV M_N_see [.inl (nI i), .inl (nI w)] [] dN_finish_44 mk_N_see in_N_see se_N_see rfl (by decide) rfl rfl ml_N_89 rfl rfl rfl (Nat.le_of_ble_eq_true rfl) rfl ?_
      refine r_see hV hi hww hx (fun mu1 hx1 hf1 => ?_)
      show Om G M_N_finish 47 [(0, .inr (some (ad 20 0))), (1, .inl (nI i)), (2, .inl (nI j))] [] mu1 Q
      refine o_iinc (nI (j + 1)) [(0, _), (1, _), (2, _)] dN_finish_47 rfl (nInc _) rfl rfl ?_
      refine o_goto 9 dN_finish_50 rfl ?_
      exact l_finish (hV.fs hf1 (by decide)) hi (hh.fs hf1 (by decide)) (j + 1) (by omega) (by rw [sF, if_neg (by omega), hw]; exact hx1) (fun mu' a b => k mu' a (hf1.tr b))
termination_by 6 - j
theorem r_finish {G : oG} {mu : oMu} {Q : oPm} {m : Nat} {ky vr nd : Nat → Nat} {dp : Nat → Nat → Nat} (hV : vOk mu m ky vr nd dp) {i : Nat} {x h : Nat → Nat} (hi : i < 6) (hh : yOk mu 37 i m h) (hx : yOk mu 32 i m x) (k : ∀ mu' : oMu, yOk mu' 32 i m (sF x h ky vr dp 6) → (∀ j, ¬ (6 * i ≤ j ∧ j < 6 * i + 6) → mu' 32 0 j = mu 32 0 j) → mu' 33 0 = upd (mu 33 0) i (nI 3) → mfr [(32, 0), (33, 0)] mu mu' → Q none mu') : Om G M_N_finish 0 [(0, .inr (some (ad 20 0))), (1, .inl (nI i))] [] mu Q := by
  refine o_aload_n dN_finish_0 rfl ?_
  refine m_getr dN_finish_1 fl_N_47 rfl rfl (by decide) ?_
  refine o_iload_n dN_finish_4 rfl ?_
  refine o_iconst (nI 3) dN_finish_5 rfl ?_
  refine m_iast i dN_finish_6 rfl rfl rfl (by decide) rfl (by omega) (fun mu1 hmu1 => ?_)
  refine o_iconst (nI 0) dN_finish_7 rfl ?_
  refine o_istore_n [(0, _), (1, _), (2, _)] dN_finish_8 rfl rfl ?_
  have hf0 := mfr_up (L := [(33, 0)]) hmu1 (by simp)
  have hV1 : vOk mu1 m ky vr nd dp := hV.mv (hf0 _ _ (by simp)) (hf0 _ _ (by simp)) (hf0 _ _ (by simp)) (hf0 _ _ (by simp)) (hf0 _ _ (by simp))
  have hx1 : yOk mu1 32 i m x := fun q hq => by rw [hf0 32 0 (by simp)]; exact hx q hq
  have hh1 : yOk mu1 37 i m h := fun q hq => by rw [hf0 37 0 (by simp)]; exact hh q hq
  refine l_finish hV1 hi hh1 0 (by omega) hx1 (fun mu2 h1 h2 => ?_)
  refine k mu2 h1 (fun j hj => (h2.2 j hj).trans (by rw [hf0 32 0 (by simp)])) (by rw [h2.1 33 0 (by omega), hmu1, up2_s]) (fun t z hz => ?_)
  rw [h2.1 t z (fun y => hz (by simp [y.1, y.2])), hf0 t z (fun y => hz (by simp at y; simp [y.1, y.2]))]
end
section
/-! The JDK's methods: Integer.bitCount, Arrays.fill. -/
theorem dJI_bitCount_0 : decode cJI_bitCount 0 = .ok (.iload_n 0, 1) := by decide +kernel
theorem dJI_bitCount_1 : decode cJI_bitCount 1 = .ok (.iload_n 0, 1) := by decide +kernel
theorem dJI_bitCount_2 : decode cJI_bitCount 2 = .ok (.iconst 1, 1) := by decide +kernel
theorem dJI_bitCount_3 : decode cJI_bitCount 3 = .ok (.iushr, 1) := by decide +kernel
theorem dJI_bitCount_4 : decode cJI_bitCount 4 = .ok (.ldc_w 265, 3) := by decide +kernel
theorem dJI_bitCount_7 : decode cJI_bitCount 7 = .ok (.iand, 1) := by decide +kernel
theorem dJI_bitCount_8 : decode cJI_bitCount 8 = .ok (.isub, 1) := by decide +kernel
theorem dJI_bitCount_9 : decode cJI_bitCount 9 = .ok (.istore_n 0, 1) := by decide +kernel
theorem dJI_bitCount_10 : decode cJI_bitCount 10 = .ok (.iload_n 0, 1) := by decide +kernel
theorem dJI_bitCount_11 : decode cJI_bitCount 11 = .ok (.ldc_w 266, 3) := by decide +kernel
theorem dJI_bitCount_14 : decode cJI_bitCount 14 = .ok (.iand, 1) := by decide +kernel
theorem dJI_bitCount_15 : decode cJI_bitCount 15 = .ok (.iload_n 0, 1) := by decide +kernel
theorem dJI_bitCount_16 : decode cJI_bitCount 16 = .ok (.iconst 2, 1) := by decide +kernel
theorem dJI_bitCount_17 : decode cJI_bitCount 17 = .ok (.iushr, 1) := by decide +kernel
theorem dJI_bitCount_18 : decode cJI_bitCount 18 = .ok (.ldc_w 266, 3) := by decide +kernel
theorem dJI_bitCount_21 : decode cJI_bitCount 21 = .ok (.iand, 1) := by decide +kernel
theorem dJI_bitCount_22 : decode cJI_bitCount 22 = .ok (.iadd, 1) := by decide +kernel
theorem dJI_bitCount_23 : decode cJI_bitCount 23 = .ok (.istore_n 0, 1) := by decide +kernel
theorem dJI_bitCount_24 : decode cJI_bitCount 24 = .ok (.iload_n 0, 1) := by decide +kernel
theorem dJI_bitCount_25 : decode cJI_bitCount 25 = .ok (.iload_n 0, 1) := by decide +kernel
theorem dJI_bitCount_26 : decode cJI_bitCount 26 = .ok (.iconst 4, 1) := by decide +kernel
theorem dJI_bitCount_27 : decode cJI_bitCount 27 = .ok (.iushr, 1) := by decide +kernel
theorem dJI_bitCount_28 : decode cJI_bitCount 28 = .ok (.iadd, 1) := by decide +kernel
theorem dJI_bitCount_29 : decode cJI_bitCount 29 = .ok (.ldc_w 267, 3) := by decide +kernel
theorem dJI_bitCount_32 : decode cJI_bitCount 32 = .ok (.iand, 1) := by decide +kernel
theorem dJI_bitCount_33 : decode cJI_bitCount 33 = .ok (.istore_n 0, 1) := by decide +kernel
theorem dJI_bitCount_34 : decode cJI_bitCount 34 = .ok (.iload_n 0, 1) := by decide +kernel
theorem dJI_bitCount_35 : decode cJI_bitCount 35 = .ok (.iload_n 0, 1) := by decide +kernel
theorem dJI_bitCount_36 : decode cJI_bitCount 36 = .ok (.bipush 8, 2) := by decide +kernel
theorem dJI_bitCount_38 : decode cJI_bitCount 38 = .ok (.iushr, 1) := by decide +kernel
theorem dJI_bitCount_39 : decode cJI_bitCount 39 = .ok (.iadd, 1) := by decide +kernel
theorem dJI_bitCount_40 : decode cJI_bitCount 40 = .ok (.istore_n 0, 1) := by decide +kernel
theorem dJI_bitCount_41 : decode cJI_bitCount 41 = .ok (.iload_n 0, 1) := by decide +kernel
theorem dJI_bitCount_42 : decode cJI_bitCount 42 = .ok (.iload_n 0, 1) := by decide +kernel
theorem dJI_bitCount_43 : decode cJI_bitCount 43 = .ok (.bipush 16, 2) := by decide +kernel
theorem dJI_bitCount_45 : decode cJI_bitCount 45 = .ok (.iushr, 1) := by decide +kernel
theorem dJI_bitCount_46 : decode cJI_bitCount 46 = .ok (.iadd, 1) := by decide +kernel
theorem dJI_bitCount_47 : decode cJI_bitCount 47 = .ok (.istore_n 0, 1) := by decide +kernel
theorem dJI_bitCount_48 : decode cJI_bitCount 48 = .ok (.iload_n 0, 1) := by decide +kernel
theorem dJI_bitCount_49 : decode cJI_bitCount 49 = .ok (.bipush 63, 2) := by decide +kernel
theorem dJI_bitCount_51 : decode cJI_bitCount 51 = .ok (.iand, 1) := by decide +kernel
theorem dJI_bitCount_52 : decode cJI_bitCount 52 = .ok (.ireturn, 1) := by decide +kernel
theorem dJA_fill_0 : decode cJA_fill 0 = .ok (.iconst 0, 1) := by decide +kernel
theorem dJA_fill_1 : decode cJA_fill 1 = .ok (.istore_n 2, 1) := by decide +kernel
theorem dJA_fill_2 : decode cJA_fill 2 = .ok (.aload_n 0, 1) := by decide +kernel
theorem dJA_fill_3 : decode cJA_fill 3 = .ok (.arraylength, 1) := by decide +kernel
theorem dJA_fill_4 : decode cJA_fill 4 = .ok (.istore_n 3, 1) := by decide +kernel
theorem dJA_fill_5 : decode cJA_fill 5 = .ok (.iload_n 2, 1) := by decide +kernel
theorem dJA_fill_6 : decode cJA_fill 6 = .ok (.iload_n 3, 1) := by decide +kernel
theorem dJA_fill_7 : decode cJA_fill 7 = .ok (.if_icmp .ge 13, 3) := by decide +kernel
theorem dJA_fill_10 : decode cJA_fill 10 = .ok (.aload_n 0, 1) := by decide +kernel
theorem dJA_fill_11 : decode cJA_fill 11 = .ok (.iload_n 2, 1) := by decide +kernel
theorem dJA_fill_12 : decode cJA_fill 12 = .ok (.iload_n 1, 1) := by decide +kernel
theorem dJA_fill_13 : decode cJA_fill 13 = .ok (.iastore, 1) := by decide +kernel
theorem dJA_fill_14 : decode cJA_fill 14 = .ok (.iinc 2 1, 3) := by decide +kernel
theorem dJA_fill_17 : decode cJA_fill 17 = .ok (.goto (-12), 3) := by decide +kernel
theorem dJA_fill_20 : decode cJA_fill 20 = .ok (.return_, 1) := by decide +kernel
theorem kc_265 : Cond.constant RJI 265 1431655765 ∈ oAll := oMem2 (i := 17) rfl rfl
theorem kc_266 : Cond.constant RJI 266 858993459 ∈ oAll := oMem2 (i := 18) rfl rfl
theorem kc_267 : Cond.constant RJI 267 252645135 ∈ oAll := oMem2 (i := 19) rfl rfl
theorem o_ldcw {G : oG} {M : oM} {pc : Nat} {lv : oL} {st : List oU} {H : oH} {b : Nat × Nat} {Q : oP} {idx : Nat} (v : Int32) (hd : decode (oCd M) pc = .ok (.ldc_w idx, 3)) (hw : Cond.constant M.1.cls idx v ∈ oAll) (k : Ok G M (pc + 3) lv (.inl v :: st) H b Q) : Ok G M pc lv st H b Q :=
  fun p e R s mid args below meth c hp locs cells slots mc ms ls X Y => lv_ldcw X.1 X.2.1 X.2.2.2.2.2.2.1 (X.2.2.2.2.2.2.2.1 _ hw) hd (k p e R s mid args below meth c hp locs cells slots mc ms ls X Y)
set_option maxRecDepth 100000 in
theorem b_count : ∀ l, l < 64 → (((((((((nI l) - ((((nI l).toUInt32 >>> ((nI 1).toUInt32 &&& Int32.toUInt32 31)).toInt32) &&& (1431655765))) &&& (858993459)) + (((((nI l) - ((((nI l).toUInt32 >>> ((nI 1).toUInt32 &&& Int32.toUInt32 31)).toInt32) &&& (1431655765))).toUInt32 >>> ((nI 2).toUInt32 &&& Int32.toUInt32 31)).toInt32) &&& (858993459))) + ((((((nI l) - ((((nI l).toUInt32 >>> ((nI 1).toUInt32 &&& Int32.toUInt32 31)).toInt32) &&& (1431655765))) &&& (858993459)) + (((((nI l) - ((((nI l).toUInt32 >>> ((nI 1).toUInt32 &&& Int32.toUInt32 31)).toInt32) &&& (1431655765))).toUInt32 >>> ((nI 2).toUInt32 &&& Int32.toUInt32 31)).toInt32) &&& (858993459))).toUInt32 >>> ((nI 4).toUInt32 &&& Int32.toUInt32 31)).toInt32)) &&& (252645135)) + ((((((((nI l) - ((((nI l).toUInt32 >>> ((nI 1).toUInt32 &&& Int32.toUInt32 31)).toInt32) &&& (1431655765))) &&& (858993459)) + (((((nI l) - ((((nI l).toUInt32 >>> ((nI 1).toUInt32 &&& Int32.toUInt32 31)).toInt32) &&& (1431655765))).toUInt32 >>> ((nI 2).toUInt32 &&& Int32.toUInt32 31)).toInt32) &&& (858993459))) + ((((((nI l) - ((((nI l).toUInt32 >>> ((nI 1).toUInt32 &&& Int32.toUInt32 31)).toInt32) &&& (1431655765))) &&& (858993459)) + (((((nI l) - ((((nI l).toUInt32 >>> ((nI 1).toUInt32 &&& Int32.toUInt32 31)).toInt32) &&& (1431655765))).toUInt32 >>> ((nI 2).toUInt32 &&& Int32.toUInt32 31)).toInt32) &&& (858993459))).toUInt32 >>> ((nI 4).toUInt32 &&& Int32.toUInt32 31)).toInt32)) &&& (252645135)).toUInt32 >>> ((nI 8).toUInt32 &&& Int32.toUInt32 31)).toInt32)) + (((((((((nI l) - ((((nI l).toUInt32 >>> ((nI 1).toUInt32 &&& Int32.toUInt32 31)).toInt32) &&& (1431655765))) &&& (858993459)) + (((((nI l) - ((((nI l).toUInt32 >>> ((nI 1).toUInt32 &&& Int32.toUInt32 31)).toInt32) &&& (1431655765))).toUInt32 >>> ((nI 2).toUInt32 &&& Int32.toUInt32 31)).toInt32) &&& (858993459))) + ((((((nI l) - ((((nI l).toUInt32 >>> ((nI 1).toUInt32 &&& Int32.toUInt32 31)).toInt32) &&& (1431655765))) &&& (858993459)) + (((((nI l) - ((((nI l).toUInt32 >>> ((nI 1).toUInt32 &&& Int32.toUInt32 31)).toInt32) &&& (1431655765))).toUInt32 >>> ((nI 2).toUInt32 &&& Int32.toUInt32 31)).toInt32) &&& (858993459))).toUInt32 >>> ((nI 4).toUInt32 &&& Int32.toUInt32 31)).toInt32)) &&& (252645135)) + ((((((((nI l) - ((((nI l).toUInt32 >>> ((nI 1).toUInt32 &&& Int32.toUInt32 31)).toInt32) &&& (1431655765))) &&& (858993459)) + (((((nI l) - ((((nI l).toUInt32 >>> ((nI 1).toUInt32 &&& Int32.toUInt32 31)).toInt32) &&& (1431655765))).toUInt32 >>> ((nI 2).toUInt32 &&& Int32.toUInt32 31)).toInt32) &&& (858993459))) + ((((((nI l) - ((((nI l).toUInt32 >>> ((nI 1).toUInt32 &&& Int32.toUInt32 31)).toInt32) &&& (1431655765))) &&& (858993459)) + (((((nI l) - ((((nI l).toUInt32 >>> ((nI 1).toUInt32 &&& Int32.toUInt32 31)).toInt32) &&& (1431655765))).toUInt32 >>> ((nI 2).toUInt32 &&& Int32.toUInt32 31)).toInt32) &&& (858993459))).toUInt32 >>> ((nI 4).toUInt32 &&& Int32.toUInt32 31)).toInt32)) &&& (252645135)).toUInt32 >>> ((nI 8).toUInt32 &&& Int32.toUInt32 31)).toInt32)).toUInt32 >>> ((nI 16).toUInt32 &&& Int32.toUInt32 31)).toInt32)) &&& (nI 63)) = nI (cntN l 6) := by decide +kernel
theorem j_bitCount {G : oG} {mu : oMu} {Q : oPm} {l : Nat} (hl : l < 64) (k : Q (some (.inl (nI (cntN l 6)))) mu) : Om G M_JI_bitCount 0 [(0, .inl (nI l))] [] mu Q := by
  refine o_iload_n dJI_bitCount_0 rfl ?_
  refine o_iload_n dJI_bitCount_1 rfl ?_
  refine o_iconst (nI 1) dJI_bitCount_2 rfl ?_
  refine o_iushr dJI_bitCount_3 ?_
  refine o_ldcw (1431655765) dJI_bitCount_4 kc_265 ?_
  refine o_iand dJI_bitCount_7 ?_
  refine o_isub dJI_bitCount_8 ?_
  refine o_istore_n [(0, _)] dJI_bitCount_9 rfl rfl ?_
  refine o_iload_n dJI_bitCount_10 rfl ?_
  refine o_ldcw (858993459) dJI_bitCount_11 kc_266 ?_
  refine o_iand dJI_bitCount_14 ?_
  refine o_iload_n dJI_bitCount_15 rfl ?_
  refine o_iconst (nI 2) dJI_bitCount_16 rfl ?_
  refine o_iushr dJI_bitCount_17 ?_
  refine o_ldcw (858993459) dJI_bitCount_18 kc_266 ?_
  refine o_iand dJI_bitCount_21 ?_
  refine o_iadd dJI_bitCount_22 ?_
  refine o_istore_n [(0, _)] dJI_bitCount_23 rfl rfl ?_
  refine o_iload_n dJI_bitCount_24 rfl ?_
  refine o_iload_n dJI_bitCount_25 rfl ?_
  refine o_iconst (nI 4) dJI_bitCount_26 rfl ?_
  refine o_iushr dJI_bitCount_27 ?_
  refine o_iadd dJI_bitCount_28 ?_
  refine o_ldcw (252645135) dJI_bitCount_29 kc_267 ?_
  refine o_iand dJI_bitCount_32 ?_
  refine o_istore_n [(0, _)] dJI_bitCount_33 rfl rfl ?_
  refine o_iload_n dJI_bitCount_34 rfl ?_
  refine o_iload_n dJI_bitCount_35 rfl ?_
  refine o_bipush (nI 8) dJI_bitCount_36 rfl ?_
  refine o_iushr dJI_bitCount_38 ?_
  refine o_iadd dJI_bitCount_39 ?_
  refine o_istore_n [(0, _)] dJI_bitCount_40 rfl rfl ?_
  refine o_iload_n dJI_bitCount_41 rfl ?_
  refine o_iload_n dJI_bitCount_42 rfl ?_
  refine o_bipush (nI 16) dJI_bitCount_43 rfl ?_
  refine o_iushr dJI_bitCount_45 ?_
  refine o_iadd dJI_bitCount_46 ?_
  refine o_istore_n [(0, _)] dJI_bitCount_47 rfl rfl ?_
  refine o_iload_n dJI_bitCount_48 rfl ?_
  refine o_bipush (nI 63) dJI_bitCount_49 rfl ?_
  refine o_iand dJI_bitCount_51 ?_
  refine m_iret dJI_bitCount_52 rfl ?_
  rw [b_count l hl]
  exact k
theorem oUp_oUp {H : oH} {r : Nat} {a c : oC} : oUp (oUp H r a) r c = oUp H r c := by
  unfold oUp
  rw [bx_uu]
theorem oUp_s {H : oH} {r : Nat} {c : oC} : (oUp H r c).2 r = some c := by simp [oUp, va_up]
theorem l_fill {G : oG} {H : oH} {b : Nat × Nat} {Q : oP} {r t n : Nat} {f : Nat → Int32} {v : Int32} (ht : oTyL[t]? = some .int) (hN : Nat.ble n 100000 = true) (j : Nat) (hj : j ≤ n) (he : H.2 r = some (.inl (t, n, fun q => if q < j then v else f q))) (k : Q none (oUp H r (.inl (t, n, fun q => if q < n then v else f q)))) : Ok G M_JA_fill 5 [(0, .inr (some r)), (1, .inl v), (2, .inl (nI j)), (3, .inl (nI n))] [] H b Q := by
  have hN2 := Nat.le_of_ble_eq_true hN
  refine o_iload_n dJA_fill_5 rfl ?_
  refine o_iload_n dJA_fill_6 rfl ?_
  refine n_icmp_ge 20 dJA_fill_7 rfl (by omega) (by omega) (fun h => ?_) (fun h => ?_)
  · have hjn : j = n := by omega
    subst hjn
    refine o_vret dJA_fill_20 rfl ?_
    have e : oUp H r (.inl (t, j, fun q => if q < j then v else f q)) = H := by
      refine Prod.ext rfl (funext fun q => ?_)
      by_cases hq : q = r
      · rw [hq, he]; simp [oUp, va_up]
      · simp [oUp, va_up, hq]
    rw [e] at k
    exact k
  · refine o_aload_n dJA_fill_10 rfl ?_
    refine o_iload_n dJA_fill_11 rfl ?_
    refine o_iload_n dJA_fill_12 rfl ?_
    refine o_iast j dJA_fill_13 he ht (Nat.ble_eq_true_of_le (by omega)) rfl h ?_
    refine o_iinc (nI (j + 1)) [(0, _), (1, _), (2, _), (3, _)] dJA_fill_14 rfl (nInc _) rfl rfl ?_
    refine o_goto 5 dJA_fill_17 rfl ?_
    have e : upd (fun q => if q < j then v else f q) j v = fun q => if q < j + 1 then v else f q := by
      funext q
      by_cases hq : q = j
      · simp [upd, hq]
      · by_cases hl : q < j
        · simp [upd, hq, hl, Nat.lt_succ_of_lt hl]
        · have h3 : ¬ q < j + 1 := by omega
          simp [upd, hq, hl, h3]
    rw [e]
    exact l_fill ht hN (j + 1) (by omega) oUp_s (by rw [oUp_oUp]; exact k)
termination_by n - j
theorem j_fill {G : oG} {H : oH} {b : Nat × Nat} {Q : oP} {r t n : Nat} {f : Nat → Int32} {v : Int32} (ht : oTyL[t]? = some .int) (hN : Nat.ble n 100000 = true) (he : H.2 r = some (.inl (t, n, f))) (k : Q none (oUp H r (.inl (t, n, fun q => if q < n then v else f q)))) : Ok G M_JA_fill 0 [(0, .inr (some r)), (1, .inl v)] [] H b Q := by
  refine o_iconst (nI 0) dJA_fill_0 rfl ?_
  refine o_istore_n [(0, _), (1, _), (2, _)] dJA_fill_1 rfl rfl ?_
  refine o_aload_n dJA_fill_2 rfl ?_
  refine o_alen dJA_fill_3 he ht ?_
  refine o_istore_n [(0, _), (1, _), (2, _), (3, _)] dJA_fill_4 rfl rfl ?_
  exact l_fill ht hN 0 (Nat.zero_le _) (by rw [he]; simp) k
theorem m_fill {G : oG} {mu : oMu} {Q : oPm} {t i ty n : Nat} {v : Int32} (hs : sh t i = .inl (ty, n)) (ht : oTyL[ty]? = some .int) (hN : Nat.ble n 100000 = true) (hv : i < cnt t) (k : ∀ mu' : oMu, mu' = up2 mu t i (fun q => if q < n then v else mu t i q) → Q none mu') : Om G M_JA_fill 0 [(0, .inr (some (ad t i))), (1, .inl v)] [] mu Q := by
  refine j_fill ht hN (by rw [enc_ad hv, hs]; rfl) ?_
  refine ⟨up2 mu t i (fun q => if q < n then v else mu t i q), ?_, k _ rfl⟩
  have e : (.inl (ty, n, fun q => if q < n then v else mu t i q) : oC) = oCt (sh t i) (fun q => if q < n then v else mu t i q) := by rw [hs]; rfl
  rw [e, enc_up hv]
theorem c_open {G : oG} {mu : oMu} {Q : oPm} {i s : Nat} (hi : i < 6) (k : ∀ mu' : oMu, (∀ q, q < 6 → mu' 16 i q = -4) → mu' 14 i = upd (upd (upd (mu 14 i) 4 (nI s)) 5 (nI s)) 6 (nI 1) → mfr [(14, i), (16, i)] mu mu' → Q none mu') : Om G M_K_open 0 [(0, .inr (some (ad 14 i))), (1, .inl (nI s))] [] mu Q := by
  refine o_aload_n dK_open_0 rfl ?_
  refine o_iload_n dK_open_1 rfl ?_
  refine m_puti dK_open_2 fs_K_32 rfl rfl hi (fun mu1 hmu1 => ?_)
  refine o_aload_n dK_open_5 rfl ?_
  refine o_iload_n dK_open_6 rfl ?_
  refine m_puti dK_open_7 fs_K_29 rfl rfl hi (fun mu2 hmu2 => ?_)
  refine o_aload_n dK_open_10 rfl ?_
  refine o_iconst (nI 1) dK_open_11 rfl ?_
  refine m_puti dK_open_12 fs_K_35 rfl rfl hi (fun mu3 hmu3 => ?_)
  refine o_aload_n dK_open_15 rfl ?_
  refine m_getr dK_open_16 fl_K_19 rfl rfl hi ?_
  refine o_bipush (-4) dK_open_19 rfl ?_
  refine m_callS M_JA_fill [.inr (some (ad 16 i)), .inl (-4)] [] dK_open_21 mk_JA_fill st_JA_fill ml_K_38 rfl rfl rfl (Nat.le_of_ble_eq_true rfl) rfl ?_
  refine m_fill rfl rfl rfl hi (fun mu4 hmu4 => ?_)
  show Om G M_K_open 24 [(0, .inr (some (ad 14 i))), (1, .inl (nI s))] [] mu4 Q
  refine m_vret dK_open_24 rfl ?_
  refine k mu4 ?_ ?_ ((((mfr_up hmu1 (by simp)).tr (mfr_up hmu2 (by simp))).tr (mfr_up hmu3 (by simp))).tr (mfr_up hmu4 (by simp)))
  · rw [hmu4, up2_s]
    intro q hq
    simp [hq]
  · rw [hmu4, up2_t (by decide), hmu3, up2_s, hmu2, up2_s, hmu1, up2_s]
end
section
/-! The relation of the class's cells to numbers; lists. -/
def rowOk (mu : oMu) (t t' q : Nat) (L : List Nat) : Prop := mu t q 1 = nI L.length ∧ L.length ≤ 40 ∧ ∀ j, j < L.length → mu t' q j = nI (L.getD j 0)
def ReC (mu : oMu) (m : Nat) (ky vr nd : Nat → Nat) (dp : Nat → Nat → Nat) (vl : Nat → Int32) (sn ck : Nat → Nat → Nat) (wt fl : Nat → List Nat) (x h d : Nat → Nat → Nat) (s l r : Nat → Nat) : Prop :=
  wOk mu m ky vr nd dp ∧ (∀ w, w < m → mu 5 w 2 = vl w) ∧
  (∀ c, c < 3 → sOk mu c (sn c) ∧ xOk mu 9 c m (fun k => latN (sn c) ky vr k m) ∧ ∀ p, p < 2 → mu 10 c p = nI (ck c p)) ∧
  (∀ q, q < 6 → rowOk mu 12 13 q (wt q)) ∧ (∀ q, q < 9 → rowOk mu 18 19 q (fl q)) ∧
  ∀ i, i < 6 → (mu 14 i 0 = nI (i % 3) ∧ mu 14 i 4 = nI (s i) ∧ mu 14 i 5 = nI (l i) ∧ mu 14 i 6 = nI (r i)) ∧ xOk mu 15 i m (x i) ∧ xOk mu 16 i m (h i) ∧ xOk mu 17 i m (d i)
section RCS
variable {mu : oMu} {m : Nat} {ky vr nd : Nat → Nat} {dp : Nat → Nat → Nat} {vl : Nat → Int32} {sn ck : Nat → Nat → Nat} {wt fl : Nat → List Nat} {x h d : Nat → Nat → Nat} {s l r : Nat → Nat}
theorem ReC.fw (hC : ReC mu m ky vr nd dp vl sn ck wt fl x h d s l r) : wOk mu m ky vr nd dp := hC.1
theorem ReC.fv (hC : ReC mu m ky vr nd dp vl sn ck wt fl x h d s l r) {w : Nat} (hw : w < m) : mu 5 w 2 = vl w := hC.2.1 w hw
theorem ReC.fsn (hC : ReC mu m ky vr nd dp vl sn ck wt fl x h d s l r) {c : Nat} (hc : c < 3) : sOk mu c (sn c) := (hC.2.2.1 c hc).1
theorem ReC.fnw (hC : ReC mu m ky vr nd dp vl sn ck wt fl x h d s l r) {c : Nat} (hc : c < 3) : xOk mu 9 c m (fun k => latN (sn c) ky vr k m) := (hC.2.2.1 c hc).2.1
theorem ReC.fck (hC : ReC mu m ky vr nd dp vl sn ck wt fl x h d s l r) {c p : Nat} (hc : c < 3) (hp : p < 2) : mu 10 c p = nI (ck c p) := (hC.2.2.1 c hc).2.2 p hp
theorem ReC.fwt (hC : ReC mu m ky vr nd dp vl sn ck wt fl x h d s l r) {q : Nat} (hq : q < 6) : rowOk mu 12 13 q (wt q) := hC.2.2.2.1 q hq
theorem ReC.ffl (hC : ReC mu m ky vr nd dp vl sn ck wt fl x h d s l r) {q : Nat} (hq : q < 9) : rowOk mu 18 19 q (fl q) := hC.2.2.2.2.1 q hq
theorem ReC.fce (hC : ReC mu m ky vr nd dp vl sn ck wt fl x h d s l r) {i : Nat} (hi : i < 6) : mu 14 i 0 = nI (i % 3) := (hC.2.2.2.2.2 i hi).1.1
theorem ReC.fse (hC : ReC mu m ky vr nd dp vl sn ck wt fl x h d s l r) {i : Nat} (hi : i < 6) : mu 14 i 4 = nI (s i) := (hC.2.2.2.2.2 i hi).1.2.1
theorem ReC.fle (hC : ReC mu m ky vr nd dp vl sn ck wt fl x h d s l r) {i : Nat} (hi : i < 6) : mu 14 i 5 = nI (l i) := (hC.2.2.2.2.2 i hi).1.2.2.1
theorem ReC.fro (hC : ReC mu m ky vr nd dp vl sn ck wt fl x h d s l r) {i : Nat} (hi : i < 6) : mu 14 i 6 = nI (r i) := (hC.2.2.2.2.2 i hi).1.2.2.2
theorem ReC.fx (hC : ReC mu m ky vr nd dp vl sn ck wt fl x h d s l r) {i : Nat} (hi : i < 6) : xOk mu 15 i m (x i) := (hC.2.2.2.2.2 i hi).2.1
theorem ReC.fh (hC : ReC mu m ky vr nd dp vl sn ck wt fl x h d s l r) {i : Nat} (hi : i < 6) : xOk mu 16 i m (h i) := (hC.2.2.2.2.2 i hi).2.2.1
theorem ReC.fd (hC : ReC mu m ky vr nd dp vl sn ck wt fl x h d s l r) {i : Nat} (hi : i < 6) : xOk mu 17 i m (d i) := (hC.2.2.2.2.2 i hi).2.2.2
end RCS
theorem rng (x : Int32) (n : Nat) (hn : n < 2147483648) : (∃ j, j < n ∧ x = nI j) ∨ ∀ j, j < n → ¬ x = nI j := by
  by_cases h : ∃ j, j < n ∧ x = nI j
  · exact Or.inl h
  · exact Or.inr fun j hj e => h ⟨j, hj, e⟩
theorem c_isClient_y {G : oG} {mu : oMu} {Q : oPm} {j : Nat} (hj : j < 6) (k : Q (some (.inl (nI 1))) mu) : Om G M_S_isClient 0 [(0, .inl (nI j))] [] mu Q := c_isClient (fun _ _ _ => k) (fun h => absurd rfl (h j hj))
theorem c_isClient_n {G : oG} {mu : oMu} {Q : oPm} {x : Int32} (h : ∀ j, j < 6 → ¬ x = nI j) (k : Q (some (.inl (nI 0))) mu) : Om G M_S_isClient 0 [(0, .inl x)] [] mu Q := c_isClient (fun j hj e => absurd e (h j hj)) (fun _ => k)
theorem c_isKey_y {G : oG} {mu : oMu} {Q : oPm} {j : Nat} (hj : j < 6) (k : Q (some (.inl (nI 1))) mu) : Om G M_S_isKey 0 [(0, .inl (nI j))] [] mu Q := c_isKey (fun _ _ _ => k) (fun h => absurd rfl (h j hj))
theorem c_isKey_n {G : oG} {mu : oMu} {Q : oPm} {x : Int32} (h : ∀ j, j < 6 → ¬ x = nI j) (k : Q (some (.inl (nI 0))) mu) : Om G M_S_isKey 0 [(0, .inl x)] [] mu Q := c_isKey (fun j hj e => absurd e (h j hj)) (fun _ => k)
theorem c_isCenter_y {G : oG} {mu : oMu} {Q : oPm} {j : Nat} (hj : j < 3) (k : Q (some (.inl (nI 1))) mu) : Om G M_S_isCenter 0 [(0, .inl (nI j))] [] mu Q := c_isCenter (fun _ _ _ => k) (fun h => absurd rfl (h j hj))
theorem c_isCenter_n {G : oG} {mu : oMu} {Q : oPm} {x : Int32} (h : ∀ j, j < 3 → ¬ x = nI j) (k : Q (some (.inl (nI 0))) mu) : Om G M_S_isCenter 0 [(0, .inl x)] [] mu Q := c_isCenter (fun j hj e => absurd e (h j hj)) (fun _ => k)
theorem c_isPartition_y {G : oG} {mu : oMu} {Q : oPm} {j : Nat} (hj : j < 2) (k : Q (some (.inl (nI 1))) mu) : Om G M_S_isPartition 0 [(0, .inl (nI j))] [] mu Q := c_isPartition (fun _ _ _ => k) (fun h => absurd rfl (h j hj))
theorem c_isPartition_n {G : oG} {mu : oMu} {Q : oPm} {x : Int32} (h : ∀ j, j < 2 → ¬ x = nI j) (k : Q (some (.inl (nI 0))) mu) : Om G M_S_isPartition 0 [(0, .inl x)] [] mu Q := c_isPartition (fun j hj e => absurd e (h j hj)) (fun _ => k)
theorem c_isWrite_y {G : oG} {mu : oMu} {Q : oPm} {w m : Nat} (hm : mu 0 0 4 = nI m) (hm4 : m ≤ 40) (hw : w < m) (k : Q (some (.inl (nI 1))) mu) : Om G M_S_isWrite 0 [(0, .inr (some (ad 0 0))), (1, .inl (nI w))] [] mu Q := c_isWrite hm hm4 (fun _ _ _ => k) (fun h => absurd rfl (h w hw))
theorem c_isWrite_n {G : oG} {mu : oMu} {Q : oPm} {x : Int32} {m : Nat} (hm : mu 0 0 4 = nI m) (hm4 : m ≤ 40) (h : ∀ j, j < m → ¬ x = nI j) (k : Q (some (.inl (nI 0))) mu) : Om G M_S_isWrite 0 [(0, .inr (some (ad 0 0))), (1, .inl x)] [] mu Q := c_isWrite hm hm4 (fun j hj e => absurd e (h j hj)) (fun _ => k)
theorem c_at_y {G : oG} {mu : oMu} {Q : oPm} {q j : Nat} {L : List Nat} (hq : q < 9) (hr : rowOk mu 18 19 q L) (hj : j < L.length) (k : Q (some (.inl (nI (L.getD j 0)))) mu) : Om G M_R_at 0 [(0, .inr (some (ad 18 q))), (1, .inl (nI j))] [] mu Q :=
  c_at_18 hq hr.1 hr.2.1 (fun z hz e => by
    have hzj : z = j := ((nI_eq (by have := hr.2.1; omega) (by have := hr.2.1; omega)).mp e).symm
    subst hzj
    rw [hr.2.2 z hz]
    exact k) (fun h => absurd rfl (h j hj))
theorem c_at_n {G : oG} {mu : oMu} {Q : oPm} {q : Nat} {x : Int32} {L : List Nat} (hq : q < 9) (hr : rowOk mu 18 19 q L) (h : ∀ j, j < L.length → ¬ x = nI j) (k : Q (some (.inl (-4))) mu) : Om G M_R_at 0 [(0, .inr (some (ad 18 q))), (1, .inl x)] [] mu Q :=
  c_at_18 hq hr.1 hr.2.1 (fun z hz e => absurd e (h z hz)) (fun _ => k)
theorem c_wat_y {G : oG} {mu : oMu} {Q : oPm} {q j : Nat} {L : List Nat} (hq : q < 6) (hr : rowOk mu 12 13 q L) (hj : j < L.length) (k : Q (some (.inl (nI (L.getD j 0)))) mu) : Om G M_R_at 0 [(0, .inr (some (ad 12 q))), (1, .inl (nI j))] [] mu Q :=
  c_at_12 hq hr.1 hr.2.1 (fun z hz e => by
    have hzj : z = j := ((nI_eq (by have := hr.2.1; omega) (by have := hr.2.1; omega)).mp e).symm
    subst hzj
    rw [hr.2.2 z hz]
    exact k) (fun h => absurd rfl (h j hj))
theorem c_wat_n {G : oG} {mu : oMu} {Q : oPm} {q : Nat} {x : Int32} {L : List Nat} (hq : q < 6) (hr : rowOk mu 12 13 q L) (h : ∀ j, j < L.length → ¬ x = nI j) (k : Q (some (.inl (-4))) mu) : Om G M_R_at 0 [(0, .inr (some (ad 12 q))), (1, .inl x)] [] mu Q :=
  c_at_12 hq hr.1 hr.2.1 (fun z hz e => absurd e (h z hz)) (fun _ => k)
theorem C_got_b1 {G : oG} {mu : oMu} {Q : oPm} {a b : Int32} (ha : ∀ j, j < 6 → ¬ a = nI j) (k : Q (some (.inl (-1))) mu) : Om G M_S_got 0 [(0, .inr (some (ad 0 0))), (1, .inl a), (2, .inl b)] [] mu Q := by
  refine o_iload_n dS_got_0 rfl ?_
  refine m_callS M_S_isClient [.inl a] [] dS_got_1 mk_S_isClient st_S_isClient ml_S_39 rfl rfl rfl (Nat.le_of_ble_eq_true rfl) rfl ?_
  refine c_isClient_n ha ?_
  show Om G M_S_got 4 [(0, .inr (some (ad 0 0))), (1, .inl a), (2, .inl b)] [.inl (nI 0)] mu Q
  refine n_if_eq 28 dS_got_4 rfl (by omega) (fun _ => ?_) (fun h => absurd h (by decide))
  refine o_iconst (-1) dS_got_28 rfl ?_
  refine m_iret dS_got_29 rfl ?_
  exact k
theorem C_got_b2 {G : oG} {mu : oMu} {Q : oPm} {i : Nat} {b : Int32} (hi : i < 6) (hb : ∀ j, j < 6 → ¬ b = nI j) (k : Q (some (.inl (-1))) mu) : Om G M_S_got 0 [(0, .inr (some (ad 0 0))), (1, .inl (nI i)), (2, .inl b)] [] mu Q := by
  refine o_iload_n dS_got_0 rfl ?_
  refine m_callS M_S_isClient [.inl (nI i)] [] dS_got_1 mk_S_isClient st_S_isClient ml_S_39 rfl rfl rfl (Nat.le_of_ble_eq_true rfl) rfl ?_
  refine c_isClient_y hi ?_
  show Om G M_S_got 4 [(0, .inr (some (ad 0 0))), (1, .inl (nI i)), (2, .inl b)] [.inl (nI 1)] mu Q
  refine n_if_eq 28 dS_got_4 rfl (by omega) (fun h => absurd h (by decide)) (fun _ => ?_)
  refine o_iload_n dS_got_7 rfl ?_
  refine m_callS M_S_isKey [.inl b] [] dS_got_8 mk_S_isKey st_S_isKey ml_S_43 rfl rfl rfl (Nat.le_of_ble_eq_true rfl) rfl ?_
  refine c_isKey_n hb ?_
  show Om G M_S_got 11 [(0, .inr (some (ad 0 0))), (1, .inl (nI i)), (2, .inl b)] [.inl (nI 0)] mu Q
  refine n_if_eq 28 dS_got_11 rfl (by omega) (fun _ => ?_) (fun h => absurd h (by decide))
  refine o_iconst (-1) dS_got_28 rfl ?_
  refine m_iret dS_got_29 rfl ?_
  exact k
theorem C_got {G : oG} {mu : oMu} {Q : oPm} {m : Nat} {ky vr nd : Nat → Nat} {dp : Nat → Nat → Nat} {vl : Nat → Int32} {sn ck : Nat → Nat → Nat} {wt fl : Nat → List Nat} {x h d : Nat → Nat → Nat} {s l r : Nat → Nat} (hC : ReC mu m ky vr nd dp vl sn ck wt fl x h d s l r) {i q : Nat} (hi : i < 6) (hq : q < 6) (k : Q (some (.inl (dec (h i q)))) mu) : Om G M_S_got 0 [(0, .inr (some (ad 0 0))), (1, .inl (nI i)), (2, .inl (nI q))] [] mu Q := by
  refine o_iload_n dS_got_0 rfl ?_
  refine m_callS M_S_isClient [.inl (nI i)] [] dS_got_1 mk_S_isClient st_S_isClient ml_S_39 rfl rfl rfl (Nat.le_of_ble_eq_true rfl) rfl ?_
  refine c_isClient_y hi ?_
  show Om G M_S_got 4 [(0, .inr (some (ad 0 0))), (1, .inl (nI i)), (2, .inl (nI q))] [.inl (nI 1)] mu Q
  refine n_if_eq 28 dS_got_4 rfl (by omega) (fun h => absurd h (by decide)) (fun _ => ?_)
  refine o_iload_n dS_got_7 rfl ?_
  refine m_callS M_S_isKey [.inl (nI q)] [] dS_got_8 mk_S_isKey st_S_isKey ml_S_43 rfl rfl rfl (Nat.le_of_ble_eq_true rfl) rfl ?_
  refine c_isKey_y hq ?_
  show Om G M_S_got 11 [(0, .inr (some (ad 0 0))), (1, .inl (nI i)), (2, .inl (nI q))] [.inl (nI 1)] mu Q
  refine n_if_eq 28 dS_got_11 rfl (by omega) (fun h => absurd h (by decide)) (fun _ => ?_)
  refine o_aload_n dS_got_14 rfl ?_
  refine m_getr dS_got_15 fl_S_23 rfl rfl (by decide) ?_
  refine o_iload_n dS_got_18 rfl ?_
  refine m_aald i dS_got_19 rfl rfl rfl (by decide) rfl (sh_q3 hi) ?_
  refine m_getr dS_got_20 fl_S_116 rfl rfl hi ?_
  refine o_iload_n dS_got_23 rfl ?_
  refine m_iald q dS_got_24 rfl rfl rfl hi rfl hq ?_
  refine o_top (dec (h i q)) (hC.fh hi q hq).1 ?_
  refine o_goto 29 dS_got_25 rfl ?_
  refine m_iret dS_got_29 rfl ?_
  exact k
theorem C_latest_b1 {G : oG} {mu : oMu} {Q : oPm} {a b : Int32} (ha : ∀ j, j < 3 → ¬ a = nI j) (k : Q (some (.inl (-1))) mu) : Om G M_S_latest 0 [(0, .inr (some (ad 0 0))), (1, .inl a), (2, .inl b)] [] mu Q := by
  refine o_iload_n dS_latest_0 rfl ?_
  refine m_callS M_S_isCenter [.inl a] [] dS_latest_1 mk_S_isCenter st_S_isCenter ml_S_150 rfl rfl rfl (Nat.le_of_ble_eq_true rfl) rfl ?_
  refine c_isCenter_n ha ?_
  show Om G M_S_latest 4 [(0, .inr (some (ad 0 0))), (1, .inl a), (2, .inl b)] [.inl (nI 0)] mu Q
  refine n_if_eq 28 dS_latest_4 rfl (by omega) (fun _ => ?_) (fun h => absurd h (by decide))
  refine o_iconst (-1) dS_latest_28 rfl ?_
  refine m_iret dS_latest_29 rfl ?_
  exact k
theorem C_latest_b2 {G : oG} {mu : oMu} {Q : oPm} {i : Nat} {b : Int32} (hi : i < 3) (hb : ∀ j, j < 6 → ¬ b = nI j) (k : Q (some (.inl (-1))) mu) : Om G M_S_latest 0 [(0, .inr (some (ad 0 0))), (1, .inl (nI i)), (2, .inl b)] [] mu Q := by
  refine o_iload_n dS_latest_0 rfl ?_
  refine m_callS M_S_isCenter [.inl (nI i)] [] dS_latest_1 mk_S_isCenter st_S_isCenter ml_S_150 rfl rfl rfl (Nat.le_of_ble_eq_true rfl) rfl ?_
  refine c_isCenter_y hi ?_
  show Om G M_S_latest 4 [(0, .inr (some (ad 0 0))), (1, .inl (nI i)), (2, .inl b)] [.inl (nI 1)] mu Q
  refine n_if_eq 28 dS_latest_4 rfl (by omega) (fun h => absurd h (by decide)) (fun _ => ?_)
  refine o_iload_n dS_latest_7 rfl ?_
  refine m_callS M_S_isKey [.inl b] [] dS_latest_8 mk_S_isKey st_S_isKey ml_S_43 rfl rfl rfl (Nat.le_of_ble_eq_true rfl) rfl ?_
  refine c_isKey_n hb ?_
  show Om G M_S_latest 11 [(0, .inr (some (ad 0 0))), (1, .inl (nI i)), (2, .inl b)] [.inl (nI 0)] mu Q
  refine n_if_eq 28 dS_latest_11 rfl (by omega) (fun _ => ?_) (fun h => absurd h (by decide))
  refine o_iconst (-1) dS_latest_28 rfl ?_
  refine m_iret dS_latest_29 rfl ?_
  exact k
theorem C_latest {G : oG} {mu : oMu} {Q : oPm} {m : Nat} {ky vr nd : Nat → Nat} {dp : Nat → Nat → Nat} {vl : Nat → Int32} {sn ck : Nat → Nat → Nat} {wt fl : Nat → List Nat} {x h d : Nat → Nat → Nat} {s l r : Nat → Nat} (hC : ReC mu m ky vr nd dp vl sn ck wt fl x h d s l r) {i q : Nat} (hi : i < 3) (hq : q < 6) (k : Q (some (.inl (dec (latN (sn i) ky vr q m)))) mu) : Om G M_S_latest 0 [(0, .inr (some (ad 0 0))), (1, .inl (nI i)), (2, .inl (nI q))] [] mu Q := by
  refine o_iload_n dS_latest_0 rfl ?_
  refine m_callS M_S_isCenter [.inl (nI i)] [] dS_latest_1 mk_S_isCenter st_S_isCenter ml_S_150 rfl rfl rfl (Nat.le_of_ble_eq_true rfl) rfl ?_
  refine c_isCenter_y hi ?_
  show Om G M_S_latest 4 [(0, .inr (some (ad 0 0))), (1, .inl (nI i)), (2, .inl (nI q))] [.inl (nI 1)] mu Q
  refine n_if_eq 28 dS_latest_4 rfl (by omega) (fun h => absurd h (by decide)) (fun _ => ?_)
  refine o_iload_n dS_latest_7 rfl ?_
  refine m_callS M_S_isKey [.inl (nI q)] [] dS_latest_8 mk_S_isKey st_S_isKey ml_S_43 rfl rfl rfl (Nat.le_of_ble_eq_true rfl) rfl ?_
  refine c_isKey_y hq ?_
  show Om G M_S_latest 11 [(0, .inr (some (ad 0 0))), (1, .inl (nI i)), (2, .inl (nI q))] [.inl (nI 1)] mu Q
  refine n_if_eq 28 dS_latest_11 rfl (by omega) (fun h => absurd h (by decide)) (fun _ => ?_)
  refine o_aload_n dS_latest_14 rfl ?_
  refine m_getr dS_latest_15 fl_S_17 rfl rfl (by decide) ?_
  refine o_iload_n dS_latest_18 rfl ?_
  refine m_aald i dS_latest_19 rfl rfl rfl (by decide) rfl (sh_q2 hi) ?_
  refine m_getr dS_latest_20 fl_S_88 rfl rfl hi ?_
  refine o_iload_n dS_latest_23 rfl ?_
  refine m_iald q dS_latest_24 rfl rfl rfl hi rfl hq ?_
  refine o_top (dec (latN (sn i) ky vr q m)) (hC.fnw hi q hq).1 ?_
  refine o_goto 29 dS_latest_25 rfl ?_
  refine m_iret dS_latest_29 rfl ?_
  exact k
theorem C_clock_b1 {G : oG} {mu : oMu} {Q : oPm} {a b : Int32} (ha : ∀ j, j < 3 → ¬ a = nI j) (k : Q (some (.inl (-1))) mu) : Om G M_S_clock 0 [(0, .inr (some (ad 0 0))), (1, .inl a), (2, .inl b)] [] mu Q := by
  refine o_iload_n dS_clock_0 rfl ?_
  refine m_callS M_S_isCenter [.inl a] [] dS_clock_1 mk_S_isCenter st_S_isCenter ml_S_150 rfl rfl rfl (Nat.le_of_ble_eq_true rfl) rfl ?_
  refine c_isCenter_n ha ?_
  show Om G M_S_clock 4 [(0, .inr (some (ad 0 0))), (1, .inl a), (2, .inl b)] [.inl (nI 0)] mu Q
  refine n_if_eq 28 dS_clock_4 rfl (by omega) (fun _ => ?_) (fun h => absurd h (by decide))
  refine o_iconst (-1) dS_clock_28 rfl ?_
  refine m_iret dS_clock_29 rfl ?_
  exact k
theorem C_clock_b2 {G : oG} {mu : oMu} {Q : oPm} {i : Nat} {b : Int32} (hi : i < 3) (hb : ∀ j, j < 2 → ¬ b = nI j) (k : Q (some (.inl (-1))) mu) : Om G M_S_clock 0 [(0, .inr (some (ad 0 0))), (1, .inl (nI i)), (2, .inl b)] [] mu Q := by
  refine o_iload_n dS_clock_0 rfl ?_
  refine m_callS M_S_isCenter [.inl (nI i)] [] dS_clock_1 mk_S_isCenter st_S_isCenter ml_S_150 rfl rfl rfl (Nat.le_of_ble_eq_true rfl) rfl ?_
  refine c_isCenter_y hi ?_
  show Om G M_S_clock 4 [(0, .inr (some (ad 0 0))), (1, .inl (nI i)), (2, .inl b)] [.inl (nI 1)] mu Q
  refine n_if_eq 28 dS_clock_4 rfl (by omega) (fun h => absurd h (by decide)) (fun _ => ?_)
  refine o_iload_n dS_clock_7 rfl ?_
  refine m_callS M_S_isPartition [.inl b] [] dS_clock_8 mk_S_isPartition st_S_isPartition ml_S_153 rfl rfl rfl (Nat.le_of_ble_eq_true rfl) rfl ?_
  refine c_isPartition_n hb ?_
  show Om G M_S_clock 11 [(0, .inr (some (ad 0 0))), (1, .inl (nI i)), (2, .inl b)] [.inl (nI 0)] mu Q
  refine n_if_eq 28 dS_clock_11 rfl (by omega) (fun _ => ?_) (fun h => absurd h (by decide))
  refine o_iconst (-1) dS_clock_28 rfl ?_
  refine m_iret dS_clock_29 rfl ?_
  exact k
theorem C_clock {G : oG} {mu : oMu} {Q : oPm} {m : Nat} {ky vr nd : Nat → Nat} {dp : Nat → Nat → Nat} {vl : Nat → Int32} {sn ck : Nat → Nat → Nat} {wt fl : Nat → List Nat} {x h d : Nat → Nat → Nat} {s l r : Nat → Nat} (hC : ReC mu m ky vr nd dp vl sn ck wt fl x h d s l r) {i q : Nat} (hi : i < 3) (hq : q < 2) (k : Q (some (.inl (nI (ck i q)))) mu) : Om G M_S_clock 0 [(0, .inr (some (ad 0 0))), (1, .inl (nI i)), (2, .inl (nI q))] [] mu Q := by
  refine o_iload_n dS_clock_0 rfl ?_
  refine m_callS M_S_isCenter [.inl (nI i)] [] dS_clock_1 mk_S_isCenter st_S_isCenter ml_S_150 rfl rfl rfl (Nat.le_of_ble_eq_true rfl) rfl ?_
  refine c_isCenter_y hi ?_
  show Om G M_S_clock 4 [(0, .inr (some (ad 0 0))), (1, .inl (nI i)), (2, .inl (nI q))] [.inl (nI 1)] mu Q
  refine n_if_eq 28 dS_clock_4 rfl (by omega) (fun h => absurd h (by decide)) (fun _ => ?_)
  refine o_iload_n dS_clock_7 rfl ?_
  refine m_callS M_S_isPartition [.inl (nI q)] [] dS_clock_8 mk_S_isPartition st_S_isPartition ml_S_153 rfl rfl rfl (Nat.le_of_ble_eq_true rfl) rfl ?_
  refine c_isPartition_y hq ?_
  show Om G M_S_clock 11 [(0, .inr (some (ad 0 0))), (1, .inl (nI i)), (2, .inl (nI q))] [.inl (nI 1)] mu Q
  refine n_if_eq 28 dS_clock_11 rfl (by omega) (fun h => absurd h (by decide)) (fun _ => ?_)
  refine o_aload_n dS_clock_14 rfl ?_
  refine m_getr dS_clock_15 fl_S_17 rfl rfl (by decide) ?_
  refine o_iload_n dS_clock_18 rfl ?_
  refine m_aald i dS_clock_19 rfl rfl rfl (by decide) rfl (sh_q2 hi) ?_
  refine m_getr dS_clock_20 fl_S_132 rfl rfl hi ?_
  refine o_iload_n dS_clock_23 rfl ?_
  refine m_iald q dS_clock_24 rfl rfl rfl hi rfl hq ?_
  refine o_top (nI (ck i q)) (hC.fck hi hq) ?_
  refine o_goto 29 dS_clock_25 rfl ?_
  refine m_iret dS_clock_29 rfl ?_
  exact k
theorem C_context_b1 {G : oG} {mu : oMu} {Q : oPm} {a b : Int32} (ha : ∀ j, j < 6 → ¬ a = nI j) (k : Q (some (.inl (-1))) mu) : Om G M_S_context 0 [(0, .inr (some (ad 0 0))), (1, .inl a), (2, .inl b)] [] mu Q := by
  refine o_iload_n dS_context_0 rfl ?_
  refine m_callS M_S_isClient [.inl a] [] dS_context_1 mk_S_isClient st_S_isClient ml_S_39 rfl rfl rfl (Nat.le_of_ble_eq_true rfl) rfl ?_
  refine c_isClient_n ha ?_
  show Om G M_S_context 4 [(0, .inr (some (ad 0 0))), (1, .inl a), (2, .inl b)] [.inl (nI 0)] mu Q
  refine n_if_eq 28 dS_context_4 rfl (by omega) (fun _ => ?_) (fun h => absurd h (by decide))
  refine o_iconst (-1) dS_context_28 rfl ?_
  refine m_iret dS_context_29 rfl ?_
  exact k
theorem C_context_b2 {G : oG} {mu : oMu} {Q : oPm} {i : Nat} {b : Int32} (hi : i < 6) (hb : ∀ j, j < 6 → ¬ b = nI j) (k : Q (some (.inl (-1))) mu) : Om G M_S_context 0 [(0, .inr (some (ad 0 0))), (1, .inl (nI i)), (2, .inl b)] [] mu Q := by
  refine o_iload_n dS_context_0 rfl ?_
  refine m_callS M_S_isClient [.inl (nI i)] [] dS_context_1 mk_S_isClient st_S_isClient ml_S_39 rfl rfl rfl (Nat.le_of_ble_eq_true rfl) rfl ?_
  refine c_isClient_y hi ?_
  show Om G M_S_context 4 [(0, .inr (some (ad 0 0))), (1, .inl (nI i)), (2, .inl b)] [.inl (nI 1)] mu Q
  refine n_if_eq 28 dS_context_4 rfl (by omega) (fun h => absurd h (by decide)) (fun _ => ?_)
  refine o_iload_n dS_context_7 rfl ?_
  refine m_callS M_S_isKey [.inl b] [] dS_context_8 mk_S_isKey st_S_isKey ml_S_43 rfl rfl rfl (Nat.le_of_ble_eq_true rfl) rfl ?_
  refine c_isKey_n hb ?_
  show Om G M_S_context 11 [(0, .inr (some (ad 0 0))), (1, .inl (nI i)), (2, .inl b)] [.inl (nI 0)] mu Q
  refine n_if_eq 28 dS_context_11 rfl (by omega) (fun _ => ?_) (fun h => absurd h (by decide))
  refine o_iconst (-1) dS_context_28 rfl ?_
  refine m_iret dS_context_29 rfl ?_
  exact k
theorem C_context {G : oG} {mu : oMu} {Q : oPm} {m : Nat} {ky vr nd : Nat → Nat} {dp : Nat → Nat → Nat} {vl : Nat → Int32} {sn ck : Nat → Nat → Nat} {wt fl : Nat → List Nat} {x h d : Nat → Nat → Nat} {s l r : Nat → Nat} (hC : ReC mu m ky vr nd dp vl sn ck wt fl x h d s l r) {i q : Nat} (hi : i < 6) (hq : q < 6) (k : Q (some (.inl (dec (x i q)))) mu) : Om G M_S_context 0 [(0, .inr (some (ad 0 0))), (1, .inl (nI i)), (2, .inl (nI q))] [] mu Q := by
  refine o_iload_n dS_context_0 rfl ?_
  refine m_callS M_S_isClient [.inl (nI i)] [] dS_context_1 mk_S_isClient st_S_isClient ml_S_39 rfl rfl rfl (Nat.le_of_ble_eq_true rfl) rfl ?_
  refine c_isClient_y hi ?_
  show Om G M_S_context 4 [(0, .inr (some (ad 0 0))), (1, .inl (nI i)), (2, .inl (nI q))] [.inl (nI 1)] mu Q
  refine n_if_eq 28 dS_context_4 rfl (by omega) (fun h => absurd h (by decide)) (fun _ => ?_)
  refine o_iload_n dS_context_7 rfl ?_
  refine m_callS M_S_isKey [.inl (nI q)] [] dS_context_8 mk_S_isKey st_S_isKey ml_S_43 rfl rfl rfl (Nat.le_of_ble_eq_true rfl) rfl ?_
  refine c_isKey_y hq ?_
  show Om G M_S_context 11 [(0, .inr (some (ad 0 0))), (1, .inl (nI i)), (2, .inl (nI q))] [.inl (nI 1)] mu Q
  refine n_if_eq 28 dS_context_11 rfl (by omega) (fun h => absurd h (by decide)) (fun _ => ?_)
  refine o_aload_n dS_context_14 rfl ?_
  refine m_getr dS_context_15 fl_S_23 rfl rfl (by decide) ?_
  refine o_iload_n dS_context_18 rfl ?_
  refine m_aald i dS_context_19 rfl rfl rfl (by decide) rfl (sh_q3 hi) ?_
  refine m_getr dS_context_20 fl_S_65 rfl rfl hi ?_
  refine o_iload_n dS_context_23 rfl ?_
  refine m_iald q dS_context_24 rfl rfl rfl hi rfl hq ?_
  refine o_top (dec (x i q)) (hC.fx hi q hq).1 ?_
  refine o_goto 29 dS_context_25 rfl ?_
  refine m_iret dS_context_29 rfl ?_
  exact k
theorem C_flight_b1 {G : oG} {mu : oMu} {Q : oPm} {a b : Int32} (ha : ∀ j, j < 3 → ¬ a = nI j) (k : Q (some (.inl (nI 0))) mu) : Om G M_S_flight 0 [(0, .inr (some (ad 0 0))), (1, .inl a), (2, .inl b)] [] mu Q := by
  refine o_iload_n dS_flight_0 rfl ?_
  refine m_callS M_S_isCenter [.inl a] [] dS_flight_1 mk_S_isCenter st_S_isCenter ml_S_150 rfl rfl rfl (Nat.le_of_ble_eq_true rfl) rfl ?_
  refine c_isCenter_n ha ?_
  show Om G M_S_flight 4 [(0, .inr (some (ad 0 0))), (1, .inl a), (2, .inl b)] [.inl (nI 0)] mu Q
  refine n_if_eq 30 dS_flight_4 rfl (by omega) (fun _ => ?_) (fun h => absurd h (by decide))
  refine o_iconst (nI 0) dS_flight_30 rfl ?_
  refine m_iret dS_flight_31 rfl ?_
  exact k
theorem C_flight_b2 {G : oG} {mu : oMu} {Q : oPm} {i : Nat} {b : Int32} (hi : i < 3) (hb : ∀ j, j < 3 → ¬ b = nI j) (k : Q (some (.inl (nI 0))) mu) : Om G M_S_flight 0 [(0, .inr (some (ad 0 0))), (1, .inl (nI i)), (2, .inl b)] [] mu Q := by
  refine o_iload_n dS_flight_0 rfl ?_
  refine m_callS M_S_isCenter [.inl (nI i)] [] dS_flight_1 mk_S_isCenter st_S_isCenter ml_S_150 rfl rfl rfl (Nat.le_of_ble_eq_true rfl) rfl ?_
  refine c_isCenter_y hi ?_
  show Om G M_S_flight 4 [(0, .inr (some (ad 0 0))), (1, .inl (nI i)), (2, .inl b)] [.inl (nI 1)] mu Q
  refine n_if_eq 30 dS_flight_4 rfl (by omega) (fun h => absurd h (by decide)) (fun _ => ?_)
  refine o_iload_n dS_flight_7 rfl ?_
  refine m_callS M_S_isCenter [.inl b] [] dS_flight_8 mk_S_isCenter st_S_isCenter ml_S_150 rfl rfl rfl (Nat.le_of_ble_eq_true rfl) rfl ?_
  refine c_isCenter_n hb ?_
  show Om G M_S_flight 11 [(0, .inr (some (ad 0 0))), (1, .inl (nI i)), (2, .inl b)] [.inl (nI 0)] mu Q
  refine n_if_eq 30 dS_flight_11 rfl (by omega) (fun _ => ?_) (fun h => absurd h (by decide))
  refine o_iconst (nI 0) dS_flight_30 rfl ?_
  refine m_iret dS_flight_31 rfl ?_
  exact k
theorem C_flight {G : oG} {mu : oMu} {Q : oPm} {m : Nat} {ky vr nd : Nat → Nat} {dp : Nat → Nat → Nat} {vl : Nat → Int32} {sn ck : Nat → Nat → Nat} {wt fl : Nat → List Nat} {x h d : Nat → Nat → Nat} {s l r : Nat → Nat} (hC : ReC mu m ky vr nd dp vl sn ck wt fl x h d s l r) {i q : Nat} (hi : i < 3) (hq : q < 3) (k : Q (some (.inl (nI (fl (i * 3 + q)).length))) mu) : Om G M_S_flight 0 [(0, .inr (some (ad 0 0))), (1, .inl (nI i)), (2, .inl (nI q))] [] mu Q := by
  refine o_iload_n dS_flight_0 rfl ?_
  refine m_callS M_S_isCenter [.inl (nI i)] [] dS_flight_1 mk_S_isCenter st_S_isCenter ml_S_150 rfl rfl rfl (Nat.le_of_ble_eq_true rfl) rfl ?_
  refine c_isCenter_y hi ?_
  show Om G M_S_flight 4 [(0, .inr (some (ad 0 0))), (1, .inl (nI i)), (2, .inl (nI q))] [.inl (nI 1)] mu Q
  refine n_if_eq 30 dS_flight_4 rfl (by omega) (fun h => absurd h (by decide)) (fun _ => ?_)
  refine o_iload_n dS_flight_7 rfl ?_
  refine m_callS M_S_isCenter [.inl (nI q)] [] dS_flight_8 mk_S_isCenter st_S_isCenter ml_S_150 rfl rfl rfl (Nat.le_of_ble_eq_true rfl) rfl ?_
  refine c_isCenter_y hq ?_
  show Om G M_S_flight 11 [(0, .inr (some (ad 0 0))), (1, .inl (nI i)), (2, .inl (nI q))] [.inl (nI 1)] mu Q
  refine n_if_eq 30 dS_flight_11 rfl (by omega) (fun h => absurd h (by decide)) (fun _ => ?_)
  refine o_aload_n dS_flight_14 rfl ?_
  refine m_getr dS_flight_15 fl_S_29 rfl rfl (by decide) ?_
  refine o_iload_n dS_flight_18 rfl ?_
  refine o_iconst (nI 3) dS_flight_19 rfl ?_
  refine o_imul dS_flight_20 ?_
  refine o_top _ (pk_mul _ _) ?_
  refine o_iload_n dS_flight_21 rfl ?_
  refine o_iadd dS_flight_22 ?_
  refine o_top _ (nI_add _ _) ?_
  refine m_aald (i * 3 + q) dS_flight_23 rfl rfl rfl (by decide) rfl (sh_q4 (by omega)) ?_
  refine m_geti dS_flight_24 fl_S_156 rfl rfl (show i * 3 + q < 9 by omega) ?_
  refine o_top (nI ((fl (i * 3 + q)).length)) (hC.ffl (by omega)).1 ?_
  refine o_goto 31 dS_flight_27 rfl ?_
  refine m_iret dS_flight_31 rfl ?_
  exact k
theorem C_pending_b1 {G : oG} {mu : oMu} {Q : oPm} {a b : Int32} (ha : ∀ j, j < 3 → ¬ a = nI j) (k : Q (some (.inl (-1))) mu) : Om G M_S_pending 0 [(0, .inr (some (ad 0 0))), (1, .inl a), (2, .inl b)] [] mu Q := by
  refine o_iload_n dS_pending_0 rfl ?_
  refine m_callS M_S_isCenter [.inl a] [] dS_pending_1 mk_S_isCenter st_S_isCenter ml_S_150 rfl rfl rfl (Nat.le_of_ble_eq_true rfl) rfl ?_
  refine c_isCenter_n ha ?_
  show Om G M_S_pending 4 [(0, .inr (some (ad 0 0))), (1, .inl a), (2, .inl b)] [.inl (nI 0)] mu Q
  refine n_if_eq 14 dS_pending_4 rfl (by omega) (fun _ => ?_) (fun h => absurd h (by decide))
  refine o_iconst (-1) dS_pending_14 rfl ?_
  refine m_iret dS_pending_15 rfl ?_
  exact k
theorem C_pending_b2 {G : oG} {mu : oMu} {Q : oPm} {i : Nat} {b : Int32} (hi : i < 3) (hb : ∀ j, j < 2 → ¬ b = nI j) (k : Q (some (.inl (-1))) mu) : Om G M_S_pending 0 [(0, .inr (some (ad 0 0))), (1, .inl (nI i)), (2, .inl b)] [] mu Q := by
  refine o_iload_n dS_pending_0 rfl ?_
  refine m_callS M_S_isCenter [.inl (nI i)] [] dS_pending_1 mk_S_isCenter st_S_isCenter ml_S_150 rfl rfl rfl (Nat.le_of_ble_eq_true rfl) rfl ?_
  refine c_isCenter_y hi ?_
  show Om G M_S_pending 4 [(0, .inr (some (ad 0 0))), (1, .inl (nI i)), (2, .inl b)] [.inl (nI 1)] mu Q
  refine n_if_eq 14 dS_pending_4 rfl (by omega) (fun h => absurd h (by decide)) (fun _ => ?_)
  refine o_iload_n dS_pending_7 rfl ?_
  refine m_callS M_S_isPartition [.inl b] [] dS_pending_8 mk_S_isPartition st_S_isPartition ml_S_153 rfl rfl rfl (Nat.le_of_ble_eq_true rfl) rfl ?_
  refine c_isPartition_n hb ?_
  show Om G M_S_pending 11 [(0, .inr (some (ad 0 0))), (1, .inl (nI i)), (2, .inl b)] [.inl (nI 0)] mu Q
  refine n_if_ne 16 dS_pending_11 rfl (by omega) (fun h => absurd h (by decide)) (fun _ => ?_)
  refine o_iconst (-1) dS_pending_14 rfl ?_
  refine m_iret dS_pending_15 rfl ?_
  exact k
theorem C_pending {G : oG} {mu : oMu} {Q : oPm} {m : Nat} {ky vr nd : Nat → Nat} {dp : Nat → Nat → Nat} {vl : Nat → Int32} {sn ck : Nat → Nat → Nat} {wt fl : Nat → List Nat} {x h d : Nat → Nat → Nat} {s l r : Nat → Nat} (hC : ReC mu m ky vr nd dp vl sn ck wt fl x h d s l r) {i q : Nat} (hi : i < 3) (hq : q < 2) (k : Q (some (.inl (nI (wt (2 * i + q)).length))) mu) : Om G M_S_pending 0 [(0, .inr (some (ad 0 0))), (1, .inl (nI i)), (2, .inl (nI q))] [] mu Q := by
  refine o_iload_n dS_pending_0 rfl ?_
  refine m_callS M_S_isCenter [.inl (nI i)] [] dS_pending_1 mk_S_isCenter st_S_isCenter ml_S_150 rfl rfl rfl (Nat.le_of_ble_eq_true rfl) rfl ?_
  refine c_isCenter_y hi ?_
  show Om G M_S_pending 4 [(0, .inr (some (ad 0 0))), (1, .inl (nI i)), (2, .inl (nI q))] [.inl (nI 1)] mu Q
  refine n_if_eq 14 dS_pending_4 rfl (by omega) (fun h => absurd h (by decide)) (fun _ => ?_)
  refine o_iload_n dS_pending_7 rfl ?_
  refine m_callS M_S_isPartition [.inl (nI q)] [] dS_pending_8 mk_S_isPartition st_S_isPartition ml_S_153 rfl rfl rfl (Nat.le_of_ble_eq_true rfl) rfl ?_
  refine c_isPartition_y hq ?_
  show Om G M_S_pending 11 [(0, .inr (some (ad 0 0))), (1, .inl (nI i)), (2, .inl (nI q))] [.inl (nI 1)] mu Q
  refine n_if_ne 16 dS_pending_11 rfl (by omega) (fun _ => ?_) (fun h => absurd h (by decide))
  refine o_aload_n dS_pending_16 rfl ?_
  refine m_getr dS_pending_17 fl_S_17 rfl rfl (by decide) ?_
  refine o_iload_n dS_pending_20 rfl ?_
  refine m_aald i dS_pending_21 rfl rfl rfl (by decide) rfl (sh_q2 hi) ?_
  refine m_getr dS_pending_22 fl_S_144 rfl rfl hi ?_
  refine o_iload_n dS_pending_25 rfl ?_
  refine m_aald q dS_pending_26 rfl rfl rfl hi rfl (sh_wait (by omega)) ?_
  refine m_geti dS_pending_27 fl_S_156 rfl rfl (show 2 * i + q < 6 by omega) ?_
  refine o_top (nI ((wt (2 * i + q)).length)) (hC.fwt (by omega)).1 ?_
  refine m_iret dS_pending_30 rfl ?_
  exact k
theorem C_sent_b1 {G : oG} {mu : oMu} {Q : oPm} {a b : Int32} {z3 : Int32} (ha : ∀ j, j < 3 → ¬ a = nI j) (k : Q (some (.inl (-4))) mu) : Om G M_S_sent 0 [(0, .inr (some (ad 0 0))), (1, .inl a), (2, .inl b), (3, .inl z3)] [] mu Q := by
  refine o_iload_n dS_sent_0 rfl ?_
  refine m_callS M_S_isCenter [.inl a] [] dS_sent_1 mk_S_isCenter st_S_isCenter ml_S_150 rfl rfl rfl (Nat.le_of_ble_eq_true rfl) rfl ?_
  refine c_isCenter_n ha ?_
  show Om G M_S_sent 4 [(0, .inr (some (ad 0 0))), (1, .inl a), (2, .inl b), (3, .inl z3)] [.inl (nI 0)] mu Q
  refine n_if_eq 31 dS_sent_4 rfl (by omega) (fun _ => ?_) (fun h => absurd h (by decide))
  refine o_bipush (-4) dS_sent_31 rfl ?_
  refine m_iret dS_sent_33 rfl ?_
  exact k
theorem C_sent_b2 {G : oG} {mu : oMu} {Q : oPm} {i : Nat} {b : Int32} {z3 : Int32} (hi : i < 3) (hb : ∀ j, j < 3 → ¬ b = nI j) (k : Q (some (.inl (-4))) mu) : Om G M_S_sent 0 [(0, .inr (some (ad 0 0))), (1, .inl (nI i)), (2, .inl b), (3, .inl z3)] [] mu Q := by
  refine o_iload_n dS_sent_0 rfl ?_
  refine m_callS M_S_isCenter [.inl (nI i)] [] dS_sent_1 mk_S_isCenter st_S_isCenter ml_S_150 rfl rfl rfl (Nat.le_of_ble_eq_true rfl) rfl ?_
  refine c_isCenter_y hi ?_
  show Om G M_S_sent 4 [(0, .inr (some (ad 0 0))), (1, .inl (nI i)), (2, .inl b), (3, .inl z3)] [.inl (nI 1)] mu Q
  refine n_if_eq 31 dS_sent_4 rfl (by omega) (fun h => absurd h (by decide)) (fun _ => ?_)
  refine o_iload_n dS_sent_7 rfl ?_
  refine m_callS M_S_isCenter [.inl b] [] dS_sent_8 mk_S_isCenter st_S_isCenter ml_S_150 rfl rfl rfl (Nat.le_of_ble_eq_true rfl) rfl ?_
  refine c_isCenter_n hb ?_
  show Om G M_S_sent 11 [(0, .inr (some (ad 0 0))), (1, .inl (nI i)), (2, .inl b), (3, .inl z3)] [.inl (nI 0)] mu Q
  refine n_if_eq 31 dS_sent_11 rfl (by omega) (fun _ => ?_) (fun h => absurd h (by decide))
  refine o_bipush (-4) dS_sent_31 rfl ?_
  refine m_iret dS_sent_33 rfl ?_
  exact k
theorem C_sent_y {G : oG} {mu : oMu} {Q : oPm} {m : Nat} {ky vr nd : Nat → Nat} {dp : Nat → Nat → Nat} {vl : Nat → Int32} {sn ck : Nat → Nat → Nat} {wt fl : Nat → List Nat} {x h d : Nat → Nat → Nat} {s l r : Nat → Nat} (hC : ReC mu m ky vr nd dp vl sn ck wt fl x h d s l r) {i q : Nat} (hi : i < 3) (hq : q < 3) {j : Nat} (hj : j < (fl (i * 3 + q)).length) (k : Q (some (.inl (nI ((fl (i * 3 + q)).getD j 0)))) mu) : Om G M_S_sent 0 [(0, .inr (some (ad 0 0))), (1, .inl (nI i)), (2, .inl (nI q)), (3, .inl (nI j))] [] mu Q := by
  refine o_iload_n dS_sent_0 rfl ?_
  refine m_callS M_S_isCenter [.inl (nI i)] [] dS_sent_1 mk_S_isCenter st_S_isCenter ml_S_150 rfl rfl rfl (Nat.le_of_ble_eq_true rfl) rfl ?_
  refine c_isCenter_y hi ?_
  show Om G M_S_sent 4 [(0, .inr (some (ad 0 0))), (1, .inl (nI i)), (2, .inl (nI q)), (3, .inl (nI j))] [.inl (nI 1)] mu Q
  refine n_if_eq 31 dS_sent_4 rfl (by omega) (fun h => absurd h (by decide)) (fun _ => ?_)
  refine o_iload_n dS_sent_7 rfl ?_
  refine m_callS M_S_isCenter [.inl (nI q)] [] dS_sent_8 mk_S_isCenter st_S_isCenter ml_S_150 rfl rfl rfl (Nat.le_of_ble_eq_true rfl) rfl ?_
  refine c_isCenter_y hq ?_
  show Om G M_S_sent 11 [(0, .inr (some (ad 0 0))), (1, .inl (nI i)), (2, .inl (nI q)), (3, .inl (nI j))] [.inl (nI 1)] mu Q
  refine n_if_eq 31 dS_sent_11 rfl (by omega) (fun h => absurd h (by decide)) (fun _ => ?_)
  refine o_aload_n dS_sent_14 rfl ?_
  refine m_getr dS_sent_15 fl_S_29 rfl rfl (by decide) ?_
  refine o_iload_n dS_sent_18 rfl ?_
  refine o_iconst (nI 3) dS_sent_19 rfl ?_
  refine o_imul dS_sent_20 ?_
  refine o_top _ (pk_mul _ _) ?_
  refine o_iload_n dS_sent_21 rfl ?_
  refine o_iadd dS_sent_22 ?_
  refine o_top _ (nI_add _ _) ?_
  refine m_aald (i * 3 + q) dS_sent_23 rfl rfl rfl (by decide) rfl (sh_q4 (by omega)) ?_
  refine o_iload_n dS_sent_24 rfl ?_
  refine m_callV M_R_at [.inl (nI j)] [] dS_sent_25 mk_R_at in_R_at se_R_at rfl (show i * 3 + q < 9 by omega) rfl rfl ml_S_159 rfl rfl rfl (Nat.le_of_ble_eq_true rfl) rfl ?_
  refine c_at_y (by omega) (hC.ffl (by omega)) hj ?_
  show Om G M_S_sent 28 [(0, .inr (some (ad 0 0))), (1, .inl (nI i)), (2, .inl (nI q)), (3, .inl (nI j))] [.inl (nI ((fl (i * 3 + q)).getD j 0))] mu Q
  refine o_goto 33 dS_sent_28 rfl ?_
  refine m_iret dS_sent_33 rfl ?_
  exact k
theorem C_sent_n {G : oG} {mu : oMu} {Q : oPm} {m : Nat} {ky vr nd : Nat → Nat} {dp : Nat → Nat → Nat} {vl : Nat → Int32} {sn ck : Nat → Nat → Nat} {wt fl : Nat → List Nat} {x h d : Nat → Nat → Nat} {s l r : Nat → Nat} (hC : ReC mu m ky vr nd dp vl sn ck wt fl x h d s l r) {i q : Nat} (hi : i < 3) (hq : q < 3) {z : Int32} (hj : ∀ j, j < (fl (i * 3 + q)).length → ¬ z = nI j) (k : Q (some (.inl (-4))) mu) : Om G M_S_sent 0 [(0, .inr (some (ad 0 0))), (1, .inl (nI i)), (2, .inl (nI q)), (3, .inl z)] [] mu Q := by
  refine o_iload_n dS_sent_0 rfl ?_
  refine m_callS M_S_isCenter [.inl (nI i)] [] dS_sent_1 mk_S_isCenter st_S_isCenter ml_S_150 rfl rfl rfl (Nat.le_of_ble_eq_true rfl) rfl ?_
  refine c_isCenter_y hi ?_
  show Om G M_S_sent 4 [(0, .inr (some (ad 0 0))), (1, .inl (nI i)), (2, .inl (nI q)), (3, .inl z)] [.inl (nI 1)] mu Q
  refine n_if_eq 31 dS_sent_4 rfl (by omega) (fun h => absurd h (by decide)) (fun _ => ?_)
  refine o_iload_n dS_sent_7 rfl ?_
  refine m_callS M_S_isCenter [.inl (nI q)] [] dS_sent_8 mk_S_isCenter st_S_isCenter ml_S_150 rfl rfl rfl (Nat.le_of_ble_eq_true rfl) rfl ?_
  refine c_isCenter_y hq ?_
  show Om G M_S_sent 11 [(0, .inr (some (ad 0 0))), (1, .inl (nI i)), (2, .inl (nI q)), (3, .inl z)] [.inl (nI 1)] mu Q
  refine n_if_eq 31 dS_sent_11 rfl (by omega) (fun h => absurd h (by decide)) (fun _ => ?_)
  refine o_aload_n dS_sent_14 rfl ?_
  refine m_getr dS_sent_15 fl_S_29 rfl rfl (by decide) ?_
  refine o_iload_n dS_sent_18 rfl ?_
  refine o_iconst (nI 3) dS_sent_19 rfl ?_
  refine o_imul dS_sent_20 ?_
  refine o_top _ (pk_mul _ _) ?_
  refine o_iload_n dS_sent_21 rfl ?_
  refine o_iadd dS_sent_22 ?_
  refine o_top _ (nI_add _ _) ?_
  refine m_aald (i * 3 + q) dS_sent_23 rfl rfl rfl (by decide) rfl (sh_q4 (by omega)) ?_
  refine o_iload_n dS_sent_24 rfl ?_
  refine m_callV M_R_at [.inl z] [] dS_sent_25 mk_R_at in_R_at se_R_at rfl (show i * 3 + q < 9 by omega) rfl rfl ml_S_159 rfl rfl rfl (Nat.le_of_ble_eq_true rfl) rfl ?_
  refine c_at_n (by omega) (hC.ffl (by omega)) hj ?_
  show Om G M_S_sent 28 [(0, .inr (some (ad 0 0))), (1, .inl (nI i)), (2, .inl (nI q)), (3, .inl z)] [.inl (-4)] mu Q
  refine o_goto 33 dS_sent_28 rfl ?_
  refine m_iret dS_sent_33 rfl ?_
  exact k
theorem C_lacks_b1 {G : oG} {mu : oMu} {Q : oPm} {a b : Int32} {z3 : Int32} (ha : ∀ j, j < 3 → ¬ a = nI j) (k : Q (some (.inl (-4))) mu) : Om G M_S_lacks 0 [(0, .inr (some (ad 0 0))), (1, .inl a), (2, .inl b), (3, .inl z3)] [] mu Q := by
  refine o_iload_n dS_lacks_0 rfl ?_
  refine m_callS M_S_isCenter [.inl a] [] dS_lacks_1 mk_S_isCenter st_S_isCenter ml_S_150 rfl rfl rfl (Nat.le_of_ble_eq_true rfl) rfl ?_
  refine c_isCenter_n ha ?_
  show Om G M_S_lacks 4 [(0, .inr (some (ad 0 0))), (1, .inl a), (2, .inl b), (3, .inl z3)] [.inl (nI 0)] mu Q
  refine n_if_eq 14 dS_lacks_4 rfl (by omega) (fun _ => ?_) (fun h => absurd h (by decide))
  refine o_bipush (-4) dS_lacks_14 rfl ?_
  refine m_iret dS_lacks_16 rfl ?_
  exact k
theorem C_lacks_b2 {G : oG} {mu : oMu} {Q : oPm} {i : Nat} {b : Int32} {z3 : Int32} (hi : i < 3) (hb : ∀ j, j < 2 → ¬ b = nI j) (k : Q (some (.inl (-4))) mu) : Om G M_S_lacks 0 [(0, .inr (some (ad 0 0))), (1, .inl (nI i)), (2, .inl b), (3, .inl z3)] [] mu Q := by
  refine o_iload_n dS_lacks_0 rfl ?_
  refine m_callS M_S_isCenter [.inl (nI i)] [] dS_lacks_1 mk_S_isCenter st_S_isCenter ml_S_150 rfl rfl rfl (Nat.le_of_ble_eq_true rfl) rfl ?_
  refine c_isCenter_y hi ?_
  show Om G M_S_lacks 4 [(0, .inr (some (ad 0 0))), (1, .inl (nI i)), (2, .inl b), (3, .inl z3)] [.inl (nI 1)] mu Q
  refine n_if_eq 14 dS_lacks_4 rfl (by omega) (fun h => absurd h (by decide)) (fun _ => ?_)
  refine o_iload_n dS_lacks_7 rfl ?_
  refine m_callS M_S_isPartition [.inl b] [] dS_lacks_8 mk_S_isPartition st_S_isPartition ml_S_153 rfl rfl rfl (Nat.le_of_ble_eq_true rfl) rfl ?_
  refine c_isPartition_n hb ?_
  show Om G M_S_lacks 11 [(0, .inr (some (ad 0 0))), (1, .inl (nI i)), (2, .inl b), (3, .inl z3)] [.inl (nI 0)] mu Q
  refine n_if_ne 17 dS_lacks_11 rfl (by omega) (fun h => absurd h (by decide)) (fun _ => ?_)
  refine o_bipush (-4) dS_lacks_14 rfl ?_
  refine m_iret dS_lacks_16 rfl ?_
  exact k
theorem C_lacks_n {G : oG} {mu : oMu} {Q : oPm} {m : Nat} {ky vr nd : Nat → Nat} {dp : Nat → Nat → Nat} {vl : Nat → Int32} {sn ck : Nat → Nat → Nat} {wt fl : Nat → List Nat} {x h d : Nat → Nat → Nat} {s l r : Nat → Nat} (hC : ReC mu m ky vr nd dp vl sn ck wt fl x h d s l r) {i q : Nat} (hi : i < 3) (hq : q < 2) {z : Int32} (hj : ∀ j, j < (wt (2 * i + q)).length → ¬ z = nI j) (k : Q (some (.inl (-4))) mu) : Om G M_S_lacks 0 [(0, .inr (some (ad 0 0))), (1, .inl (nI i)), (2, .inl (nI q)), (3, .inl z)] [] mu Q := by
  refine o_iload_n dS_lacks_0 rfl ?_
  refine m_callS M_S_isCenter [.inl (nI i)] [] dS_lacks_1 mk_S_isCenter st_S_isCenter ml_S_150 rfl rfl rfl (Nat.le_of_ble_eq_true rfl) rfl ?_
  refine c_isCenter_y hi ?_
  show Om G M_S_lacks 4 [(0, .inr (some (ad 0 0))), (1, .inl (nI i)), (2, .inl (nI q)), (3, .inl z)] [.inl (nI 1)] mu Q
  refine n_if_eq 14 dS_lacks_4 rfl (by omega) (fun h => absurd h (by decide)) (fun _ => ?_)
  refine o_iload_n dS_lacks_7 rfl ?_
  refine m_callS M_S_isPartition [.inl (nI q)] [] dS_lacks_8 mk_S_isPartition st_S_isPartition ml_S_153 rfl rfl rfl (Nat.le_of_ble_eq_true rfl) rfl ?_
  refine c_isPartition_y hq ?_
  show Om G M_S_lacks 11 [(0, .inr (some (ad 0 0))), (1, .inl (nI i)), (2, .inl (nI q)), (3, .inl z)] [.inl (nI 1)] mu Q
  refine n_if_ne 17 dS_lacks_11 rfl (by omega) (fun _ => ?_) (fun h => absurd h (by decide))
  refine o_aload_n dS_lacks_17 rfl ?_
  refine m_getr dS_lacks_18 fl_S_17 rfl rfl (by decide) ?_
  refine o_iload_n dS_lacks_21 rfl ?_
  refine m_aald i dS_lacks_22 rfl rfl rfl (by decide) rfl (sh_q2 hi) ?_
  refine m_getr dS_lacks_23 fl_S_144 rfl rfl hi ?_
  refine o_iload_n dS_lacks_26 rfl ?_
  refine m_aald q dS_lacks_27 rfl rfl rfl hi rfl (sh_wait (by omega)) ?_
  refine o_iload_n dS_lacks_28 rfl ?_
  refine m_callV M_R_at [.inl z] [] dS_lacks_29 mk_R_at in_R_at se_R_at rfl (show 2 * i + q < 6 by omega) rfl rfl ml_S_159 rfl rfl rfl (Nat.le_of_ble_eq_true rfl) rfl ?_
  refine c_wat_n (by omega) (hC.fwt (by omega)) hj ?_
  show Om G M_S_lacks 32 [(0, .inr (some (ad 0 0))), (1, .inl (nI i)), (2, .inl (nI q)), (3, .inl z)] [.inl (-4)] mu Q
  refine o_istore [(0, _), (1, _), (2, _), (3, _), (4, _)] dS_lacks_32 rfl rfl ?_
  refine o_aload_n dS_lacks_34 rfl ?_
  refine o_iload dS_lacks_35 rfl ?_
  refine m_callV M_S_isWrite [.inl (-4)] [] dS_lacks_37 mk_S_isWrite in_S_isWrite se_S_isWrite rfl (by decide) rfl rfl ml_S_123 rfl rfl rfl (Nat.le_of_ble_eq_true rfl) rfl ?_
  refine c_isWrite_n hC.fw.mm hC.fw.m4 (fun j hj9 e => by have h9 := nI_pos (show j < 2 ^ 31 by have := hC.fw.m4; omega); rw [← e] at h9; exact h9 (by decide)) ?_
  show Om G M_S_lacks 40 [(0, .inr (some (ad 0 0))), (1, .inl (nI i)), (2, .inl (nI q)), (3, .inl z), (4, .inl (-4))] [.inl (nI 0)] mu Q
  refine n_if_eq 53 dS_lacks_40 rfl (by omega) (fun _ => ?_) (fun h => absurd h (by decide))
  refine o_bipush (-4) dS_lacks_53 rfl ?_
  refine m_iret dS_lacks_55 rfl ?_
  exact k
theorem C_lacks_y {G : oG} {mu : oMu} {Q : oPm} {m : Nat} {ky vr nd : Nat → Nat} {dp : Nat → Nat → Nat} {vl : Nat → Int32} {sn ck : Nat → Nat → Nat} {wt fl : Nat → List Nat} {x h d : Nat → Nat → Nat} {s l r : Nat → Nat} (hC : ReC mu m ky vr nd dp vl sn ck wt fl x h d s l r) {i q : Nat} (hi : i < 3) (hq : q < 2) {j w : Nat} (hj : j < (wt (2 * i + q)).length) (hw : (wt (2 * i + q)).getD j 0 = w) (hwm : w < m) (k : Q (some (.inl (nI (misN (nd w) (dp w) (sn i) 6)))) mu) : Om G M_S_lacks 0 [(0, .inr (some (ad 0 0))), (1, .inl (nI i)), (2, .inl (nI q)), (3, .inl (nI j))] [] mu Q := by
  refine o_iload_n dS_lacks_0 rfl ?_
  refine m_callS M_S_isCenter [.inl (nI i)] [] dS_lacks_1 mk_S_isCenter st_S_isCenter ml_S_150 rfl rfl rfl (Nat.le_of_ble_eq_true rfl) rfl ?_
  refine c_isCenter_y hi ?_
  show Om G M_S_lacks 4 [(0, .inr (some (ad 0 0))), (1, .inl (nI i)), (2, .inl (nI q)), (3, .inl (nI j))] [.inl (nI 1)] mu Q
  refine n_if_eq 14 dS_lacks_4 rfl (by omega) (fun h => absurd h (by decide)) (fun _ => ?_)
  refine o_iload_n dS_lacks_7 rfl ?_
  refine m_callS M_S_isPartition [.inl (nI q)] [] dS_lacks_8 mk_S_isPartition st_S_isPartition ml_S_153 rfl rfl rfl (Nat.le_of_ble_eq_true rfl) rfl ?_
  refine c_isPartition_y hq ?_
  show Om G M_S_lacks 11 [(0, .inr (some (ad 0 0))), (1, .inl (nI i)), (2, .inl (nI q)), (3, .inl (nI j))] [.inl (nI 1)] mu Q
  refine n_if_ne 17 dS_lacks_11 rfl (by omega) (fun _ => ?_) (fun h => absurd h (by decide))
  refine o_aload_n dS_lacks_17 rfl ?_
  refine m_getr dS_lacks_18 fl_S_17 rfl rfl (by decide) ?_
  refine o_iload_n dS_lacks_21 rfl ?_
  refine m_aald i dS_lacks_22 rfl rfl rfl (by decide) rfl (sh_q2 hi) ?_
  refine m_getr dS_lacks_23 fl_S_144 rfl rfl hi ?_
  refine o_iload_n dS_lacks_26 rfl ?_
  refine m_aald q dS_lacks_27 rfl rfl rfl hi rfl (sh_wait (by omega)) ?_
  refine o_iload_n dS_lacks_28 rfl ?_
  refine m_callV M_R_at [.inl (nI j)] [] dS_lacks_29 mk_R_at in_R_at se_R_at rfl (show 2 * i + q < 6 by omega) rfl rfl ml_S_159 rfl rfl rfl (Nat.le_of_ble_eq_true rfl) rfl ?_
  refine c_wat_y (by omega) (hC.fwt (by omega)) hj ?_
  show Om G M_S_lacks 32 [(0, .inr (some (ad 0 0))), (1, .inl (nI i)), (2, .inl (nI q)), (3, .inl (nI j))] [.inl (nI ((wt (2 * i + q)).getD j 0))] mu Q
  rw [hw]
  show Om G M_S_lacks 32 [(0, .inr (some (ad 0 0))), (1, .inl (nI i)), (2, .inl (nI q)), (3, .inl (nI j))] [.inl (nI w)] mu Q
  refine o_istore [(0, _), (1, _), (2, _), (3, _), (4, _)] dS_lacks_32 rfl rfl ?_
  refine o_aload_n dS_lacks_34 rfl ?_
  refine o_iload dS_lacks_35 rfl ?_
  refine m_callV M_S_isWrite [.inl (nI w)] [] dS_lacks_37 mk_S_isWrite in_S_isWrite se_S_isWrite rfl (by decide) rfl rfl ml_S_123 rfl rfl rfl (Nat.le_of_ble_eq_true rfl) rfl ?_
  refine c_isWrite_y hC.fw.mm hC.fw.m4 hwm ?_
  show Om G M_S_lacks 40 [(0, .inr (some (ad 0 0))), (1, .inl (nI i)), (2, .inl (nI q)), (3, .inl (nI j)), (4, .inl (nI w))] [.inl (nI 1)] mu Q
  refine n_if_eq 53 dS_lacks_40 rfl (by omega) (fun h => absurd h (by decide)) (fun _ => ?_)
  refine o_aload_n dS_lacks_43 rfl ?_
  refine o_iload_n dS_lacks_44 rfl ?_
  refine o_iload dS_lacks_45 rfl ?_
  refine m_callV M_S_missingNeeds [.inl (nI i), .inl (nI w)] [] dS_lacks_47 mk_S_missingNeeds in_S_missingNeeds se_S_missingNeeds rfl (by decide) rfl rfl ml_S_162 rfl rfl rfl (Nat.le_of_ble_eq_true rfl) rfl ?_
  refine c_missingNeeds hC.fw hi hwm (hC.fsn hi) ?_
  show Om G M_S_lacks 50 [(0, .inr (some (ad 0 0))), (1, .inl (nI i)), (2, .inl (nI q)), (3, .inl (nI j)), (4, .inl (nI w))] [.inl (nI (misN (nd w) (dp w) (sn i) 6))] mu Q
  refine o_goto 55 dS_lacks_50 rfl ?_
  refine m_iret dS_lacks_55 rfl ?_
  exact k
theorem C_rounds_b1 {G : oG} {mu : oMu} {Q : oPm} {a : Int32} (ha : ∀ j, j < 6 → ¬ a = nI j) (k : Q (some (.inl (-1))) mu) : Om G M_S_rounds 0 [(0, .inr (some (ad 0 0))), (1, .inl a)] [] mu Q := by
  refine o_iload_n dS_rounds_0 rfl ?_
  refine m_callS M_S_isClient [.inl a] [] dS_rounds_1 mk_S_isClient st_S_isClient ml_S_39 rfl rfl rfl (Nat.le_of_ble_eq_true rfl) rfl ?_
  refine c_isClient_n ha ?_
  show Om G M_S_rounds 4 [(0, .inr (some (ad 0 0))), (1, .inl a)] [.inl (nI 0)] mu Q
  refine n_if_eq 19 dS_rounds_4 rfl (by omega) (fun _ => ?_) (fun h => absurd h (by decide))
  refine o_iconst (-1) dS_rounds_19 rfl ?_
  refine m_iret dS_rounds_20 rfl ?_
  exact k
theorem C_rounds {G : oG} {mu : oMu} {Q : oPm} {m : Nat} {ky vr nd : Nat → Nat} {dp : Nat → Nat → Nat} {vl : Nat → Int32} {sn ck : Nat → Nat → Nat} {wt fl : Nat → List Nat} {x h d : Nat → Nat → Nat} {s l r : Nat → Nat} (hC : ReC mu m ky vr nd dp vl sn ck wt fl x h d s l r) {i : Nat} (hi : i < 6) (k : Q (some (.inl (nI (r i)))) mu) : Om G M_S_rounds 0 [(0, .inr (some (ad 0 0))), (1, .inl (nI i))] [] mu Q := by
  refine o_iload_n dS_rounds_0 rfl ?_
  refine m_callS M_S_isClient [.inl (nI i)] [] dS_rounds_1 mk_S_isClient st_S_isClient ml_S_39 rfl rfl rfl (Nat.le_of_ble_eq_true rfl) rfl ?_
  refine c_isClient_y hi ?_
  show Om G M_S_rounds 4 [(0, .inr (some (ad 0 0))), (1, .inl (nI i))] [.inl (nI 1)] mu Q
  refine n_if_eq 19 dS_rounds_4 rfl (by omega) (fun h => absurd h (by decide)) (fun _ => ?_)
  refine o_aload_n dS_rounds_7 rfl ?_
  refine m_getr dS_rounds_8 fl_S_23 rfl rfl (by decide) ?_
  refine o_iload_n dS_rounds_11 rfl ?_
  refine m_aald i dS_rounds_12 rfl rfl rfl (by decide) rfl (sh_q3 hi) ?_
  refine m_geti dS_rounds_13 fl_S_101 rfl rfl hi ?_
  refine o_top (nI (r i)) (hC.fro hi) ?_
  refine o_goto 20 dS_rounds_16 rfl ?_
  refine m_iret dS_rounds_20 rfl ?_
  exact k
theorem C_nearest_b1 {G : oG} {mu : oMu} {Q : oPm} {a : Int32} (ha : ∀ j, j < 6 → ¬ a = nI j) (k : Q (some (.inl (-1))) mu) : Om G M_S_nearest 0 [(0, .inr (some (ad 0 0))), (1, .inl a)] [] mu Q := by
  refine o_iload_n dS_nearest_0 rfl ?_
  refine m_callS M_S_isClient [.inl a] [] dS_nearest_1 mk_S_isClient st_S_isClient ml_S_39 rfl rfl rfl (Nat.le_of_ble_eq_true rfl) rfl ?_
  refine c_isClient_n ha ?_
  show Om G M_S_nearest 4 [(0, .inr (some (ad 0 0))), (1, .inl a)] [.inl (nI 0)] mu Q
  refine n_if_eq 23 dS_nearest_4 rfl (by omega) (fun _ => ?_) (fun h => absurd h (by decide))
  refine o_iconst (-1) dS_nearest_23 rfl ?_
  refine m_iret dS_nearest_24 rfl ?_
  exact k
theorem C_nearest {G : oG} {mu : oMu} {Q : oPm} {m : Nat} {ky vr nd : Nat → Nat} {dp : Nat → Nat → Nat} {vl : Nat → Int32} {sn ck : Nat → Nat → Nat} {wt fl : Nat → List Nat} {x h d : Nat → Nat → Nat} {s l r : Nat → Nat} (hC : ReC mu m ky vr nd dp vl sn ck wt fl x h d s l r) {i : Nat} (hi : i < 6) (k : Q (some (.inl (nI (nearB (x i) dp 6)))) mu) : Om G M_S_nearest 0 [(0, .inr (some (ad 0 0))), (1, .inl (nI i))] [] mu Q := by
  refine o_iload_n dS_nearest_0 rfl ?_
  refine m_callS M_S_isClient [.inl (nI i)] [] dS_nearest_1 mk_S_isClient st_S_isClient ml_S_39 rfl rfl rfl (Nat.le_of_ble_eq_true rfl) rfl ?_
  refine c_isClient_y hi ?_
  show Om G M_S_nearest 4 [(0, .inr (some (ad 0 0))), (1, .inl (nI i))] [.inl (nI 1)] mu Q
  refine n_if_eq 23 dS_nearest_4 rfl (by omega) (fun h => absurd h (by decide)) (fun _ => ?_)
  refine o_aload_n dS_nearest_7 rfl ?_
  refine o_aload_n dS_nearest_8 rfl ?_
  refine m_getr dS_nearest_9 fl_S_23 rfl rfl (by decide) ?_
  refine o_iload_n dS_nearest_12 rfl ?_
  refine m_aald i dS_nearest_13 rfl rfl rfl (by decide) rfl (sh_q3 hi) ?_
  refine m_getr dS_nearest_14 fl_S_65 rfl rfl hi ?_
  refine m_callV M_S_nearestKeys [.inr (some (ad 15 i))] [] dS_nearest_17 mk_S_nearestKeys in_S_nearestKeys se_S_nearestKeys rfl (by decide) rfl rfl ml_S_69 rfl rfl rfl (Nat.le_of_ble_eq_true rfl) rfl ?_
  refine c_nearestKeys hC.fw hi (hC.fx hi) ?_
  show Om G M_S_nearest 20 [(0, .inr (some (ad 0 0))), (1, .inl (nI i))] [.inl (nI (nearB (x i) dp 6))] mu Q
  refine o_goto 24 dS_nearest_20 rfl ?_
  refine m_iret dS_nearest_24 rfl ?_
  exact k
theorem C_dependency_b1 {G : oG} {mu : oMu} {Q : oPm} {m : Nat} {ky vr nd : Nat → Nat} {dp : Nat → Nat → Nat} {vl : Nat → Int32} {sn ck : Nat → Nat → Nat} {wt fl : Nat → List Nat} {x h d : Nat → Nat → Nat} {s l r : Nat → Nat} (hC : ReC mu m ky vr nd dp vl sn ck wt fl x h d s l r) {a b : Int32} (ha : ∀ j, j < m → ¬ a = nI j) (k : Q (some (.inl (-1))) mu) : Om G M_S_dependency 0 [(0, .inr (some (ad 0 0))), (1, .inl a), (2, .inl b)] [] mu Q := by
  refine o_aload_n dS_dependency_0 rfl ?_
  refine o_iload_n dS_dependency_1 rfl ?_
  refine m_callV M_S_isWrite [.inl a] [] dS_dependency_2 mk_S_isWrite in_S_isWrite se_S_isWrite rfl (by decide) rfl rfl ml_S_123 rfl rfl rfl (Nat.le_of_ble_eq_true rfl) rfl ?_
  refine c_isWrite_n hC.fw.mm hC.fw.m4 ha ?_
  show Om G M_S_dependency 5 [(0, .inr (some (ad 0 0))), (1, .inl a), (2, .inl b)] [.inl (nI 0)] mu Q
  refine n_if_eq 29 dS_dependency_5 rfl (by omega) (fun _ => ?_) (fun h => absurd h (by decide))
  refine o_iconst (-1) dS_dependency_29 rfl ?_
  refine m_iret dS_dependency_30 rfl ?_
  exact k
theorem C_dependency_b2 {G : oG} {mu : oMu} {Q : oPm} {m : Nat} {ky vr nd : Nat → Nat} {dp : Nat → Nat → Nat} {vl : Nat → Int32} {sn ck : Nat → Nat → Nat} {wt fl : Nat → List Nat} {x h d : Nat → Nat → Nat} {s l r : Nat → Nat} (hC : ReC mu m ky vr nd dp vl sn ck wt fl x h d s l r) {w : Nat} {b : Int32} (hw : w < m) (hb : ∀ j, j < 6 → ¬ b = nI j) (k : Q (some (.inl (-1))) mu) : Om G M_S_dependency 0 [(0, .inr (some (ad 0 0))), (1, .inl (nI w)), (2, .inl b)] [] mu Q := by
  refine o_aload_n dS_dependency_0 rfl ?_
  refine o_iload_n dS_dependency_1 rfl ?_
  refine m_callV M_S_isWrite [.inl (nI w)] [] dS_dependency_2 mk_S_isWrite in_S_isWrite se_S_isWrite rfl (by decide) rfl rfl ml_S_123 rfl rfl rfl (Nat.le_of_ble_eq_true rfl) rfl ?_
  refine c_isWrite_y hC.fw.mm hC.fw.m4 hw ?_
  show Om G M_S_dependency 5 [(0, .inr (some (ad 0 0))), (1, .inl (nI w)), (2, .inl b)] [.inl (nI 1)] mu Q
  refine n_if_eq 29 dS_dependency_5 rfl (by omega) (fun h => absurd h (by decide)) (fun _ => ?_)
  refine o_iload_n dS_dependency_8 rfl ?_
  refine m_callS M_S_isKey [.inl b] [] dS_dependency_9 mk_S_isKey st_S_isKey ml_S_43 rfl rfl rfl (Nat.le_of_ble_eq_true rfl) rfl ?_
  refine c_isKey_n hb ?_
  show Om G M_S_dependency 12 [(0, .inr (some (ad 0 0))), (1, .inl (nI w)), (2, .inl b)] [.inl (nI 0)] mu Q
  refine n_if_eq 29 dS_dependency_12 rfl (by omega) (fun _ => ?_) (fun h => absurd h (by decide))
  refine o_iconst (-1) dS_dependency_29 rfl ?_
  refine m_iret dS_dependency_30 rfl ?_
  exact k
theorem C_dependency {G : oG} {mu : oMu} {Q : oPm} {m : Nat} {ky vr nd : Nat → Nat} {dp : Nat → Nat → Nat} {vl : Nat → Int32} {sn ck : Nat → Nat → Nat} {wt fl : Nat → List Nat} {x h d : Nat → Nat → Nat} {s l r : Nat → Nat} (hC : ReC mu m ky vr nd dp vl sn ck wt fl x h d s l r) {w q : Nat} (hw : w < m) (hq : q < 6) (k : Q (some (.inl (dec (dp w q)))) mu) : Om G M_S_dependency 0 [(0, .inr (some (ad 0 0))), (1, .inl (nI w)), (2, .inl (nI q))] [] mu Q := by
  have hm4 := hC.fw.m4
  refine o_aload_n dS_dependency_0 rfl ?_
  refine o_iload_n dS_dependency_1 rfl ?_
  refine m_callV M_S_isWrite [.inl (nI w)] [] dS_dependency_2 mk_S_isWrite in_S_isWrite se_S_isWrite rfl (by decide) rfl rfl ml_S_123 rfl rfl rfl (Nat.le_of_ble_eq_true rfl) rfl ?_
  refine c_isWrite_y hC.fw.mm hC.fw.m4 hw ?_
  show Om G M_S_dependency 5 [(0, .inr (some (ad 0 0))), (1, .inl (nI w)), (2, .inl (nI q))] [.inl (nI 1)] mu Q
  refine n_if_eq 29 dS_dependency_5 rfl (by omega) (fun h => absurd h (by decide)) (fun _ => ?_)
  refine o_iload_n dS_dependency_8 rfl ?_
  refine m_callS M_S_isKey [.inl (nI q)] [] dS_dependency_9 mk_S_isKey st_S_isKey ml_S_43 rfl rfl rfl (Nat.le_of_ble_eq_true rfl) rfl ?_
  refine c_isKey_y hq ?_
  show Om G M_S_dependency 12 [(0, .inr (some (ad 0 0))), (1, .inl (nI w)), (2, .inl (nI q))] [.inl (nI 1)] mu Q
  refine n_if_eq 29 dS_dependency_12 rfl (by omega) (fun h => absurd h (by decide)) (fun _ => ?_)
  refine o_aload_n dS_dependency_15 rfl ?_
  refine m_getr dS_dependency_16 fl_S_11 rfl rfl (by decide) ?_
  refine o_iload_n dS_dependency_19 rfl ?_
  refine m_aald w dS_dependency_20 rfl rfl rfl (by decide) rfl (sh_q1 (by omega)) ?_
  refine m_getr dS_dependency_21 fl_S_178 rfl rfl (show w < 40 by omega) ?_
  refine o_iload_n dS_dependency_24 rfl ?_
  refine m_iald q dS_dependency_25 rfl rfl rfl (show w < 40 by omega) rfl hq ?_
  refine o_top (dec (dp w q)) (hC.fw.dep hw hq) ?_
  refine o_goto 30 dS_dependency_26 rfl ?_
  refine m_iret dS_dependency_30 rfl ?_
  exact k
theorem C_visible_b1 {G : oG} {mu : oMu} {Q : oPm} {m : Nat} {a b : Int32} (hm : mu 0 0 4 = nI m) (hm4 : m ≤ 40) (ha : ∀ j, j < 3 → ¬ a = nI j) (k : Q (some (.inl (nI 0))) mu) : Om G M_S_visible 0 [(0, .inr (some (ad 0 0))), (1, .inl a), (2, .inl b)] [] mu Q :=
  c_visible hm hm4 (fun _ => k) (fun c hc e => absurd e (ha c hc)) (fun c hc e => absurd e (ha c hc)) (fun c hc e => absurd e (ha c hc))
theorem C_visible_b2 {G : oG} {mu : oMu} {Q : oPm} {m i : Nat} {b : Int32} (hm : mu 0 0 4 = nI m) (hm4 : m ≤ 40) (hb : ∀ j, j < m → ¬ b = nI j) (k : Q (some (.inl (nI 0))) mu) : Om G M_S_visible 0 [(0, .inr (some (ad 0 0))), (1, .inl (nI i)), (2, .inl b)] [] mu Q :=
  c_visible hm hm4 (fun _ => k) (fun _ _ _ _ => k) (fun c hc e w hw e' => absurd e' (hb w hw)) (fun c hc e w hw e' => absurd e' (hb w hw))
theorem C_visible {G : oG} {mu : oMu} {Q : oPm} {m i w : Nat} {sn : Nat → Nat} (hm : mu 0 0 4 = nI m) (hm4 : m ≤ 40) (hi : i < 3) (hw : w < m) (hs : sOk mu i sn) (k : Q (some (.inl (nI (sn w)))) mu) : Om G M_S_visible 0 [(0, .inr (some (ad 0 0))), (1, .inl (nI i)), (2, .inl (nI w))] [] mu Q := by
  have h1 := hs w (by omega)
  refine c_visible hm hm4 (fun h => absurd rfl (h i hi)) (fun c hc e h => absurd rfl (h w hw)) (fun c hc e u hu e' hz => ?_) (fun c hc e u hu e' hz => ?_)
  · obtain rfl : i = c := (nI_eq (by omega) (by omega)).mp e
    obtain rfl : w = u := (nI_eq (by omega) (by omega)).mp e'
    rw [(hs.z (by omega)).mp hz] at k
    exact k
  · obtain rfl : i = c := (nI_eq (by omega) (by omega)).mp e
    obtain rfl : w = u := (nI_eq (by omega) (by omega)).mp e'
    have h2 : ¬ sn w = 0 := fun z => hz ((hs.z (by omega)).mpr z)
    rw [show sn w = 1 by omega] at k
    exact k
end
section
/-! about of the class; the relation of the reference's cells; its looks. -/
theorem sw_out {b : Int32} {n : Nat} (hn : n < 1000) (h : ∀ j, j < n + 1 → ¬ b = nI j) : b.toInt < 0 ∨ (n : Int) < b.toInt := by
  rcases pk_ix b (n := n + 1) (by omega) with h1 | h1 | ⟨j, hj, e⟩
  · exact Or.inl (by simpa using Int32.lt_iff_toInt_lt.mp h1)
  · refine Or.inr ?_
    have h2 := Int32.le_iff_toInt_le.mp h1
    rw [nI_toInt (by omega)] at h2
    omega
  · exact absurd e (h j hj)
theorem C_about_b1 {G : oG} {mu : oMu} {Q : oPm} {m : Nat} {ky vr nd : Nat → Nat} {dp : Nat → Nat → Nat} {vl : Nat → Int32} {sn ck : Nat → Nat → Nat} {wt fl : Nat → List Nat} {x h d : Nat → Nat → Nat} {s l r : Nat → Nat} (hC : ReC mu m ky vr nd dp vl sn ck wt fl x h d s l r) {a b : Int32} (ha : ∀ j, j < m → ¬ a = nI j) (k : Q (some (.inl (nI 0))) mu) : Om G M_S_about 0 [(0, .inr (some (ad 0 0))), (1, .inl a), (2, .inl b)] [] mu Q := by
  refine o_aload_n dS_about_0 rfl ?_
  refine o_iload_n dS_about_1 rfl ?_
  refine m_callV M_S_isWrite [.inl a] [] dS_about_2 mk_S_isWrite in_S_isWrite se_S_isWrite rfl (by decide) rfl rfl ml_S_123 rfl rfl rfl (Nat.le_of_ble_eq_true rfl) rfl ?_
  refine c_isWrite_n hC.fw.mm hC.fw.m4 ha ?_
  show Om G M_S_about 5 [(0, .inr (some (ad 0 0))), (1, .inl a), (2, .inl b)] [.inl (nI 0)] mu Q
  refine n_if_ne 10 dS_about_5 rfl (by omega) (fun h => absurd h (by decide)) (fun _ => ?_)
  refine o_iconst (nI 0) dS_about_8 rfl ?_
  refine m_iret dS_about_9 rfl ?_
  exact k
theorem C_about_0 {G : oG} {mu : oMu} {Q : oPm} {m : Nat} {ky vr nd : Nat → Nat} {dp : Nat → Nat → Nat} {vl : Nat → Int32} {sn ck : Nat → Nat → Nat} {wt fl : Nat → List Nat} {x h d : Nat → Nat → Nat} {s l r : Nat → Nat} (hC : ReC mu m ky vr nd dp vl sn ck wt fl x h d s l r) {w : Nat} (hw : w < m) (k : Q (some (.inl (nI (ky w)))) mu) : Om G M_S_about 0 [(0, .inr (some (ad 0 0))), (1, .inl (nI w)), (2, .inl (nI 0))] [] mu Q := by
  have hm4 := hC.fw.m4
  refine o_aload_n dS_about_0 rfl ?_
  refine o_iload_n dS_about_1 rfl ?_
  refine m_callV M_S_isWrite [.inl (nI w)] [] dS_about_2 mk_S_isWrite in_S_isWrite se_S_isWrite rfl (by decide) rfl rfl ml_S_123 rfl rfl rfl (Nat.le_of_ble_eq_true rfl) rfl ?_
  refine c_isWrite_y hC.fw.mm hC.fw.m4 hw ?_
  show Om G M_S_about 5 [(0, .inr (some (ad 0 0))), (1, .inl (nI w)), (2, .inl (nI 0))] [.inl (nI 1)] mu Q
  refine n_if_ne 10 dS_about_5 rfl (by omega) (fun _ => ?_) (fun h => absurd h (by decide))
  refine o_iload_n dS_about_10 rfl ?_
  refine o_tabIn 40 dS_about_11 (by decide) (by decide) rfl rfl ?_
  refine o_aload_n dS_about_40 rfl ?_
  refine m_getr dS_about_41 fl_S_11 rfl rfl (by decide) ?_
  refine o_iload_n dS_about_44 rfl ?_
  refine m_aald w dS_about_45 rfl rfl rfl (by decide) rfl (sh_q1 (by omega)) ?_
  refine m_geti dS_about_46 fl_S_129 rfl rfl (show w < 40 by omega) ?_
  refine o_top (nI (ky w)) (hC.fw.key hw) ?_
  refine m_iret dS_about_49 rfl ?_
  exact k
theorem C_about_1 {G : oG} {mu : oMu} {Q : oPm} {m : Nat} {ky vr nd : Nat → Nat} {dp : Nat → Nat → Nat} {vl : Nat → Int32} {sn ck : Nat → Nat → Nat} {wt fl : Nat → List Nat} {x h d : Nat → Nat → Nat} {s l r : Nat → Nat} (hC : ReC mu m ky vr nd dp vl sn ck wt fl x h d s l r) {w : Nat} (hw : w < m) (k : Q (some (.inl (nI (vr w)))) mu) : Om G M_S_about 0 [(0, .inr (some (ad 0 0))), (1, .inl (nI w)), (2, .inl (nI 1))] [] mu Q := by
  have hm4 := hC.fw.m4
  refine o_aload_n dS_about_0 rfl ?_
  refine o_iload_n dS_about_1 rfl ?_
  refine m_callV M_S_isWrite [.inl (nI w)] [] dS_about_2 mk_S_isWrite in_S_isWrite se_S_isWrite rfl (by decide) rfl rfl ml_S_123 rfl rfl rfl (Nat.le_of_ble_eq_true rfl) rfl ?_
  refine c_isWrite_y hC.fw.mm hC.fw.m4 hw ?_
  show Om G M_S_about 5 [(0, .inr (some (ad 0 0))), (1, .inl (nI w)), (2, .inl (nI 1))] [.inl (nI 1)] mu Q
  refine n_if_ne 10 dS_about_5 rfl (by omega) (fun _ => ?_) (fun h => absurd h (by decide))
  refine o_iload_n dS_about_10 rfl ?_
  refine o_tabIn 50 dS_about_11 (by decide) (by decide) rfl rfl ?_
  refine o_aload_n dS_about_50 rfl ?_
  refine m_getr dS_about_51 fl_S_11 rfl rfl (by decide) ?_
  refine o_iload_n dS_about_54 rfl ?_
  refine m_aald w dS_about_55 rfl rfl rfl (by decide) rfl (sh_q1 (by omega)) ?_
  refine m_geti dS_about_56 fl_S_169 rfl rfl (show w < 40 by omega) ?_
  refine o_top (nI (vr w)) (hC.fw.ver w hw) ?_
  refine m_iret dS_about_59 rfl ?_
  exact k
theorem C_about_2 {G : oG} {mu : oMu} {Q : oPm} {m : Nat} {ky vr nd : Nat → Nat} {dp : Nat → Nat → Nat} {vl : Nat → Int32} {sn ck : Nat → Nat → Nat} {wt fl : Nat → List Nat} {x h d : Nat → Nat → Nat} {s l r : Nat → Nat} (hC : ReC mu m ky vr nd dp vl sn ck wt fl x h d s l r) {w : Nat} (hw : w < m) (k : Q (some (.inl (vl w))) mu) : Om G M_S_about 0 [(0, .inr (some (ad 0 0))), (1, .inl (nI w)), (2, .inl (nI 2))] [] mu Q := by
  have hm4 := hC.fw.m4
  refine o_aload_n dS_about_0 rfl ?_
  refine o_iload_n dS_about_1 rfl ?_
  refine m_callV M_S_isWrite [.inl (nI w)] [] dS_about_2 mk_S_isWrite in_S_isWrite se_S_isWrite rfl (by decide) rfl rfl ml_S_123 rfl rfl rfl (Nat.le_of_ble_eq_true rfl) rfl ?_
  refine c_isWrite_y hC.fw.mm hC.fw.m4 hw ?_
  show Om G M_S_about 5 [(0, .inr (some (ad 0 0))), (1, .inl (nI w)), (2, .inl (nI 2))] [.inl (nI 1)] mu Q
  refine n_if_ne 10 dS_about_5 rfl (by omega) (fun _ => ?_) (fun h => absurd h (by decide))
  refine o_iload_n dS_about_10 rfl ?_
  refine o_tabIn 60 dS_about_11 (by decide) (by decide) rfl rfl ?_
  refine o_aload_n dS_about_60 rfl ?_
  refine m_getr dS_about_61 fl_S_11 rfl rfl (by decide) ?_
  refine o_iload_n dS_about_64 rfl ?_
  refine m_aald w dS_about_65 rfl rfl rfl (by decide) rfl (sh_q1 (by omega)) ?_
  refine m_geti dS_about_66 fl_S_172 rfl rfl (show w < 40 by omega) ?_
  refine o_top (vl w) (hC.fv hw) ?_
  refine m_iret dS_about_69 rfl ?_
  exact k
theorem C_about_3 {G : oG} {mu : oMu} {Q : oPm} {m : Nat} {ky vr nd : Nat → Nat} {dp : Nat → Nat → Nat} {vl : Nat → Int32} {sn ck : Nat → Nat → Nat} {wt fl : Nat → List Nat} {x h d : Nat → Nat → Nat} {s l r : Nat → Nat} (hC : ReC mu m ky vr nd dp vl sn ck wt fl x h d s l r) {w : Nat} (hw : w < m) (k : Q (some (.inl (nI (nd w)))) mu) : Om G M_S_about 0 [(0, .inr (some (ad 0 0))), (1, .inl (nI w)), (2, .inl (nI 3))] [] mu Q := by
  have hm4 := hC.fw.m4
  refine o_aload_n dS_about_0 rfl ?_
  refine o_iload_n dS_about_1 rfl ?_
  refine m_callV M_S_isWrite [.inl (nI w)] [] dS_about_2 mk_S_isWrite in_S_isWrite se_S_isWrite rfl (by decide) rfl rfl ml_S_123 rfl rfl rfl (Nat.le_of_ble_eq_true rfl) rfl ?_
  refine c_isWrite_y hC.fw.mm hC.fw.m4 hw ?_
  show Om G M_S_about 5 [(0, .inr (some (ad 0 0))), (1, .inl (nI w)), (2, .inl (nI 3))] [.inl (nI 1)] mu Q
  refine n_if_ne 10 dS_about_5 rfl (by omega) (fun _ => ?_) (fun h => absurd h (by decide))
  refine o_iload_n dS_about_10 rfl ?_
  refine o_tabIn 70 dS_about_11 (by decide) (by decide) rfl rfl ?_
  refine o_aload_n dS_about_70 rfl ?_
  refine m_getr dS_about_71 fl_S_11 rfl rfl (by decide) ?_
  refine o_iload_n dS_about_74 rfl ?_
  refine m_aald w dS_about_75 rfl rfl rfl (by decide) rfl (sh_q1 (by omega)) ?_
  refine m_geti dS_about_76 fl_S_175 rfl rfl (show w < 40 by omega) ?_
  refine o_top (nI (nd w)) (hC.fw.need hw) ?_
  refine m_iret dS_about_79 rfl ?_
  exact k
theorem C_about_o {G : oG} {mu : oMu} {Q : oPm} {m : Nat} {ky vr nd : Nat → Nat} {dp : Nat → Nat → Nat} {vl : Nat → Int32} {sn ck : Nat → Nat → Nat} {wt fl : Nat → List Nat} {x h d : Nat → Nat → Nat} {s l r : Nat → Nat} (hC : ReC mu m ky vr nd dp vl sn ck wt fl x h d s l r) {w : Nat} {b : Int32} (hw : w < m) (hb : ∀ j, j < 4 → ¬ b = nI j) (k : Q (some (.inl (nI 0))) mu) : Om G M_S_about 0 [(0, .inr (some (ad 0 0))), (1, .inl (nI w)), (2, .inl b)] [] mu Q := by
  refine o_aload_n dS_about_0 rfl ?_
  refine o_iload_n dS_about_1 rfl ?_
  refine m_callV M_S_isWrite [.inl (nI w)] [] dS_about_2 mk_S_isWrite in_S_isWrite se_S_isWrite rfl (by decide) rfl rfl ml_S_123 rfl rfl rfl (Nat.le_of_ble_eq_true rfl) rfl ?_
  refine c_isWrite_y hC.fw.mm hC.fw.m4 hw ?_
  show Om G M_S_about 5 [(0, .inr (some (ad 0 0))), (1, .inl (nI w)), (2, .inl b)] [.inl (nI 1)] mu Q
  refine n_if_ne 10 dS_about_5 rfl (by omega) (fun _ => ?_) (fun h => absurd h (by decide))
  refine o_iload_n dS_about_10 rfl ?_
  refine o_tabOut 80 dS_about_11 (sw_out (n := 3) (by decide) hb) rfl ?_
  refine o_iconst (nI 0) dS_about_80 rfl ?_
  refine m_iret dS_about_81 rfl ?_
  exact k
def lineOk (mu : oMu) (t t' q : Nat) (L : List Nat) : Prop := mu t 0 q = nI L.length ∧ L.length ≤ 40 ∧ ∀ j, j < L.length → mu t' 0 (40 * q + j) = nI (L.getD j 0)
def ReR (mu : oMu) (m : Nat) (ky vr nd : Nat → Nat) (dp : Nat → Nat → Nat) (vl : Nat → Int32) (sn ck : Nat → Nat → Nat) (wt fl : Nat → List Nat) (x h d : Nat → Nat → Nat) (s l r ph : Nat → Nat) : Prop :=
  vOk mu m ky vr nd dp ∧ (∀ w, w < m → mu 22 0 w = vl w) ∧
  (∀ c, c < 3 → tOk mu c (sn c) ∧ ∀ p, p < 2 → mu 27 0 (2 * c + p) = nI (ck c p)) ∧
  (∀ q, q < 6 → lineOk mu 28 29 q (wt q)) ∧ (∀ q, q < 9 → lineOk mu 30 31 q (fl q)) ∧
  ∀ i, i < 6 → (mu 33 0 i = nI (ph i) ∧ mu 34 0 i = nI (s i) ∧ mu 36 0 i = nI (l i) ∧ mu 35 0 i = nI (r i)) ∧ yOk mu 32 i m (x i) ∧ yOk mu 37 i m (h i) ∧ yOk mu 38 i m (d i)
section RRS
variable {mu : oMu} {m : Nat} {ky vr nd : Nat → Nat} {dp : Nat → Nat → Nat} {vl : Nat → Int32} {sn ck : Nat → Nat → Nat} {wt fl : Nat → List Nat} {x h d : Nat → Nat → Nat} {s l r ph : Nat → Nat}
theorem ReR.fw (hC : ReR mu m ky vr nd dp vl sn ck wt fl x h d s l r ph) : vOk mu m ky vr nd dp := hC.1
theorem ReR.fv (hC : ReR mu m ky vr nd dp vl sn ck wt fl x h d s l r ph) {w : Nat} (hw : w < m) : mu 22 0 w = vl w := hC.2.1 w hw
theorem ReR.fsn (hC : ReR mu m ky vr nd dp vl sn ck wt fl x h d s l r ph) {c : Nat} (hc : c < 3) : tOk mu c (sn c) := (hC.2.2.1 c hc).1
theorem ReR.fck (hC : ReR mu m ky vr nd dp vl sn ck wt fl x h d s l r ph) {c p : Nat} (hc : c < 3) (hp : p < 2) : mu 27 0 (2 * c + p) = nI (ck c p) := (hC.2.2.1 c hc).2 p hp
theorem ReR.fwt (hC : ReR mu m ky vr nd dp vl sn ck wt fl x h d s l r ph) {q : Nat} (hq : q < 6) : lineOk mu 28 29 q (wt q) := hC.2.2.2.1 q hq
theorem ReR.ffl (hC : ReR mu m ky vr nd dp vl sn ck wt fl x h d s l r ph) {q : Nat} (hq : q < 9) : lineOk mu 30 31 q (fl q) := hC.2.2.2.2.1 q hq
theorem ReR.fph (hC : ReR mu m ky vr nd dp vl sn ck wt fl x h d s l r ph) {i : Nat} (hi : i < 6) : mu 33 0 i = nI (ph i) := (hC.2.2.2.2.2 i hi).1.1
theorem ReR.fse (hC : ReR mu m ky vr nd dp vl sn ck wt fl x h d s l r ph) {i : Nat} (hi : i < 6) : mu 34 0 i = nI (s i) := (hC.2.2.2.2.2 i hi).1.2.1
theorem ReR.fle (hC : ReR mu m ky vr nd dp vl sn ck wt fl x h d s l r ph) {i : Nat} (hi : i < 6) : mu 36 0 i = nI (l i) := (hC.2.2.2.2.2 i hi).1.2.2.1
theorem ReR.fro (hC : ReR mu m ky vr nd dp vl sn ck wt fl x h d s l r ph) {i : Nat} (hi : i < 6) : mu 35 0 i = nI (r i) := (hC.2.2.2.2.2 i hi).1.2.2.2
theorem ReR.fx (hC : ReR mu m ky vr nd dp vl sn ck wt fl x h d s l r ph) {i : Nat} (hi : i < 6) : yOk mu 32 i m (x i) := (hC.2.2.2.2.2 i hi).2.1
theorem ReR.fh (hC : ReR mu m ky vr nd dp vl sn ck wt fl x h d s l r ph) {i : Nat} (hi : i < 6) : yOk mu 37 i m (h i) := (hC.2.2.2.2.2 i hi).2.2.1
theorem ReR.fd (hC : ReR mu m ky vr nd dp vl sn ck wt fl x h d s l r ph) {i : Nat} (hi : i < 6) : yOk mu 38 i m (d i) := (hC.2.2.2.2.2 i hi).2.2.2
end RRS
theorem r_out_y {G : oG} {mu : oMu} {Q : oPm} {j n : Nat} (hn : n < 2147483648) (hj : j < n) (k : Q (some (.inl (nI 0))) mu) : Om G M_N_out 0 [(0, .inl (nI j)), (1, .inl (nI n))] [] mu Q := r_out hn (fun h => absurd rfl (h j hj)) (fun _ _ _ => k)
theorem r_out_n {G : oG} {mu : oMu} {Q : oPm} {x : Int32} {n : Nat} (hn : n < 2147483648) (h : ∀ j, j < n → ¬ x = nI j) (k : Q (some (.inl (nI 1))) mu) : Om G M_N_out 0 [(0, .inl x), (1, .inl (nI n))] [] mu Q := r_out hn (fun _ => k) (fun j hj e => absurd e (h j hj))
theorem R_got_b1 {G : oG} {mu : oMu} {Q : oPm} {a b : Int32} (ha : ∀ j, j < 6 → ¬ a = nI j) (k : Q (some (.inl (-1))) mu) : Om G M_N_got 0 [(0, .inr (some (ad 20 0))), (1, .inl a), (2, .inl b)] [] mu Q := by
  refine o_iload_n dN_got_0 rfl ?_
  refine o_bipush (nI 6) dN_got_1 rfl ?_
  refine m_callS M_N_out [.inl a, .inl (nI 6)] [] dN_got_3 mk_N_out st_N_out ml_N_73 rfl rfl rfl (Nat.le_of_ble_eq_true rfl) rfl ?_
  refine r_out_n (by decide) ha ?_
  show Om G M_N_got 6 [(0, .inr (some (ad 20 0))), (1, .inl a), (2, .inl b)] [.inl (nI 1)] mu Q
  refine n_if_ne 18 dN_got_6 rfl (by omega) (fun _ => ?_) (fun h => absurd h (by decide))
  refine o_iconst (-1) dN_got_18 rfl ?_
  refine m_iret dN_got_19 rfl ?_
  exact k
theorem R_got_b2 {G : oG} {mu : oMu} {Q : oPm} {i : Nat} {b : Int32} (hi : i < 6) (hb : ∀ j, j < 6 → ¬ b = nI j) (k : Q (some (.inl (-1))) mu) : Om G M_N_got 0 [(0, .inr (some (ad 20 0))), (1, .inl (nI i)), (2, .inl b)] [] mu Q := by
  refine o_iload_n dN_got_0 rfl ?_
  refine o_bipush (nI 6) dN_got_1 rfl ?_
  refine m_callS M_N_out [.inl (nI i), .inl (nI 6)] [] dN_got_3 mk_N_out st_N_out ml_N_73 rfl rfl rfl (Nat.le_of_ble_eq_true rfl) rfl ?_
  refine r_out_y (by decide) hi ?_
  show Om G M_N_got 6 [(0, .inr (some (ad 20 0))), (1, .inl (nI i)), (2, .inl b)] [.inl (nI 0)] mu Q
  refine n_if_ne 18 dN_got_6 rfl (by omega) (fun h => absurd h (by decide)) (fun _ => ?_)
  refine o_iload_n dN_got_9 rfl ?_
  refine o_bipush (nI 6) dN_got_10 rfl ?_
  refine m_callS M_N_out [.inl b, .inl (nI 6)] [] dN_got_12 mk_N_out st_N_out ml_N_73 rfl rfl rfl (Nat.le_of_ble_eq_true rfl) rfl ?_
  refine r_out_n (by decide) hb ?_
  show Om G M_N_got 15 [(0, .inr (some (ad 20 0))), (1, .inl (nI i)), (2, .inl b)] [.inl (nI 1)] mu Q
  refine n_if_eq 20 dN_got_15 rfl (by omega) (fun h => absurd h (by decide)) (fun _ => ?_)
  refine o_iconst (-1) dN_got_18 rfl ?_
  refine m_iret dN_got_19 rfl ?_
  exact k
theorem R_got {G : oG} {mu : oMu} {Q : oPm} {m : Nat} {ky vr nd : Nat → Nat} {dp : Nat → Nat → Nat} {vl : Nat → Int32} {sn ck : Nat → Nat → Nat} {wt fl : Nat → List Nat} {x h d : Nat → Nat → Nat} {s l r ph : Nat → Nat} (hC : ReR mu m ky vr nd dp vl sn ck wt fl x h d s l r ph) {i q : Nat} (hi : i < 6) (hq : q < 6) (k : Q (some (.inl (dec (h i q)))) mu) : Om G M_N_got 0 [(0, .inr (some (ad 20 0))), (1, .inl (nI i)), (2, .inl (nI q))] [] mu Q := by
  have hm4 := hC.fw.m4
  refine o_iload_n dN_got_0 rfl ?_
  refine o_bipush (nI 6) dN_got_1 rfl ?_
  refine m_callS M_N_out [.inl (nI i), .inl (nI 6)] [] dN_got_3 mk_N_out st_N_out ml_N_73 rfl rfl rfl (Nat.le_of_ble_eq_true rfl) rfl ?_
  refine r_out_y (by decide) hi ?_
  show Om G M_N_got 6 [(0, .inr (some (ad 20 0))), (1, .inl (nI i)), (2, .inl (nI q))] [.inl (nI 0)] mu Q
  refine n_if_ne 18 dN_got_6 rfl (by omega) (fun h => absurd h (by decide)) (fun _ => ?_)
  refine o_iload_n dN_got_9 rfl ?_
  refine o_bipush (nI 6) dN_got_10 rfl ?_
  refine m_callS M_N_out [.inl (nI q), .inl (nI 6)] [] dN_got_12 mk_N_out st_N_out ml_N_73 rfl rfl rfl (Nat.le_of_ble_eq_true rfl) rfl ?_
  refine r_out_y (by decide) hq ?_
  show Om G M_N_got 15 [(0, .inr (some (ad 20 0))), (1, .inl (nI i)), (2, .inl (nI q))] [.inl (nI 0)] mu Q
  refine n_if_eq 20 dN_got_15 rfl (by omega) (fun _ => ?_) (fun h => absurd h (by decide))
  refine o_aload_n dN_got_20 rfl ?_
  refine m_getr dN_got_21 fl_N_59 rfl rfl (by decide) ?_
  refine o_bipush (nI 6) dN_got_24 rfl ?_
  refine o_iload_n dN_got_26 rfl ?_
  refine o_imul dN_got_27 ?_
  refine o_top _ (pk_mul _ _) ?_
  refine o_iload_n dN_got_28 rfl ?_
  refine o_iadd dN_got_29 ?_
  refine o_top _ (nI_add _ _) ?_
  refine m_iald (6 * i + q) dN_got_30 rfl rfl rfl (by decide) rfl (by omega) ?_
  refine o_top (nI (h i q)) ((hC.fh hi q hq).1) ?_
  have hle9 := ((hC.fh hi q hq).2)
  refine n_if_ne 39 dN_got_31 rfl (by omega) (fun hb31 => ?_) (fun hb31 => ?_)
  · skip
    obtain ⟨u, hu⟩ : ∃ u, h i q = u + 1 := ⟨h i q - 1, by omega⟩
    refine o_aload_n dN_got_39 rfl ?_
    refine m_getr dN_got_40 fl_N_59 rfl rfl (by decide) ?_
    refine o_bipush (nI 6) dN_got_43 rfl ?_
    refine o_iload_n dN_got_45 rfl ?_
    refine o_imul dN_got_46 ?_
    refine o_top _ (pk_mul _ _) ?_
    refine o_iload_n dN_got_47 rfl ?_
    refine o_iadd dN_got_48 ?_
    refine o_top _ (nI_add _ _) ?_
    refine m_iald (6 * i + q) dN_got_49 rfl rfl rfl (by decide) rfl (by omega) ?_
    refine o_top (nI (u + 1)) (((hC.fh hi q hq).1).trans (by rw [hu])) ?_
    refine o_iconst (nI 1) dN_got_50 rfl ?_
    refine o_isub dN_got_51 ?_
    refine o_top (nI u) (pk_sub (show 1 ≤ u + 1 by omega)) ?_
    refine m_iret dN_got_52 rfl ?_
    rw [hu] at k
    exact k
  · skip
    refine o_bipush (-4) dN_got_34 rfl ?_
    refine o_goto 52 dN_got_36 rfl ?_
    refine m_iret dN_got_52 rfl ?_
    rw [hb31] at k
    exact k
theorem R_context_b1 {G : oG} {mu : oMu} {Q : oPm} {a b : Int32} (ha : ∀ j, j < 6 → ¬ a = nI j) (k : Q (some (.inl (-1))) mu) : Om G M_N_context 0 [(0, .inr (some (ad 20 0))), (1, .inl a), (2, .inl b)] [] mu Q := by
  refine o_iload_n dN_context_0 rfl ?_
  refine o_bipush (nI 6) dN_context_1 rfl ?_
  refine m_callS M_N_out [.inl a, .inl (nI 6)] [] dN_context_3 mk_N_out st_N_out ml_N_73 rfl rfl rfl (Nat.le_of_ble_eq_true rfl) rfl ?_
  refine r_out_n (by decide) ha ?_
  show Om G M_N_context 6 [(0, .inr (some (ad 20 0))), (1, .inl a), (2, .inl b)] [.inl (nI 1)] mu Q
  refine n_if_ne 18 dN_context_6 rfl (by omega) (fun _ => ?_) (fun h => absurd h (by decide))
  refine o_iconst (-1) dN_context_18 rfl ?_
  refine m_iret dN_context_19 rfl ?_
  exact k
theorem R_context_b2 {G : oG} {mu : oMu} {Q : oPm} {i : Nat} {b : Int32} (hi : i < 6) (hb : ∀ j, j < 6 → ¬ b = nI j) (k : Q (some (.inl (-1))) mu) : Om G M_N_context 0 [(0, .inr (some (ad 20 0))), (1, .inl (nI i)), (2, .inl b)] [] mu Q := by
  refine o_iload_n dN_context_0 rfl ?_
  refine o_bipush (nI 6) dN_context_1 rfl ?_
  refine m_callS M_N_out [.inl (nI i), .inl (nI 6)] [] dN_context_3 mk_N_out st_N_out ml_N_73 rfl rfl rfl (Nat.le_of_ble_eq_true rfl) rfl ?_
  refine r_out_y (by decide) hi ?_
  show Om G M_N_context 6 [(0, .inr (some (ad 20 0))), (1, .inl (nI i)), (2, .inl b)] [.inl (nI 0)] mu Q
  refine n_if_ne 18 dN_context_6 rfl (by omega) (fun h => absurd h (by decide)) (fun _ => ?_)
  refine o_iload_n dN_context_9 rfl ?_
  refine o_bipush (nI 6) dN_context_10 rfl ?_
  refine m_callS M_N_out [.inl b, .inl (nI 6)] [] dN_context_12 mk_N_out st_N_out ml_N_73 rfl rfl rfl (Nat.le_of_ble_eq_true rfl) rfl ?_
  refine r_out_n (by decide) hb ?_
  show Om G M_N_context 15 [(0, .inr (some (ad 20 0))), (1, .inl (nI i)), (2, .inl b)] [.inl (nI 1)] mu Q
  refine n_if_eq 20 dN_context_15 rfl (by omega) (fun h => absurd h (by decide)) (fun _ => ?_)
  refine o_iconst (-1) dN_context_18 rfl ?_
  refine m_iret dN_context_19 rfl ?_
  exact k
theorem R_context {G : oG} {mu : oMu} {Q : oPm} {m : Nat} {ky vr nd : Nat → Nat} {dp : Nat → Nat → Nat} {vl : Nat → Int32} {sn ck : Nat → Nat → Nat} {wt fl : Nat → List Nat} {x h d : Nat → Nat → Nat} {s l r ph : Nat → Nat} (hC : ReR mu m ky vr nd dp vl sn ck wt fl x h d s l r ph) {i q : Nat} (hi : i < 6) (hq : q < 6) (k : Q (some (.inl (dec (x i q)))) mu) : Om G M_N_context 0 [(0, .inr (some (ad 20 0))), (1, .inl (nI i)), (2, .inl (nI q))] [] mu Q := by
  have hm4 := hC.fw.m4
  refine o_iload_n dN_context_0 rfl ?_
  refine o_bipush (nI 6) dN_context_1 rfl ?_
  refine m_callS M_N_out [.inl (nI i), .inl (nI 6)] [] dN_context_3 mk_N_out st_N_out ml_N_73 rfl rfl rfl (Nat.le_of_ble_eq_true rfl) rfl ?_
  refine r_out_y (by decide) hi ?_
  show Om G M_N_context 6 [(0, .inr (some (ad 20 0))), (1, .inl (nI i)), (2, .inl (nI q))] [.inl (nI 0)] mu Q
  refine n_if_ne 18 dN_context_6 rfl (by omega) (fun h => absurd h (by decide)) (fun _ => ?_)
  refine o_iload_n dN_context_9 rfl ?_
  refine o_bipush (nI 6) dN_context_10 rfl ?_
  refine m_callS M_N_out [.inl (nI q), .inl (nI 6)] [] dN_context_12 mk_N_out st_N_out ml_N_73 rfl rfl rfl (Nat.le_of_ble_eq_true rfl) rfl ?_
  refine r_out_y (by decide) hq ?_
  show Om G M_N_context 15 [(0, .inr (some (ad 20 0))), (1, .inl (nI i)), (2, .inl (nI q))] [.inl (nI 0)] mu Q
  refine n_if_eq 20 dN_context_15 rfl (by omega) (fun _ => ?_) (fun h => absurd h (by decide))
  refine o_aload_n dN_context_20 rfl ?_
  refine m_getr dN_context_21 fl_N_44 rfl rfl (by decide) ?_
  refine o_bipush (nI 6) dN_context_24 rfl ?_
  refine o_iload_n dN_context_26 rfl ?_
  refine o_imul dN_context_27 ?_
  refine o_top _ (pk_mul _ _) ?_
  refine o_iload_n dN_context_28 rfl ?_
  refine o_iadd dN_context_29 ?_
  refine o_top _ (nI_add _ _) ?_
  refine m_iald (6 * i + q) dN_context_30 rfl rfl rfl (by decide) rfl (by omega) ?_
  refine o_top (nI (x i q)) ((hC.fx hi q hq).1) ?_
  have hle9 := ((hC.fx hi q hq).2)
  refine n_if_ne 39 dN_context_31 rfl (by omega) (fun hb31 => ?_) (fun hb31 => ?_)
  · skip
    obtain ⟨u, hu⟩ : ∃ u, x i q = u + 1 := ⟨x i q - 1, by omega⟩
    refine o_aload_n dN_context_39 rfl ?_
    refine m_getr dN_context_40 fl_N_44 rfl rfl (by decide) ?_
    refine o_bipush (nI 6) dN_context_43 rfl ?_
    refine o_iload_n dN_context_45 rfl ?_
    refine o_imul dN_context_46 ?_
    refine o_top _ (pk_mul _ _) ?_
    refine o_iload_n dN_context_47 rfl ?_
    refine o_iadd dN_context_48 ?_
    refine o_top _ (nI_add _ _) ?_
    refine m_iald (6 * i + q) dN_context_49 rfl rfl rfl (by decide) rfl (by omega) ?_
    refine o_top (nI (u + 1)) (((hC.fx hi q hq).1).trans (by rw [hu])) ?_
    refine o_iconst (nI 1) dN_context_50 rfl ?_
    refine o_isub dN_context_51 ?_
    refine o_top (nI u) (pk_sub (show 1 ≤ u + 1 by omega)) ?_
    refine m_iret dN_context_52 rfl ?_
    rw [hu] at k
    exact k
  · skip
    refine o_bipush (-4) dN_context_34 rfl ?_
    refine o_goto 52 dN_context_36 rfl ?_
    refine m_iret dN_context_52 rfl ?_
    rw [hb31] at k
    exact k
theorem R_clock_b1 {G : oG} {mu : oMu} {Q : oPm} {a b : Int32} (ha : ∀ j, j < 3 → ¬ a = nI j) (k : Q (some (.inl (-1))) mu) : Om G M_N_clock 0 [(0, .inr (some (ad 20 0))), (1, .inl a), (2, .inl b)] [] mu Q := by
  refine o_iload_n dN_clock_0 rfl ?_
  refine o_iconst (nI 3) dN_clock_1 rfl ?_
  refine m_callS M_N_out [.inl a, .inl (nI 3)] [] dN_clock_2 mk_N_out st_N_out ml_N_73 rfl rfl rfl (Nat.le_of_ble_eq_true rfl) rfl ?_
  refine r_out_n (by decide) ha ?_
  show Om G M_N_clock 5 [(0, .inr (some (ad 20 0))), (1, .inl a), (2, .inl b)] [.inl (nI 1)] mu Q
  refine n_if_ne 16 dN_clock_5 rfl (by omega) (fun _ => ?_) (fun h => absurd h (by decide))
  refine o_iconst (-1) dN_clock_16 rfl ?_
  refine o_goto 30 dN_clock_17 rfl ?_
  refine m_iret dN_clock_30 rfl ?_
  exact k
theorem R_clock_b2 {G : oG} {mu : oMu} {Q : oPm} {i : Nat} {b : Int32} (hi : i < 3) (hb : ∀ j, j < 2 → ¬ b = nI j) (k : Q (some (.inl (-1))) mu) : Om G M_N_clock 0 [(0, .inr (some (ad 20 0))), (1, .inl (nI i)), (2, .inl b)] [] mu Q := by
  refine o_iload_n dN_clock_0 rfl ?_
  refine o_iconst (nI 3) dN_clock_1 rfl ?_
  refine m_callS M_N_out [.inl (nI i), .inl (nI 3)] [] dN_clock_2 mk_N_out st_N_out ml_N_73 rfl rfl rfl (Nat.le_of_ble_eq_true rfl) rfl ?_
  refine r_out_y (by decide) hi ?_
  show Om G M_N_clock 5 [(0, .inr (some (ad 20 0))), (1, .inl (nI i)), (2, .inl b)] [.inl (nI 0)] mu Q
  refine n_if_ne 16 dN_clock_5 rfl (by omega) (fun h => absurd h (by decide)) (fun _ => ?_)
  refine o_iload_n dN_clock_8 rfl ?_
  refine o_iconst (nI 2) dN_clock_9 rfl ?_
  refine m_callS M_N_out [.inl b, .inl (nI 2)] [] dN_clock_10 mk_N_out st_N_out ml_N_73 rfl rfl rfl (Nat.le_of_ble_eq_true rfl) rfl ?_
  refine r_out_n (by decide) hb ?_
  show Om G M_N_clock 13 [(0, .inr (some (ad 20 0))), (1, .inl (nI i)), (2, .inl b)] [.inl (nI 1)] mu Q
  refine n_if_eq 20 dN_clock_13 rfl (by omega) (fun h => absurd h (by decide)) (fun _ => ?_)
  refine o_iconst (-1) dN_clock_16 rfl ?_
  refine o_goto 30 dN_clock_17 rfl ?_
  refine m_iret dN_clock_30 rfl ?_
  exact k
theorem R_clock {G : oG} {mu : oMu} {Q : oPm} {m : Nat} {ky vr nd : Nat → Nat} {dp : Nat → Nat → Nat} {vl : Nat → Int32} {sn ck : Nat → Nat → Nat} {wt fl : Nat → List Nat} {x h d : Nat → Nat → Nat} {s l r ph : Nat → Nat} (hC : ReR mu m ky vr nd dp vl sn ck wt fl x h d s l r ph) {i q : Nat} (hi : i < 3) (hq : q < 2) (k : Q (some (.inl (nI (ck i q)))) mu) : Om G M_N_clock 0 [(0, .inr (some (ad 20 0))), (1, .inl (nI i)), (2, .inl (nI q))] [] mu Q := by
  refine o_iload_n dN_clock_0 rfl ?_
  refine o_iconst (nI 3) dN_clock_1 rfl ?_
  refine m_callS M_N_out [.inl (nI i), .inl (nI 3)] [] dN_clock_2 mk_N_out st_N_out ml_N_73 rfl rfl rfl (Nat.le_of_ble_eq_true rfl) rfl ?_
  refine r_out_y (by decide) hi ?_
  show Om G M_N_clock 5 [(0, .inr (some (ad 20 0))), (1, .inl (nI i)), (2, .inl (nI q))] [.inl (nI 0)] mu Q
  refine n_if_ne 16 dN_clock_5 rfl (by omega) (fun h => absurd h (by decide)) (fun _ => ?_)
  refine o_iload_n dN_clock_8 rfl ?_
  refine o_iconst (nI 2) dN_clock_9 rfl ?_
  refine m_callS M_N_out [.inl (nI q), .inl (nI 2)] [] dN_clock_10 mk_N_out st_N_out ml_N_73 rfl rfl rfl (Nat.le_of_ble_eq_true rfl) rfl ?_
  refine r_out_y (by decide) hq ?_
  show Om G M_N_clock 13 [(0, .inr (some (ad 20 0))), (1, .inl (nI i)), (2, .inl (nI q))] [.inl (nI 0)] mu Q
  refine n_if_eq 20 dN_clock_13 rfl (by omega) (fun _ => ?_) (fun h => absurd h (by decide))
  refine o_aload_n dN_clock_20 rfl ?_
  refine m_getr dN_clock_21 fl_N_29 rfl rfl (by decide) ?_
  refine o_iconst (nI 2) dN_clock_24 rfl ?_
  refine o_iload_n dN_clock_25 rfl ?_
  refine o_imul dN_clock_26 ?_
  refine o_top _ (pk_mul _ _) ?_
  refine o_iload_n dN_clock_27 rfl ?_
  refine o_iadd dN_clock_28 ?_
  refine o_top _ (nI_add _ _) ?_
  refine m_iald (2 * i + q) dN_clock_29 rfl rfl rfl (by decide) rfl (by omega) ?_
  refine o_top (nI (ck i q)) (hC.fck hi hq) ?_
  refine m_iret dN_clock_30 rfl ?_
  exact k
theorem R_pending_b1 {G : oG} {mu : oMu} {Q : oPm} {a b : Int32} (ha : ∀ j, j < 3 → ¬ a = nI j) (k : Q (some (.inl (-1))) mu) : Om G M_N_pending 0 [(0, .inr (some (ad 20 0))), (1, .inl a), (2, .inl b)] [] mu Q := by
  refine o_iload_n dN_pending_0 rfl ?_
  refine o_iconst (nI 3) dN_pending_1 rfl ?_
  refine m_callS M_N_out [.inl a, .inl (nI 3)] [] dN_pending_2 mk_N_out st_N_out ml_N_73 rfl rfl rfl (Nat.le_of_ble_eq_true rfl) rfl ?_
  refine r_out_n (by decide) ha ?_
  show Om G M_N_pending 5 [(0, .inr (some (ad 20 0))), (1, .inl a), (2, .inl b)] [.inl (nI 1)] mu Q
  refine n_if_ne 16 dN_pending_5 rfl (by omega) (fun _ => ?_) (fun h => absurd h (by decide))
  refine o_iconst (-1) dN_pending_16 rfl ?_
  refine o_goto 30 dN_pending_17 rfl ?_
  refine m_iret dN_pending_30 rfl ?_
  exact k
theorem R_pending_b2 {G : oG} {mu : oMu} {Q : oPm} {i : Nat} {b : Int32} (hi : i < 3) (hb : ∀ j, j < 2 → ¬ b = nI j) (k : Q (some (.inl (-1))) mu) : Om G M_N_pending 0 [(0, .inr (some (ad 20 0))), (1, .inl (nI i)), (2, .inl b)] [] mu Q := by
  refine o_iload_n dN_pending_0 rfl ?_
  refine o_iconst (nI 3) dN_pending_1 rfl ?_
  refine m_callS M_N_out [.inl (nI i), .inl (nI 3)] [] dN_pending_2 mk_N_out st_N_out ml_N_73 rfl rfl rfl (Nat.le_of_ble_eq_true rfl) rfl ?_
  refine r_out_y (by decide) hi ?_
  show Om G M_N_pending 5 [(0, .inr (some (ad 20 0))), (1, .inl (nI i)), (2, .inl b)] [.inl (nI 0)] mu Q
  refine n_if_ne 16 dN_pending_5 rfl (by omega) (fun h => absurd h (by decide)) (fun _ => ?_)
  refine o_iload_n dN_pending_8 rfl ?_
  refine o_iconst (nI 2) dN_pending_9 rfl ?_
  refine m_callS M_N_out [.inl b, .inl (nI 2)] [] dN_pending_10 mk_N_out st_N_out ml_N_73 rfl rfl rfl (Nat.le_of_ble_eq_true rfl) rfl ?_
  refine r_out_n (by decide) hb ?_
  show Om G M_N_pending 13 [(0, .inr (some (ad 20 0))), (1, .inl (nI i)), (2, .inl b)] [.inl (nI 1)] mu Q
  refine n_if_eq 20 dN_pending_13 rfl (by omega) (fun h => absurd h (by decide)) (fun _ => ?_)
  refine o_iconst (-1) dN_pending_16 rfl ?_
  refine o_goto 30 dN_pending_17 rfl ?_
  refine m_iret dN_pending_30 rfl ?_
  exact k
theorem R_pending {G : oG} {mu : oMu} {Q : oPm} {m : Nat} {ky vr nd : Nat → Nat} {dp : Nat → Nat → Nat} {vl : Nat → Int32} {sn ck : Nat → Nat → Nat} {wt fl : Nat → List Nat} {x h d : Nat → Nat → Nat} {s l r ph : Nat → Nat} (hC : ReR mu m ky vr nd dp vl sn ck wt fl x h d s l r ph) {i q : Nat} (hi : i < 3) (hq : q < 2) (k : Q (some (.inl (nI (wt (2 * i + q)).length))) mu) : Om G M_N_pending 0 [(0, .inr (some (ad 20 0))), (1, .inl (nI i)), (2, .inl (nI q))] [] mu Q := by
  refine o_iload_n dN_pending_0 rfl ?_
  refine o_iconst (nI 3) dN_pending_1 rfl ?_
  refine m_callS M_N_out [.inl (nI i), .inl (nI 3)] [] dN_pending_2 mk_N_out st_N_out ml_N_73 rfl rfl rfl (Nat.le_of_ble_eq_true rfl) rfl ?_
  refine r_out_y (by decide) hi ?_
  show Om G M_N_pending 5 [(0, .inr (some (ad 20 0))), (1, .inl (nI i)), (2, .inl (nI q))] [.inl (nI 0)] mu Q
  refine n_if_ne 16 dN_pending_5 rfl (by omega) (fun h => absurd h (by decide)) (fun _ => ?_)
  refine o_iload_n dN_pending_8 rfl ?_
  refine o_iconst (nI 2) dN_pending_9 rfl ?_
  refine m_callS M_N_out [.inl (nI q), .inl (nI 2)] [] dN_pending_10 mk_N_out st_N_out ml_N_73 rfl rfl rfl (Nat.le_of_ble_eq_true rfl) rfl ?_
  refine r_out_y (by decide) hq ?_
  show Om G M_N_pending 13 [(0, .inr (some (ad 20 0))), (1, .inl (nI i)), (2, .inl (nI q))] [.inl (nI 0)] mu Q
  refine n_if_eq 20 dN_pending_13 rfl (by omega) (fun _ => ?_) (fun h => absurd h (by decide))
  refine o_aload_n dN_pending_20 rfl ?_
  refine m_getr dN_pending_21 fl_N_32 rfl rfl (by decide) ?_
  refine o_iconst (nI 2) dN_pending_24 rfl ?_
  refine o_iload_n dN_pending_25 rfl ?_
  refine o_imul dN_pending_26 ?_
  refine o_top _ (pk_mul _ _) ?_
  refine o_iload_n dN_pending_27 rfl ?_
  refine o_iadd dN_pending_28 ?_
  refine o_top _ (nI_add _ _) ?_
  refine m_iald (2 * i + q) dN_pending_29 rfl rfl rfl (by decide) rfl (by omega) ?_
  refine o_top (nI ((wt (2 * i + q)).length)) (hC.fwt (by omega)).1 ?_
  refine m_iret dN_pending_30 rfl ?_
  exact k
theorem R_latest_b1 {G : oG} {mu : oMu} {Q : oPm} {a b : Int32} (ha : ∀ j, j < 3 → ¬ a = nI j) (k : Q (some (.inl (-1))) mu) : Om G M_N_latest 0 [(0, .inr (some (ad 20 0))), (1, .inl a), (2, .inl b)] [] mu Q := by
  refine o_iload_n dN_latest_0 rfl ?_
  refine o_iconst (nI 3) dN_latest_1 rfl ?_
  refine m_callS M_N_out [.inl a, .inl (nI 3)] [] dN_latest_2 mk_N_out st_N_out ml_N_73 rfl rfl rfl (Nat.le_of_ble_eq_true rfl) rfl ?_
  refine r_out_n (by decide) ha ?_
  show Om G M_N_latest 5 [(0, .inr (some (ad 20 0))), (1, .inl a), (2, .inl b)] [.inl (nI 1)] mu Q
  refine n_if_ne 17 dN_latest_5 rfl (by omega) (fun _ => ?_) (fun h => absurd h (by decide))
  refine o_iconst (-1) dN_latest_17 rfl ?_
  refine m_iret dN_latest_18 rfl ?_
  exact k
theorem R_latest_b2 {G : oG} {mu : oMu} {Q : oPm} {i : Nat} {b : Int32} (hi : i < 3) (hb : ∀ j, j < 6 → ¬ b = nI j) (k : Q (some (.inl (-1))) mu) : Om G M_N_latest 0 [(0, .inr (some (ad 20 0))), (1, .inl (nI i)), (2, .inl b)] [] mu Q := by
  refine o_iload_n dN_latest_0 rfl ?_
  refine o_iconst (nI 3) dN_latest_1 rfl ?_
  refine m_callS M_N_out [.inl (nI i), .inl (nI 3)] [] dN_latest_2 mk_N_out st_N_out ml_N_73 rfl rfl rfl (Nat.le_of_ble_eq_true rfl) rfl ?_
  refine r_out_y (by decide) hi ?_
  show Om G M_N_latest 5 [(0, .inr (some (ad 20 0))), (1, .inl (nI i)), (2, .inl b)] [.inl (nI 0)] mu Q
  refine n_if_ne 17 dN_latest_5 rfl (by omega) (fun h => absurd h (by decide)) (fun _ => ?_)
  refine o_iload_n dN_latest_8 rfl ?_
  refine o_bipush (nI 6) dN_latest_9 rfl ?_
  refine m_callS M_N_out [.inl b, .inl (nI 6)] [] dN_latest_11 mk_N_out st_N_out ml_N_73 rfl rfl rfl (Nat.le_of_ble_eq_true rfl) rfl ?_
  refine r_out_n (by decide) hb ?_
  show Om G M_N_latest 14 [(0, .inr (some (ad 20 0))), (1, .inl (nI i)), (2, .inl b)] [.inl (nI 1)] mu Q
  refine n_if_eq 19 dN_latest_14 rfl (by omega) (fun h => absurd h (by decide)) (fun _ => ?_)
  refine o_iconst (-1) dN_latest_17 rfl ?_
  refine m_iret dN_latest_18 rfl ?_
  exact k
theorem R_latest {G : oG} {mu : oMu} {Q : oPm} {m : Nat} {ky vr nd : Nat → Nat} {dp : Nat → Nat → Nat} {vl : Nat → Int32} {sn ck : Nat → Nat → Nat} {wt fl : Nat → List Nat} {x h d : Nat → Nat → Nat} {s l r ph : Nat → Nat} (hC : ReR mu m ky vr nd dp vl sn ck wt fl x h d s l r ph) {i q : Nat} (hi : i < 3) (hq : q < 6) (k : Q (some (.inl (dec (latN (sn i) ky vr q m)))) mu) : Om G M_N_latest 0 [(0, .inr (some (ad 20 0))), (1, .inl (nI i)), (2, .inl (nI q))] [] mu Q := by
  refine o_iload_n dN_latest_0 rfl ?_
  refine o_iconst (nI 3) dN_latest_1 rfl ?_
  refine m_callS M_N_out [.inl (nI i), .inl (nI 3)] [] dN_latest_2 mk_N_out st_N_out ml_N_73 rfl rfl rfl (Nat.le_of_ble_eq_true rfl) rfl ?_
  refine r_out_y (by decide) hi ?_
  show Om G M_N_latest 5 [(0, .inr (some (ad 20 0))), (1, .inl (nI i)), (2, .inl (nI q))] [.inl (nI 0)] mu Q
  refine n_if_ne 17 dN_latest_5 rfl (by omega) (fun h => absurd h (by decide)) (fun _ => ?_)
  refine o_iload_n dN_latest_8 rfl ?_
  refine o_bipush (nI 6) dN_latest_9 rfl ?_
  refine m_callS M_N_out [.inl (nI q), .inl (nI 6)] [] dN_latest_11 mk_N_out st_N_out ml_N_73 rfl rfl rfl (Nat.le_of_ble_eq_true rfl) rfl ?_
  refine r_out_y (by decide) hq ?_
  show Om G M_N_latest 14 [(0, .inr (some (ad 20 0))), (1, .inl (nI i)), (2, .inl (nI q))] [.inl (nI 0)] mu Q
  refine n_if_eq 19 dN_latest_14 rfl (by omega) (fun _ => ?_) (fun h => absurd h (by decide))
  refine o_aload_n dN_latest_19 rfl ?_
  refine o_iload_n dN_latest_20 rfl ?_
  refine o_iload_n dN_latest_21 rfl ?_
  refine m_callV M_N_latestOf [.inl (nI i), .inl (nI q)] [] dN_latest_22 mk_N_latestOf in_N_latestOf se_N_latestOf rfl (by decide) rfl rfl ml_N_93 rfl rfl rfl (Nat.le_of_ble_eq_true rfl) rfl ?_
  refine r_latestOf hC.fw hi hq (hC.fsn hi) ?_
  show Om G M_N_latest 25 [(0, .inr (some (ad 20 0))), (1, .inl (nI i)), (2, .inl (nI q))] [.inl (nI (latN (sn i) ky vr q m))] mu Q
  refine o_istore_n [(0, _), (1, _), (2, _), (3, _)] dN_latest_25 rfl rfl ?_
  refine o_iload_n dN_latest_26 rfl ?_
  have hle9 := latN_le (sn := sn i) (ky := ky) (vr := vr) (q := q) m
  have hm4 := hC.fw.m4
  refine n_if_ne 35 dN_latest_27 rfl (by omega) (fun hb27 => ?_) (fun hb27 => ?_)
  · skip
    obtain ⟨u, hu⟩ : ∃ u, latN (sn i) ky vr q m = u + 1 := ⟨latN (sn i) ky vr q m - 1, by omega⟩
    rw [hu]
    refine o_iload_n dN_latest_35 rfl ?_
    refine o_iconst (nI 1) dN_latest_36 rfl ?_
    refine o_isub dN_latest_37 ?_
    refine o_top (nI u) (pk_sub (show 1 ≤ u + 1 by omega)) ?_
    refine m_iret dN_latest_38 rfl ?_
    rw [hu] at k
    exact k
  · skip
    refine o_bipush (-4) dN_latest_30 rfl ?_
    refine o_goto 38 dN_latest_32 rfl ?_
    refine m_iret dN_latest_38 rfl ?_
    rw [hb27] at k
    exact k
theorem R_lacks_b1 {G : oG} {mu : oMu} {Q : oPm} {a b : Int32} {z3 : Int32} (ha : ∀ j, j < 3 → ¬ a = nI j) (k : Q (some (.inl (-4))) mu) : Om G M_N_lacks 0 [(0, .inr (some (ad 20 0))), (1, .inl a), (2, .inl b), (3, .inl z3)] [] mu Q := by
  refine o_iload_n dN_lacks_0 rfl ?_
  refine o_iconst (nI 3) dN_lacks_1 rfl ?_
  refine m_callS M_N_out [.inl a, .inl (nI 3)] [] dN_lacks_2 mk_N_out st_N_out ml_N_73 rfl rfl rfl (Nat.le_of_ble_eq_true rfl) rfl ?_
  refine r_out_n (by decide) ha ?_
  show Om G M_N_lacks 5 [(0, .inr (some (ad 20 0))), (1, .inl a), (2, .inl b), (3, .inl z3)] [.inl (nI 1)] mu Q
  refine n_if_ne 16 dN_lacks_5 rfl (by omega) (fun _ => ?_) (fun h => absurd h (by decide))
  refine o_bipush (-4) dN_lacks_16 rfl ?_
  refine m_iret dN_lacks_18 rfl ?_
  exact k
theorem R_lacks_b2 {G : oG} {mu : oMu} {Q : oPm} {i : Nat} {b : Int32} {z3 : Int32} (hi : i < 3) (hb : ∀ j, j < 2 → ¬ b = nI j) (k : Q (some (.inl (-4))) mu) : Om G M_N_lacks 0 [(0, .inr (some (ad 20 0))), (1, .inl (nI i)), (2, .inl b), (3, .inl z3)] [] mu Q := by
  refine o_iload_n dN_lacks_0 rfl ?_
  refine o_iconst (nI 3) dN_lacks_1 rfl ?_
  refine m_callS M_N_out [.inl (nI i), .inl (nI 3)] [] dN_lacks_2 mk_N_out st_N_out ml_N_73 rfl rfl rfl (Nat.le_of_ble_eq_true rfl) rfl ?_
  refine r_out_y (by decide) hi ?_
  show Om G M_N_lacks 5 [(0, .inr (some (ad 20 0))), (1, .inl (nI i)), (2, .inl b), (3, .inl z3)] [.inl (nI 0)] mu Q
  refine n_if_ne 16 dN_lacks_5 rfl (by omega) (fun h => absurd h (by decide)) (fun _ => ?_)
  refine o_iload_n dN_lacks_8 rfl ?_
  refine o_iconst (nI 2) dN_lacks_9 rfl ?_
  refine m_callS M_N_out [.inl b, .inl (nI 2)] [] dN_lacks_10 mk_N_out st_N_out ml_N_73 rfl rfl rfl (Nat.le_of_ble_eq_true rfl) rfl ?_
  refine r_out_n (by decide) hb ?_
  show Om G M_N_lacks 13 [(0, .inr (some (ad 20 0))), (1, .inl (nI i)), (2, .inl b), (3, .inl z3)] [.inl (nI 1)] mu Q
  refine n_if_eq 19 dN_lacks_13 rfl (by omega) (fun h => absurd h (by decide)) (fun _ => ?_)
  refine o_bipush (-4) dN_lacks_16 rfl ?_
  refine m_iret dN_lacks_18 rfl ?_
  exact k
theorem R_lacks_n {G : oG} {mu : oMu} {Q : oPm} {m : Nat} {ky vr nd : Nat → Nat} {dp : Nat → Nat → Nat} {vl : Nat → Int32} {sn ck : Nat → Nat → Nat} {wt fl : Nat → List Nat} {x h d : Nat → Nat → Nat} {s l r ph : Nat → Nat} (hC : ReR mu m ky vr nd dp vl sn ck wt fl x h d s l r ph) {i q : Nat} (hi : i < 3) (hq : q < 2) {z : Int32} (hj : ∀ j, j < (wt (2 * i + q)).length → ¬ z = nI j) (k : Q (some (.inl (-4))) mu) : Om G M_N_lacks 0 [(0, .inr (some (ad 20 0))), (1, .inl (nI i)), (2, .inl (nI q)), (3, .inl z)] [] mu Q := by
  have hm4 := hC.fw.m4
  have hl4 := (hC.fwt (show 2 * i + q < 6 by omega)).2.1
  refine o_iload_n dN_lacks_0 rfl ?_
  refine o_iconst (nI 3) dN_lacks_1 rfl ?_
  refine m_callS M_N_out [.inl (nI i), .inl (nI 3)] [] dN_lacks_2 mk_N_out st_N_out ml_N_73 rfl rfl rfl (Nat.le_of_ble_eq_true rfl) rfl ?_
  refine r_out_y (by decide) hi ?_
  show Om G M_N_lacks 5 [(0, .inr (some (ad 20 0))), (1, .inl (nI i)), (2, .inl (nI q)), (3, .inl z)] [.inl (nI 0)] mu Q
  refine n_if_ne 16 dN_lacks_5 rfl (by omega) (fun h => absurd h (by decide)) (fun _ => ?_)
  refine o_iload_n dN_lacks_8 rfl ?_
  refine o_iconst (nI 2) dN_lacks_9 rfl ?_
  refine m_callS M_N_out [.inl (nI q), .inl (nI 2)] [] dN_lacks_10 mk_N_out st_N_out ml_N_73 rfl rfl rfl (Nat.le_of_ble_eq_true rfl) rfl ?_
  refine r_out_y (by decide) hq ?_
  show Om G M_N_lacks 13 [(0, .inr (some (ad 20 0))), (1, .inl (nI i)), (2, .inl (nI q)), (3, .inl z)] [.inl (nI 0)] mu Q
  refine n_if_eq 19 dN_lacks_13 rfl (by omega) (fun _ => ?_) (fun h => absurd h (by decide))
  refine o_iconst (nI 2) dN_lacks_19 rfl ?_
  refine o_iload_n dN_lacks_20 rfl ?_
  refine o_imul dN_lacks_21 ?_
  refine o_top _ (pk_mul _ _) ?_
  refine o_iload_n dN_lacks_22 rfl ?_
  refine o_iadd dN_lacks_23 ?_
  refine o_top _ (nI_add _ _) ?_
  refine o_istore [(0, _), (1, _), (2, _), (3, _), (4, _)] dN_lacks_24 rfl rfl ?_
  refine o_iload_n dN_lacks_26 rfl ?_
  refine o_aload_n dN_lacks_27 rfl ?_
  refine m_getr dN_lacks_28 fl_N_32 rfl rfl (by decide) ?_
  refine o_iload dN_lacks_31 rfl ?_
  refine m_iald (2 * i + q) dN_lacks_33 rfl rfl rfl (by decide) rfl (by omega) ?_
  refine o_top (nI ((wt (2 * i + q)).length)) (hC.fwt (by omega)).1 ?_
  refine m_callS M_N_out [.inl z, .inl (nI ((wt (2 * i + q)).length))] [] dN_lacks_34 mk_N_out st_N_out ml_N_73 rfl rfl rfl (Nat.le_of_ble_eq_true rfl) rfl ?_
  refine r_out_n (by omega) hj ?_
  show Om G M_N_lacks 37 [(0, .inr (some (ad 20 0))), (1, .inl (nI i)), (2, .inl (nI q)), (3, .inl z), (4, .inl (nI (2 * i + q)))] [.inl (nI 1)] mu Q
  refine n_if_eq 45 dN_lacks_37 rfl (by omega) (fun h => absurd h (by decide)) (fun _ => ?_)
  refine o_bipush (-4) dN_lacks_40 rfl ?_
  refine o_goto 62 dN_lacks_42 rfl ?_
  refine m_iret dN_lacks_62 rfl ?_
  exact k
theorem R_lacks_y {G : oG} {mu : oMu} {Q : oPm} {m : Nat} {ky vr nd : Nat → Nat} {dp : Nat → Nat → Nat} {vl : Nat → Int32} {sn ck : Nat → Nat → Nat} {wt fl : Nat → List Nat} {x h d : Nat → Nat → Nat} {s l r ph : Nat → Nat} (hC : ReR mu m ky vr nd dp vl sn ck wt fl x h d s l r ph) {i q : Nat} (hi : i < 3) (hq : q < 2) {j w : Nat} (hj : j < (wt (2 * i + q)).length) (hw : (wt (2 * i + q)).getD j 0 = w) (hwm : w < m) (hnd : ∀ k, k < 6 → (nd w).testBit k = true → ¬ dp w k = 0) (k : Q (some (.inl (nI (misN (nd w) (dp w) (sn i) 6)))) mu) : Om G M_N_lacks 0 [(0, .inr (some (ad 20 0))), (1, .inl (nI i)), (2, .inl (nI q)), (3, .inl (nI j))] [] mu Q := by
  have hm4 := hC.fw.m4
  have hl4 := (hC.fwt (show 2 * i + q < 6 by omega)).2.1
  refine o_iload_n dN_lacks_0 rfl ?_
  refine o_iconst (nI 3) dN_lacks_1 rfl ?_
  refine m_callS M_N_out [.inl (nI i), .inl (nI 3)] [] dN_lacks_2 mk_N_out st_N_out ml_N_73 rfl rfl rfl (Nat.le_of_ble_eq_true rfl) rfl ?_
  refine r_out_y (by decide) hi ?_
  show Om G M_N_lacks 5 [(0, .inr (some (ad 20 0))), (1, .inl (nI i)), (2, .inl (nI q)), (3, .inl (nI j))] [.inl (nI 0)] mu Q
  refine n_if_ne 16 dN_lacks_5 rfl (by omega) (fun h => absurd h (by decide)) (fun _ => ?_)
  refine o_iload_n dN_lacks_8 rfl ?_
  refine o_iconst (nI 2) dN_lacks_9 rfl ?_
  refine m_callS M_N_out [.inl (nI q), .inl (nI 2)] [] dN_lacks_10 mk_N_out st_N_out ml_N_73 rfl rfl rfl (Nat.le_of_ble_eq_true rfl) rfl ?_
  refine r_out_y (by decide) hq ?_
  show Om G M_N_lacks 13 [(0, .inr (some (ad 20 0))), (1, .inl (nI i)), (2, .inl (nI q)), (3, .inl (nI j))] [.inl (nI 0)] mu Q
  refine n_if_eq 19 dN_lacks_13 rfl (by omega) (fun _ => ?_) (fun h => absurd h (by decide))
  refine o_iconst (nI 2) dN_lacks_19 rfl ?_
  refine o_iload_n dN_lacks_20 rfl ?_
  refine o_imul dN_lacks_21 ?_
  refine o_top _ (pk_mul _ _) ?_
  refine o_iload_n dN_lacks_22 rfl ?_
  refine o_iadd dN_lacks_23 ?_
  refine o_top _ (nI_add _ _) ?_
  refine o_istore [(0, _), (1, _), (2, _), (3, _), (4, _)] dN_lacks_24 rfl rfl ?_
  refine o_iload_n dN_lacks_26 rfl ?_
  refine o_aload_n dN_lacks_27 rfl ?_
  refine m_getr dN_lacks_28 fl_N_32 rfl rfl (by decide) ?_
  refine o_iload dN_lacks_31 rfl ?_
  refine m_iald (2 * i + q) dN_lacks_33 rfl rfl rfl (by decide) rfl (by omega) ?_
  refine o_top (nI ((wt (2 * i + q)).length)) (hC.fwt (by omega)).1 ?_
  refine m_callS M_N_out [.inl (nI j), .inl (nI ((wt (2 * i + q)).length))] [] dN_lacks_34 mk_N_out st_N_out ml_N_73 rfl rfl rfl (Nat.le_of_ble_eq_true rfl) rfl ?_
  refine r_out_y (by omega) hj ?_
  show Om G M_N_lacks 37 [(0, .inr (some (ad 20 0))), (1, .inl (nI i)), (2, .inl (nI q)), (3, .inl (nI j)), (4, .inl (nI (2 * i + q)))] [.inl (nI 0)] mu Q
  refine n_if_eq 45 dN_lacks_37 rfl (by omega) (fun _ => ?_) (fun h => absurd h (by decide))
  refine o_aload_n dN_lacks_45 rfl ?_
  refine o_iload_n dN_lacks_46 rfl ?_
  refine o_aload_n dN_lacks_47 rfl ?_
  refine m_getr dN_lacks_48 fl_N_35 rfl rfl (by decide) ?_
  refine o_bipush (nI 40) dN_lacks_51 rfl ?_
  refine o_iload dN_lacks_53 rfl ?_
  refine o_imul dN_lacks_55 ?_
  refine o_top _ (pk_mul _ _) ?_
  refine o_iload_n dN_lacks_56 rfl ?_
  refine o_iadd dN_lacks_57 ?_
  refine o_top _ (nI_add _ _) ?_
  refine m_iald (40 * (2 * i + q) + j) dN_lacks_58 rfl rfl rfl (by decide) rfl (by omega) ?_
  refine o_top (nI w) (((hC.fwt (show 2 * i + q < 6 by omega)).2.2 j hj).trans (by rw [hw])) ?_
  refine m_callV M_N_missing [.inl (nI i), .inl (nI w)] [] dN_lacks_59 mk_N_missing in_N_missing se_N_missing rfl (by decide) rfl rfl ml_N_115 rfl rfl rfl (Nat.le_of_ble_eq_true rfl) rfl ?_
  refine r_missing hC.fw hi hwm (hC.fsn hi) hnd ?_
  show Om G M_N_lacks 62 [(0, .inr (some (ad 20 0))), (1, .inl (nI i)), (2, .inl (nI q)), (3, .inl (nI j)), (4, .inl (nI (2 * i + q)))] [.inl (nI (misN (nd w) (dp w) (sn i) 6))] mu Q
  refine m_iret dN_lacks_62 rfl ?_
  exact k
theorem R_rounds_b1 {G : oG} {mu : oMu} {Q : oPm} {a : Int32} (ha : ∀ j, j < 6 → ¬ a = nI j) (k : Q (some (.inl (-1))) mu) : Om G M_N_rounds 0 [(0, .inr (some (ad 20 0))), (1, .inl a)] [] mu Q := by
  refine o_iload_n dN_rounds_0 rfl ?_
  refine o_bipush (nI 6) dN_rounds_1 rfl ?_
  refine m_callS M_N_out [.inl a, .inl (nI 6)] [] dN_rounds_3 mk_N_out st_N_out ml_N_73 rfl rfl rfl (Nat.le_of_ble_eq_true rfl) rfl ?_
  refine r_out_n (by decide) ha ?_
  show Om G M_N_rounds 6 [(0, .inr (some (ad 20 0))), (1, .inl a)] [.inl (nI 1)] mu Q
  refine n_if_eq 13 dN_rounds_6 rfl (by omega) (fun h => absurd h (by decide)) (fun _ => ?_)
  refine o_iconst (-1) dN_rounds_9 rfl ?_
  refine o_goto 19 dN_rounds_10 rfl ?_
  refine m_iret dN_rounds_19 rfl ?_
  exact k
theorem R_rounds {G : oG} {mu : oMu} {Q : oPm} {m : Nat} {ky vr nd : Nat → Nat} {dp : Nat → Nat → Nat} {vl : Nat → Int32} {sn ck : Nat → Nat → Nat} {wt fl : Nat → List Nat} {x h d : Nat → Nat → Nat} {s l r ph : Nat → Nat} (hC : ReR mu m ky vr nd dp vl sn ck wt fl x h d s l r ph) {i : Nat} (hi : i < 6) (k : Q (some (.inl (nI (r i)))) mu) : Om G M_N_rounds 0 [(0, .inr (some (ad 20 0))), (1, .inl (nI i))] [] mu Q := by
  refine o_iload_n dN_rounds_0 rfl ?_
  refine o_bipush (nI 6) dN_rounds_1 rfl ?_
  refine m_callS M_N_out [.inl (nI i), .inl (nI 6)] [] dN_rounds_3 mk_N_out st_N_out ml_N_73 rfl rfl rfl (Nat.le_of_ble_eq_true rfl) rfl ?_
  refine r_out_y (by decide) hi ?_
  show Om G M_N_rounds 6 [(0, .inr (some (ad 20 0))), (1, .inl (nI i))] [.inl (nI 0)] mu Q
  refine n_if_eq 13 dN_rounds_6 rfl (by omega) (fun _ => ?_) (fun h => absurd h (by decide))
  refine o_aload_n dN_rounds_13 rfl ?_
  refine m_getr dN_rounds_14 fl_N_53 rfl rfl (by decide) ?_
  refine o_iload_n dN_rounds_17 rfl ?_
  refine m_iald i dN_rounds_18 rfl rfl rfl (by decide) rfl hi ?_
  refine o_top (nI (r i)) (hC.fro hi) ?_
  refine m_iret dN_rounds_19 rfl ?_
  exact k
theorem R_nearest_b1 {G : oG} {mu : oMu} {Q : oPm} {a : Int32} (ha : ∀ j, j < 6 → ¬ a = nI j) (k : Q (some (.inl (-1))) mu) : Om G M_N_nearest 0 [(0, .inr (some (ad 20 0))), (1, .inl a)] [] mu Q := by
  refine o_iload_n dN_nearest_0 rfl ?_
  refine o_bipush (nI 6) dN_nearest_1 rfl ?_
  refine m_callS M_N_out [.inl a, .inl (nI 6)] [] dN_nearest_3 mk_N_out st_N_out ml_N_73 rfl rfl rfl (Nat.le_of_ble_eq_true rfl) rfl ?_
  refine r_out_n (by decide) ha ?_
  show Om G M_N_nearest 6 [(0, .inr (some (ad 20 0))), (1, .inl a)] [.inl (nI 1)] mu Q
  refine n_if_eq 13 dN_nearest_6 rfl (by omega) (fun h => absurd h (by decide)) (fun _ => ?_)
  refine o_iconst (-1) dN_nearest_9 rfl ?_
  refine o_goto 18 dN_nearest_10 rfl ?_
  refine m_iret dN_nearest_18 rfl ?_
  exact k
theorem R_nearest {G : oG} {mu : oMu} {Q : oPm} {m : Nat} {ky vr nd : Nat → Nat} {dp : Nat → Nat → Nat} {vl : Nat → Int32} {sn ck : Nat → Nat → Nat} {wt fl : Nat → List Nat} {x h d : Nat → Nat → Nat} {s l r ph : Nat → Nat} (hC : ReR mu m ky vr nd dp vl sn ck wt fl x h d s l r ph) {i : Nat} (hi : i < 6) (k : Q (some (.inl (nI (nearB (x i) dp 6)))) mu) : Om G M_N_nearest 0 [(0, .inr (some (ad 20 0))), (1, .inl (nI i))] [] mu Q := by
  refine o_iload_n dN_nearest_0 rfl ?_
  refine o_bipush (nI 6) dN_nearest_1 rfl ?_
  refine m_callS M_N_out [.inl (nI i), .inl (nI 6)] [] dN_nearest_3 mk_N_out st_N_out ml_N_73 rfl rfl rfl (Nat.le_of_ble_eq_true rfl) rfl ?_
  refine r_out_y (by decide) hi ?_
  show Om G M_N_nearest 6 [(0, .inr (some (ad 20 0))), (1, .inl (nI i))] [.inl (nI 0)] mu Q
  refine n_if_eq 13 dN_nearest_6 rfl (by omega) (fun _ => ?_) (fun h => absurd h (by decide))
  refine o_aload_n dN_nearest_13 rfl ?_
  refine o_iload_n dN_nearest_14 rfl ?_
  refine m_callV M_N_near [.inl (nI i)] [] dN_nearest_15 mk_N_near in_N_near se_N_near rfl (by decide) rfl rfl ml_N_81 rfl rfl rfl (Nat.le_of_ble_eq_true rfl) rfl ?_
  refine r_near hC.fw hi (hC.fx hi) ?_
  show Om G M_N_nearest 18 [(0, .inr (some (ad 20 0))), (1, .inl (nI i))] [.inl (nI (nearB (x i) dp 6))] mu Q
  refine m_iret dN_nearest_18 rfl ?_
  exact k
theorem R_dependency_b1 {G : oG} {mu : oMu} {Q : oPm} {m : Nat} {ky vr nd : Nat → Nat} {dp : Nat → Nat → Nat} {vl : Nat → Int32} {sn ck : Nat → Nat → Nat} {wt fl : Nat → List Nat} {x h d : Nat → Nat → Nat} {s l r ph : Nat → Nat} (hC : ReR mu m ky vr nd dp vl sn ck wt fl x h d s l r ph) {a b : Int32} (ha : ∀ j, j < m → ¬ a = nI j) (k : Q (some (.inl (-1))) mu) : Om G M_N_dependency 0 [(0, .inr (some (ad 20 0))), (1, .inl a), (2, .inl b)] [] mu Q := by
  have hm4 := hC.fw.m4
  refine o_iload_n dN_dependency_0 rfl ?_
  refine o_aload_n dN_dependency_1 rfl ?_
  refine m_geti dN_dependency_2 fl_N_65 rfl rfl (by decide) ?_
  refine o_top (nI m) hC.fw.mm ?_
  refine m_callS M_N_out [.inl a, .inl (nI m)] [] dN_dependency_5 mk_N_out st_N_out ml_N_73 rfl rfl rfl (Nat.le_of_ble_eq_true rfl) rfl ?_
  refine r_out_n (by omega) ha ?_
  show Om G M_N_dependency 8 [(0, .inr (some (ad 20 0))), (1, .inl a), (2, .inl b)] [.inl (nI 1)] mu Q
  refine n_if_ne 20 dN_dependency_8 rfl (by omega) (fun _ => ?_) (fun h => absurd h (by decide))
  refine o_iconst (-1) dN_dependency_20 rfl ?_
  refine m_iret dN_dependency_21 rfl ?_
  exact k
theorem R_dependency_b2 {G : oG} {mu : oMu} {Q : oPm} {m : Nat} {ky vr nd : Nat → Nat} {dp : Nat → Nat → Nat} {vl : Nat → Int32} {sn ck : Nat → Nat → Nat} {wt fl : Nat → List Nat} {x h d : Nat → Nat → Nat} {s l r ph : Nat → Nat} (hC : ReR mu m ky vr nd dp vl sn ck wt fl x h d s l r ph) {w : Nat} {b : Int32} (hw : w < m) (hb : ∀ j, j < 6 → ¬ b = nI j) (k : Q (some (.inl (-1))) mu) : Om G M_N_dependency 0 [(0, .inr (some (ad 20 0))), (1, .inl (nI w)), (2, .inl b)] [] mu Q := by
  have hm4 := hC.fw.m4
  refine o_iload_n dN_dependency_0 rfl ?_
  refine o_aload_n dN_dependency_1 rfl ?_
  refine m_geti dN_dependency_2 fl_N_65 rfl rfl (by decide) ?_
  refine o_top (nI m) hC.fw.mm ?_
  refine m_callS M_N_out [.inl (nI w), .inl (nI m)] [] dN_dependency_5 mk_N_out st_N_out ml_N_73 rfl rfl rfl (Nat.le_of_ble_eq_true rfl) rfl ?_
  refine r_out_y (by omega) hw ?_
  show Om G M_N_dependency 8 [(0, .inr (some (ad 20 0))), (1, .inl (nI w)), (2, .inl b)] [.inl (nI 0)] mu Q
  refine n_if_ne 20 dN_dependency_8 rfl (by omega) (fun h => absurd h (by decide)) (fun _ => ?_)
  refine o_iload_n dN_dependency_11 rfl ?_
  refine o_bipush (nI 6) dN_dependency_12 rfl ?_
  refine m_callS M_N_out [.inl b, .inl (nI 6)] [] dN_dependency_14 mk_N_out st_N_out ml_N_73 rfl rfl rfl (Nat.le_of_ble_eq_true rfl) rfl ?_
  refine r_out_n (by decide) hb ?_
  show Om G M_N_dependency 17 [(0, .inr (some (ad 20 0))), (1, .inl (nI w)), (2, .inl b)] [.inl (nI 1)] mu Q
  refine n_if_eq 22 dN_dependency_17 rfl (by omega) (fun h => absurd h (by decide)) (fun _ => ?_)
  refine o_iconst (-1) dN_dependency_20 rfl ?_
  refine m_iret dN_dependency_21 rfl ?_
  exact k
theorem R_dependency {G : oG} {mu : oMu} {Q : oPm} {m : Nat} {ky vr nd : Nat → Nat} {dp : Nat → Nat → Nat} {vl : Nat → Int32} {sn ck : Nat → Nat → Nat} {wt fl : Nat → List Nat} {x h d : Nat → Nat → Nat} {s l r ph : Nat → Nat} (hC : ReR mu m ky vr nd dp vl sn ck wt fl x h d s l r ph) {w q : Nat} (hw : w < m) (hq : q < 6) (k : Q (some (.inl (dec (dp w q)))) mu) : Om G M_N_dependency 0 [(0, .inr (some (ad 20 0))), (1, .inl (nI w)), (2, .inl (nI q))] [] mu Q := by
  have hm4 := hC.fw.m4
  refine o_iload_n dN_dependency_0 rfl ?_
  refine o_aload_n dN_dependency_1 rfl ?_
  refine m_geti dN_dependency_2 fl_N_65 rfl rfl (by decide) ?_
  refine o_top (nI m) hC.fw.mm ?_
  refine m_callS M_N_out [.inl (nI w), .inl (nI m)] [] dN_dependency_5 mk_N_out st_N_out ml_N_73 rfl rfl rfl (Nat.le_of_ble_eq_true rfl) rfl ?_
  refine r_out_y (by omega) hw ?_
  show Om G M_N_dependency 8 [(0, .inr (some (ad 20 0))), (1, .inl (nI w)), (2, .inl (nI q))] [.inl (nI 0)] mu Q
  refine n_if_ne 20 dN_dependency_8 rfl (by omega) (fun h => absurd h (by decide)) (fun _ => ?_)
  refine o_iload_n dN_dependency_11 rfl ?_
  refine o_bipush (nI 6) dN_dependency_12 rfl ?_
  refine m_callS M_N_out [.inl (nI q), .inl (nI 6)] [] dN_dependency_14 mk_N_out st_N_out ml_N_73 rfl rfl rfl (Nat.le_of_ble_eq_true rfl) rfl ?_
  refine r_out_y (by decide) hq ?_
  show Om G M_N_dependency 17 [(0, .inr (some (ad 20 0))), (1, .inl (nI w)), (2, .inl (nI q))] [.inl (nI 0)] mu Q
  refine n_if_eq 22 dN_dependency_17 rfl (by omega) (fun _ => ?_) (fun h => absurd h (by decide))
  refine o_aload_n dN_dependency_22 rfl ?_
  refine m_getr dN_dependency_23 fl_N_19 rfl rfl (by decide) ?_
  refine o_bipush (nI 6) dN_dependency_26 rfl ?_
  refine o_iload_n dN_dependency_28 rfl ?_
  refine o_imul dN_dependency_29 ?_
  refine o_top _ (pk_mul _ _) ?_
  refine o_iload_n dN_dependency_30 rfl ?_
  refine o_iadd dN_dependency_31 ?_
  refine o_top _ (nI_add _ _) ?_
  refine m_iald (6 * w + q) dN_dependency_32 rfl rfl rfl (by decide) rfl (by omega) ?_
  refine o_top (nI (dp w q)) (hC.fw.dep hw hq) ?_
  have hle9 := hC.fw.depB hw hq
  refine n_if_ne 41 dN_dependency_33 rfl (by omega) (fun hb33 => ?_) (fun hb33 => ?_)
  · skip
    obtain ⟨u, hu⟩ : ∃ u, dp w q = u + 1 := ⟨dp w q - 1, by omega⟩
    refine o_aload_n dN_dependency_41 rfl ?_
    refine m_getr dN_dependency_42 fl_N_19 rfl rfl (by decide) ?_
    refine o_bipush (nI 6) dN_dependency_45 rfl ?_
    refine o_iload_n dN_dependency_47 rfl ?_
    refine o_imul dN_dependency_48 ?_
    refine o_top _ (pk_mul _ _) ?_
    refine o_iload_n dN_dependency_49 rfl ?_
    refine o_iadd dN_dependency_50 ?_
    refine o_top _ (nI_add _ _) ?_
    refine m_iald (6 * w + q) dN_dependency_51 rfl rfl rfl (by decide) rfl (by omega) ?_
    refine o_top (nI (u + 1)) ((hC.fw.dep hw hq).trans (by rw [hu])) ?_
    refine o_iconst (nI 1) dN_dependency_52 rfl ?_
    refine o_isub dN_dependency_53 ?_
    refine o_top (nI u) (pk_sub (show 1 ≤ u + 1 by omega)) ?_
    refine m_iret dN_dependency_54 rfl ?_
    rw [hu] at k
    exact k
  · skip
    refine o_bipush (-4) dN_dependency_36 rfl ?_
    refine o_goto 54 dN_dependency_38 rfl ?_
    refine m_iret dN_dependency_54 rfl ?_
    rw [hb33] at k
    exact k
theorem R_visible_b1 {G : oG} {mu : oMu} {Q : oPm} {a b : Int32} (ha : ∀ j, j < 3 → ¬ a = nI j) (k : Q (some (.inl (nI 0))) mu) : Om G M_N_visible 0 [(0, .inr (some (ad 20 0))), (1, .inl a), (2, .inl b)] [] mu Q := by
  refine o_iload_n dN_visible_0 rfl ?_
  refine o_iconst (nI 3) dN_visible_1 rfl ?_
  refine m_callS M_N_out [.inl a, .inl (nI 3)] [] dN_visible_2 mk_N_out st_N_out ml_N_73 rfl rfl rfl (Nat.le_of_ble_eq_true rfl) rfl ?_
  refine r_out_n (by decide) ha ?_
  show Om G M_N_visible 5 [(0, .inr (some (ad 20 0))), (1, .inl a), (2, .inl b)] [.inl (nI 1)] mu Q
  refine n_if_ne 37 dN_visible_5 rfl (by omega) (fun _ => ?_) (fun h => absurd h (by decide))
  refine o_iconst (nI 0) dN_visible_37 rfl ?_
  refine m_zret dN_visible_38 rfl rfl ?_
  exact k
theorem R_visible_b2 {G : oG} {mu : oMu} {Q : oPm} {m : Nat} {ky vr nd : Nat → Nat} {dp : Nat → Nat → Nat} {vl : Nat → Int32} {sn ck : Nat → Nat → Nat} {wt fl : Nat → List Nat} {x h d : Nat → Nat → Nat} {s l r ph : Nat → Nat} (hC : ReR mu m ky vr nd dp vl sn ck wt fl x h d s l r ph) {i : Nat} {b : Int32} (hi : i < 3) (hb : ∀ j, j < m → ¬ b = nI j) (k : Q (some (.inl (nI 0))) mu) : Om G M_N_visible 0 [(0, .inr (some (ad 20 0))), (1, .inl (nI i)), (2, .inl b)] [] mu Q := by
  have hm4 := hC.fw.m4
  refine o_iload_n dN_visible_0 rfl ?_
  refine o_iconst (nI 3) dN_visible_1 rfl ?_
  refine m_callS M_N_out [.inl (nI i), .inl (nI 3)] [] dN_visible_2 mk_N_out st_N_out ml_N_73 rfl rfl rfl (Nat.le_of_ble_eq_true rfl) rfl ?_
  refine r_out_y (by decide) hi ?_
  show Om G M_N_visible 5 [(0, .inr (some (ad 20 0))), (1, .inl (nI i)), (2, .inl b)] [.inl (nI 0)] mu Q
  refine n_if_ne 37 dN_visible_5 rfl (by omega) (fun h => absurd h (by decide)) (fun _ => ?_)
  refine o_iload_n dN_visible_8 rfl ?_
  refine o_aload_n dN_visible_9 rfl ?_
  refine m_geti dN_visible_10 fl_N_65 rfl rfl (by decide) ?_
  refine o_top (nI m) hC.fw.mm ?_
  refine m_callS M_N_out [.inl b, .inl (nI m)] [] dN_visible_13 mk_N_out st_N_out ml_N_73 rfl rfl rfl (Nat.le_of_ble_eq_true rfl) rfl ?_
  refine r_out_n (by omega) hb ?_
  show Om G M_N_visible 16 [(0, .inr (some (ad 20 0))), (1, .inl (nI i)), (2, .inl b)] [.inl (nI 1)] mu Q
  refine n_if_ne 37 dN_visible_16 rfl (by omega) (fun _ => ?_) (fun h => absurd h (by decide))
  refine o_iconst (nI 0) dN_visible_37 rfl ?_
  refine m_zret dN_visible_38 rfl rfl ?_
  exact k
theorem R_visible {G : oG} {mu : oMu} {Q : oPm} {m : Nat} {ky vr nd : Nat → Nat} {dp : Nat → Nat → Nat} {vl : Nat → Int32} {sn ck : Nat → Nat → Nat} {wt fl : Nat → List Nat} {x h d : Nat → Nat → Nat} {s l r ph : Nat → Nat} (hC : ReR mu m ky vr nd dp vl sn ck wt fl x h d s l r ph) {i w : Nat} (hi : i < 3) (hw : w < m) (k : Q (some (.inl (nI (sn i w)))) mu) : Om G M_N_visible 0 [(0, .inr (some (ad 20 0))), (1, .inl (nI i)), (2, .inl (nI w))] [] mu Q := by
  have hm4 := hC.fw.m4
  refine o_iload_n dN_visible_0 rfl ?_
  refine o_iconst (nI 3) dN_visible_1 rfl ?_
  refine m_callS M_N_out [.inl (nI i), .inl (nI 3)] [] dN_visible_2 mk_N_out st_N_out ml_N_73 rfl rfl rfl (Nat.le_of_ble_eq_true rfl) rfl ?_
  refine r_out_y (by decide) hi ?_
  show Om G M_N_visible 5 [(0, .inr (some (ad 20 0))), (1, .inl (nI i)), (2, .inl (nI w))] [.inl (nI 0)] mu Q
  refine n_if_ne 37 dN_visible_5 rfl (by omega) (fun h => absurd h (by decide)) (fun _ => ?_)
  refine o_iload_n dN_visible_8 rfl ?_
  refine o_aload_n dN_visible_9 rfl ?_
  refine m_geti dN_visible_10 fl_N_65 rfl rfl (by decide) ?_
  refine o_top (nI m) hC.fw.mm ?_
  refine m_callS M_N_out [.inl (nI w), .inl (nI m)] [] dN_visible_13 mk_N_out st_N_out ml_N_73 rfl rfl rfl (Nat.le_of_ble_eq_true rfl) rfl ?_
  refine r_out_y (by omega) hw ?_
  show Om G M_N_visible 16 [(0, .inr (some (ad 20 0))), (1, .inl (nI i)), (2, .inl (nI w))] [.inl (nI 0)] mu Q
  refine n_if_ne 37 dN_visible_16 rfl (by omega) (fun h => absurd h (by decide)) (fun _ => ?_)
  refine o_aload_n dN_visible_19 rfl ?_
  refine m_getr dN_visible_20 fl_N_25 rfl rfl (by decide) ?_
  refine o_bipush (nI 40) dN_visible_23 rfl ?_
  refine o_iload_n dN_visible_25 rfl ?_
  refine o_imul dN_visible_26 ?_
  refine o_top _ (pk_mul _ _) ?_
  refine o_iload_n dN_visible_27 rfl ?_
  refine o_iadd dN_visible_28 ?_
  refine o_top _ (nI_add _ _) ?_
  refine m_zald (40 * i + w) dN_visible_29 rfl rfl rfl (by decide) rfl (by omega) ?_
  refine o_top (nI (sn i w)) (hC.fsn hi w (by omega)).1 ?_
  have hs2 := (hC.fsn hi w (by omega)).2
  refine n_if_eq 37 dN_visible_30 rfl (by omega) (fun hb30 => ?_) (fun hb30 => ?_)
  · skip
    refine o_iconst (nI 0) dN_visible_37 rfl ?_
    refine m_zret dN_visible_38 rfl rfl ?_
    rw [hb30] at k
    exact k
  · skip
    refine o_iconst (nI 1) dN_visible_33 rfl ?_
    refine o_goto 38 dN_visible_34 rfl ?_
    refine m_zret dN_visible_38 rfl rfl ?_
    rw [show sn i w = 1 by omega] at k
    exact k
theorem R_about_b1 {G : oG} {mu : oMu} {Q : oPm} {m : Nat} {ky vr nd : Nat → Nat} {dp : Nat → Nat → Nat} {vl : Nat → Int32} {sn ck : Nat → Nat → Nat} {wt fl : Nat → List Nat} {x h d : Nat → Nat → Nat} {s l r ph : Nat → Nat} (hC : ReR mu m ky vr nd dp vl sn ck wt fl x h d s l r ph) {a b : Int32} (ha : ∀ j, j < m → ¬ a = nI j) (k : Q (some (.inl (nI 0))) mu) : Om G M_N_about 0 [(0, .inr (some (ad 20 0))), (1, .inl a), (2, .inl b)] [] mu Q := by
  have hm4 := hC.fw.m4
  refine o_iload_n dN_about_0 rfl ?_
  refine o_aload_n dN_about_1 rfl ?_
  refine m_geti dN_about_2 fl_N_65 rfl rfl (by decide) ?_
  refine o_top (nI m) hC.fw.mm ?_
  refine m_callS M_N_out [.inl a, .inl (nI m)] [] dN_about_5 mk_N_out st_N_out ml_N_73 rfl rfl rfl (Nat.le_of_ble_eq_true rfl) rfl ?_
  refine r_out_n (by omega) ha ?_
  show Om G M_N_about 8 [(0, .inr (some (ad 20 0))), (1, .inl a), (2, .inl b)] [.inl (nI 1)] mu Q
  refine n_if_eq 13 dN_about_8 rfl (by omega) (fun h => absurd h (by decide)) (fun _ => ?_)
  refine o_iconst (nI 0) dN_about_11 rfl ?_
  refine m_iret dN_about_12 rfl ?_
  exact k
theorem R_about_0 {G : oG} {mu : oMu} {Q : oPm} {m : Nat} {ky vr nd : Nat → Nat} {dp : Nat → Nat → Nat} {vl : Nat → Int32} {sn ck : Nat → Nat → Nat} {wt fl : Nat → List Nat} {x h d : Nat → Nat → Nat} {s l r ph : Nat → Nat} (hC : ReR mu m ky vr nd dp vl sn ck wt fl x h d s l r ph) {w : Nat} (hw : w < m) (k : Q (some (.inl (nI (ky w)))) mu) : Om G M_N_about 0 [(0, .inr (some (ad 20 0))), (1, .inl (nI w)), (2, .inl (nI 0))] [] mu Q := by
  have hm4 := hC.fw.m4
  refine o_iload_n dN_about_0 rfl ?_
  refine o_aload_n dN_about_1 rfl ?_
  refine m_geti dN_about_2 fl_N_65 rfl rfl (by decide) ?_
  refine o_top (nI m) hC.fw.mm ?_
  refine m_callS M_N_out [.inl (nI w), .inl (nI m)] [] dN_about_5 mk_N_out st_N_out ml_N_73 rfl rfl rfl (Nat.le_of_ble_eq_true rfl) rfl ?_
  refine r_out_y (by omega) hw ?_
  show Om G M_N_about 8 [(0, .inr (some (ad 20 0))), (1, .inl (nI w)), (2, .inl (nI 0))] [.inl (nI 0)] mu Q
  refine n_if_eq 13 dN_about_8 rfl (by omega) (fun _ => ?_) (fun h => absurd h (by decide))
  refine o_iload_n dN_about_13 rfl ?_
  refine o_tabIn 44 dN_about_14 (by decide) (by decide) rfl rfl ?_
  refine o_aload_n dN_about_44 rfl ?_
  refine m_getr dN_about_45 fl_N_7 rfl rfl (by decide) ?_
  refine o_iload_n dN_about_48 rfl ?_
  refine m_iald w dN_about_49 rfl rfl rfl (by decide) rfl (by omega) ?_
  refine o_top (nI (ky w)) (hC.fw.key hw) ?_
  refine m_iret dN_about_50 rfl ?_
  exact k
theorem R_about_1 {G : oG} {mu : oMu} {Q : oPm} {m : Nat} {ky vr nd : Nat → Nat} {dp : Nat → Nat → Nat} {vl : Nat → Int32} {sn ck : Nat → Nat → Nat} {wt fl : Nat → List Nat} {x h d : Nat → Nat → Nat} {s l r ph : Nat → Nat} (hC : ReR mu m ky vr nd dp vl sn ck wt fl x h d s l r ph) {w : Nat} (hw : w < m) (k : Q (some (.inl (nI (vr w)))) mu) : Om G M_N_about 0 [(0, .inr (some (ad 20 0))), (1, .inl (nI w)), (2, .inl (nI 1))] [] mu Q := by
  have hm4 := hC.fw.m4
  refine o_iload_n dN_about_0 rfl ?_
  refine o_aload_n dN_about_1 rfl ?_
  refine m_geti dN_about_2 fl_N_65 rfl rfl (by decide) ?_
  refine o_top (nI m) hC.fw.mm ?_
  refine m_callS M_N_out [.inl (nI w), .inl (nI m)] [] dN_about_5 mk_N_out st_N_out ml_N_73 rfl rfl rfl (Nat.le_of_ble_eq_true rfl) rfl ?_
  refine r_out_y (by omega) hw ?_
  show Om G M_N_about 8 [(0, .inr (some (ad 20 0))), (1, .inl (nI w)), (2, .inl (nI 1))] [.inl (nI 0)] mu Q
  refine n_if_eq 13 dN_about_8 rfl (by omega) (fun _ => ?_) (fun h => absurd h (by decide))
  refine o_iload_n dN_about_13 rfl ?_
  refine o_tabIn 51 dN_about_14 (by decide) (by decide) rfl rfl ?_
  refine o_aload_n dN_about_51 rfl ?_
  refine m_getr dN_about_52 fl_N_16 rfl rfl (by decide) ?_
  refine o_iload_n dN_about_55 rfl ?_
  refine m_iald w dN_about_56 rfl rfl rfl (by decide) rfl (by omega) ?_
  refine o_top (nI (vr w)) (hC.fw.ver w hw) ?_
  refine m_iret dN_about_57 rfl ?_
  exact k
theorem R_about_2 {G : oG} {mu : oMu} {Q : oPm} {m : Nat} {ky vr nd : Nat → Nat} {dp : Nat → Nat → Nat} {vl : Nat → Int32} {sn ck : Nat → Nat → Nat} {wt fl : Nat → List Nat} {x h d : Nat → Nat → Nat} {s l r ph : Nat → Nat} (hC : ReR mu m ky vr nd dp vl sn ck wt fl x h d s l r ph) {w : Nat} (hw : w < m) (k : Q (some (.inl (vl w))) mu) : Om G M_N_about 0 [(0, .inr (some (ad 20 0))), (1, .inl (nI w)), (2, .inl (nI 2))] [] mu Q := by
  have hm4 := hC.fw.m4
  refine o_iload_n dN_about_0 rfl ?_
  refine o_aload_n dN_about_1 rfl ?_
  refine m_geti dN_about_2 fl_N_65 rfl rfl (by decide) ?_
  refine o_top (nI m) hC.fw.mm ?_
  refine m_callS M_N_out [.inl (nI w), .inl (nI m)] [] dN_about_5 mk_N_out st_N_out ml_N_73 rfl rfl rfl (Nat.le_of_ble_eq_true rfl) rfl ?_
  refine r_out_y (by omega) hw ?_
  show Om G M_N_about 8 [(0, .inr (some (ad 20 0))), (1, .inl (nI w)), (2, .inl (nI 2))] [.inl (nI 0)] mu Q
  refine n_if_eq 13 dN_about_8 rfl (by omega) (fun _ => ?_) (fun h => absurd h (by decide))
  refine o_iload_n dN_about_13 rfl ?_
  refine o_tabIn 58 dN_about_14 (by decide) (by decide) rfl rfl ?_
  refine o_aload_n dN_about_58 rfl ?_
  refine m_getr dN_about_59 fl_N_13 rfl rfl (by decide) ?_
  refine o_iload_n dN_about_62 rfl ?_
  refine m_iald w dN_about_63 rfl rfl rfl (by decide) rfl (by omega) ?_
  refine o_top (vl w) (hC.fv hw) ?_
  refine m_iret dN_about_64 rfl ?_
  exact k
theorem R_about_3 {G : oG} {mu : oMu} {Q : oPm} {m : Nat} {ky vr nd : Nat → Nat} {dp : Nat → Nat → Nat} {vl : Nat → Int32} {sn ck : Nat → Nat → Nat} {wt fl : Nat → List Nat} {x h d : Nat → Nat → Nat} {s l r ph : Nat → Nat} (hC : ReR mu m ky vr nd dp vl sn ck wt fl x h d s l r ph) {w : Nat} (hw : w < m) (k : Q (some (.inl (nI (nd w)))) mu) : Om G M_N_about 0 [(0, .inr (some (ad 20 0))), (1, .inl (nI w)), (2, .inl (nI 3))] [] mu Q := by
  have hm4 := hC.fw.m4
  refine o_iload_n dN_about_0 rfl ?_
  refine o_aload_n dN_about_1 rfl ?_
  refine m_geti dN_about_2 fl_N_65 rfl rfl (by decide) ?_
  refine o_top (nI m) hC.fw.mm ?_
  refine m_callS M_N_out [.inl (nI w), .inl (nI m)] [] dN_about_5 mk_N_out st_N_out ml_N_73 rfl rfl rfl (Nat.le_of_ble_eq_true rfl) rfl ?_
  refine r_out_y (by omega) hw ?_
  show Om G M_N_about 8 [(0, .inr (some (ad 20 0))), (1, .inl (nI w)), (2, .inl (nI 3))] [.inl (nI 0)] mu Q
  refine n_if_eq 13 dN_about_8 rfl (by omega) (fun _ => ?_) (fun h => absurd h (by decide))
  refine o_iload_n dN_about_13 rfl ?_
  refine o_tabIn 65 dN_about_14 (by decide) (by decide) rfl rfl ?_
  refine o_aload_n dN_about_65 rfl ?_
  refine m_getr dN_about_66 fl_N_22 rfl rfl (by decide) ?_
  refine o_iload_n dN_about_69 rfl ?_
  refine m_iald w dN_about_70 rfl rfl rfl (by decide) rfl (by omega) ?_
  refine o_top (nI (nd w)) (hC.fw.need hw) ?_
  refine m_iret dN_about_71 rfl ?_
  exact k
theorem R_about_o {G : oG} {mu : oMu} {Q : oPm} {m : Nat} {ky vr nd : Nat → Nat} {dp : Nat → Nat → Nat} {vl : Nat → Int32} {sn ck : Nat → Nat → Nat} {wt fl : Nat → List Nat} {x h d : Nat → Nat → Nat} {s l r ph : Nat → Nat} (hC : ReR mu m ky vr nd dp vl sn ck wt fl x h d s l r ph) {w : Nat} {b : Int32} (hw : w < m) (hb : ∀ j, j < 4 → ¬ b = nI j) (k : Q (some (.inl (nI 0))) mu) : Om G M_N_about 0 [(0, .inr (some (ad 20 0))), (1, .inl (nI w)), (2, .inl b)] [] mu Q := by
  have hm4 := hC.fw.m4
  refine o_iload_n dN_about_0 rfl ?_
  refine o_aload_n dN_about_1 rfl ?_
  refine m_geti dN_about_2 fl_N_65 rfl rfl (by decide) ?_
  refine o_top (nI m) hC.fw.mm ?_
  refine m_callS M_N_out [.inl (nI w), .inl (nI m)] [] dN_about_5 mk_N_out st_N_out ml_N_73 rfl rfl rfl (Nat.le_of_ble_eq_true rfl) rfl ?_
  refine r_out_y (by omega) hw ?_
  show Om G M_N_about 8 [(0, .inr (some (ad 20 0))), (1, .inl (nI w)), (2, .inl b)] [.inl (nI 0)] mu Q
  refine n_if_eq 13 dN_about_8 rfl (by omega) (fun _ => ?_) (fun h => absurd h (by decide))
  refine o_iload_n dN_about_13 rfl ?_
  refine o_tabOut 72 dN_about_14 (sw_out (n := 3) (by decide) hb) rfl ?_
  refine o_iconst (nI 0) dN_about_72 rfl ?_
  refine m_iret dN_about_73 rfl ?_
  exact k
theorem r_link_b1 {G : oG} {mu : oMu} {Q : oPm} {a b : Int32} (ha : ∀ j, j < 3 → ¬ a = nI j) (k : Q (some (.inl (nI 0))) mu) : Om G M_N_link 0 [(0, .inr (some (ad 20 0))), (1, .inl a), (2, .inl b)] [] mu Q := by
  refine o_iload_n dN_link_0 rfl ?_
  refine o_iconst (nI 3) dN_link_1 rfl ?_
  refine m_callS M_N_out [.inl a, .inl (nI 3)] [] dN_link_2 mk_N_out st_N_out ml_N_73 rfl rfl rfl (Nat.le_of_ble_eq_true rfl) rfl ?_
  refine r_out_n (by decide) ha ?_
  show Om G M_N_link 5 [(0, .inr (some (ad 20 0))), (1, .inl a), (2, .inl b)] [.inl (nI 1)] mu Q
  refine n_if_ne 25 dN_link_5 rfl (by omega) (fun _ => ?_) (fun h => absurd h (by decide))
  refine o_iconst (nI 0) dN_link_25 rfl ?_
  refine m_zret dN_link_26 rfl rfl ?_
  exact k
theorem r_link_b2 {G : oG} {mu : oMu} {Q : oPm} {i : Nat} {b : Int32} (hi : i < 3) (hb : ∀ j, j < 3 → ¬ b = nI j) (k : Q (some (.inl (nI 0))) mu) : Om G M_N_link 0 [(0, .inr (some (ad 20 0))), (1, .inl (nI i)), (2, .inl b)] [] mu Q := by
  refine o_iload_n dN_link_0 rfl ?_
  refine o_iconst (nI 3) dN_link_1 rfl ?_
  refine m_callS M_N_out [.inl (nI i), .inl (nI 3)] [] dN_link_2 mk_N_out st_N_out ml_N_73 rfl rfl rfl (Nat.le_of_ble_eq_true rfl) rfl ?_
  refine r_out_y (by decide) hi ?_
  show Om G M_N_link 5 [(0, .inr (some (ad 20 0))), (1, .inl (nI i)), (2, .inl b)] [.inl (nI 0)] mu Q
  refine n_if_ne 25 dN_link_5 rfl (by omega) (fun h => absurd h (by decide)) (fun _ => ?_)
  refine o_iload_n dN_link_8 rfl ?_
  refine o_iconst (nI 3) dN_link_9 rfl ?_
  refine m_callS M_N_out [.inl b, .inl (nI 3)] [] dN_link_10 mk_N_out st_N_out ml_N_73 rfl rfl rfl (Nat.le_of_ble_eq_true rfl) rfl ?_
  refine r_out_n (by decide) hb ?_
  show Om G M_N_link 13 [(0, .inr (some (ad 20 0))), (1, .inl (nI i)), (2, .inl b)] [.inl (nI 1)] mu Q
  refine n_if_ne 25 dN_link_13 rfl (by omega) (fun _ => ?_) (fun h => absurd h (by decide))
  refine o_iconst (nI 0) dN_link_25 rfl ?_
  refine m_zret dN_link_26 rfl rfl ?_
  exact k
theorem r_link_e {G : oG} {mu : oMu} {Q : oPm} {i : Nat} (hi : i < 3) (k : Q (some (.inl (nI 0))) mu) : Om G M_N_link 0 [(0, .inr (some (ad 20 0))), (1, .inl (nI i)), (2, .inl (nI i))] [] mu Q := by
  refine o_iload_n dN_link_0 rfl ?_
  refine o_iconst (nI 3) dN_link_1 rfl ?_
  refine m_callS M_N_out [.inl (nI i), .inl (nI 3)] [] dN_link_2 mk_N_out st_N_out ml_N_73 rfl rfl rfl (Nat.le_of_ble_eq_true rfl) rfl ?_
  refine r_out_y (by decide) hi ?_
  show Om G M_N_link 5 [(0, .inr (some (ad 20 0))), (1, .inl (nI i)), (2, .inl (nI i))] [.inl (nI 0)] mu Q
  refine n_if_ne 25 dN_link_5 rfl (by omega) (fun h => absurd h (by decide)) (fun _ => ?_)
  refine o_iload_n dN_link_8 rfl ?_
  refine o_iconst (nI 3) dN_link_9 rfl ?_
  refine m_callS M_N_out [.inl (nI i), .inl (nI 3)] [] dN_link_10 mk_N_out st_N_out ml_N_73 rfl rfl rfl (Nat.le_of_ble_eq_true rfl) rfl ?_
  refine r_out_y (by decide) hi ?_
  show Om G M_N_link 13 [(0, .inr (some (ad 20 0))), (1, .inl (nI i)), (2, .inl (nI i))] [.inl (nI 0)] mu Q
  refine n_if_ne 25 dN_link_13 rfl (by omega) (fun h => absurd h (by decide)) (fun _ => ?_)
  refine o_iload_n dN_link_16 rfl ?_
  refine o_iload_n dN_link_17 rfl ?_
  refine n_icmp_eq 25 dN_link_18 rfl (by omega) (by omega) (fun h => ?_) (fun h => absurd rfl h)
  refine o_iconst (nI 0) dN_link_25 rfl ?_
  refine m_zret dN_link_26 rfl rfl ?_
  exact k
theorem r_link {G : oG} {mu : oMu} {Q : oPm} {i q : Nat} (hi : i < 3) (hq : q < 3) (hne : ¬ i = q) (k : Q (some (.inl (nI 1))) mu) : Om G M_N_link 0 [(0, .inr (some (ad 20 0))), (1, .inl (nI i)), (2, .inl (nI q))] [] mu Q := by
  refine o_iload_n dN_link_0 rfl ?_
  refine o_iconst (nI 3) dN_link_1 rfl ?_
  refine m_callS M_N_out [.inl (nI i), .inl (nI 3)] [] dN_link_2 mk_N_out st_N_out ml_N_73 rfl rfl rfl (Nat.le_of_ble_eq_true rfl) rfl ?_
  refine r_out_y (by decide) hi ?_
  show Om G M_N_link 5 [(0, .inr (some (ad 20 0))), (1, .inl (nI i)), (2, .inl (nI q))] [.inl (nI 0)] mu Q
  refine n_if_ne 25 dN_link_5 rfl (by omega) (fun h => absurd h (by decide)) (fun _ => ?_)
  refine o_iload_n dN_link_8 rfl ?_
  refine o_iconst (nI 3) dN_link_9 rfl ?_
  refine m_callS M_N_out [.inl (nI q), .inl (nI 3)] [] dN_link_10 mk_N_out st_N_out ml_N_73 rfl rfl rfl (Nat.le_of_ble_eq_true rfl) rfl ?_
  refine r_out_y (by decide) hq ?_
  show Om G M_N_link 13 [(0, .inr (some (ad 20 0))), (1, .inl (nI i)), (2, .inl (nI q))] [.inl (nI 0)] mu Q
  refine n_if_ne 25 dN_link_13 rfl (by omega) (fun h => absurd h (by decide)) (fun _ => ?_)
  refine o_iload_n dN_link_16 rfl ?_
  refine o_iload_n dN_link_17 rfl ?_
  refine n_icmp_eq 25 dN_link_18 rfl (by omega) (by omega) (fun h => absurd h hne) (fun h => ?_)
  refine o_iconst (nI 1) dN_link_21 rfl ?_
  refine o_goto 26 dN_link_22 rfl ?_
  refine m_zret dN_link_26 rfl rfl ?_
  exact k
theorem R_flight_b1 {G : oG} {mu : oMu} {Q : oPm} {a b : Int32} (ha : ∀ j, j < 3 → ¬ a = nI j) (k : Q (some (.inl (nI 0))) mu) : Om G M_N_flight 0 [(0, .inr (some (ad 20 0))), (1, .inl a), (2, .inl b)] [] mu Q := by
  refine o_aload_n dN_flight_0 rfl ?_
  refine o_iload_n dN_flight_1 rfl ?_
  refine o_iload_n dN_flight_2 rfl ?_
  refine m_callV M_N_link [.inl a, .inl b] [] dN_flight_3 mk_N_link in_N_link se_N_link rfl (by decide) rfl rfl ml_N_112 rfl rfl rfl (Nat.le_of_ble_eq_true rfl) rfl ?_
  refine r_link_b1 ha ?_
  show Om G M_N_flight 6 [(0, .inr (some (ad 20 0))), (1, .inl a), (2, .inl b)] [.inl (nI 0)] mu Q
  refine n_if_eq 22 dN_flight_6 rfl (by omega) (fun _ => ?_) (fun h => absurd h (by decide))
  refine o_iconst (nI 0) dN_flight_22 rfl ?_
  refine m_iret dN_flight_23 rfl ?_
  exact k
theorem R_flight_b2 {G : oG} {mu : oMu} {Q : oPm} {i : Nat} {b : Int32} (hi : i < 3) (hb : ∀ j, j < 3 → ¬ b = nI j) (k : Q (some (.inl (nI 0))) mu) : Om G M_N_flight 0 [(0, .inr (some (ad 20 0))), (1, .inl (nI i)), (2, .inl b)] [] mu Q := by
  refine o_aload_n dN_flight_0 rfl ?_
  refine o_iload_n dN_flight_1 rfl ?_
  refine o_iload_n dN_flight_2 rfl ?_
  refine m_callV M_N_link [.inl (nI i), .inl b] [] dN_flight_3 mk_N_link in_N_link se_N_link rfl (by decide) rfl rfl ml_N_112 rfl rfl rfl (Nat.le_of_ble_eq_true rfl) rfl ?_
  refine r_link_b2 hi hb ?_
  show Om G M_N_flight 6 [(0, .inr (some (ad 20 0))), (1, .inl (nI i)), (2, .inl b)] [.inl (nI 0)] mu Q
  refine n_if_eq 22 dN_flight_6 rfl (by omega) (fun _ => ?_) (fun h => absurd h (by decide))
  refine o_iconst (nI 0) dN_flight_22 rfl ?_
  refine m_iret dN_flight_23 rfl ?_
  exact k
theorem R_flight_e {G : oG} {mu : oMu} {Q : oPm} {i : Nat} (hi : i < 3) (k : Q (some (.inl (nI 0))) mu) : Om G M_N_flight 0 [(0, .inr (some (ad 20 0))), (1, .inl (nI i)), (2, .inl (nI i))] [] mu Q := by
  refine o_aload_n dN_flight_0 rfl ?_
  refine o_iload_n dN_flight_1 rfl ?_
  refine o_iload_n dN_flight_2 rfl ?_
  refine m_callV M_N_link [.inl (nI i), .inl (nI i)] [] dN_flight_3 mk_N_link in_N_link se_N_link rfl (by decide) rfl rfl ml_N_112 rfl rfl rfl (Nat.le_of_ble_eq_true rfl) rfl ?_
  refine r_link_e hi ?_
  show Om G M_N_flight 6 [(0, .inr (some (ad 20 0))), (1, .inl (nI i)), (2, .inl (nI i))] [.inl (nI 0)] mu Q
  refine n_if_eq 22 dN_flight_6 rfl (by omega) (fun _ => ?_) (fun h => absurd h (by decide))
  refine o_iconst (nI 0) dN_flight_22 rfl ?_
  refine m_iret dN_flight_23 rfl ?_
  exact k
theorem R_sent_b1 {G : oG} {mu : oMu} {Q : oPm} {a b : Int32} {z : Int32} (ha : ∀ j, j < 3 → ¬ a = nI j) (k : Q (some (.inl (-4))) mu) : Om G M_N_sent 0 [(0, .inr (some (ad 20 0))), (1, .inl a), (2, .inl b), (3, .inl z)] [] mu Q := by
  refine o_aload_n dN_sent_0 rfl ?_
  refine o_iload_n dN_sent_1 rfl ?_
  refine o_iload_n dN_sent_2 rfl ?_
  refine m_callV M_N_link [.inl a, .inl b] [] dN_sent_3 mk_N_link in_N_link se_N_link rfl (by decide) rfl rfl ml_N_112 rfl rfl rfl (Nat.le_of_ble_eq_true rfl) rfl ?_
  refine r_link_b1 ha ?_
  show Om G M_N_sent 6 [(0, .inr (some (ad 20 0))), (1, .inl a), (2, .inl b), (3, .inl z)] [.inl (nI 0)] mu Q
  refine n_if_ne 12 dN_sent_6 rfl (by omega) (fun h => absurd h (by decide)) (fun _ => ?_)
  refine o_bipush (-4) dN_sent_9 rfl ?_
  refine m_iret dN_sent_11 rfl ?_
  exact k
theorem R_sent_b2 {G : oG} {mu : oMu} {Q : oPm} {i : Nat} {b : Int32} {z : Int32} (hi : i < 3) (hb : ∀ j, j < 3 → ¬ b = nI j) (k : Q (some (.inl (-4))) mu) : Om G M_N_sent 0 [(0, .inr (some (ad 20 0))), (1, .inl (nI i)), (2, .inl b), (3, .inl z)] [] mu Q := by
  refine o_aload_n dN_sent_0 rfl ?_
  refine o_iload_n dN_sent_1 rfl ?_
  refine o_iload_n dN_sent_2 rfl ?_
  refine m_callV M_N_link [.inl (nI i), .inl b] [] dN_sent_3 mk_N_link in_N_link se_N_link rfl (by decide) rfl rfl ml_N_112 rfl rfl rfl (Nat.le_of_ble_eq_true rfl) rfl ?_
  refine r_link_b2 hi hb ?_
  show Om G M_N_sent 6 [(0, .inr (some (ad 20 0))), (1, .inl (nI i)), (2, .inl b), (3, .inl z)] [.inl (nI 0)] mu Q
  refine n_if_ne 12 dN_sent_6 rfl (by omega) (fun h => absurd h (by decide)) (fun _ => ?_)
  refine o_bipush (-4) dN_sent_9 rfl ?_
  refine m_iret dN_sent_11 rfl ?_
  exact k
theorem R_sent_e {G : oG} {mu : oMu} {Q : oPm} {i : Nat} {z : Int32} (hi : i < 3) (k : Q (some (.inl (-4))) mu) : Om G M_N_sent 0 [(0, .inr (some (ad 20 0))), (1, .inl (nI i)), (2, .inl (nI i)), (3, .inl z)] [] mu Q := by
  refine o_aload_n dN_sent_0 rfl ?_
  refine o_iload_n dN_sent_1 rfl ?_
  refine o_iload_n dN_sent_2 rfl ?_
  refine m_callV M_N_link [.inl (nI i), .inl (nI i)] [] dN_sent_3 mk_N_link in_N_link se_N_link rfl (by decide) rfl rfl ml_N_112 rfl rfl rfl (Nat.le_of_ble_eq_true rfl) rfl ?_
  refine r_link_e hi ?_
  show Om G M_N_sent 6 [(0, .inr (some (ad 20 0))), (1, .inl (nI i)), (2, .inl (nI i)), (3, .inl z)] [.inl (nI 0)] mu Q
  refine n_if_ne 12 dN_sent_6 rfl (by omega) (fun h => absurd h (by decide)) (fun _ => ?_)
  refine o_bipush (-4) dN_sent_9 rfl ?_
  refine m_iret dN_sent_11 rfl ?_
  exact k
theorem R_flight {G : oG} {mu : oMu} {Q : oPm} {m : Nat} {ky vr nd : Nat → Nat} {dp : Nat → Nat → Nat} {vl : Nat → Int32} {sn ck : Nat → Nat → Nat} {wt fl : Nat → List Nat} {x h d : Nat → Nat → Nat} {s l r ph : Nat → Nat} (hC : ReR mu m ky vr nd dp vl sn ck wt fl x h d s l r ph) {i q : Nat} (hi : i < 3) (hq : q < 3) (hne : ¬ i = q) (k : Q (some (.inl (nI (fl (3 * i + q)).length))) mu) : Om G M_N_flight 0 [(0, .inr (some (ad 20 0))), (1, .inl (nI i)), (2, .inl (nI q))] [] mu Q := by
  refine o_aload_n dN_flight_0 rfl ?_
  refine o_iload_n dN_flight_1 rfl ?_
  refine o_iload_n dN_flight_2 rfl ?_
  refine m_callV M_N_link [.inl (nI i), .inl (nI q)] [] dN_flight_3 mk_N_link in_N_link se_N_link rfl (by decide) rfl rfl ml_N_112 rfl rfl rfl (Nat.le_of_ble_eq_true rfl) rfl ?_
  refine r_link hi hq hne ?_
  show Om G M_N_flight 6 [(0, .inr (some (ad 20 0))), (1, .inl (nI i)), (2, .inl (nI q))] [.inl (nI 1)] mu Q
  refine n_if_eq 22 dN_flight_6 rfl (by omega) (fun h => absurd h (by decide)) (fun _ => ?_)
  refine o_aload_n dN_flight_9 rfl ?_
  refine m_getr dN_flight_10 fl_N_38 rfl rfl (by decide) ?_
  refine o_iconst (nI 3) dN_flight_13 rfl ?_
  refine o_iload_n dN_flight_14 rfl ?_
  refine o_imul dN_flight_15 ?_
  refine o_top _ (pk_mul _ _) ?_
  refine o_iload_n dN_flight_16 rfl ?_
  refine o_iadd dN_flight_17 ?_
  refine o_top _ (nI_add _ _) ?_
  refine m_iald (3 * i + q) dN_flight_18 rfl rfl rfl (by decide) rfl (by omega) ?_
  refine o_top (nI ((fl (3 * i + q)).length)) (hC.ffl (by omega)).1 ?_
  refine o_goto 23 dN_flight_19 rfl ?_
  refine m_iret dN_flight_23 rfl ?_
  exact k
theorem R_sent_n {G : oG} {mu : oMu} {Q : oPm} {m : Nat} {ky vr nd : Nat → Nat} {dp : Nat → Nat → Nat} {vl : Nat → Int32} {sn ck : Nat → Nat → Nat} {wt fl : Nat → List Nat} {x h d : Nat → Nat → Nat} {s l r ph : Nat → Nat} (hC : ReR mu m ky vr nd dp vl sn ck wt fl x h d s l r ph) {i q : Nat} {z : Int32} (hi : i < 3) (hq : q < 3) (hne : ¬ i = q) (hj : ∀ j, j < (fl (3 * i + q)).length → ¬ z = nI j) (k : Q (some (.inl (-4))) mu) : Om G M_N_sent 0 [(0, .inr (some (ad 20 0))), (1, .inl (nI i)), (2, .inl (nI q)), (3, .inl z)] [] mu Q := by
  have hl4 := (hC.ffl (show 3 * i + q < 9 by omega)).2.1
  refine o_aload_n dN_sent_0 rfl ?_
  refine o_iload_n dN_sent_1 rfl ?_
  refine o_iload_n dN_sent_2 rfl ?_
  refine m_callV M_N_link [.inl (nI i), .inl (nI q)] [] dN_sent_3 mk_N_link in_N_link se_N_link rfl (by decide) rfl rfl ml_N_112 rfl rfl rfl (Nat.le_of_ble_eq_true rfl) rfl ?_
  refine r_link hi hq hne ?_
  show Om G M_N_sent 6 [(0, .inr (some (ad 20 0))), (1, .inl (nI i)), (2, .inl (nI q)), (3, .inl z)] [.inl (nI 1)] mu Q
  refine n_if_ne 12 dN_sent_6 rfl (by omega) (fun _ => ?_) (fun h => absurd h (by decide))
  refine o_iload_n dN_sent_12 rfl ?_
  refine o_aload_n dN_sent_13 rfl ?_
  refine m_getr dN_sent_14 fl_N_38 rfl rfl (by decide) ?_
  refine o_iconst (nI 3) dN_sent_17 rfl ?_
  refine o_iload_n dN_sent_18 rfl ?_
  refine o_imul dN_sent_19 ?_
  refine o_top _ (pk_mul _ _) ?_
  refine o_iload_n dN_sent_20 rfl ?_
  refine o_iadd dN_sent_21 ?_
  refine o_top _ (nI_add _ _) ?_
  refine m_iald (3 * i + q) dN_sent_22 rfl rfl rfl (by decide) rfl (by omega) ?_
  refine o_top (nI ((fl (3 * i + q)).length)) (hC.ffl (by omega)).1 ?_
  refine m_callS M_N_out [.inl z, .inl (nI ((fl (3 * i + q)).length))] [] dN_sent_23 mk_N_out st_N_out ml_N_73 rfl rfl rfl (Nat.le_of_ble_eq_true rfl) rfl ?_
  refine r_out_n (by omega) hj ?_
  show Om G M_N_sent 26 [(0, .inr (some (ad 20 0))), (1, .inl (nI i)), (2, .inl (nI q)), (3, .inl z)] [.inl (nI 1)] mu Q
  refine n_if_eq 34 dN_sent_26 rfl (by omega) (fun h => absurd h (by decide)) (fun _ => ?_)
  refine o_bipush (-4) dN_sent_29 rfl ?_
  refine o_goto 49 dN_sent_31 rfl ?_
  refine m_iret dN_sent_49 rfl ?_
  exact k
theorem R_sent_y {G : oG} {mu : oMu} {Q : oPm} {m : Nat} {ky vr nd : Nat → Nat} {dp : Nat → Nat → Nat} {vl : Nat → Int32} {sn ck : Nat → Nat → Nat} {wt fl : Nat → List Nat} {x h d : Nat → Nat → Nat} {s l r ph : Nat → Nat} (hC : ReR mu m ky vr nd dp vl sn ck wt fl x h d s l r ph) {i q j : Nat} (hi : i < 3) (hq : q < 3) (hne : ¬ i = q) (hj : j < (fl (3 * i + q)).length) (k : Q (some (.inl (nI ((fl (3 * i + q)).getD j 0)))) mu) : Om G M_N_sent 0 [(0, .inr (some (ad 20 0))), (1, .inl (nI i)), (2, .inl (nI q)), (3, .inl (nI j))] [] mu Q := by
  have hl4 := (hC.ffl (show 3 * i + q < 9 by omega)).2.1
  refine o_aload_n dN_sent_0 rfl ?_
  refine o_iload_n dN_sent_1 rfl ?_
  refine o_iload_n dN_sent_2 rfl ?_
  refine m_callV M_N_link [.inl (nI i), .inl (nI q)] [] dN_sent_3 mk_N_link in_N_link se_N_link rfl (by decide) rfl rfl ml_N_112 rfl rfl rfl (Nat.le_of_ble_eq_true rfl) rfl ?_
  refine r_link hi hq hne ?_
  show Om G M_N_sent 6 [(0, .inr (some (ad 20 0))), (1, .inl (nI i)), (2, .inl (nI q)), (3, .inl (nI j))] [.inl (nI 1)] mu Q
  refine n_if_ne 12 dN_sent_6 rfl (by omega) (fun _ => ?_) (fun h => absurd h (by decide))
  refine o_iload_n dN_sent_12 rfl ?_
  refine o_aload_n dN_sent_13 rfl ?_
  refine m_getr dN_sent_14 fl_N_38 rfl rfl (by decide) ?_
  refine o_iconst (nI 3) dN_sent_17 rfl ?_
  refine o_iload_n dN_sent_18 rfl ?_
  refine o_imul dN_sent_19 ?_
  refine o_top _ (pk_mul _ _) ?_
  refine o_iload_n dN_sent_20 rfl ?_
  refine o_iadd dN_sent_21 ?_
  refine o_top _ (nI_add _ _) ?_
  refine m_iald (3 * i + q) dN_sent_22 rfl rfl rfl (by decide) rfl (by omega) ?_
  refine o_top (nI ((fl (3 * i + q)).length)) (hC.ffl (by omega)).1 ?_
  refine m_callS M_N_out [.inl (nI j), .inl (nI ((fl (3 * i + q)).length))] [] dN_sent_23 mk_N_out st_N_out ml_N_73 rfl rfl rfl (Nat.le_of_ble_eq_true rfl) rfl ?_
  refine r_out_y (by omega) hj ?_
  show Om G M_N_sent 26 [(0, .inr (some (ad 20 0))), (1, .inl (nI i)), (2, .inl (nI q)), (3, .inl (nI j))] [.inl (nI 0)] mu Q
  refine n_if_eq 34 dN_sent_26 rfl (by omega) (fun _ => ?_) (fun h => absurd h (by decide))
  refine o_aload_n dN_sent_34 rfl ?_
  refine m_getr dN_sent_35 fl_N_41 rfl rfl (by decide) ?_
  refine o_bipush (nI 40) dN_sent_38 rfl ?_
  refine o_iconst (nI 3) dN_sent_40 rfl ?_
  refine o_iload_n dN_sent_41 rfl ?_
  refine o_imul dN_sent_42 ?_
  refine o_top _ (pk_mul _ _) ?_
  refine o_iload_n dN_sent_43 rfl ?_
  refine o_iadd dN_sent_44 ?_
  refine o_top _ (nI_add _ _) ?_
  refine o_imul dN_sent_45 ?_
  refine o_top _ (pk_mul _ _) ?_
  refine o_iload_n dN_sent_46 rfl ?_
  refine o_iadd dN_sent_47 ?_
  refine o_top _ (nI_add _ _) ?_
  refine m_iald (40 * (3 * i + q) + j) dN_sent_48 rfl rfl rfl (by decide) rfl (by omega) ?_
  refine o_top (nI ((fl (3 * i + q)).getD j 0)) ((hC.ffl (show 3 * i + q < 9 by omega)).2.2 j hj) ?_
  refine m_iret dN_sent_49 rfl ?_
  exact k
end
section
/-! The class's get, begin, read. -/
def mgt (mu mu' : oMu) : Prop := ∀ t i, 20 ≤ t → mu' t i = mu t i
def mlt (mu mu' : oMu) : Prop := ∀ t i, t < 20 → mu' t i = mu t i
theorem mgt_of {L : List (Nat × Nat)} {mu mu' : oMu} (h : mfr L mu mu') (hL : L.all (fun q => Nat.blt q.1 20) = true) : mgt mu mu' := fun t i ht => h t i fun hq => by
  have h1 : Nat.blt t 20 = true := List.all_eq_true.mp hL _ hq
  have h2 : t < 20 := Nat.le_of_ble_eq_true h1
  omega
theorem mgt.tr {a b c : oMu} (h1 : mgt a b) (h2 : mgt b c) : mgt a c := fun t i h => (h2 t i h).trans (h1 t i h)
theorem va_self {α : Type} {f : Nat → α} {i : Nat} {v : α} (e : f i = v) : va_up f i v = f := by
  funext j
  by_cases hj : j = i
  · subst hj; simp [va_up, e]
  · simp [va_up, hj]
theorem va_s {α : Type} {f : Nat → α} {i : Nat} {v : α} : va_up f i v i = v := by simp [va_up]
theorem va_n {α : Type} {f : Nat → α} {i j : Nat} {v : α} (h : ¬ j = i) : va_up f i v j = f j := by simp [va_up, h]
theorem ReC.cli {mu mu' : oMu} {m : Nat} {ky vr nd : Nat → Nat} {dp : Nat → Nat → Nat} {vl : Nat → Int32} {sn ck : Nat → Nat → Nat} {wt fl : Nat → List Nat} {x h d : Nat → Nat → Nat} {s l r : Nat → Nat} {i : Nat} {X Hh D : Nat → Nat} {S' L' R' : Nat} (hC : ReC mu m ky vr nd dp vl sn ck wt fl x h d s l r) (hi : i < 6) (hf : mfr [(14, i), (15, i), (16, i), (17, i)] mu mu') (h0 : mu' 14 i 0 = nI (i % 3)) (h4 : mu' 14 i 4 = nI S') (h5 : mu' 14 i 5 = nI L') (h6 : mu' 14 i 6 = nI R') (hX : xOk mu' 15 i m X) (hH : xOk mu' 16 i m Hh) (hD : xOk mu' 17 i m D) : ReC mu' m ky vr nd dp vl sn ck wt fl (va_up x i X) (va_up h i Hh) (va_up d i D) (va_up s i S') (va_up l i L') (va_up r i R') := by
  have f : ∀ t j, ¬ (t = 14 ∨ t = 15 ∨ t = 16 ∨ t = 17) → mu' t j = mu t j := fun t j ht => hf t j (by simp; omega)
  refine ⟨hC.fw.fr hf rfl, fun w hw => by rw [f 5 w (by decide)]; exact hC.fv hw, fun c hc => ⟨fun w hw => by rw [f 8 c (by decide)]; exact hC.fsn hc w hw, fun k hk => by rw [f 9 c (by decide)]; exact hC.fnw hc k hk, fun p hp => by rw [f 10 c (by decide)]; exact hC.fck hc hp⟩, fun q hq => ?_, fun q hq => ?_, fun j hj => ?_⟩
  · have h9 := hC.fwt hq
    unfold rowOk at h9 ⊢
    rw [f 12 q (by decide), f 13 q (by decide)]
    exact h9
  · have h9 := hC.ffl hq
    unfold rowOk at h9 ⊢
    rw [f 18 q (by decide), f 19 q (by decide)]
    exact h9
  · by_cases e : j = i
    · subst e
      simp only [va_s]
      exact ⟨⟨h0, h4, h5, h6⟩, hX, hH, hD⟩
    · simp only [va_n e]
      rw [hf 14 j (by simp [e])]
      exact ⟨(hC.2.2.2.2.2 j hj).1, (hC.fx hj).fr hf (by simp [e]), (hC.fh hj).fr hf (by simp [e]), (hC.fd hj).fr hf (by simp [e])⟩
theorem C_get_b1 {G : oG} {mu : oMu} {Q : oPm} {a b : Int32} (ha : ∀ j, j < 6 → ¬ a = nI j) (k : Q (some (.inl (-1))) mu) : Om G M_S_get 0 [(0, .inr (some (ad 0 0))), (1, .inl a), (2, .inl b)] [] mu Q := by
  refine o_iload_n dS_get_0 rfl ?_
  refine m_callS M_S_isClient [.inl a] [] dS_get_1 mk_S_isClient st_S_isClient ml_S_39 rfl rfl rfl (Nat.le_of_ble_eq_true rfl) rfl ?_
  refine c_isClient_n ha ?_
  show Om G M_S_get 4 [(0, .inr (some (ad 0 0))), (1, .inl a), (2, .inl b)] [.inl (nI 0)] mu Q
  refine n_if_eq 14 dS_get_4 rfl (by omega) (fun _ => ?_) (fun h => absurd h (by decide))
  refine o_iconst (-1) dS_get_14 rfl ?_
  refine m_iret dS_get_15 rfl ?_
  exact k
theorem C_get_b2 {G : oG} {mu : oMu} {Q : oPm} {i : Nat} {b : Int32} (hi : i < 6) (hb : ∀ j, j < 6 → ¬ b = nI j) (k : Q (some (.inl (-1))) mu) : Om G M_S_get 0 [(0, .inr (some (ad 0 0))), (1, .inl (nI i)), (2, .inl b)] [] mu Q := by
  refine o_iload_n dS_get_0 rfl ?_
  refine m_callS M_S_isClient [.inl (nI i)] [] dS_get_1 mk_S_isClient st_S_isClient ml_S_39 rfl rfl rfl (Nat.le_of_ble_eq_true rfl) rfl ?_
  refine c_isClient_y hi ?_
  show Om G M_S_get 4 [(0, .inr (some (ad 0 0))), (1, .inl (nI i)), (2, .inl b)] [.inl (nI 1)] mu Q
  refine n_if_eq 14 dS_get_4 rfl (by omega) (fun h => absurd h (by decide)) (fun _ => ?_)
  refine o_iload_n dS_get_7 rfl ?_
  refine m_callS M_S_isKey [.inl b] [] dS_get_8 mk_S_isKey st_S_isKey ml_S_43 rfl rfl rfl (Nat.le_of_ble_eq_true rfl) rfl ?_
  refine c_isKey_n hb ?_
  show Om G M_S_get 11 [(0, .inr (some (ad 0 0))), (1, .inl (nI i)), (2, .inl b)] [.inl (nI 0)] mu Q
  refine n_if_ne 16 dS_get_11 rfl (by omega) (fun h => absurd h (by decide)) (fun _ => ?_)
  refine o_iconst (-1) dS_get_14 rfl ?_
  refine m_iret dS_get_15 rfl ?_
  exact k
theorem C_get_busy {G : oG} {mu : oMu} {Q : oPm} {m : Nat} {ky vr nd : Nat → Nat} {dp : Nat → Nat → Nat} {vl : Nat → Int32} {sn ck : Nat → Nat → Nat} {wt fl : Nat → List Nat} {x h d : Nat → Nat → Nat} {s l r : Nat → Nat} (hC : ReC mu m ky vr nd dp vl sn ck wt fl x h d s l r) {i q : Nat} (hi : i < 6) (hl6 : l i < 64) (hq : q < 6) (hl0 : ¬ l i = 0) (k : Q (some (.inl (-2))) mu) : Om G M_S_get 0 [(0, .inr (some (ad 0 0))), (1, .inl (nI i)), (2, .inl (nI q))] [] mu Q := by
  refine o_iload_n dS_get_0 rfl ?_
  refine m_callS M_S_isClient [.inl (nI i)] [] dS_get_1 mk_S_isClient st_S_isClient ml_S_39 rfl rfl rfl (Nat.le_of_ble_eq_true rfl) rfl ?_
  refine c_isClient_y hi ?_
  show Om G M_S_get 4 [(0, .inr (some (ad 0 0))), (1, .inl (nI i)), (2, .inl (nI q))] [.inl (nI 1)] mu Q
  refine n_if_eq 14 dS_get_4 rfl (by omega) (fun h => absurd h (by decide)) (fun _ => ?_)
  refine o_iload_n dS_get_7 rfl ?_
  refine m_callS M_S_isKey [.inl (nI q)] [] dS_get_8 mk_S_isKey st_S_isKey ml_S_43 rfl rfl rfl (Nat.le_of_ble_eq_true rfl) rfl ?_
  refine c_isKey_y hq ?_
  show Om G M_S_get 11 [(0, .inr (some (ad 0 0))), (1, .inl (nI i)), (2, .inl (nI q))] [.inl (nI 1)] mu Q
  refine n_if_ne 16 dS_get_11 rfl (by omega) (fun _ => ?_) (fun h => absurd h (by decide))
  refine o_aload_n dS_get_16 rfl ?_
  refine m_getr dS_get_17 fl_S_23 rfl rfl (by decide) ?_
  refine o_iload_n dS_get_20 rfl ?_
  refine m_aald i dS_get_21 rfl rfl rfl (by decide) rfl (sh_q3 hi) ?_
  refine o_astore_n [(0, _), (1, _), (2, _), (3, _)] dS_get_22 rfl rfl ?_
  refine o_aload_n dS_get_23 rfl ?_
  refine m_callV M_K_isOpen [] [] dS_get_24 mk_K_isOpen in_K_isOpen se_K_isOpen rfl hi rfl rfl ml_S_46 rfl rfl rfl (Nat.le_of_ble_eq_true rfl) rfl ?_
  refine c_isOpen hi (hC.fle hi) hl6 (fun h9 => ?_) (fun h9 => ?_)
  · skip
    show Om G M_S_get 27 [(0, .inr (some (ad 0 0))), (1, .inl (nI i)), (2, .inl (nI q)), (3, .inr (some (ad 14 i)))] [.inl (nI 1)] mu Q
    refine n_if_eq 33 dS_get_27 rfl (by omega) (fun h => absurd h (by decide)) (fun _ => ?_)
    refine o_bipush (-2) dS_get_30 rfl ?_
    refine m_iret dS_get_32 rfl ?_
    exact k
  · skip
    exact absurd h9 hl0
theorem C_get {G : oG} {mu : oMu} {Q : oPm} {m : Nat} {ky vr nd : Nat → Nat} {dp : Nat → Nat → Nat} {vl : Nat → Int32} {sn ck : Nat → Nat → Nat} {wt fl : Nat → List Nat} {x h d : Nat → Nat → Nat} {s l r : Nat → Nat} (hC : ReC mu m ky vr nd dp vl sn ck wt fl x h d s l r) {i q : Nat} (hi : i < 6) (hl6 : l i < 64) (hq : q < 6) (hl0 : l i = 0) (k0 : latN (sn (i % 3)) ky vr q m = 0 → Q (some (.inl (-4))) mu) (k1 : ∀ w, w < m → latN (sn (i % 3)) ky vr q m = w + 1 → ∀ mu' : oMu, ReC mu' m ky vr nd dp vl sn ck wt fl (va_up x i (sX (x i) (dp w) vr (ky w) w)) h d s l r → mgt mu mu' → Q (some (.inl (nI w))) mu') : Om G M_S_get 0 [(0, .inr (some (ad 0 0))), (1, .inl (nI i)), (2, .inl (nI q))] [] mu Q := by
  refine o_iload_n dS_get_0 rfl ?_
  refine m_callS M_S_isClient [.inl (nI i)] [] dS_get_1 mk_S_isClient st_S_isClient ml_S_39 rfl rfl rfl (Nat.le_of_ble_eq_true rfl) rfl ?_
  refine c_isClient_y hi ?_
  show Om G M_S_get 4 [(0, .inr (some (ad 0 0))), (1, .inl (nI i)), (2, .inl (nI q))] [.inl (nI 1)] mu Q
  refine n_if_eq 14 dS_get_4 rfl (by omega) (fun h => absurd h (by decide)) (fun _ => ?_)
  refine o_iload_n dS_get_7 rfl ?_
  refine m_callS M_S_isKey [.inl (nI q)] [] dS_get_8 mk_S_isKey st_S_isKey ml_S_43 rfl rfl rfl (Nat.le_of_ble_eq_true rfl) rfl ?_
  refine c_isKey_y hq ?_
  show Om G M_S_get 11 [(0, .inr (some (ad 0 0))), (1, .inl (nI i)), (2, .inl (nI q))] [.inl (nI 1)] mu Q
  refine n_if_ne 16 dS_get_11 rfl (by omega) (fun _ => ?_) (fun h => absurd h (by decide))
  refine o_aload_n dS_get_16 rfl ?_
  refine m_getr dS_get_17 fl_S_23 rfl rfl (by decide) ?_
  refine o_iload_n dS_get_20 rfl ?_
  refine m_aald i dS_get_21 rfl rfl rfl (by decide) rfl (sh_q3 hi) ?_
  refine o_astore_n [(0, _), (1, _), (2, _), (3, _)] dS_get_22 rfl rfl ?_
  refine o_aload_n dS_get_23 rfl ?_
  refine m_callV M_K_isOpen [] [] dS_get_24 mk_K_isOpen in_K_isOpen se_K_isOpen rfl hi rfl rfl ml_S_46 rfl rfl rfl (Nat.le_of_ble_eq_true rfl) rfl ?_
  refine c_isOpen hi (hC.fle hi) hl6 (fun h9 => ?_) (fun h9 => ?_)
  · skip
    exact absurd hl0 h9
  · skip
    show Om G M_S_get 27 [(0, .inr (some (ad 0 0))), (1, .inl (nI i)), (2, .inl (nI q)), (3, .inr (some (ad 14 i)))] [.inl (nI 0)] mu Q
    refine n_if_eq 33 dS_get_27 rfl (by omega) (fun _ => ?_) (fun h => absurd h (by decide))
    refine o_aload_n dS_get_33 rfl ?_
    refine m_getr dS_get_34 fl_S_17 rfl rfl (by decide) ?_
    refine o_aload_n dS_get_37 rfl ?_
    refine m_geti dS_get_38 fl_S_58 rfl rfl hi ?_
    refine o_top (nI (i % 3)) (hC.fce hi) ?_
    refine m_aald (i % 3) dS_get_41 rfl rfl rfl (by decide) rfl (sh_q2 (by omega)) ?_
    refine m_getr dS_get_42 fl_S_88 rfl rfl (show i % 3 < 3 by omega) ?_
    refine o_iload_n dS_get_45 rfl ?_
    refine m_iald q dS_get_46 rfl rfl rfl (show i % 3 < 3 by omega) rfl hq ?_
    refine o_top (dec (latN (sn (i % 3)) ky vr q m)) (hC.fnw (by omega) q hq).1 ?_
    refine o_istore [(0, _), (1, _), (2, _), (3, _), (4, _)] dS_get_47 rfl rfl ?_
    refine o_aload_n dS_get_49 rfl ?_
    refine o_aload_n dS_get_50 rfl ?_
    refine o_iload dS_get_51 rfl ?_
    refine m_callV M_S_see [.inr (some (ad 14 i)), .inl (dec (latN (sn (i % 3)) ky vr q m))] [] dS_get_53 mk_S_see in_S_see se_S_see rfl (by decide) rfl rfl ml_S_84 rfl rfl rfl (Nat.le_of_ble_eq_true rfl) rfl ?_
    refine c_see hC.fw hi (hC.fnw (show i % 3 < 3 by omega) q hq).2 (hC.fx hi) (fun e => ?_) (fun w hw e mu1 hx1 hf1 => ?_)
    · skip
      show Om G M_S_get 56 [(0, .inr (some (ad 0 0))), (1, .inl (nI i)), (2, .inl (nI q)), (3, .inr (some (ad 14 i))), (4, .inl (dec (latN (sn (i % 3)) ky vr q m)))] [] mu Q
      refine o_iload dS_get_56 rfl ?_
      refine m_iret dS_get_58 rfl ?_
      rw [e]
      exact k0 e
    · skip
      show Om G M_S_get 56 [(0, .inr (some (ad 0 0))), (1, .inl (nI i)), (2, .inl (nI q)), (3, .inr (some (ad 14 i))), (4, .inl (dec (latN (sn (i % 3)) ky vr q m)))] [] mu1 Q
      refine o_iload dS_get_56 rfl ?_
      refine m_iret dS_get_58 rfl ?_
      rw [e]
      refine k1 w hw e mu1 ?_ (mgt_of hf1 rfl)
      have hz := hC.cli (i := i) (X := sX (x i) (dp w) vr (ky w) w) (Hh := h i) (D := d i) (S' := s i) (L' := l i) (R' := r i) hi (hf1.wk (by simp)) (by rw [hf1 14 i (by simp)]; exact hC.fce hi) (by rw [hf1 14 i (by simp)]; exact hC.fse hi) (by rw [hf1 14 i (by simp)]; exact hC.fle hi) (by rw [hf1 14 i (by simp)]; exact hC.fro hi) hx1 ((hC.fh hi).fr hf1 (by simp)) ((hC.fd hi).fr hf1 (by simp))
      rw [va_self rfl, va_self rfl, va_self rfl, va_self rfl, va_self rfl] at hz
      exact hz
theorem set_in {b : Int32} (h1 : ¬ b < nI 1) (h2 : ¬ nI 63 < b) : ∃ j, 1 ≤ j ∧ j < 64 ∧ b = nI j := by
  rcases pk_ix b (n := 64) (by decide) with h | h | ⟨j, hj, e⟩
  · exact absurd (Int32.lt_trans h (by decide)) h1
  · exact absurd (Int32.lt_of_lt_of_le (by decide) h) h2
  · refine ⟨j, ?_, hj, e⟩
    rcases Nat.eq_zero_or_pos j with z | z
    · subst z; subst e; exact absurd (by decide) h1
    · exact z
theorem C_begin_b1 {G : oG} {mu : oMu} {Q : oPm} {a b : Int32} (ha : ∀ j, j < 6 → ¬ a = nI j) (k : Q (some (.inl (nI 0))) mu) : Om G M_S_begin 0 [(0, .inr (some (ad 0 0))), (1, .inl a), (2, .inl b)] [] mu Q := by
  refine o_iload_n dS_begin_0 rfl ?_
  refine m_callS M_S_isClient [.inl a] [] dS_begin_1 mk_S_isClient st_S_isClient ml_S_39 rfl rfl rfl (Nat.le_of_ble_eq_true rfl) rfl ?_
  refine c_isClient_n ha ?_
  show Om G M_S_begin 4 [(0, .inr (some (ad 0 0))), (1, .inl a), (2, .inl b)] [.inl (nI 0)] mu Q
  refine n_if_eq 30 dS_begin_4 rfl (by omega) (fun _ => ?_) (fun h => absurd h (by decide))
  refine o_iconst (nI 0) dS_begin_30 rfl ?_
  refine m_zret dS_begin_31 rfl rfl ?_
  exact k
theorem C_begin_b2 {G : oG} {mu : oMu} {Q : oPm} {i : Nat} {b : Int32} (hi : i < 6) (hb : ∀ j, 1 ≤ j → j < 64 → ¬ b = nI j) (k : Q (some (.inl (nI 0))) mu) : Om G M_S_begin 0 [(0, .inr (some (ad 0 0))), (1, .inl (nI i)), (2, .inl b)] [] mu Q := by
  refine o_iload_n dS_begin_0 rfl ?_
  refine m_callS M_S_isClient [.inl (nI i)] [] dS_begin_1 mk_S_isClient st_S_isClient ml_S_39 rfl rfl rfl (Nat.le_of_ble_eq_true rfl) rfl ?_
  refine c_isClient_y hi ?_
  show Om G M_S_begin 4 [(0, .inr (some (ad 0 0))), (1, .inl (nI i)), (2, .inl b)] [.inl (nI 1)] mu Q
  refine n_if_eq 30 dS_begin_4 rfl (by omega) (fun h => absurd h (by decide)) (fun _ => ?_)
  refine o_iload_n dS_begin_7 rfl ?_
  refine o_iconst (nI 1) dS_begin_8 rfl ?_
  refine o_icmp_lt 30 dS_begin_9 rfl (fun hb9 => ?_) (fun hb9 => ?_)
  · skip
    refine o_iconst (nI 0) dS_begin_30 rfl ?_
    refine m_zret dS_begin_31 rfl rfl ?_
    exact k
  · skip
    refine o_iload_n dS_begin_12 rfl ?_
    refine o_bipush (nI 63) dS_begin_13 rfl ?_
    refine o_icmp_gt 30 dS_begin_15 rfl (fun hb15 => ?_) (fun h => by obtain ⟨j, h1, h2, e⟩ := set_in hb9 h; exact absurd e (hb j h1 h2))
    refine o_iconst (nI 0) dS_begin_30 rfl ?_
    refine m_zret dS_begin_31 rfl rfl ?_
    exact k
theorem C_begin_busy {G : oG} {mu : oMu} {Q : oPm} {m : Nat} {ky vr nd : Nat → Nat} {dp : Nat → Nat → Nat} {vl : Nat → Int32} {sn ck : Nat → Nat → Nat} {wt fl : Nat → List Nat} {x h d : Nat → Nat → Nat} {s l r : Nat → Nat} (hC : ReC mu m ky vr nd dp vl sn ck wt fl x h d s l r) {i q : Nat} (hi : i < 6) (hl6 : l i < 64) (hq : 1 ≤ q) (hq2 : q < 64) (hl0 : ¬ l i = 0) (k : Q (some (.inl (nI 0))) mu) : Om G M_S_begin 0 [(0, .inr (some (ad 0 0))), (1, .inl (nI i)), (2, .inl (nI q))] [] mu Q := by
  refine o_iload_n dS_begin_0 rfl ?_
  refine m_callS M_S_isClient [.inl (nI i)] [] dS_begin_1 mk_S_isClient st_S_isClient ml_S_39 rfl rfl rfl (Nat.le_of_ble_eq_true rfl) rfl ?_
  refine c_isClient_y hi ?_
  show Om G M_S_begin 4 [(0, .inr (some (ad 0 0))), (1, .inl (nI i)), (2, .inl (nI q))] [.inl (nI 1)] mu Q
  refine n_if_eq 30 dS_begin_4 rfl (by omega) (fun h => absurd h (by decide)) (fun _ => ?_)
  refine o_iload_n dS_begin_7 rfl ?_
  refine o_iconst (nI 1) dS_begin_8 rfl ?_
  refine n_icmp_lt 30 dS_begin_9 rfl (by omega) (by omega) (fun h => absurd h (by omega)) (fun hb9 => ?_)
  refine o_iload_n dS_begin_12 rfl ?_
  refine o_bipush (nI 63) dS_begin_13 rfl ?_
  refine n_icmp_gt 30 dS_begin_15 rfl (by omega) (by omega) (fun h => absurd h (by omega)) (fun hb15 => ?_)
  refine o_aload_n dS_begin_18 rfl ?_
  refine m_getr dS_begin_19 fl_S_23 rfl rfl (by decide) ?_
  refine o_iload_n dS_begin_22 rfl ?_
  refine m_aald i dS_begin_23 rfl rfl rfl (by decide) rfl (sh_q3 hi) ?_
  refine m_callV M_K_isOpen [] [] dS_begin_24 mk_K_isOpen in_K_isOpen se_K_isOpen rfl hi rfl rfl ml_S_46 rfl rfl rfl (Nat.le_of_ble_eq_true rfl) rfl ?_
  refine c_isOpen hi (hC.fle hi) hl6 (fun h9 => ?_) (fun h9 => ?_)
  · skip
    show Om G M_S_begin 27 [(0, .inr (some (ad 0 0))), (1, .inl (nI i)), (2, .inl (nI q))] [.inl (nI 1)] mu Q
    refine n_if_eq 32 dS_begin_27 rfl (by omega) (fun h => absurd h (by decide)) (fun _ => ?_)
    refine o_iconst (nI 0) dS_begin_30 rfl ?_
    refine m_zret dS_begin_31 rfl rfl ?_
    exact k
  · skip
    exact absurd h9 hl0
theorem C_begin {G : oG} {mu : oMu} {Q : oPm} {m : Nat} {ky vr nd : Nat → Nat} {dp : Nat → Nat → Nat} {vl : Nat → Int32} {sn ck : Nat → Nat → Nat} {wt fl : Nat → List Nat} {x h d : Nat → Nat → Nat} {s l r : Nat → Nat} (hC : ReC mu m ky vr nd dp vl sn ck wt fl x h d s l r) {i q : Nat} (hi : i < 6) (hl6 : l i < 64) (hq : 1 ≤ q) (hq2 : q < 64) (hl0 : l i = 0) (k : ∀ mu' : oMu, ReC mu' m ky vr nd dp vl sn ck wt fl x (va_up h i (fun _ => 0)) d (va_up s i q) (va_up l i q) (va_up r i 1) → mgt mu mu' → Q (some (.inl (nI 1))) mu') : Om G M_S_begin 0 [(0, .inr (some (ad 0 0))), (1, .inl (nI i)), (2, .inl (nI q))] [] mu Q := by
  refine o_iload_n dS_begin_0 rfl ?_
  refine m_callS M_S_isClient [.inl (nI i)] [] dS_begin_1 mk_S_isClient st_S_isClient ml_S_39 rfl rfl rfl (Nat.le_of_ble_eq_true rfl) rfl ?_
  refine c_isClient_y hi ?_
  show Om G M_S_begin 4 [(0, .inr (some (ad 0 0))), (1, .inl (nI i)), (2, .inl (nI q))] [.inl (nI 1)] mu Q
  refine n_if_eq 30 dS_begin_4 rfl (by omega) (fun h => absurd h (by decide)) (fun _ => ?_)
  refine o_iload_n dS_begin_7 rfl ?_
  refine o_iconst (nI 1) dS_begin_8 rfl ?_
  refine n_icmp_lt 30 dS_begin_9 rfl (by omega) (by omega) (fun h => absurd h (by omega)) (fun hb9 => ?_)
  refine o_iload_n dS_begin_12 rfl ?_
  refine o_bipush (nI 63) dS_begin_13 rfl ?_
  refine n_icmp_gt 30 dS_begin_15 rfl (by omega) (by omega) (fun h => absurd h (by omega)) (fun hb15 => ?_)
  refine o_aload_n dS_begin_18 rfl ?_
  refine m_getr dS_begin_19 fl_S_23 rfl rfl (by decide) ?_
  refine o_iload_n dS_begin_22 rfl ?_
  refine m_aald i dS_begin_23 rfl rfl rfl (by decide) rfl (sh_q3 hi) ?_
  refine m_callV M_K_isOpen [] [] dS_begin_24 mk_K_isOpen in_K_isOpen se_K_isOpen rfl hi rfl rfl ml_S_46 rfl rfl rfl (Nat.le_of_ble_eq_true rfl) rfl ?_
  refine c_isOpen hi (hC.fle hi) hl6 (fun h9 => ?_) (fun h9 => ?_)
  · skip
    exact absurd hl0 h9
  · skip
    show Om G M_S_begin 27 [(0, .inr (some (ad 0 0))), (1, .inl (nI i)), (2, .inl (nI q))] [.inl (nI 0)] mu Q
    refine n_if_eq 32 dS_begin_27 rfl (by omega) (fun _ => ?_) (fun h => absurd h (by decide))
    refine o_aload_n dS_begin_32 rfl ?_
    refine m_getr dS_begin_33 fl_S_23 rfl rfl (by decide) ?_
    refine o_iload_n dS_begin_36 rfl ?_
    refine m_aald i dS_begin_37 rfl rfl rfl (by decide) rfl (sh_q3 hi) ?_
    refine o_iload_n dS_begin_38 rfl ?_
    refine m_callV M_K_open [.inl (nI q)] [] dS_begin_39 mk_K_open in_K_open se_K_open rfl hi rfl rfl ml_S_91 rfl rfl rfl (Nat.le_of_ble_eq_true rfl) rfl ?_
    refine c_open hi (fun mu1 h16 h14 hf1 => ?_)
    show Om G M_S_begin 42 [(0, .inr (some (ad 0 0))), (1, .inl (nI i)), (2, .inl (nI q))] [] mu1 Q
    refine o_iconst (nI 1) dS_begin_42 rfl ?_
    refine m_zret dS_begin_43 rfl rfl ?_
    refine k mu1 ?_ (mgt_of hf1 rfl)
    have hz := hC.cli (i := i) (X := x i) (Hh := fun _ => 0) (D := d i) (S' := q) (L' := q) (R' := 1) hi (hf1.wk (by simp)) (by rw [h14]; simp [upd]; exact hC.fce hi) (by rw [h14]; simp [upd]) (by rw [h14]; simp [upd]) (by rw [h14]; simp [upd]) ((hC.fx hi).fr hf1 (by simp)) (fun z hz => ⟨h16 z hz, Nat.zero_le _⟩) ((hC.fd hi).fr hf1 (by simp))
    rw [va_self (f := x) rfl, va_self (f := d) rfl] at hz
    exact hz
theorem C_read_b1 {G : oG} {mu : oMu} {Q : oPm} {a : Int32} (ha : ∀ j, j < 6 → ¬ a = nI j) (k : Q (some (.inl (-1))) mu) : Om G M_S_read 0 [(0, .inr (some (ad 0 0))), (1, .inl a)] [] mu Q := by
  refine o_iload_n dS_read_0 rfl ?_
  refine m_callS M_S_isClient [.inl a] [] dS_read_1 mk_S_isClient st_S_isClient ml_S_39 rfl rfl rfl (Nat.le_of_ble_eq_true rfl) rfl ?_
  refine c_isClient_n ha ?_
  show Om G M_S_read 4 [(0, .inr (some (ad 0 0))), (1, .inl a)] [.inl (nI 0)] mu Q
  refine n_if_ne 9 dS_read_4 rfl (by omega) (fun h => absurd h (by decide)) (fun _ => ?_)
  refine o_iconst (-1) dS_read_7 rfl ?_
  refine m_iret dS_read_8 rfl ?_
  exact k
theorem C_read_closed {G : oG} {mu : oMu} {Q : oPm} {m : Nat} {ky vr nd : Nat → Nat} {dp : Nat → Nat → Nat} {vl : Nat → Int32} {sn ck : Nat → Nat → Nat} {wt fl : Nat → List Nat} {x h d : Nat → Nat → Nat} {s l r : Nat → Nat} (hC : ReC mu m ky vr nd dp vl sn ck wt fl x h d s l r) {i : Nat} (hi : i < 6) (hl6 : l i < 64) (hl0 : l i = 0) (k : Q (some (.inl (-4))) mu) : Om G M_S_read 0 [(0, .inr (some (ad 0 0))), (1, .inl (nI i))] [] mu Q := by
  refine o_iload_n dS_read_0 rfl ?_
  refine m_callS M_S_isClient [.inl (nI i)] [] dS_read_1 mk_S_isClient st_S_isClient ml_S_39 rfl rfl rfl (Nat.le_of_ble_eq_true rfl) rfl ?_
  refine c_isClient_y hi ?_
  show Om G M_S_read 4 [(0, .inr (some (ad 0 0))), (1, .inl (nI i))] [.inl (nI 1)] mu Q
  refine n_if_ne 9 dS_read_4 rfl (by omega) (fun _ => ?_) (fun h => absurd h (by decide))
  refine o_aload_n dS_read_9 rfl ?_
  refine m_getr dS_read_10 fl_S_23 rfl rfl (by decide) ?_
  refine o_iload_n dS_read_13 rfl ?_
  refine m_aald i dS_read_14 rfl rfl rfl (by decide) rfl (sh_q3 hi) ?_
  refine o_astore_n [(0, _), (1, _), (2, _)] dS_read_15 rfl rfl ?_
  refine o_aload_n dS_read_16 rfl ?_
  refine m_callV M_K_isOpen [] [] dS_read_17 mk_K_isOpen in_K_isOpen se_K_isOpen rfl hi rfl rfl ml_S_46 rfl rfl rfl (Nat.le_of_ble_eq_true rfl) rfl ?_
  refine c_isOpen hi (hC.fle hi) hl6 (fun h9 => ?_) (fun h9 => ?_)
  · skip
    exact absurd hl0 h9
  · skip
    show Om G M_S_read 20 [(0, .inr (some (ad 0 0))), (1, .inl (nI i)), (2, .inr (some (ad 14 i)))] [.inl (nI 0)] mu Q
    refine n_if_ne 26 dS_read_20 rfl (by omega) (fun h => absurd h (by decide)) (fun _ => ?_)
    refine o_bipush (-4) dS_read_23 rfl ?_
    refine m_iret dS_read_25 rfl ?_
    exact k
def rdV (m : Nat) (ky vr : Nat → Nat) (sn d : Nat → Nat → Nat) (r : Nat → Nat) (i j : Nat) : Nat := if r i = 1 then latN (sn (i % 3)) ky vr j m else d i j
def rdH (m : Nat) (ky vr : Nat → Nat) (sn h d : Nat → Nat → Nat) (r : Nat → Nat) (i j : Nat) : Nat → Nat := va_up (h i) j (rdV m ky vr sn d r i j)
def lowB (l j : Nat) : Prop := j < 6 ∧ l.testBit j = true ∧ ∀ b, b < j → l.testBit b = false
def clr (l j : Nat) : Nat := l &&& (63 - 2 ^ j)
theorem clr_lt {l j : Nat} (hl : l < 64) (hj : j < 6) : clr l j < 64 := (b_clr l hl j hj).2
theorem cnt0 : cntN 0 6 = 0 := by decide
theorem C_read {G : oG} {mu : oMu} {Q : oPm} {m : Nat} {ky vr nd : Nat → Nat} {dp : Nat → Nat → Nat} {vl : Nat → Int32} {sn ck : Nat → Nat → Nat} {wt fl : Nat → List Nat} {x h d : Nat → Nat → Nat} {s l r : Nat → Nat} (hC : ReC mu m ky vr nd dp vl sn ck wt fl x h d s l r) {i : Nat} (hi : i < 6) (hl6 : l i < 64) (hl0 : ¬ l i = 0) (hr3 : r i < 3) (hs6 : s i < 64) (kA : ∀ j, lowB (l i) j → ¬ clr (l i) j = 0 → ∀ mu' : oMu, ReC mu' m ky vr nd dp vl sn ck wt fl x (va_up h i (rdH m ky vr sn h d r i j)) d s (va_up l i (clr (l i) j)) r → mgt mu mu' → Q (some (.inl (nI (cntN (clr (l i) j) 6)))) mu') (kB0 : ∀ j, lowB (l i) j → clr (l i) j = 0 → r i = 1 → (secN (rdH m ky vr sn h d r i j) dp vr (s i) 6) = 0 → ∀ mu' : oMu, ReC mu' m ky vr nd dp vl sn ck wt fl (va_up x i (sF (x i) (rdH m ky vr sn h d r i j) ky vr dp 6)) (va_up h i (rdH m ky vr sn h d r i j)) (va_up d i (fun q => dueN (rdH m ky vr sn h d r i j) dp vr q 6)) s (va_up l i 0) r → mgt mu mu' → Q (some (.inl (nI 0))) mu') (kB1 : ∀ j, lowB (l i) j → clr (l i) j = 0 → r i = 1 → ¬ (secN (rdH m ky vr sn h d r i j) dp vr (s i) 6) = 0 → ∀ mu' : oMu, ReC mu' m ky vr nd dp vl sn ck wt fl x (va_up h i (rdH m ky vr sn h d r i j)) (va_up d i (fun q => dueN (rdH m ky vr sn h d r i j) dp vr q 6)) s (va_up l i (secN (rdH m ky vr sn h d r i j) dp vr (s i) 6)) (va_up r i 2) → mgt mu mu' → Q (some (.inl (nI (cntN (secN (rdH m ky vr sn h d r i j) dp vr (s i) 6) 6)))) mu') (kC : ∀ j, lowB (l i) j → clr (l i) j = 0 → ¬ r i = 1 → ∀ mu' : oMu, ReC mu' m ky vr nd dp vl sn ck wt fl (va_up x i (sF (x i) (rdH m ky vr sn h d r i j) ky vr dp 6)) (va_up h i (rdH m ky vr sn h d r i j)) d s (va_up l i 0) r → mgt mu mu' → Q (some (.inl (nI 0))) mu') : Om G M_S_read 0 [(0, .inr (some (ad 0 0))), (1, .inl (nI i))] [] mu Q := by
  refine o_iload_n dS_read_0 rfl ?_
  refine m_callS M_S_isClient [.inl (nI i)] [] dS_read_1 mk_S_isClient st_S_isClient ml_S_39 rfl rfl rfl (Nat.le_of_ble_eq_true rfl) rfl ?_
  refine c_isClient_y hi ?_
  show Om G M_S_read 4 [(0, .inr (some (ad 0 0))), (1, .inl (nI i))] [.inl (nI 1)] mu Q
  refine n_if_ne 9 dS_read_4 rfl (by omega) (fun _ => ?_) (fun h => absurd h (by decide))
  refine o_aload_n dS_read_9 rfl ?_
  refine m_getr dS_read_10 fl_S_23 rfl rfl (by decide) ?_
  refine o_iload_n dS_read_13 rfl ?_
  refine m_aald i dS_read_14 rfl rfl rfl (by decide) rfl (sh_q3 hi) ?_
  refine o_astore_n [(0, _), (1, _), (2, _)] dS_read_15 rfl rfl ?_
  refine o_aload_n dS_read_16 rfl ?_
  refine m_callV M_K_isOpen [] [] dS_read_17 mk_K_isOpen in_K_isOpen se_K_isOpen rfl hi rfl rfl ml_S_46 rfl rfl rfl (Nat.le_of_ble_eq_true rfl) rfl ?_
  refine c_isOpen hi (hC.fle hi) hl6 (fun h9 => ?_) (fun h9 => ?_)
  · skip
    show Om G M_S_read 20 [(0, .inr (some (ad 0 0))), (1, .inl (nI i)), (2, .inr (some (ad 14 i)))] [.inl (nI 1)] mu Q
    refine n_if_ne 26 dS_read_20 rfl (by omega) (fun _ => ?_) (fun h => absurd h (by decide))
    refine o_aload_n dS_read_26 rfl ?_
    refine o_aload_n dS_read_27 rfl ?_
    refine m_callV M_S_readLowestKey [.inr (some (ad 14 i))] [] dS_read_28 mk_S_readLowestKey in_S_readLowestKey se_S_readLowestKey rfl (by decide) rfl rfl ml_S_94 rfl rfl rfl (Nat.le_of_ble_eq_true rfl) rfl ?_
    refine c_readLowestKey hC.fw hi (show i % 3 < 3 by omega) (hC.fce hi) (hC.fle hi) hl6 hl0 (hC.fro hi) hr3 (hC.fnw (by omega)) (hC.fd hi) (fun j hj hbt hlo mu1 h16 h14 hf1 => ?_)
    have hlow : lowB (l i) j := ⟨hj, hbt, hlo⟩
    have hcl := clr_lt hl6 hj
    have hf1w : mfr [(14, i), (15, i), (16, i), (17, i)] mu mu1 := hf1.wk (by simp)
    have hW1 := hC.fw.fr hf1 rfl
    have hvm : rdV m ky vr sn d r i j ≤ m := by
      unfold rdV
      split
      · exact (hC.fnw (show i % 3 < 3 by omega) j hj).2
      · exact (hC.fd hi j hj).2
    have hH1 : xOk mu1 16 i m (rdH m ky vr sn h d r i j) := by
      intro q hq
      rw [h16]
      by_cases e : q = j
      · subst e
        simp only [upd, if_true, rdH, va_s]
        exact ⟨rfl, hvm⟩
      · simp only [upd, e, if_false, rdH, va_n e]
        exact hC.fh hi q hq
    have hX1 : xOk mu1 15 i m (x i) := (hC.fx hi).fr hf1 (by simp)
    have hD1 : xOk mu1 17 i m (d i) := (hC.fd hi).fr hf1 (by simp)
    have h140 : mu1 14 i 0 = nI (i % 3) := by rw [h14]; exact hC.fce hi
    have h144 : mu1 14 i 4 = nI (s i) := by rw [h14]; exact hC.fse hi
    have h145 : mu1 14 i 5 = nI (clr (l i) j) := by rw [h14]; rfl
    have h146 : mu1 14 i 6 = nI (r i) := by rw [h14]; exact hC.fro hi
    show Om G M_S_read 31 [(0, .inr (some (ad 0 0))), (1, .inl (nI i)), (2, .inr (some (ad 14 i)))] [] mu1 Q
    refine o_aload_n dS_read_31 rfl ?_
    refine m_geti dS_read_32 fl_S_98 rfl rfl hi ?_
    refine o_top (nI (clr (l i) j)) h145 ?_
    refine n_if_ne 51 dS_read_35 rfl (by omega) (fun hb35 => ?_) (fun hb35 => ?_)
    · skip
      refine o_aload_n dS_read_51 rfl ?_
      refine m_geti dS_read_52 fl_S_98 rfl rfl hi ?_
      refine o_top (nI (clr (l i) j)) h145 ?_
      refine n_if_ne 63 dS_read_55 rfl (by omega) (fun hb55 => ?_) (fun h => absurd h hb35)
      refine o_aload_n dS_read_63 rfl ?_
      refine m_geti dS_read_64 fl_S_98 rfl rfl hi ?_
      refine o_top (nI (clr (l i) j)) h145 ?_
      refine m_callS M_JI_bitCount [.inl (nI (clr (l i) j))] [] dS_read_67 mk_JI_bitCount st_JI_bitCount ml_S_110 rfl rfl rfl (Nat.le_of_ble_eq_true rfl) rfl ?_
      refine j_bitCount hcl ?_
      show Om G M_S_read 70 [(0, .inr (some (ad 0 0))), (1, .inl (nI i)), (2, .inr (some (ad 14 i)))] [.inl (nI (cntN (clr (l i) j) 6))] mu1 Q
      refine m_iret dS_read_70 rfl ?_
      have hz := hC.cli (i := i) (X := x i) (Hh := (rdH m ky vr sn h d r i j)) (D := d i) (S' := s i) (L' := clr (l i) j) (R' := r i) hi hf1w h140 h144 h145 h146 hX1 hH1 hD1
      rw [va_self (f := x) rfl, va_self (f := s) rfl, va_self (f := d) rfl, va_self (f := r) rfl] at hz
      exact kA j hlow hb35 mu1 hz (mgt_of hf1w rfl)
    · skip
      refine o_aload_n dS_read_38 rfl ?_
      refine m_geti dS_read_39 fl_S_101 rfl rfl hi ?_
      refine o_top (nI (r i)) h146 ?_
      refine o_iconst (nI 1) dS_read_42 rfl ?_
      refine n_icmp_ne 51 dS_read_43 rfl (by omega) (by omega) (fun hb43 => ?_) (fun hb43 => ?_)
      · skip
        refine o_aload_n dS_read_51 rfl ?_
        refine m_geti dS_read_52 fl_S_98 rfl rfl hi ?_
        refine o_top (nI (clr (l i) j)) h145 ?_
        refine n_if_ne 63 dS_read_55 rfl (by omega) (fun h => absurd hb35 h) (fun hb55 => ?_)
        refine o_aload_n dS_read_58 rfl ?_
        refine o_aload_n dS_read_59 rfl ?_
        refine m_callV M_S_seeFetched [.inr (some (ad 14 i))] [] dS_read_60 mk_S_seeFetched in_S_seeFetched se_S_seeFetched rfl (by decide) rfl rfl ml_S_107 rfl rfl rfl (Nat.le_of_ble_eq_true rfl) rfl ?_
        refine c_seeFetched hW1 hi hH1 hX1 (fun mu2 hX9 hf9 => ?_)
        have hz9 := hf9 14 i (by simp)
        show Om G M_S_read 63 [(0, .inr (some (ad 0 0))), (1, .inl (nI i)), (2, .inr (some (ad 14 i)))] [] mu2 Q
        refine o_aload_n dS_read_63 rfl ?_
        refine m_geti dS_read_64 fl_S_98 rfl rfl hi ?_
        refine o_top (nI (clr (l i) j)) (by rw [hz9]; exact h145) ?_
        refine m_callS M_JI_bitCount [.inl (nI (clr (l i) j))] [] dS_read_67 mk_JI_bitCount st_JI_bitCount ml_S_110 rfl rfl rfl (Nat.le_of_ble_eq_true rfl) rfl ?_
        refine j_bitCount hcl ?_
        show Om G M_S_read 70 [(0, .inr (some (ad 0 0))), (1, .inl (nI i)), (2, .inr (some (ad 14 i)))] [.inl (nI (cntN (clr (l i) j) 6))] mu2 Q
        refine m_iret dS_read_70 rfl ?_
        have hz := hC.cli (i := i) (X := (sF (x i) (rdH m ky vr sn h d r i j) ky vr dp 6)) (Hh := (rdH m ky vr sn h d r i j)) (D := d i) (S' := s i) (L' := 0) (R' := r i) hi (hf1w.tr (hf9.wk (by simp))) (by rw [hz9]; exact h140) (by rw [hz9]; exact h144) (by rw [hz9, h145, hb35]) (by rw [hz9]; exact h146) hX9 (hH1.fr hf9 (by simp)) (hD1.fr hf9 (by simp))
        rw [va_self (f := s) rfl, va_self (f := d) rfl, va_self (f := r) rfl] at hz
        rw [hb35, cnt0]
        exact kC j hlow hb35 hb43 mu2 hz (mgt_of (hf1w.tr (hf9.wk (by simp))) rfl)
      · skip
        refine o_aload_n dS_read_46 rfl ?_
        refine o_aload_n dS_read_47 rfl ?_
        refine m_callV M_S_prepareSecondRound [.inr (some (ad 14 i))] [] dS_read_48 mk_S_prepareSecondRound in_S_prepareSecondRound se_S_prepareSecondRound rfl (by decide) rfl rfl ml_S_104 rfl rfl rfl (Nat.le_of_ble_eq_true rfl) rfl ?_
        refine c_prepareSecondRound (g := mu1 14 i) hW1 hi hH1 hs6 h144 (h145.trans (by rw [hb35])) rfl hD1 (fun hS0 mu2 hD2 h142 hf2 => ?_) (fun hS1 mu2 hD2 h142 hf2 => ?_)
        · skip
          have hf12 := hf1w.tr (hf2.wk (by simp))
          have hW2 := hW1.fr hf2 rfl
          have hX2 := hX1.fr hf2 (by simp)
          have hH2 := hH1.fr hf2 (by simp)
          have h145b : mu2 14 i 5 = nI 0 := by rw [h142]; simp [upd]
          show Om G M_S_read 51 [(0, .inr (some (ad 0 0))), (1, .inl (nI i)), (2, .inr (some (ad 14 i)))] [] mu2 Q
          refine o_aload_n dS_read_51 rfl ?_
          refine m_geti dS_read_52 fl_S_98 rfl rfl hi ?_
          refine o_top (nI 0) h145b ?_
          refine n_if_ne 63 dS_read_55 rfl (by omega) (fun h => absurd h (by decide)) (fun _ => ?_)
          refine o_aload_n dS_read_58 rfl ?_
          refine o_aload_n dS_read_59 rfl ?_
          refine m_callV M_S_seeFetched [.inr (some (ad 14 i))] [] dS_read_60 mk_S_seeFetched in_S_seeFetched se_S_seeFetched rfl (by decide) rfl rfl ml_S_107 rfl rfl rfl (Nat.le_of_ble_eq_true rfl) rfl ?_
          refine c_seeFetched hW2 hi hH2 hX2 (fun mu3 hX9 hf9 => ?_)
          have hz9 := hf9 14 i (by simp)
          show Om G M_S_read 63 [(0, .inr (some (ad 0 0))), (1, .inl (nI i)), (2, .inr (some (ad 14 i)))] [] mu3 Q
          refine o_aload_n dS_read_63 rfl ?_
          refine m_geti dS_read_64 fl_S_98 rfl rfl hi ?_
          refine o_top (nI 0) (by rw [hz9]; exact h145b) ?_
          refine m_callS M_JI_bitCount [.inl (nI 0)] [] dS_read_67 mk_JI_bitCount st_JI_bitCount ml_S_110 rfl rfl rfl (Nat.le_of_ble_eq_true rfl) rfl ?_
          refine j_bitCount (by decide) ?_
          show Om G M_S_read 70 [(0, .inr (some (ad 0 0))), (1, .inl (nI i)), (2, .inr (some (ad 14 i)))] [.inl (nI (cntN (0) 6))] mu3 Q
          refine m_iret dS_read_70 rfl ?_
          have hz := hC.cli (i := i) (X := (sF (x i) (rdH m ky vr sn h d r i j) ky vr dp 6)) (Hh := (rdH m ky vr sn h d r i j)) (D := fun q => dueN (rdH m ky vr sn h d r i j) dp vr q 6) (S' := s i) (L' := 0) (R' := r i) hi (hf12.tr (hf9.wk (by simp))) (by rw [hz9, h142]; simp [upd]; exact h140) (by rw [hz9, h142]; simp [upd]; exact h144) (by rw [hz9]; exact h145b) (by rw [hz9, h142]; simp [upd]; exact h146) hX9 (hH2.fr hf9 (by simp)) (hD2.fr hf9 (by simp))
          rw [va_self (f := s) rfl, va_self (f := r) rfl] at hz
          rw [cnt0]
          exact kB0 j hlow hb35 hb43 hS0 mu3 hz (mgt_of (hf12.tr (hf9.wk (by simp))) rfl)
        · skip
          have hf12 := hf1w.tr (hf2.wk (by simp))
          have hX2 := hX1.fr hf2 (by simp)
          have hH2 := hH1.fr hf2 (by simp)
          have hsl := secN_lt (h := (rdH m ky vr sn h d r i j)) (vr := vr) (dp := dp) (s := s i) 6 (Nat.le_refl _)
          have h145b : mu2 14 i 5 = nI (secN (rdH m ky vr sn h d r i j) dp vr (s i) 6) := by rw [h142]; simp [upd]
          show Om G M_S_read 51 [(0, .inr (some (ad 0 0))), (1, .inl (nI i)), (2, .inr (some (ad 14 i)))] [] mu2 Q
          refine o_aload_n dS_read_51 rfl ?_
          refine m_geti dS_read_52 fl_S_98 rfl rfl hi ?_
          refine o_top (nI (secN (rdH m ky vr sn h d r i j) dp vr (s i) 6)) h145b ?_
          refine n_if_ne 63 dS_read_55 rfl (by omega) (fun hb55 => ?_) (fun h => absurd h hS1)
          refine o_aload_n dS_read_63 rfl ?_
          refine m_geti dS_read_64 fl_S_98 rfl rfl hi ?_
          refine o_top (nI (secN (rdH m ky vr sn h d r i j) dp vr (s i) 6)) h145b ?_
          refine m_callS M_JI_bitCount [.inl (nI (secN (rdH m ky vr sn h d r i j) dp vr (s i) 6))] [] dS_read_67 mk_JI_bitCount st_JI_bitCount ml_S_110 rfl rfl rfl (Nat.le_of_ble_eq_true rfl) rfl ?_
          refine j_bitCount hsl ?_
          show Om G M_S_read 70 [(0, .inr (some (ad 0 0))), (1, .inl (nI i)), (2, .inr (some (ad 14 i)))] [.inl (nI (cntN (secN (rdH m ky vr sn h d r i j) dp vr (s i) 6) 6))] mu2 Q
          refine m_iret dS_read_70 rfl ?_
          have hz := hC.cli (i := i) (X := x i) (Hh := (rdH m ky vr sn h d r i j)) (D := fun q => dueN (rdH m ky vr sn h d r i j) dp vr q 6) (S' := s i) (L' := secN (rdH m ky vr sn h d r i j) dp vr (s i) 6) (R' := 2) hi hf12 (by rw [h142]; simp [upd]; exact h140) (by rw [h142]; simp [upd]; exact h144) h145b (by rw [h142]; simp [upd]) hX2 hH2 hD2
          rw [va_self (f := x) rfl, va_self (f := s) rfl] at hz
          exact kB1 j hlow hb35 hb43 hS1 mu2 hz (mgt_of hf12 rfl)
  · skip
    exact absurd h9 hl0
end
section
/-! Pure rows: the greatest visible write; rows as lists; serving. -/
def isLat (sn ky vr : Nat → Nat) (k n x : Nat) : Prop := (x = 0 ∧ ∀ u, u < n → ¬ sn u = 0 → ¬ ky u = k) ∨ ∃ u, u < n ∧ x = u + 1 ∧ ¬ sn u = 0 ∧ ky u = k ∧ ∀ v, v < n → ¬ sn v = 0 → ky v = k → vr v ≤ vr u
theorem isLat.add {sn ky vr : Nat → Nat} {k n x w : Nat} (h : isLat sn ky vr k n x) (hw : w < n ∨ w = n) {sn' : Nat → Nat} (hs : ∀ u, u < n + 1 → (¬ sn' u = 0 ↔ ((u < n ∧ ¬ sn u = 0) ∨ u = w))) (hk : ky w = k) : isLat sn' ky vr k (n + 1) (gr vr x (w + 1)) := by
  rcases h with ⟨rfl, h⟩ | ⟨u, hu, rfl, h1, h2, h3⟩
  · rw [gr_zz]
    refine Or.inr ⟨w, by omega, rfl, (hs w (by omega)).mpr (Or.inr rfl), hk, fun v hv hsv hkv => ?_⟩
    rcases (hs v hv).mp hsv with ⟨a, b⟩ | e
    · exact absurd hkv (h v a b)
    · rw [e]; exact Nat.le_refl _
  · rcases Nat.lt_or_ge (vr u) (vr w) with hlt | hge
    · rw [gr_lt hlt]
      refine Or.inr ⟨w, by omega, rfl, (hs w (by omega)).mpr (Or.inr rfl), hk, fun v hv hsv hkv => ?_⟩
      rcases (hs v hv).mp hsv with ⟨a, b⟩ | e
      · exact Nat.le_trans (h3 v a b hkv) (Nat.le_of_lt hlt)
      · rw [e]; exact Nat.le_refl _
    · rw [gr_ge hge]
      refine Or.inr ⟨u, by omega, rfl, (hs u (by omega)).mpr (Or.inl ⟨hu, h1⟩), h2, fun v hv hsv hkv => ?_⟩
      rcases (hs v hv).mp hsv with ⟨a, b⟩ | e
      · exact h3 v a b hkv
      · rw [e]; exact hge
theorem isLat.skip {sn ky vr : Nat → Nat} {k n x : Nat} (h : isLat sn ky vr k n x) (hn : sn n = 0 ∨ ¬ ky n = k) : isLat sn ky vr k (n + 1) x := by
  have key : ∀ v, v < n + 1 → ¬ sn v = 0 → ky v = k → v < n := by
    intro v hv h1 h2
    rcases Nat.lt_or_ge v n with h3 | h3
    · exact h3
    · have e : v = n := by omega
      subst e
      rcases hn with z | z
      · exact absurd z h1
      · exact absurd h2 z
  rcases h with ⟨rfl, h⟩ | ⟨u, hu, rfl, h1, h2, h3⟩
  · exact Or.inl ⟨rfl, fun u hu hs hk => h u (key u hu hs hk) hs hk⟩
  · exact Or.inr ⟨u, by omega, rfl, h1, h2, fun v hv hs hk => h3 v (key v hv hs hk) hs hk⟩
theorem latN_is {sn ky vr : Nat → Nat} {k : Nat} : ∀ n, isLat sn ky vr k n (latN sn ky vr k n)
  | 0 => Or.inl ⟨rfl, fun u hu => absurd hu (by omega)⟩
  | n + 1 => by
    have ih := latN_is (sn := sn) (ky := ky) (vr := vr) (k := k) n
    rw [latN]
    by_cases h : ¬ sn n = 0 ∧ ky n = k
    · rw [if_pos h]
      refine ih.add (Or.inr rfl) (fun u hu => ?_) h.2
      constructor
      · intro hs
        rcases Nat.lt_or_ge u n with h3 | h3
        · exact Or.inl ⟨h3, hs⟩
        · exact Or.inr (by omega)
      · rintro (⟨-, b⟩ | e)
        · exact b
        · rw [e]; exact h.1
    · rw [if_neg h]
      refine ih.skip ?_
      by_cases h1 : sn n = 0
      · exact Or.inl h1
      · exact Or.inr fun z => h ⟨h1, z⟩
theorem isLat.uniq {sn ky vr : Nat → Nat} {k n x y : Nat} (hD : ∀ u v, u < n → v < n → ¬ u = v → ky u = ky v → ¬ vr u = vr v) (hx : isLat sn ky vr k n x) (hy : isLat sn ky vr k n y) : x = y := by
  rcases hx with ⟨rfl, h⟩ | ⟨u, hu, rfl, h1, h2, h3⟩ <;> rcases hy with ⟨rfl, g⟩ | ⟨v, hv, rfl, g1, g2, g3⟩
  · rfl
  · exact absurd g2 (h v hv g1)
  · exact absurd h2 (g u hu h1)
  · have a := h3 v hv g1 g2
    have b := g3 u hu h1 h2
    by_cases e : u = v
    · rw [e]
    · exact absurd (by omega) (hD u v hu hv e (h2.trans g2.symm))
theorem isLat.up {sn ky vr : Nat → Nat} {k n x w : Nat} (h : isLat sn ky vr k n x) (hw : w < n) (hk : ky w = k) : isLat (va_up sn w 1) ky vr k n (gr vr x (w + 1)) := by
  have hs : ∀ u, ¬ va_up sn w 1 u = 0 ↔ (¬ sn u = 0 ∨ u = w) := by
    intro u
    by_cases e : u = w
    · subst e; simp [va_s]
    · simp [va_n e, e]
  rcases h with ⟨rfl, h⟩ | ⟨u, hu, rfl, h1, h2, h3⟩
  · rw [gr_zz]
    refine Or.inr ⟨w, hw, rfl, (hs w).mpr (Or.inr rfl), hk, fun v hv hsv hkv => ?_⟩
    rcases (hs v).mp hsv with b | e
    · exact absurd hkv (h v hv b)
    · rw [e]; exact Nat.le_refl _
  · rcases Nat.lt_or_ge (vr u) (vr w) with hlt | hge
    · rw [gr_lt hlt]
      refine Or.inr ⟨w, hw, rfl, (hs w).mpr (Or.inr rfl), hk, fun v hv hsv hkv => ?_⟩
      rcases (hs v).mp hsv with b | e
      · exact Nat.le_trans (h3 v hv b hkv) (Nat.le_of_lt hlt)
      · rw [e]; exact Nat.le_refl _
    · rw [gr_ge hge]
      refine Or.inr ⟨u, hu, rfl, (hs u).mpr (Or.inl h1), h2, fun v hv hsv hkv => ?_⟩
      rcases (hs v).mp hsv with b | e
      · exact h3 v hv b hkv
      · rw [e]; exact hge
theorem isLat.off {sn ky vr : Nat → Nat} {k n x w : Nat} (h : isLat sn ky vr k n x) (hk : ¬ ky w = k) : isLat (va_up sn w 1) ky vr k n x := by
  have hs : ∀ u, ky u = k → (¬ va_up sn w 1 u = 0 ↔ ¬ sn u = 0) := by
    intro u hu
    have e : ¬ u = w := fun z => hk (by rw [← z]; exact hu)
    rw [va_n e]
  rcases h with ⟨rfl, h⟩ | ⟨u, hu, rfl, h1, h2, h3⟩
  · exact Or.inl ⟨rfl, fun u hu hsu hku => h u hu ((hs u hku).mp hsu) hku⟩
  · exact Or.inr ⟨u, hu, rfl, (hs u h2).mpr h1, h2, fun v hv hsv hkv => h3 v hv ((hs v hkv).mp hsv) hkv⟩
theorem latN_show {sn ky vr : Nat → Nat} {k n w : Nat} (hD : ∀ u v, u < n → v < n → ¬ u = v → ky u = ky v → ¬ vr u = vr v) (hw : w < n) : latN (va_up sn w 1) ky vr k n = if k = ky w then gr vr (latN sn ky vr k n) (w + 1) else latN sn ky vr k n := by
  by_cases hk : k = ky w
  · rw [if_pos hk]
    exact (latN_is n).uniq hD ((latN_is n).up hw hk.symm)
  · rw [if_neg hk]
    exact (latN_is n).uniq hD ((latN_is n).off (fun z => hk z.symm))
theorem latN_ext {sn sn' ky ky' vr vr' : Nat → Nat} {k : Nat} : ∀ n, (∀ u, u < n → sn' u = sn u ∧ ky' u = ky u ∧ vr' u = vr u) → latN sn' ky' vr' k n = latN sn ky vr k n
  | 0, _ => rfl
  | n + 1, h => by
    have ih := latN_ext (k := k) n (fun u hu => h u (by omega))
    have h1 := h n (by omega)
    have hle := latN_le (sn := sn) (ky := ky) (vr := vr) (q := k) n
    rw [latN, latN, ih, h1.1, h1.2.1]
    by_cases hc : ¬ sn n = 0 ∧ ky n = k
    · rw [if_pos hc, if_pos hc]
      cases hl : latN sn ky vr k n with
      | zero => rw [gr_zz, gr_zz]
      | succ z =>
        have hz := h z (by omega)
        unfold gr
        simp only [Nat.add_sub_cancel]
        rw [h1.2.2, hz.2.2]
    · rw [if_neg hc, if_neg hc]
-- rows
theorem getD_erase {L : List Nat} {i j : Nat} : (L.eraseIdx i).getD j 0 = if j < i then L.getD j 0 else L.getD (j + 1) 0 := by
  rw [List.getD_eq_getElem?_getD, List.getElem?_eraseIdx, List.getD_eq_getElem?_getD, List.getD_eq_getElem?_getD]
  split <;> rfl
theorem getD_snoc {L : List Nat} {w j : Nat} : (L ++ [w]).getD j 0 = if j < L.length then L.getD j 0 else if j = L.length then w else 0 := by
  rw [List.getD_eq_getElem?_getD, List.getElem?_append, List.getD_eq_getElem?_getD]
  by_cases h : j < L.length
  · rw [if_pos h, if_pos h]
  · rw [if_neg h, if_neg h]
    by_cases e : j = L.length
    · rw [if_pos e, e, Nat.sub_self]; rfl
    · rw [if_neg e]
      have h2 : j - L.length = (j - L.length - 1) + 1 := by omega
      rw [h2]
      rfl
theorem rowOk.app {mu mu' : oMu} {t t' q w : Nat} {L : List Nat} (h : rowOk mu t t' q L) (hl : L.length < 40) (h1 : mu' t' q = upd (mu t' q) L.length (nI w)) (h2 : mu' t q = upd (mu t q) 1 (nI (L.length + 1))) : rowOk mu' t t' q (L ++ [w]) := by
  refine ⟨by rw [h2]; simp [upd], by simp; omega, fun j hj => ?_⟩
  rw [h1, getD_snoc]
  have hj2 : j < L.length + 1 := by simpa using hj
  by_cases e : j = L.length
  · simp [upd, e]
  · have h3 : j < L.length := by omega
    simp only [upd, e, if_false, h3, if_true]
    exact h.2.2 j h3
theorem rowOk.rem {mu mu' : oMu} {t t' q j : Nat} {L : List Nat} (h : rowOk mu t t' q L) (hj : j < L.length) (h1 : mu' t' q = va_cpy (mu t' q) (mu t' q) (j + 1) j (L.length - j - 1)) (h2 : mu' t q = upd (mu t q) 1 (nI (L.length - 1))) : rowOk mu' t t' q (L.eraseIdx j) := by
  have hl : (L.eraseIdx j).length = L.length - 1 := by rw [List.length_eraseIdx, if_pos hj]
  refine ⟨by rw [h2, hl]; simp [upd], by rw [hl]; have := h.2.1; omega, fun z hz => ?_⟩
  rw [hl] at hz
  rw [h1, getD_erase]
  unfold va_cpy
  by_cases hzj : z < j
  · rw [if_neg (by omega), if_pos hzj]
    exact h.2.2 z (by omega)
  · rw [if_pos (by omega), if_neg hzj, show j + 1 + (z - j) = z + 1 by omega]
    exact h.2.2 (z + 1) (by omega)
theorem rowOk.fr {mu mu' : oMu} {t t' q : Nat} {L : List Nat} {K : List (Nat × Nat)} (h : rowOk mu t t' q L) (hf : mfr K mu mu') (h1 : (t, q) ∉ K) (h2 : (t', q) ∉ K) : rowOk mu' t t' q L := by
  unfold rowOk at h ⊢
  rw [hf t q h1, hf t' q h2]
  exact h
-- serving
def svs (nd : Nat → Nat) (dp : Nat → Nat → Nat) (L : List Nat) (sn : Nat → Nat) : Nat → (Nat → Nat) × List Nat
  | 0 => (sn, [])
  | t + 1 => if misN (nd (L.getD t 0)) (dp (L.getD t 0)) (svs nd dp L sn t).1 6 = 0 then (va_up (svs nd dp L sn t).1 (L.getD t 0) 1, (svs nd dp L sn t).2) else ((svs nd dp L sn t).1, (svs nd dp L sn t).2 ++ [L.getD t 0])
theorem svs_len {nd : Nat → Nat} {dp : Nat → Nat → Nat} {L : List Nat} {sn : Nat → Nat} : ∀ t, (svs nd dp L sn t).2.length ≤ t
  | 0 => Nat.le_refl _
  | t + 1 => by
    have ih := svs_len (nd := nd) (dp := dp) (L := L) (sn := sn) t
    rw [svs]
    split
    · exact Nat.le_succ_of_le ih
    · simp; omega
theorem svs_mem {nd : Nat → Nat} {dp : Nat → Nat → Nat} {L : List Nat} {sn : Nat → Nat} {m : Nat} (h : ∀ e ∈ L, e < m) : ∀ t, t ≤ L.length → ∀ e ∈ (svs nd dp L sn t).2, e < m
  | 0, _, e, he => by simp [svs] at he
  | t + 1, ht, e, he => by
    have ih := svs_mem (nd := nd) (dp := dp) (sn := sn) h t (by omega)
    rw [svs] at he
    split at he
    · exact ih e he
    · rcases List.mem_append.mp he with h1 | h1
      · exact ih e h1
      · rw [List.mem_singleton.mp h1, List.getD_eq_getElem?_getD, List.getElem?_eq_getElem (by omega : t < L.length)]
        exact h _ (List.getElem_mem _)
theorem getD_mem {L : List Nat} {j m : Nat} (h : ∀ e ∈ L, e < m) (hj : j < L.length) : L.getD j 0 < m := by
  rw [List.getD_eq_getElem?_getD, List.getElem?_eq_getElem hj]
  exact h _ (List.getElem_mem _)
theorem svs_sn {nd : Nat → Nat} {dp : Nat → Nat → Nat} {L : List Nat} {sn : Nat → Nat} {m : Nat} (h : ∀ e ∈ L, e < m) : ∀ t, t ≤ L.length → ∀ w, ((svs nd dp L sn t).1 w = sn w ∨ ((svs nd dp L sn t).1 w = 1 ∧ w < m))
  | 0, _, w => Or.inl rfl
  | t + 1, ht, w => by
    have ih := svs_sn (nd := nd) (dp := dp) (sn := sn) h t (by omega) w
    rw [svs]
    split
    · by_cases e : w = L.getD t 0
      · exact Or.inr ⟨by rw [e]; exact va_s, by rw [e]; exact getD_mem h (by omega)⟩
      · have e2 : va_up (svs nd dp L sn t).1 (L.getD t 0) 1 w = (svs nd dp L sn t).1 w := va_n e
        show va_up (svs nd dp L sn t).1 (L.getD t 0) 1 w = sn w ∨ (va_up (svs nd dp L sn t).1 (L.getD t 0) 1 w = 1 ∧ w < m)
        rw [e2]
        exact ih
    · exact ih
theorem mid_get {A B : List Nat} {w : Nat} : (A ++ w :: B).getD A.length 0 = w := by
  rw [List.getD_eq_getElem?_getD, List.getElem?_append_right (Nat.le_refl _), Nat.sub_self]
  rfl
theorem mid_erase {A B : List Nat} {w : Nat} : (A ++ w :: B).eraseIdx A.length = A ++ B := by
  rw [List.eraseIdx_append_of_length_le (Nat.le_refl _), Nat.sub_self]
  rfl
theorem drop_at {L : List Nat} {t : Nat} (h : t < L.length) : L.drop t = L.getD t 0 :: L.drop (t + 1) := by
  rw [List.drop_eq_getElem_cons h, List.getD_eq_getElem?_getD, List.getElem?_eq_getElem h]
  rfl
end
section
/-! The class's deliver, serve, put. -/
theorem neg4 {m : Nat} (hm : m ≤ 40) : ∀ j, j < m → ¬ (-4 : Int32) = nI j := by
  intro j hj e
  have h9 := nI_pos (show j < 2 ^ 31 by omega)
  rw [← e] at h9
  exact h9 (by decide)
def mx (a b : Nat) : Nat := if a < b then b else a
theorem ReC.dlv {mu mu' : oMu} {m : Nat} {ky vr nd : Nat → Nat} {dp : Nat → Nat → Nat} {vl : Nat → Int32} {sn ck : Nat → Nat → Nat} {wt fl : Nat → List Nat} {x h d : Nat → Nat → Nat} {s l r : Nat → Nat} {q z c : Nat} {A B : List Nat} {ck' : Nat → Nat} (hC : ReC mu m ky vr nd dp vl sn ck wt fl x h d s l r) (hf : mfr [(18, q), (19, q), (10, c), (12, z), (13, z)] mu mu') (hA : rowOk mu' 18 19 q A) (hB : rowOk mu' 12 13 z B) (hc : ∀ p, p < 2 → mu' 10 c p = nI (ck' p)) : ReC mu' m ky vr nd dp vl sn (va_up ck c ck') (va_up wt z B) (va_up fl q A) x h d s l r := by
  have f : ∀ t j, ¬ (t = 18 ∨ t = 19 ∨ t = 10 ∨ t = 12 ∨ t = 13) → mu' t j = mu t j := fun t j ht => hf t j (by simp; omega)
  refine ⟨hC.fw.fr hf rfl, fun w hw => by rw [f 5 w (by decide)]; exact hC.fv hw, fun c2 hc2 => ⟨fun w hw => by rw [f 8 c2 (by decide)]; exact hC.fsn hc2 w hw, fun k hk => by rw [f 9 c2 (by decide)]; exact hC.fnw hc2 k hk, fun p hp => ?_⟩, fun q2 hq2 => ?_, fun q2 hq2 => ?_, fun j hj => ?_⟩
  · by_cases e : c2 = c
    · subst e
      rw [va_s]
      exact hc p hp
    · rw [va_n e, hf 10 c2 (by simp [e])]
      exact hC.fck hc2 hp
  · by_cases e : q2 = z
    · subst e
      rw [va_s]
      exact hB
    · rw [va_n e]
      exact (hC.fwt hq2).fr hf (by simp [e]) (by simp [e])
  · by_cases e : q2 = q
    · subst e
      rw [va_s]
      exact hA
    · rw [va_n e]
      exact (hC.ffl hq2).fr hf (by simp [e]) (by simp [e])
  · rw [f 14 j (by decide)]
    exact ⟨(hC.2.2.2.2.2 j hj).1, (hC.fx hj).fr hf (by simp), (hC.fh hj).fr hf (by simp), (hC.fd hj).fr hf (by simp)⟩
theorem C_deliver_b1 {G : oG} {mu : oMu} {Q : oPm} {m : Nat} {ky vr nd : Nat → Nat} {dp : Nat → Nat → Nat} {vl : Nat → Int32} {sn ck : Nat → Nat → Nat} {wt fl : Nat → List Nat} {x h d : Nat → Nat → Nat} {s l r : Nat → Nat} (hC : ReC mu m ky vr nd dp vl sn ck wt fl x h d s l r) {a b z : Int32} (ha : ∀ j, j < 3 → ¬ a = nI j) (k : Q (some (.inl (nI 0))) mu) : Om G M_S_deliver 0 [(0, .inr (some (ad 0 0))), (1, .inl a), (2, .inl b), (3, .inl z)] [] mu Q := by
  refine o_aload_n dS_deliver_0 rfl ?_
  refine o_iload_n dS_deliver_1 rfl ?_
  refine o_iload_n dS_deliver_2 rfl ?_
  refine o_iload_n dS_deliver_3 rfl ?_
  refine m_callV M_S_sent [.inl a, .inl b, .inl z] [] dS_deliver_4 mk_S_sent in_S_sent se_S_sent rfl (by decide) rfl rfl ml_S_119 rfl rfl rfl (Nat.le_of_ble_eq_true rfl) rfl ?_
  refine C_sent_b1 ha ?_
  show Om G M_S_deliver 7 [(0, .inr (some (ad 0 0))), (1, .inl a), (2, .inl b), (3, .inl z)] [.inl (-4)] mu Q
  refine o_istore [(0, _), (1, _), (2, _), (3, _), (4, _)] dS_deliver_7 rfl rfl ?_
  refine o_aload_n dS_deliver_9 rfl ?_
  refine o_iload dS_deliver_10 rfl ?_
  refine m_callV M_S_isWrite [.inl (-4)] [] dS_deliver_12 mk_S_isWrite in_S_isWrite se_S_isWrite rfl (by decide) rfl rfl ml_S_123 rfl rfl rfl (Nat.le_of_ble_eq_true rfl) rfl ?_
  refine c_isWrite_n hC.fw.mm hC.fw.m4 (neg4 hC.fw.m4) ?_
  show Om G M_S_deliver 15 [(0, .inr (some (ad 0 0))), (1, .inl a), (2, .inl b), (3, .inl z), (4, .inl (-4))] [.inl (nI 0)] mu Q
  refine n_if_ne 20 dS_deliver_15 rfl (by omega) (fun h => absurd h (by decide)) (fun _ => ?_)
  refine o_iconst (nI 0) dS_deliver_18 rfl ?_
  refine m_zret dS_deliver_19 rfl rfl ?_
  exact k
theorem C_deliver_b2 {G : oG} {mu : oMu} {Q : oPm} {m : Nat} {ky vr nd : Nat → Nat} {dp : Nat → Nat → Nat} {vl : Nat → Int32} {sn ck : Nat → Nat → Nat} {wt fl : Nat → List Nat} {x h d : Nat → Nat → Nat} {s l r : Nat → Nat} (hC : ReC mu m ky vr nd dp vl sn ck wt fl x h d s l r) {i : Nat} {b z : Int32} (hi : i < 3) (hb : ∀ j, j < 3 → ¬ b = nI j) (k : Q (some (.inl (nI 0))) mu) : Om G M_S_deliver 0 [(0, .inr (some (ad 0 0))), (1, .inl (nI i)), (2, .inl b), (3, .inl z)] [] mu Q := by
  refine o_aload_n dS_deliver_0 rfl ?_
  refine o_iload_n dS_deliver_1 rfl ?_
  refine o_iload_n dS_deliver_2 rfl ?_
  refine o_iload_n dS_deliver_3 rfl ?_
  refine m_callV M_S_sent [.inl (nI i), .inl b, .inl z] [] dS_deliver_4 mk_S_sent in_S_sent se_S_sent rfl (by decide) rfl rfl ml_S_119 rfl rfl rfl (Nat.le_of_ble_eq_true rfl) rfl ?_
  refine C_sent_b2 hi hb ?_
  show Om G M_S_deliver 7 [(0, .inr (some (ad 0 0))), (1, .inl (nI i)), (2, .inl b), (3, .inl z)] [.inl (-4)] mu Q
  refine o_istore [(0, _), (1, _), (2, _), (3, _), (4, _)] dS_deliver_7 rfl rfl ?_
  refine o_aload_n dS_deliver_9 rfl ?_
  refine o_iload dS_deliver_10 rfl ?_
  refine m_callV M_S_isWrite [.inl (-4)] [] dS_deliver_12 mk_S_isWrite in_S_isWrite se_S_isWrite rfl (by decide) rfl rfl ml_S_123 rfl rfl rfl (Nat.le_of_ble_eq_true rfl) rfl ?_
  refine c_isWrite_n hC.fw.mm hC.fw.m4 (neg4 hC.fw.m4) ?_
  show Om G M_S_deliver 15 [(0, .inr (some (ad 0 0))), (1, .inl (nI i)), (2, .inl b), (3, .inl z), (4, .inl (-4))] [.inl (nI 0)] mu Q
  refine n_if_ne 20 dS_deliver_15 rfl (by omega) (fun h => absurd h (by decide)) (fun _ => ?_)
  refine o_iconst (nI 0) dS_deliver_18 rfl ?_
  refine m_zret dS_deliver_19 rfl rfl ?_
  exact k
theorem C_deliver_n {G : oG} {mu : oMu} {Q : oPm} {m : Nat} {ky vr nd : Nat → Nat} {dp : Nat → Nat → Nat} {vl : Nat → Int32} {sn ck : Nat → Nat → Nat} {wt fl : Nat → List Nat} {x h d : Nat → Nat → Nat} {s l r : Nat → Nat} (hC : ReC mu m ky vr nd dp vl sn ck wt fl x h d s l r) {i q : Nat} {z : Int32} (hi : i < 3) (hq : q < 3) (hj : ∀ j, j < (fl (i * 3 + q)).length → ¬ z = nI j) (k : Q (some (.inl (nI 0))) mu) : Om G M_S_deliver 0 [(0, .inr (some (ad 0 0))), (1, .inl (nI i)), (2, .inl (nI q)), (3, .inl z)] [] mu Q := by
  refine o_aload_n dS_deliver_0 rfl ?_
  refine o_iload_n dS_deliver_1 rfl ?_
  refine o_iload_n dS_deliver_2 rfl ?_
  refine o_iload_n dS_deliver_3 rfl ?_
  refine m_callV M_S_sent [.inl (nI i), .inl (nI q), .inl z] [] dS_deliver_4 mk_S_sent in_S_sent se_S_sent rfl (by decide) rfl rfl ml_S_119 rfl rfl rfl (Nat.le_of_ble_eq_true rfl) rfl ?_
  refine C_sent_n hC hi hq hj ?_
  show Om G M_S_deliver 7 [(0, .inr (some (ad 0 0))), (1, .inl (nI i)), (2, .inl (nI q)), (3, .inl z)] [.inl (-4)] mu Q
  refine o_istore [(0, _), (1, _), (2, _), (3, _), (4, _)] dS_deliver_7 rfl rfl ?_
  refine o_aload_n dS_deliver_9 rfl ?_
  refine o_iload dS_deliver_10 rfl ?_
  refine m_callV M_S_isWrite [.inl (-4)] [] dS_deliver_12 mk_S_isWrite in_S_isWrite se_S_isWrite rfl (by decide) rfl rfl ml_S_123 rfl rfl rfl (Nat.le_of_ble_eq_true rfl) rfl ?_
  refine c_isWrite_n hC.fw.mm hC.fw.m4 (neg4 hC.fw.m4) ?_
  show Om G M_S_deliver 15 [(0, .inr (some (ad 0 0))), (1, .inl (nI i)), (2, .inl (nI q)), (3, .inl z), (4, .inl (-4))] [.inl (nI 0)] mu Q
  refine n_if_ne 20 dS_deliver_15 rfl (by omega) (fun h => absurd h (by decide)) (fun _ => ?_)
  refine o_iconst (nI 0) dS_deliver_18 rfl ?_
  refine m_zret dS_deliver_19 rfl rfl ?_
  exact k
theorem C_deliver {G : oG} {mu : oMu} {Q : oPm} {m : Nat} {ky vr nd : Nat → Nat} {dp : Nat → Nat → Nat} {vl : Nat → Int32} {sn ck : Nat → Nat → Nat} {wt fl : Nat → List Nat} {x h d : Nat → Nat → Nat} {s l r : Nat → Nat} (hC : ReC mu m ky vr nd dp vl sn ck wt fl x h d s l r) {i q j w : Nat} (hi : i < 3) (hq : q < 3) (hj : j < (fl (i * 3 + q)).length) (hw : (fl (i * 3 + q)).getD j 0 = w) (hwm : w < m) (hck : ∀ p, p < 2 → ck q p < 1000) (hwl : (wt (2 * q + ky w % 2)).length < 40) (k : ∀ mu' : oMu, ReC mu' m ky vr nd dp vl sn (va_up ck q (va_up (ck q) (ky w % 2) (mx (ck q (ky w % 2)) (vr w / 4)))) (va_up wt (2 * q + ky w % 2) (wt (2 * q + ky w % 2) ++ [w])) (va_up fl (i * 3 + q) ((fl (i * 3 + q)).eraseIdx j)) x h d s l r → mgt mu mu' → Q (some (.inl (nI 1))) mu') : Om G M_S_deliver 0 [(0, .inr (some (ad 0 0))), (1, .inl (nI i)), (2, .inl (nI q)), (3, .inl (nI j))] [] mu Q := by
  have hm4 := hC.fw.m4
  have hkb := hC.fw.key6 hwm
  have hvb := hC.fw.verK hwm
  have hc1 := hck (ky w % 2) (by omega)
  refine o_aload_n dS_deliver_0 rfl ?_
  refine o_iload_n dS_deliver_1 rfl ?_
  refine o_iload_n dS_deliver_2 rfl ?_
  refine o_iload_n dS_deliver_3 rfl ?_
  refine m_callV M_S_sent [.inl (nI i), .inl (nI q), .inl (nI j)] [] dS_deliver_4 mk_S_sent in_S_sent se_S_sent rfl (by decide) rfl rfl ml_S_119 rfl rfl rfl (Nat.le_of_ble_eq_true rfl) rfl ?_
  refine C_sent_y hC hi hq hj ?_
  show Om G M_S_deliver 7 [(0, .inr (some (ad 0 0))), (1, .inl (nI i)), (2, .inl (nI q)), (3, .inl (nI j))] [.inl (nI ((fl (i * 3 + q)).getD j 0))] mu Q
  rw [hw]
  show Om G M_S_deliver 7 [(0, .inr (some (ad 0 0))), (1, .inl (nI i)), (2, .inl (nI q)), (3, .inl (nI j))] [.inl (nI w)] mu Q
  refine o_istore [(0, _), (1, _), (2, _), (3, _), (4, _)] dS_deliver_7 rfl rfl ?_
  refine o_aload_n dS_deliver_9 rfl ?_
  refine o_iload dS_deliver_10 rfl ?_
  refine m_callV M_S_isWrite [.inl (nI w)] [] dS_deliver_12 mk_S_isWrite in_S_isWrite se_S_isWrite rfl (by decide) rfl rfl ml_S_123 rfl rfl rfl (Nat.le_of_ble_eq_true rfl) rfl ?_
  refine c_isWrite_y hC.fw.mm hC.fw.m4 hwm ?_
  show Om G M_S_deliver 15 [(0, .inr (some (ad 0 0))), (1, .inl (nI i)), (2, .inl (nI q)), (3, .inl (nI j)), (4, .inl (nI w))] [.inl (nI 1)] mu Q
  refine n_if_ne 20 dS_deliver_15 rfl (by omega) (fun _ => ?_) (fun h => absurd h (by decide))
  refine o_aload_n dS_deliver_20 rfl ?_
  refine m_getr dS_deliver_21 fl_S_29 rfl rfl (by decide) ?_
  refine o_iload_n dS_deliver_24 rfl ?_
  refine o_iconst (nI 3) dS_deliver_25 rfl ?_
  refine o_imul dS_deliver_26 ?_
  refine o_top _ (pk_mul _ _) ?_
  refine o_iload_n dS_deliver_27 rfl ?_
  refine o_iadd dS_deliver_28 ?_
  refine o_top _ (nI_add _ _) ?_
  refine m_aald (i * 3 + q) dS_deliver_29 rfl rfl rfl (by decide) rfl (sh_q4 (by omega)) ?_
  refine o_iload_n dS_deliver_30 rfl ?_
  refine m_callV M_R_removeAt [.inl (nI j)] [] dS_deliver_31 mk_R_removeAt in_R_removeAt se_R_removeAt rfl (show i * 3 + q < 9 by omega) rfl rfl ml_S_126 rfl rfl rfl (Nat.le_of_ble_eq_true rfl) rfl ?_
  refine c_removeAt_18 (i := i * 3 + q) (by omega) (hC.ffl (by omega)).1 (hC.ffl (by omega)).2.1 hj (fun mu1 h19 h18 hf1 => ?_)
  have hW1 := hC.fw.fr hf1 rfl
  show Om G M_S_deliver 34 [(0, .inr (some (ad 0 0))), (1, .inl (nI i)), (2, .inl (nI q)), (3, .inl (nI j)), (4, .inl (nI w))] [] mu1 Q
  refine o_aload_n dS_deliver_34 rfl ?_
  refine m_getr dS_deliver_35 fl_S_17 rfl rfl (by decide) ?_
  refine o_iload_n dS_deliver_38 rfl ?_
  refine m_aald q dS_deliver_39 rfl rfl rfl (by decide) rfl (sh_q2 hq) ?_
  refine o_astore [(0, _), (1, _), (2, _), (3, _), (4, _), (5, _)] dS_deliver_40 rfl rfl ?_
  refine o_aload_n dS_deliver_42 rfl ?_
  refine m_getr dS_deliver_43 fl_S_11 rfl rfl (by decide) ?_
  refine o_iload dS_deliver_46 rfl ?_
  refine m_aald w dS_deliver_48 rfl rfl rfl (by decide) rfl (sh_q1 (by omega)) ?_
  refine m_geti dS_deliver_49 fl_S_129 rfl rfl (show w < 40 by omega) ?_
  refine o_top (nI (ky w)) (hW1.key hwm) ?_
  refine o_iconst (nI 2) dS_deliver_52 rfl ?_
  refine o_irem dS_deliver_53 (by decide) ?_
  refine o_top _ (pk_rem (by omega) (by decide) (by decide)) ?_
  refine o_istore [(0, _), (1, _), (2, _), (3, _), (4, _), (5, _), (6, _)] dS_deliver_54 rfl rfl ?_
  refine o_aload dS_deliver_56 rfl ?_
  refine m_getr dS_deliver_58 fl_S_132 rfl rfl hq ?_
  refine o_iload dS_deliver_61 rfl ?_
  refine o_aload dS_deliver_63 rfl ?_
  refine m_getr dS_deliver_65 fl_S_132 rfl rfl hq ?_
  refine o_iload dS_deliver_68 rfl ?_
  refine m_iald ((ky w) % 2) dS_deliver_70 rfl rfl rfl hq rfl (by omega) ?_
  refine o_top (nI (ck q (ky w % 2))) (by rw [hf1 10 q (by simp)]; exact hC.fck hq (by omega)) ?_
  refine o_aload_n dS_deliver_71 rfl ?_
  refine m_getr dS_deliver_72 fl_S_11 rfl rfl (by decide) ?_
  refine o_iload dS_deliver_75 rfl ?_
  refine m_aald w dS_deliver_77 rfl rfl rfl (by decide) rfl (sh_q1 (by omega)) ?_
  refine m_geti dS_deliver_78 fl_S_135 rfl rfl (show w < 40 by omega) ?_
  refine o_top (nI (vr w / 4)) (hW1.time hwm) ?_
  refine o_mmax dS_deliver_81 mx_S_138 wm_s wm_i wm_c rfl rfl ?_
  refine o_top (nI (mx (ck q (ky w % 2)) (vr w / 4))) (nI_max (by omega) (by omega)) ?_
  refine m_iast ((ky w) % 2) dS_deliver_84 rfl rfl rfl hq rfl (by omega) (fun mu2 hmu2 => ?_)
  have hf2 := mfr_up (L := [(10, q)]) hmu2 (by simp)
  refine o_aload dS_deliver_85 rfl ?_
  refine m_getr dS_deliver_87 fl_S_144 rfl rfl hq ?_
  refine o_iload dS_deliver_90 rfl ?_
  refine m_aald ((ky w) % 2) dS_deliver_92 rfl rfl rfl hq rfl (sh_wait (by omega)) ?_
  refine o_iload dS_deliver_93 rfl ?_
  refine m_callV M_R_append [.inl (nI w)] [] dS_deliver_95 mk_R_append in_R_append se_R_append rfl (show 2 * q + ((ky w) % 2) < 6 by omega) rfl rfl ml_S_147 rfl rfl rfl (Nat.le_of_ble_eq_true rfl) rfl ?_
  refine c_append_12 (i := 2 * q + ky w % 2) (n := (wt (2 * q + ky w % 2)).length) (by omega) (by rw [hf2 12 _ (by simp), hf1 12 _ (by simp)]; exact (hC.fwt (by omega)).1) (Nat.le_of_lt hwl) hwl (fun mu3 h13 h12 hf3 => ?_)
  show Om G M_S_deliver 98 [(0, .inr (some (ad 0 0))), (1, .inl (nI i)), (2, .inl (nI q)), (3, .inl (nI j)), (4, .inl (nI w)), (5, .inr (some (ad 7 q))), (6, .inl (nI ((ky w) % 2)))] [] mu3 Q
  refine o_iconst (nI 1) dS_deliver_98 rfl ?_
  refine m_zret dS_deliver_99 rfl rfl ?_
  have hrA : rowOk mu1 18 19 (i * 3 + q) ((fl (i * 3 + q)).eraseIdx j) := (hC.ffl (by omega)).rem hj h19 h18
  have hrA3 := (hrA.fr hf2 (by simp) (by simp)).fr hf3 (by simp) (by simp)
  have hrB2 := ((hC.fwt (show 2 * q + ky w % 2 < 6 by omega)).fr hf1 (by simp) (by simp)).fr hf2 (by simp) (by simp)
  have hrB3 := hrB2.app hwl h13 h12
  have hff : mfr [(18, i * 3 + q), (19, i * 3 + q), (10, q), (12, 2 * q + ky w % 2), (13, 2 * q + ky w % 2)] mu mu3 := ((hf1.wk (by simp)).tr (hf2.wk (by simp))).tr (hf3.wk (by simp))
  refine k mu3 (hC.dlv hff hrA3 hrB3 (fun p hp => ?_)) (mgt_of hff rfl)
  rw [hf3 10 q (by simp), hmu2, up2_s]
  by_cases e : p = ky w % 2
  · subst e
    simp [upd, va_s]
  · rw [va_n e]
    simp only [upd, e, if_false]
    rw [hf1 10 q (by simp)]
    exact hC.fck hq hp
theorem ReC.srv {mu mu' : oMu} {m : Nat} {ky vr nd : Nat → Nat} {dp : Nat → Nat → Nat} {vl : Nat → Int32} {sn ck : Nat → Nat → Nat} {wt fl : Nat → List Nat} {x h d : Nat → Nat → Nat} {s l r : Nat → Nat} {z c : Nat} {B : List Nat} {sn' : Nat → Nat} (hC : ReC mu m ky vr nd dp vl sn ck wt fl x h d s l r) (hf : mfr [(8, c), (9, c), (12, z), (13, z)] mu mu') (hB : rowOk mu' 12 13 z B) (hs : sOk mu' c sn') (hn : xOk mu' 9 c m (fun k => latN sn' ky vr k m)) : ReC mu' m ky vr nd dp vl (va_up sn c sn') ck (va_up wt z B) fl x h d s l r := by
  have f : ∀ t j, ¬ (t = 8 ∨ t = 9 ∨ t = 12 ∨ t = 13) → mu' t j = mu t j := fun t j ht => hf t j (by simp; omega)
  refine ⟨hC.fw.fr hf rfl, fun w hw => by rw [f 5 w (by decide)]; exact hC.fv hw, fun c2 hc2 => ⟨?_, ?_, fun p hp => by rw [f 10 c2 (by decide)]; exact hC.fck hc2 hp⟩, fun q2 hq2 => ?_, fun q2 hq2 => (hC.ffl hq2).fr hf (by simp) (by simp), fun j hj => ?_⟩
  · by_cases e : c2 = c
    · subst e
      rw [va_s]
      exact hs
    · rw [va_n e]
      intro w hw
      rw [hf 8 c2 (by simp [e])]
      exact hC.fsn hc2 w hw
  · by_cases e : c2 = c
    · subst e
      rw [va_s]
      exact hn
    · rw [va_n e]
      exact (hC.fnw hc2).fr hf (by simp [e])
  · by_cases e : q2 = z
    · subst e
      rw [va_s]
      exact hB
    · rw [va_n e]
      exact (hC.fwt hq2).fr hf (by simp [e]) (by simp [e])
  · rw [f 14 j (by decide)]
    exact ⟨(hC.2.2.2.2.2 j hj).1, (hC.fx hj).fr hf (by simp), (hC.fh hj).fr hf (by simp), (hC.fd hj).fr hf (by simp)⟩
theorem latN_up {sn ky vr : Nat → Nat} {m w : Nat} {mu' : oMu} {f : Nat → Int32} {c : Nat} (hD : ∀ u v, u < m → v < m → ¬ u = v → ky u = ky v → ¬ vr u = vr v) (hw : w < m) (h0 : ∀ k, k < 6 → f k = dec (latN sn ky vr k m)) (hk6 : ky w < 6) (h9 : mu' 9 c = upd f (ky w) (dec (gr vr (latN sn ky vr (ky w) m) (w + 1)))) : xOk mu' 9 c m (fun k => latN (va_up sn w 1) ky vr k m) := by
  intro k hk
  refine ⟨?_, latN_le m⟩
  show mu' 9 c k = dec (latN (va_up sn w 1) ky vr k m)
  rw [h9, latN_show hD hw]
  by_cases e : k = ky w
  · subst e
    simp [upd]
  · simp only [upd, e, if_false]
    exact h0 k hk
theorem C_serve_b1 {G : oG} {mu : oMu} {Q : oPm} {a b : Int32} (ha : ∀ j, j < 3 → ¬ a = nI j) (k : Q (some (.inl (-1))) mu) : Om G M_S_serve 0 [(0, .inr (some (ad 0 0))), (1, .inl a), (2, .inl b)] [] mu Q := by
  refine o_iload_n dS_serve_0 rfl ?_
  refine m_callS M_S_isCenter [.inl a] [] dS_serve_1 mk_S_isCenter st_S_isCenter ml_S_150 rfl rfl rfl (Nat.le_of_ble_eq_true rfl) rfl ?_
  refine c_isCenter_n ha ?_
  show Om G M_S_serve 4 [(0, .inr (some (ad 0 0))), (1, .inl a), (2, .inl b)] [.inl (nI 0)] mu Q
  refine n_if_eq 14 dS_serve_4 rfl (by omega) (fun _ => ?_) (fun h => absurd h (by decide))
  refine o_iconst (-1) dS_serve_14 rfl ?_
  refine m_iret dS_serve_15 rfl ?_
  exact k
theorem C_serve_b2 {G : oG} {mu : oMu} {Q : oPm} {i : Nat} {b : Int32} (hi : i < 3) (hb : ∀ j, j < 2 → ¬ b = nI j) (k : Q (some (.inl (-1))) mu) : Om G M_S_serve 0 [(0, .inr (some (ad 0 0))), (1, .inl (nI i)), (2, .inl b)] [] mu Q := by
  refine o_iload_n dS_serve_0 rfl ?_
  refine m_callS M_S_isCenter [.inl (nI i)] [] dS_serve_1 mk_S_isCenter st_S_isCenter ml_S_150 rfl rfl rfl (Nat.le_of_ble_eq_true rfl) rfl ?_
  refine c_isCenter_y hi ?_
  show Om G M_S_serve 4 [(0, .inr (some (ad 0 0))), (1, .inl (nI i)), (2, .inl b)] [.inl (nI 1)] mu Q
  refine n_if_eq 14 dS_serve_4 rfl (by omega) (fun h => absurd h (by decide)) (fun _ => ?_)
  refine o_iload_n dS_serve_7 rfl ?_
  refine m_callS M_S_isPartition [.inl b] [] dS_serve_8 mk_S_isPartition st_S_isPartition ml_S_153 rfl rfl rfl (Nat.le_of_ble_eq_true rfl) rfl ?_
  refine c_isPartition_n hb ?_
  show Om G M_S_serve 11 [(0, .inr (some (ad 0 0))), (1, .inl (nI i)), (2, .inl b)] [.inl (nI 0)] mu Q
  refine n_if_ne 16 dS_serve_11 rfl (by omega) (fun h => absurd h (by decide)) (fun _ => ?_)
  refine o_iconst (-1) dS_serve_14 rfl ?_
  refine m_iret dS_serve_15 rfl ?_
  exact k
theorem misN_le {n : Nat} {d sn : Nat → Nat} : ∀ k, misN n d sn k ≤ k
  | 0 => Nat.le_refl _
  | k + 1 => by
    have ih := misN_le (n := n) (d := d) (sn := sn) k
    rw [misN]
    split <;> omega
theorem l_serve {G : oG} {mu : oMu} {Q : oPm} {m : Nat} {ky vr nd : Nat → Nat} {dp : Nat → Nat → Nat} {L : List Nat} {sn0 : Nat → Nat} {c p : Nat} (hW : wOk mu m ky vr nd dp) (hc : c < 3) (hp : p < 2) (hD : ∀ u v, u < m → v < m → ¬ u = v → ky u = ky v → ¬ vr u = vr v) (hL : ∀ e ∈ L, e < m) (hL4 : L.length ≤ 40) (j : Nat) (hj : j ≤ L.length) (hr : rowOk mu 12 13 (2 * c + p) ((svs nd dp L sn0 j).2 ++ L.drop j)) (hs : sOk mu c (svs nd dp L sn0 j).1) (hn : xOk mu 9 c m (fun k => latN (svs nd dp L sn0 j).1 ky vr k m)) (k : ∀ mu' : oMu, rowOk mu' 12 13 (2 * c + p) (svs nd dp L sn0 L.length).2 → sOk mu' c (svs nd dp L sn0 L.length).1 → xOk mu' 9 c m (fun k => latN (svs nd dp L sn0 L.length).1 ky vr k m) → mfr [(8, c), (9, c), (12, 2 * c + p), (13, 2 * c + p)] mu mu' → Q (some (.inl (nI (L.length - (svs nd dp L sn0 L.length).2.length)))) mu') : Om G M_S_serve 40 [(0, .inr (some (ad 0 0))), (1, .inl (nI c)), (2, .inl (nI p)), (3, .inr (some (ad 12 (2 * c + p)))), (4, .inl (nI L.length)), (5, .inl (nI (j - (svs nd dp L sn0 j).2.length))), (6, .inl (nI j))] [] mu Q := by
  have hm4 := hW.m4
  refine o_iload dS_serve_40 rfl ?_
  refine o_iload dS_serve_42 rfl ?_
  refine n_icmp_ge 103 dS_serve_44 rfl (by omega) (by omega) (fun hb44 => ?_) (fun hb44 => ?_)
  · skip
    have hj6 : j = L.length := by omega
    refine o_iload dS_serve_103 rfl ?_
    refine m_iret dS_serve_105 rfl ?_
    subst hj6
    exact k mu (by simpa using hr) hs hn mfr_rf
  · skip
    have hln := svs_len (nd := nd) (dp := dp) (L := L) (sn := sn0) j
    have hwm := getD_mem hL hb44
    have hk6 := hW.key6 hwm
    have hrl : ((svs nd dp L sn0 j).2 ++ L.drop j).length = (svs nd dp L sn0 j).2.length + (L.length - j) := by simp
    have hrg : ((svs nd dp L sn0 j).2 ++ L.drop j).getD (svs nd dp L sn0 j).2.length 0 = L.getD j 0 := by rw [drop_at hb44]; exact mid_get
    refine o_iload dS_serve_47 rfl ?_
    refine o_iload dS_serve_49 rfl ?_
    refine o_isub dS_serve_51 ?_
    refine o_top (nI ((svs nd dp L sn0 j).2.length)) ((pk_sub (Nat.sub_le _ _)).trans (by rw [Nat.sub_sub_self hln])) ?_
    refine o_istore [(0, _), (1, _), (2, _), (3, _), (4, _), (5, _), (6, _), (7, _)] dS_serve_52 rfl rfl ?_
    refine o_aload_n dS_serve_54 rfl ?_
    refine o_iload dS_serve_55 rfl ?_
    refine m_callV M_R_at [.inl (nI ((svs nd dp L sn0 j).2.length))] [] dS_serve_57 mk_R_at in_R_at se_R_at rfl (show 2 * c + p < 6 by omega) rfl rfl ml_S_159 rfl rfl rfl (Nat.le_of_ble_eq_true rfl) rfl ?_
    refine c_wat_y (by omega) hr (j := (svs nd dp L sn0 j).2.length) (by omega) ?_
    show Om G M_S_serve 60 [(0, .inr (some (ad 0 0))), (1, .inl (nI c)), (2, .inl (nI p)), (3, .inr (some (ad 12 (2 * c + p)))), (4, .inl (nI L.length)), (5, .inl (nI (j - (svs nd dp L sn0 j).2.length))), (6, .inl (nI j)), (7, .inl (nI ((svs nd dp L sn0 j).2.length)))] [.inl (nI (((svs nd dp L sn0 j).2 ++ L.drop j).getD (svs nd dp L sn0 j).2.length 0))] mu Q
    rw [hrg]
    show Om G M_S_serve 60 [(0, .inr (some (ad 0 0))), (1, .inl (nI c)), (2, .inl (nI p)), (3, .inr (some (ad 12 (2 * c + p)))), (4, .inl (nI L.length)), (5, .inl (nI (j - (svs nd dp L sn0 j).2.length))), (6, .inl (nI j)), (7, .inl (nI (svs nd dp L sn0 j).2.length))] [.inl (nI (L.getD j 0))] mu Q
    refine o_istore [(0, _), (1, _), (2, _), (3, _), (4, _), (5, _), (6, _), (7, _), (8, _)] dS_serve_60 rfl rfl ?_
    refine o_aload_n dS_serve_62 rfl ?_
    refine o_iload dS_serve_63 rfl ?_
    refine m_callV M_S_isWrite [.inl (nI (L.getD j 0))] [] dS_serve_65 mk_S_isWrite in_S_isWrite se_S_isWrite rfl (by decide) rfl rfl ml_S_123 rfl rfl rfl (Nat.le_of_ble_eq_true rfl) rfl ?_
    refine c_isWrite_y hW.mm hW.m4 hwm ?_
    show Om G M_S_serve 68 [(0, .inr (some (ad 0 0))), (1, .inl (nI c)), (2, .inl (nI p)), (3, .inr (some (ad 12 (2 * c + p)))), (4, .inl (nI L.length)), (5, .inl (nI (j - (svs nd dp L sn0 j).2.length))), (6, .inl (nI j)), (7, .inl (nI ((svs nd dp L sn0 j).2.length))), (8, .inl (nI (L.getD j 0)))] [.inl (nI 1)] mu Q
    refine n_if_eq 97 dS_serve_68 rfl (by omega) (fun h => absurd h (by decide)) (fun _ => ?_)
    refine o_aload_n dS_serve_71 rfl ?_
    refine o_iload_n dS_serve_72 rfl ?_
    refine o_iload dS_serve_73 rfl ?_
    refine m_callV M_S_missingNeeds [.inl (nI c), .inl (nI (L.getD j 0))] [] dS_serve_75 mk_S_missingNeeds in_S_missingNeeds se_S_missingNeeds rfl (by decide) rfl rfl ml_S_162 rfl rfl rfl (Nat.le_of_ble_eq_true rfl) rfl ?_
    refine c_missingNeeds hW hc hwm hs ?_
    show Om G M_S_serve 78 [(0, .inr (some (ad 0 0))), (1, .inl (nI c)), (2, .inl (nI p)), (3, .inr (some (ad 12 (2 * c + p)))), (4, .inl (nI L.length)), (5, .inl (nI (j - (svs nd dp L sn0 j).2.length))), (6, .inl (nI j)), (7, .inl (nI ((svs nd dp L sn0 j).2.length))), (8, .inl (nI (L.getD j 0)))] [.inl (nI (misN (nd (L.getD j 0)) (dp (L.getD j 0)) (svs nd dp L sn0 j).1 6))] mu Q
    have hmi : misN (nd (L.getD j 0)) (dp (L.getD j 0)) (svs nd dp L sn0 j).1 6 ≤ 6 := misN_le 6
    refine n_if_ne 97 dS_serve_78 rfl (by omega) (fun hb78 => ?_) (fun hb78 => ?_)
    · skip
      refine o_iinc (nI (j + 1)) [(0, _), (1, _), (2, _), (3, _), (4, _), (5, _), (6, _), (7, _), (8, _)] dS_serve_97 rfl (nInc _) rfl rfl ?_
      refine o_goto 40 dS_serve_100 rfl ?_
      refine o_lv [(0, _), (1, _), (2, _), (3, _), (4, _), (5, _), (6, _)] [0, 1, 2, 3, 4, 5, 6] rfl ?_
      have e9 : svs nd dp L sn0 (j + 1) = ((svs nd dp L sn0 j).1, (svs nd dp L sn0 j).2 ++ [L.getD j 0]) := by rw [svs, if_neg hb78]
      rw [show j - (svs nd dp L sn0 j).2.length = j + 1 - (svs nd dp L sn0 (j + 1)).2.length by rw [e9]; simp]
      exact l_serve hW hc hp hD hL hL4 (j + 1) (by omega) (by rw [e9]; simpa [drop_at hb44] using hr) (by rw [e9]; exact hs) (by rw [e9]; exact hn) k
    · skip
      refine o_aload_n dS_serve_81 rfl ?_
      refine o_iload dS_serve_82 rfl ?_
      refine m_callV M_R_removeAt [.inl (nI ((svs nd dp L sn0 j).2.length))] [] dS_serve_84 mk_R_removeAt in_R_removeAt se_R_removeAt rfl (show 2 * c + p < 6 by omega) rfl rfl ml_S_126 rfl rfl rfl (Nat.le_of_ble_eq_true rfl) rfl ?_
      refine c_removeAt_12 (i := 2 * c + p) (n := ((svs nd dp L sn0 j).2 ++ L.drop j).length) (j := (svs nd dp L sn0 j).2.length) (by omega) hr.1 hr.2.1 (by omega) (fun mu1 h13 h12 hf1 => ?_)
      have hW1 := hW.fr hf1 rfl
      have hr1 : rowOk mu1 12 13 (2 * c + p) ((svs nd dp L sn0 j).2 ++ L.drop (j + 1)) := by
        have h7 := hr.rem (j := (svs nd dp L sn0 j).2.length) (by omega) h13 h12
        rw [drop_at hb44, mid_erase] at h7
        exact h7
      show Om G M_S_serve 87 [(0, .inr (some (ad 0 0))), (1, .inl (nI c)), (2, .inl (nI p)), (3, .inr (some (ad 12 (2 * c + p)))), (4, .inl (nI L.length)), (5, .inl (nI (j - (svs nd dp L sn0 j).2.length))), (6, .inl (nI j)), (7, .inl (nI ((svs nd dp L sn0 j).2.length))), (8, .inl (nI (L.getD j 0)))] [] mu1 Q
      refine o_aload_n dS_serve_87 rfl ?_
      refine o_iload_n dS_serve_88 rfl ?_
      refine o_iload dS_serve_89 rfl ?_
      refine m_callV M_S_show [.inl (nI c), .inl (nI (L.getD j 0))] [] dS_serve_91 mk_S_show in_S_show se_S_show rfl (by decide) rfl rfl ml_S_77 rfl rfl rfl (Nat.le_of_ble_eq_true rfl) rfl ?_
      refine c_show hW1 hc hwm (a := latN (svs nd dp L sn0 j).1 ky vr (ky (L.getD j 0)) m) (by rw [hf1 9 c (by simp)]; exact (hn _ hk6).1) (latN_le m) (fun mu2 h8 h9 hf2 => ?_)
      show Om G M_S_serve 94 [(0, .inr (some (ad 0 0))), (1, .inl (nI c)), (2, .inl (nI p)), (3, .inr (some (ad 12 (2 * c + p)))), (4, .inl (nI L.length)), (5, .inl (nI (j - (svs nd dp L sn0 j).2.length))), (6, .inl (nI j)), (7, .inl (nI ((svs nd dp L sn0 j).2.length))), (8, .inl (nI (L.getD j 0)))] [] mu2 Q
      refine o_iinc (nI (j - (svs nd dp L sn0 j).2.length + 1)) [(0, _), (1, _), (2, _), (3, _), (4, _), (5, _), (6, _), (7, _), (8, _)] dS_serve_94 rfl (nInc _) rfl rfl ?_
      refine o_iinc (nI (j + 1)) [(0, _), (1, _), (2, _), (3, _), (4, _), (5, _), (6, _), (7, _), (8, _)] dS_serve_97 rfl (nInc _) rfl rfl ?_
      refine o_goto 40 dS_serve_100 rfl ?_
      refine o_lv [(0, _), (1, _), (2, _), (3, _), (4, _), (5, _), (6, _)] [0, 1, 2, 3, 4, 5, 6] rfl ?_
      have e9 : svs nd dp L sn0 (j + 1) = (va_up (svs nd dp L sn0 j).1 (L.getD j 0) 1, (svs nd dp L sn0 j).2) := by rw [svs, if_pos hb78]
      have hff : mfr [(8, c), (9, c), (12, 2 * c + p), (13, 2 * c + p)] mu mu2 := (hf1.wk (by simp)).tr (hf2.wk (by simp))
      rw [show j - (svs nd dp L sn0 j).2.length + 1 = j + 1 - (svs nd dp L sn0 (j + 1)).2.length by rw [e9]; show _ = j + 1 - (svs nd dp L sn0 j).2.length; omega]
      exact l_serve (hW1.fr hf2 rfl) hc hp hD hL hL4 (j + 1) (by omega) (by rw [e9]; exact hr1.fr hf2 (by simp) (by simp)) (by
        rw [e9]
        intro u hu
        show mu2 8 c u = nI (va_up (svs nd dp L sn0 j).1 (L.getD j 0) 1 u) ∧ va_up (svs nd dp L sn0 j).1 (L.getD j 0) 1 u < 2
        rw [h8]
        by_cases e : u = L.getD j 0
        · rw [e, va_s]; simp [upd]
        · rw [va_n e]
          simp only [upd, e, if_false]
          rw [hf1 8 c (by simp)]
          exact hs u hu) (by
        rw [e9]
        exact latN_up hD hwm (fun q hq => by rw [hf1 9 c (by simp)]; exact (hn q hq).1) hk6 h9) (fun mu' a b c d => k mu' a b c (hff.tr d))
termination_by L.length - j
theorem C_serve {G : oG} {mu : oMu} {Q : oPm} {m : Nat} {ky vr nd : Nat → Nat} {dp : Nat → Nat → Nat} {vl : Nat → Int32} {sn ck : Nat → Nat → Nat} {wt fl : Nat → List Nat} {x h d : Nat → Nat → Nat} {s l r : Nat → Nat} (hC : ReC mu m ky vr nd dp vl sn ck wt fl x h d s l r) {i q : Nat} (hi : i < 3) (hq : q < 2) (hD : ∀ u v, u < m → v < m → ¬ u = v → ky u = ky v → ¬ vr u = vr v) (hL : ∀ e ∈ wt (2 * i + q), e < m) (k : ∀ mu' : oMu, ReC mu' m ky vr nd dp vl (va_up sn i (svs nd dp (wt (2 * i + q)) (sn i) (wt (2 * i + q)).length).1) ck (va_up wt (2 * i + q) (svs nd dp (wt (2 * i + q)) (sn i) (wt (2 * i + q)).length).2) fl x h d s l r → mgt mu mu' → Q (some (.inl (nI ((wt (2 * i + q)).length - (svs nd dp (wt (2 * i + q)) (sn i) (wt (2 * i + q)).length).2.length)))) mu') : Om G M_S_serve 0 [(0, .inr (some (ad 0 0))), (1, .inl (nI i)), (2, .inl (nI q))] [] mu Q := by
  refine o_iload_n dS_serve_0 rfl ?_
  refine m_callS M_S_isCenter [.inl (nI i)] [] dS_serve_1 mk_S_isCenter st_S_isCenter ml_S_150 rfl rfl rfl (Nat.le_of_ble_eq_true rfl) rfl ?_
  refine c_isCenter_y hi ?_
  show Om G M_S_serve 4 [(0, .inr (some (ad 0 0))), (1, .inl (nI i)), (2, .inl (nI q))] [.inl (nI 1)] mu Q
  refine n_if_eq 14 dS_serve_4 rfl (by omega) (fun h => absurd h (by decide)) (fun _ => ?_)
  refine o_iload_n dS_serve_7 rfl ?_
  refine m_callS M_S_isPartition [.inl (nI q)] [] dS_serve_8 mk_S_isPartition st_S_isPartition ml_S_153 rfl rfl rfl (Nat.le_of_ble_eq_true rfl) rfl ?_
  refine c_isPartition_y hq ?_
  show Om G M_S_serve 11 [(0, .inr (some (ad 0 0))), (1, .inl (nI i)), (2, .inl (nI q))] [.inl (nI 1)] mu Q
  refine n_if_ne 16 dS_serve_11 rfl (by omega) (fun _ => ?_) (fun h => absurd h (by decide))
  refine o_aload_n dS_serve_16 rfl ?_
  refine m_getr dS_serve_17 fl_S_17 rfl rfl (by decide) ?_
  refine o_iload_n dS_serve_20 rfl ?_
  refine m_aald i dS_serve_21 rfl rfl rfl (by decide) rfl (sh_q2 hi) ?_
  refine m_getr dS_serve_22 fl_S_144 rfl rfl hi ?_
  refine o_iload_n dS_serve_25 rfl ?_
  refine m_aald q dS_serve_26 rfl rfl rfl hi rfl (sh_wait hq) ?_
  refine o_astore_n [(0, _), (1, _), (2, _), (3, _)] dS_serve_27 rfl rfl ?_
  refine o_aload_n dS_serve_28 rfl ?_
  refine m_geti dS_serve_29 fl_S_156 rfl rfl (show 2 * i + q < 6 by omega) ?_
  refine o_top (nI ((wt (2 * i + q)).length)) (hC.fwt (by omega)).1 ?_
  refine o_istore [(0, _), (1, _), (2, _), (3, _), (4, _)] dS_serve_32 rfl rfl ?_
  refine o_iconst (nI 0) dS_serve_34 rfl ?_
  refine o_istore [(0, _), (1, _), (2, _), (3, _), (4, _), (5, _)] dS_serve_35 rfl rfl ?_
  refine o_iconst (nI 0) dS_serve_37 rfl ?_
  refine o_istore [(0, _), (1, _), (2, _), (3, _), (4, _), (5, _), (6, _)] dS_serve_38 rfl rfl ?_
  exact l_serve hC.fw hi hq hD hL (hC.fwt (by omega)).2.1 0 (Nat.zero_le _) (hC.fwt (by omega)) (hC.fsn hi) (hC.fnw hi) (fun mu' a b c e => k mu' (hC.srv e a b c) (mgt_of e rfl))
end
section
/-! The class's put. -/
theorem wOk.put {mu mu' : oMu} {m : Nat} {ky vr nd : Nat → Nat} {dp : Nat → Nat → Nat} (h : wOk mu m ky vr nd dp) (h0 : mu' 0 0 4 = nI m) (h5 : ∀ w, w < m → mu' 5 w = mu 5 w) (h6 : ∀ w, w < m → mu' 6 w = mu 6 w) : wOk mu' m ky vr nd dp := by
  refine ⟨h0, h.2.1, fun w hw => ?_⟩
  rw [h5 w hw, h6 w hw]
  exact h.2.2 w hw
theorem wOk.add {mu mu' : oMu} {m q n v : Nat} {ky vr nd y : Nat → Nat} {dp : Nat → Nat → Nat} (h : wOk mu m ky vr nd dp) (hm : m < 40) (h0 : mu' 0 0 4 = nI (m + 1)) (h5 : ∀ w, w < m → mu' 5 w = mu 5 w) (h6 : ∀ w, w < m → mu' 6 w = mu 6 w) (a1 : mu' 5 m 1 = nI q) (a3 : mu' 5 m 3 = nI (v / 4)) (a4 : mu' 5 m 4 = nI v) (a5 : mu' 5 m 5 = nI n) (hq : q < 6) (hv : v < 1000) (hn : n < 64) (hy : ∀ k, k < 6 → mu' 6 m k = dec (y k) ∧ y k ≤ m) : wOk mu' (m + 1) (va_up ky m q) (va_up vr m v) (va_up nd m n) (va_up dp m y) := by
  refine ⟨h0, hm, fun w hw => ?_⟩
  by_cases e : w = m
  · subst e
    simp only [va_s]
    exact ⟨⟨a1, a3, a4, a5⟩, ⟨hq, hv, hn⟩, fun k hk => ⟨(hy k hk).1, Nat.le_succ_of_le (hy k hk).2⟩⟩
  · have hw2 : w < m := by omega
    simp only [va_n e]
    rw [h5 w hw2, h6 w hw2]
    have h9 := h.2.2 w hw2
    exact ⟨h9.1, h9.2.1, fun k hk => ⟨(h9.2.2 k hk).1, Nat.le_succ_of_le (h9.2.2 k hk).2⟩⟩
theorem xOk.gr {mu : oMu} {t i m m' : Nat} {x : Nat → Nat} (h : xOk mu t i m x) (hm : m ≤ m') : xOk mu t i m' x := fun k hk => ⟨(h k hk).1, Nat.le_trans (h k hk).2 hm⟩
def flP (fl : Nat → List Nat) (c m : Nat) : Nat → List Nat := fun z => if z / 3 = c ∧ ¬ z % 3 = c then fl z ++ [m] else fl z
theorem C_put_b1 {G : oG} {mu : oMu} {Q : oPm} {a b v : Int32} (ha : ∀ j, j < 6 → ¬ a = nI j) (k : Q (some (.inl (-1))) mu) : Om G M_S_put 0 [(0, .inr (some (ad 0 0))), (1, .inl a), (2, .inl b), (3, .inl v)] [] mu Q := by
  refine o_iload_n dS_put_0 rfl ?_
  refine m_callS M_S_isClient [.inl a] [] dS_put_1 mk_S_isClient st_S_isClient ml_S_39 rfl rfl rfl (Nat.le_of_ble_eq_true rfl) rfl ?_
  refine c_isClient_n ha ?_
  show Om G M_S_put 4 [(0, .inr (some (ad 0 0))), (1, .inl a), (2, .inl b), (3, .inl v)] [.inl (nI 0)] mu Q
  refine n_if_eq 14 dS_put_4 rfl (by omega) (fun _ => ?_) (fun h => absurd h (by decide))
  refine o_iconst (-1) dS_put_14 rfl ?_
  refine m_iret dS_put_15 rfl ?_
  exact k
theorem C_put_b2 {G : oG} {mu : oMu} {Q : oPm} {i : Nat} {b v : Int32} (hi : i < 6) (hb : ∀ j, j < 6 → ¬ b = nI j) (k : Q (some (.inl (-1))) mu) : Om G M_S_put 0 [(0, .inr (some (ad 0 0))), (1, .inl (nI i)), (2, .inl b), (3, .inl v)] [] mu Q := by
  refine o_iload_n dS_put_0 rfl ?_
  refine m_callS M_S_isClient [.inl (nI i)] [] dS_put_1 mk_S_isClient st_S_isClient ml_S_39 rfl rfl rfl (Nat.le_of_ble_eq_true rfl) rfl ?_
  refine c_isClient_y hi ?_
  show Om G M_S_put 4 [(0, .inr (some (ad 0 0))), (1, .inl (nI i)), (2, .inl b), (3, .inl v)] [.inl (nI 1)] mu Q
  refine n_if_eq 14 dS_put_4 rfl (by omega) (fun h => absurd h (by decide)) (fun _ => ?_)
  refine o_iload_n dS_put_7 rfl ?_
  refine m_callS M_S_isKey [.inl b] [] dS_put_8 mk_S_isKey st_S_isKey ml_S_43 rfl rfl rfl (Nat.le_of_ble_eq_true rfl) rfl ?_
  refine c_isKey_n hb ?_
  show Om G M_S_put 11 [(0, .inr (some (ad 0 0))), (1, .inl (nI i)), (2, .inl b), (3, .inl v)] [.inl (nI 0)] mu Q
  refine n_if_ne 16 dS_put_11 rfl (by omega) (fun h => absurd h (by decide)) (fun _ => ?_)
  refine o_iconst (-1) dS_put_14 rfl ?_
  refine m_iret dS_put_15 rfl ?_
  exact k
theorem C_put_busy {G : oG} {mu : oMu} {Q : oPm} {m : Nat} {ky vr nd : Nat → Nat} {dp : Nat → Nat → Nat} {vl : Nat → Int32} {sn ck : Nat → Nat → Nat} {wt fl : Nat → List Nat} {x h d : Nat → Nat → Nat} {s l r : Nat → Nat} (hC : ReC mu m ky vr nd dp vl sn ck wt fl x h d s l r) {i q : Nat} {v : Int32} (hi : i < 6) (hl6 : l i < 64) (hq : q < 6) (hl0 : ¬ l i = 0) (k : Q (some (.inl (-2))) mu) : Om G M_S_put 0 [(0, .inr (some (ad 0 0))), (1, .inl (nI i)), (2, .inl (nI q)), (3, .inl v)] [] mu Q := by
  refine o_iload_n dS_put_0 rfl ?_
  refine m_callS M_S_isClient [.inl (nI i)] [] dS_put_1 mk_S_isClient st_S_isClient ml_S_39 rfl rfl rfl (Nat.le_of_ble_eq_true rfl) rfl ?_
  refine c_isClient_y hi ?_
  show Om G M_S_put 4 [(0, .inr (some (ad 0 0))), (1, .inl (nI i)), (2, .inl (nI q)), (3, .inl v)] [.inl (nI 1)] mu Q
  refine n_if_eq 14 dS_put_4 rfl (by omega) (fun h => absurd h (by decide)) (fun _ => ?_)
  refine o_iload_n dS_put_7 rfl ?_
  refine m_callS M_S_isKey [.inl (nI q)] [] dS_put_8 mk_S_isKey st_S_isKey ml_S_43 rfl rfl rfl (Nat.le_of_ble_eq_true rfl) rfl ?_
  refine c_isKey_y hq ?_
  show Om G M_S_put 11 [(0, .inr (some (ad 0 0))), (1, .inl (nI i)), (2, .inl (nI q)), (3, .inl v)] [.inl (nI 1)] mu Q
  refine n_if_ne 16 dS_put_11 rfl (by omega) (fun _ => ?_) (fun h => absurd h (by decide))
  refine o_aload_n dS_put_16 rfl ?_
  refine m_getr dS_put_17 fl_S_23 rfl rfl (by decide) ?_
  refine o_iload_n dS_put_20 rfl ?_
  refine m_aald i dS_put_21 rfl rfl rfl (by decide) rfl (sh_q3 hi) ?_
  refine o_astore [(0, _), (1, _), (2, _), (3, _), (4, _)] dS_put_22 rfl rfl ?_
  refine o_aload dS_put_24 rfl ?_
  refine m_callV M_K_isOpen [] [] dS_put_26 mk_K_isOpen in_K_isOpen se_K_isOpen rfl hi rfl rfl ml_S_46 rfl rfl rfl (Nat.le_of_ble_eq_true rfl) rfl ?_
  refine c_isOpen hi (hC.fle hi) hl6 (fun h9 => ?_) (fun h9 => ?_)
  · skip
    show Om G M_S_put 29 [(0, .inr (some (ad 0 0))), (1, .inl (nI i)), (2, .inl (nI q)), (3, .inl v), (4, .inr (some (ad 14 i)))] [.inl (nI 1)] mu Q
    refine n_if_eq 35 dS_put_29 rfl (by omega) (fun h => absurd h (by decide)) (fun _ => ?_)
    refine o_bipush (-2) dS_put_32 rfl ?_
    refine m_iret dS_put_34 rfl ?_
    exact k
  · skip
    exact absurd h9 hl0
theorem C_put_full {G : oG} {mu : oMu} {Q : oPm} {m : Nat} {ky vr nd : Nat → Nat} {dp : Nat → Nat → Nat} {vl : Nat → Int32} {sn ck : Nat → Nat → Nat} {wt fl : Nat → List Nat} {x h d : Nat → Nat → Nat} {s l r : Nat → Nat} (hC : ReC mu m ky vr nd dp vl sn ck wt fl x h d s l r) {i q : Nat} {v : Int32} (hi : i < 6) (hl6 : l i < 64) (hq : q < 6) (hl0 : l i = 0) (hm : m = 40) (k : Q (some (.inl (-3))) mu) : Om G M_S_put 0 [(0, .inr (some (ad 0 0))), (1, .inl (nI i)), (2, .inl (nI q)), (3, .inl v)] [] mu Q := by
  refine o_iload_n dS_put_0 rfl ?_
  refine m_callS M_S_isClient [.inl (nI i)] [] dS_put_1 mk_S_isClient st_S_isClient ml_S_39 rfl rfl rfl (Nat.le_of_ble_eq_true rfl) rfl ?_
  refine c_isClient_y hi ?_
  show Om G M_S_put 4 [(0, .inr (some (ad 0 0))), (1, .inl (nI i)), (2, .inl (nI q)), (3, .inl v)] [.inl (nI 1)] mu Q
  refine n_if_eq 14 dS_put_4 rfl (by omega) (fun h => absurd h (by decide)) (fun _ => ?_)
  refine o_iload_n dS_put_7 rfl ?_
  refine m_callS M_S_isKey [.inl (nI q)] [] dS_put_8 mk_S_isKey st_S_isKey ml_S_43 rfl rfl rfl (Nat.le_of_ble_eq_true rfl) rfl ?_
  refine c_isKey_y hq ?_
  show Om G M_S_put 11 [(0, .inr (some (ad 0 0))), (1, .inl (nI i)), (2, .inl (nI q)), (3, .inl v)] [.inl (nI 1)] mu Q
  refine n_if_ne 16 dS_put_11 rfl (by omega) (fun _ => ?_) (fun h => absurd h (by decide))
  refine o_aload_n dS_put_16 rfl ?_
  refine m_getr dS_put_17 fl_S_23 rfl rfl (by decide) ?_
  refine o_iload_n dS_put_20 rfl ?_
  refine m_aald i dS_put_21 rfl rfl rfl (by decide) rfl (sh_q3 hi) ?_
  refine o_astore [(0, _), (1, _), (2, _), (3, _), (4, _)] dS_put_22 rfl rfl ?_
  refine o_aload dS_put_24 rfl ?_
  refine m_callV M_K_isOpen [] [] dS_put_26 mk_K_isOpen in_K_isOpen se_K_isOpen rfl hi rfl rfl ml_S_46 rfl rfl rfl (Nat.le_of_ble_eq_true rfl) rfl ?_
  refine c_isOpen hi (hC.fle hi) hl6 (fun h9 => ?_) (fun h9 => ?_)
  · skip
    exact absurd hl0 h9
  · skip
    show Om G M_S_put 29 [(0, .inr (some (ad 0 0))), (1, .inl (nI i)), (2, .inl (nI q)), (3, .inl v), (4, .inr (some (ad 14 i)))] [.inl (nI 0)] mu Q
    refine n_if_eq 35 dS_put_29 rfl (by omega) (fun _ => ?_) (fun h => absurd h (by decide))
    refine o_aload_n dS_put_35 rfl ?_
    refine m_geti dS_put_36 fl_S_50 rfl rfl (by decide) ?_
    refine o_top (nI m) hC.fw.mm ?_
    refine o_bipush (nI 40) dS_put_39 rfl ?_
    refine n_icmp_lt 47 dS_put_41 rfl (by omega) (by omega) (fun h => absurd h (by omega)) (fun hb41 => ?_)
    refine o_bipush (-3) dS_put_44 rfl ?_
    refine m_iret dS_put_46 rfl ?_
    exact k
theorem C_put {G : oG} {mu : oMu} {Q : oPm} {m : Nat} {ky vr nd : Nat → Nat} {dp : Nat → Nat → Nat} {vl : Nat → Int32} {sn ck : Nat → Nat → Nat} {wt fl : Nat → List Nat} {x h d : Nat → Nat → Nat} {s l r : Nat → Nat} (hC : ReC mu m ky vr nd dp vl sn ck wt fl x h d s l r) {i q : Nat} {v : Int32} (hi : i < 6) (hl6 : l i < 64) (hq : q < 6) (hl0 : l i = 0) (hm : m < 40) (hck : ck (i % 3) (q % 2) < 1000) (hT : tmx (ck (i % 3) (q % 2)) (x i) vr 6 ≤ 40) (hz : ∀ c, c < 3 → ∀ w, m ≤ w → w < 40 → sn c w = 0) (hfl : ∀ z, z < 9 → (fl z).length < 40) (k : ∀ mu' : oMu, ReC mu' (m + 1) (va_up ky m q) (va_up vr m (4 * (tmx (ck (i % 3) (q % 2)) (x i) vr 6 + 1) + i % 3)) (va_up nd m (nearB (x i) dp 6)) (va_up dp m (x i)) (va_up vl m v) (va_up sn (i % 3) (va_up (sn (i % 3)) m 1)) (va_up ck (i % 3) (va_up (ck (i % 3)) (q % 2) (tmx (ck (i % 3) (q % 2)) (x i) vr 6 + 1))) wt (flP fl (i % 3) m) (va_up x i (sX (x i) (x i) (va_up vr m (4 * (tmx (ck (i % 3) (q % 2)) (x i) vr 6 + 1) + i % 3)) q m)) h d s l r → mgt mu mu' → Q (some (.inl (nI m))) mu') : Om G M_S_put 0 [(0, .inr (some (ad 0 0))), (1, .inl (nI i)), (2, .inl (nI q)), (3, .inl v)] [] mu Q := by
  have hm4 := hC.fw.m4
  refine o_iload_n dS_put_0 rfl ?_
  refine m_callS M_S_isClient [.inl (nI i)] [] dS_put_1 mk_S_isClient st_S_isClient ml_S_39 rfl rfl rfl (Nat.le_of_ble_eq_true rfl) rfl ?_
  refine c_isClient_y hi ?_
  show Om G M_S_put 4 [(0, .inr (some (ad 0 0))), (1, .inl (nI i)), (2, .inl (nI q)), (3, .inl v)] [.inl (nI 1)] mu Q
  refine n_if_eq 14 dS_put_4 rfl (by omega) (fun h => absurd h (by decide)) (fun _ => ?_)
  refine o_iload_n dS_put_7 rfl ?_
  refine m_callS M_S_isKey [.inl (nI q)] [] dS_put_8 mk_S_isKey st_S_isKey ml_S_43 rfl rfl rfl (Nat.le_of_ble_eq_true rfl) rfl ?_
  refine c_isKey_y hq ?_
  show Om G M_S_put 11 [(0, .inr (some (ad 0 0))), (1, .inl (nI i)), (2, .inl (nI q)), (3, .inl v)] [.inl (nI 1)] mu Q
  refine n_if_ne 16 dS_put_11 rfl (by omega) (fun _ => ?_) (fun h => absurd h (by decide))
  refine o_aload_n dS_put_16 rfl ?_
  refine m_getr dS_put_17 fl_S_23 rfl rfl (by decide) ?_
  refine o_iload_n dS_put_20 rfl ?_
  refine m_aald i dS_put_21 rfl rfl rfl (by decide) rfl (sh_q3 hi) ?_
  refine o_astore [(0, _), (1, _), (2, _), (3, _), (4, _)] dS_put_22 rfl rfl ?_
  refine o_aload dS_put_24 rfl ?_
  refine m_callV M_K_isOpen [] [] dS_put_26 mk_K_isOpen in_K_isOpen se_K_isOpen rfl hi rfl rfl ml_S_46 rfl rfl rfl (Nat.le_of_ble_eq_true rfl) rfl ?_
  refine c_isOpen hi (hC.fle hi) hl6 (fun h9 => ?_) (fun h9 => ?_)
  · skip
    exact absurd hl0 h9
  · skip
    show Om G M_S_put 29 [(0, .inr (some (ad 0 0))), (1, .inl (nI i)), (2, .inl (nI q)), (3, .inl v), (4, .inr (some (ad 14 i)))] [.inl (nI 0)] mu Q
    refine n_if_eq 35 dS_put_29 rfl (by omega) (fun _ => ?_) (fun h => absurd h (by decide))
    refine o_aload_n dS_put_35 rfl ?_
    refine m_geti dS_put_36 fl_S_50 rfl rfl (by decide) ?_
    refine o_top (nI m) hC.fw.mm ?_
    refine o_bipush (nI 40) dS_put_39 rfl ?_
    refine n_icmp_lt 47 dS_put_41 rfl (by omega) (by omega) (fun hb41 => ?_) (fun h => absurd h (by omega))
    refine o_aload_n dS_put_47 rfl ?_
    refine o_aload dS_put_48 rfl ?_
    refine o_iload_n dS_put_50 rfl ?_
    refine o_iconst (nI 2) dS_put_51 rfl ?_
    refine o_irem dS_put_52 (by decide) ?_
    refine o_top _ (pk_rem (by omega) (by decide) (by decide)) ?_
    refine m_callV M_S_tick [.inr (some (ad 14 i)), .inl (nI (q % 2))] [] dS_put_53 mk_S_tick in_S_tick se_S_tick rfl (by decide) rfl rfl ml_S_54 rfl rfl rfl (Nat.le_of_ble_eq_true rfl) rfl ?_
    refine c_tick hC.fw hi (show i % 3 < 3 by omega) (show q % 2 < 2 by omega) hck (hC.fx hi) (hC.fce hi) (hC.fck (by omega) (by omega)) (fun mu1 hmu1 => ?_)
    have hf1 := mfr_up (L := [(10, i % 3)]) hmu1 (by simp)
    have hW1 := hC.fw.fr hf1 rfl
    show Om G M_S_put 56 [(0, .inr (some (ad 0 0))), (1, .inl (nI i)), (2, .inl (nI q)), (3, .inl v), (4, .inr (some (ad 14 i)))] [.inl (nI (tmx (ck (i % 3) (q % 2)) (x i) vr 6 + 1))] mu1 Q
    refine o_istore [(0, _), (1, _), (2, _), (3, _), (4, _), (5, _)] dS_put_56 rfl rfl ?_
    refine o_aload_n dS_put_58 rfl ?_
    refine m_geti dS_put_59 fl_S_50 rfl rfl (by decide) ?_
    refine o_top (nI m) hW1.mm ?_
    refine o_istore [(0, _), (1, _), (2, _), (3, _), (4, _), (5, _), (6, _)] dS_put_62 rfl rfl ?_
    refine o_aload_n dS_put_64 rfl ?_
    refine m_getr dS_put_65 fl_S_11 rfl rfl (by decide) ?_
    refine o_iload dS_put_68 rfl ?_
    refine m_aald m dS_put_70 rfl rfl rfl (by decide) rfl (sh_q1 hm) ?_
    refine o_iload_n dS_put_71 rfl ?_
    refine o_iload_n dS_put_72 rfl ?_
    refine o_iload dS_put_73 rfl ?_
    refine o_aload dS_put_75 rfl ?_
    refine m_geti dS_put_77 fl_S_58 rfl rfl hi ?_
    refine o_top (nI (i % 3)) (by rw [hf1 14 i (by simp)]; exact hC.fce hi) ?_
    refine m_callV M_W_fill [.inl (nI q), .inl v, .inl (nI (tmx (ck (i % 3) (q % 2)) (x i) vr 6 + 1)), .inl (nI (i % 3))] [] dS_put_80 mk_W_fill in_W_fill se_W_fill rfl hm rfl rfl ml_S_61 rfl rfl rfl (Nat.le_of_ble_eq_true rfl) rfl ?_
    refine c_fill hm (fun mu2 h5a hf2 => ?_)
    have hW2 : wOk mu2 m ky vr nd dp := hW1.put (by rw [hf2 0 0 (by simp)]; exact hW1.mm) (fun w hw => hf2 5 w (by simp; omega)) (fun w hw => hf2 6 w (by simp))
    have hX2 : xOk mu2 15 i m (x i) := ((hC.fx hi).fr hf1 (by simp)).fr hf2 (by simp)
    show Om G M_S_put 83 [(0, .inr (some (ad 0 0))), (1, .inl (nI i)), (2, .inl (nI q)), (3, .inl v), (4, .inr (some (ad 14 i))), (5, .inl (nI (tmx (ck (i % 3) (q % 2)) (x i) vr 6 + 1))), (6, .inl (nI m))] [] mu2 Q
    refine o_aload_n dS_put_83 rfl ?_
    refine m_getr dS_put_84 fl_S_11 rfl rfl (by decide) ?_
    refine o_iload dS_put_87 rfl ?_
    refine m_aald m dS_put_89 rfl rfl rfl (by decide) rfl (sh_q1 hm) ?_
    refine o_aload dS_put_90 rfl ?_
    refine m_getr dS_put_92 fl_S_65 rfl rfl hi ?_
    refine o_aload_n dS_put_95 rfl ?_
    refine o_aload dS_put_96 rfl ?_
    refine m_getr dS_put_98 fl_S_65 rfl rfl hi ?_
    refine m_callV M_S_nearestKeys [.inr (some (ad 15 i))] [.inr (some (ad 15 i)), .inr (some (ad 5 m))] dS_put_101 mk_S_nearestKeys in_S_nearestKeys se_S_nearestKeys rfl (by decide) rfl rfl ml_S_69 rfl rfl rfl (Nat.le_of_ble_eq_true rfl) rfl ?_
    refine c_nearestKeys hW2 hi hX2 ?_
    show Om G M_S_put 104 [(0, .inr (some (ad 0 0))), (1, .inl (nI i)), (2, .inl (nI q)), (3, .inl v), (4, .inr (some (ad 14 i))), (5, .inl (nI (tmx (ck (i % 3) (q % 2)) (x i) vr 6 + 1))), (6, .inl (nI m))] [.inl (nI (nearB (x i) dp 6)), .inr (some (ad 15 i)), .inr (some (ad 5 m))] mu2 Q
    refine m_callV M_W_dependOn [.inr (some (ad 15 i)), .inl (nI (nearB (x i) dp 6))] [] dS_put_104 mk_W_dependOn in_W_dependOn se_W_dependOn rfl hm rfl rfl ml_S_73 rfl rfl rfl (Nat.le_of_ble_eq_true rfl) rfl ?_
    refine c_dependOn hm hi (fun mu3 h6a h5b hf3 => ?_)
    show Om G M_S_put 107 [(0, .inr (some (ad 0 0))), (1, .inl (nI i)), (2, .inl (nI q)), (3, .inl v), (4, .inr (some (ad 14 i))), (5, .inl (nI (tmx (ck (i % 3) (q % 2)) (x i) vr 6 + 1))), (6, .inl (nI m))] [] mu3 Q
    refine o_aload_n dS_put_107 rfl ?_
    refine o_dup dS_put_108 ?_
    refine m_geti dS_put_109 fl_S_50 rfl rfl (by decide) ?_
    refine o_top (nI m) (by rw [hf3 0 0 (by simp)]; exact hW2.mm) ?_
    refine o_iconst (nI 1) dS_put_112 rfl ?_
    refine o_iadd dS_put_113 ?_
    refine o_top _ (nI_add _ _) ?_
    refine m_puti dS_put_114 fs_S_50 rfl rfl (by decide) (fun mu4 hmu4 => ?_)
    have hf4 := mfr_up (L := [(0, 0)]) hmu4 (by simp)
    have h5m : mu4 5 m = upd (upd (upd (upd (upd (mu1 5 m) 1 (nI q)) 2 v) 3 (nI (tmx (ck (i % 3) (q % 2)) (x i) vr 6 + 1))) 4 (nI (4 * (tmx (ck (i % 3) (q % 2)) (x i) vr 6 + 1) + i % 3))) 5 (nI (nearB (x i) dp 6)) := by rw [hf4 5 m (by simp), h5b, h5a]
    have hW4 : wOk mu4 (m + 1) (va_up ky m q) (va_up vr m (4 * (tmx (ck (i % 3) (q % 2)) (x i) vr 6 + 1) + i % 3)) (va_up nd m (nearB (x i) dp 6)) (va_up dp m (x i)) := by
      refine hW2.add hm (by rw [hmu4, up2_s]; simp [upd]) (fun w hw => ?_) (fun w hw => ?_) (by rw [h5m]; simp [upd]) (by rw [h5m, show (4 * (tmx (ck (i % 3) (q % 2)) (x i) vr 6 + 1) + i % 3) / 4 = tmx (ck (i % 3) (q % 2)) (x i) vr 6 + 1 by omega]; simp [upd]) (by rw [h5m]; simp [upd]) (by rw [h5m]; simp [upd]) hq (by omega) (nearB_lt 6 (Nat.le_refl _)) (fun z hz9 => ?_)
      · rw [hf4 5 w (by simp), hf3 5 w (by simp; omega)]
      · rw [hf4 6 w (by simp), hf3 6 w (by simp; omega)]
      · rw [hf4 6 m (by simp), h6a]
        have e9 : va_cpy (mu2 15 i) (mu2 6 m) 0 0 6 z = mu2 15 i z := by
          unfold va_cpy
          rw [if_pos (by omega), show 0 + (z - 0) = z by omega]
        rw [e9]
        exact hX2 z hz9
    have hn4 : mu4 9 (i % 3) ((va_up ky m q) m) = dec (latN (sn (i % 3)) ky vr ((va_up ky m q) m) m) := by
      rw [hf4 9 _ (by simp), hf3 9 _ (by simp), hf2 9 _ (by simp), hf1 9 _ (by simp)]
      exact (hC.fnw (show i % 3 < 3 by omega) _ (by rw [va_s]; exact hq)).1
    have hlm : latN (sn (i % 3)) ky vr ((va_up ky m q) m) m ≤ m + 1 := Nat.le_succ_of_le (latN_le m)
    refine o_aload_n dS_put_117 rfl ?_
    refine o_aload dS_put_118 rfl ?_
    refine m_geti dS_put_120 fl_S_58 rfl rfl hi ?_
    refine o_top (nI (i % 3)) (by rw [hf4 14 i (by simp), hf3 14 i (by simp), hf2 14 i (by simp), hf1 14 i (by simp)]; exact hC.fce hi) ?_
    refine o_iload dS_put_123 rfl ?_
    refine m_callV M_S_show [.inl (nI (i % 3)), .inl (nI m)] [] dS_put_125 mk_S_show in_S_show se_S_show rfl (by decide) rfl rfl ml_S_77 rfl rfl rfl (Nat.le_of_ble_eq_true rfl) rfl ?_
    refine c_show hW4 (show i % 3 < 3 by omega) (Nat.lt_succ_self m) hn4 hlm (fun mu5 h8 h9b hf5 => ?_)
    show Om G M_S_put 128 [(0, .inr (some (ad 0 0))), (1, .inl (nI i)), (2, .inl (nI q)), (3, .inl v), (4, .inr (some (ad 14 i))), (5, .inl (nI (tmx (ck (i % 3) (q % 2)) (x i) vr 6 + 1))), (6, .inl (nI m))] [] mu5 Q
    refine o_aload_n dS_put_128 rfl ?_
    refine o_aload dS_put_129 rfl ?_
    refine m_geti dS_put_131 fl_S_58 rfl rfl hi ?_
    refine o_top (nI (i % 3)) (by rw [hf5 14 i (by simp), hf4 14 i (by simp), hf3 14 i (by simp), hf2 14 i (by simp), hf1 14 i (by simp)]; exact hC.fce hi) ?_
    refine o_iload dS_put_134 rfl ?_
    refine m_callV M_S_send [.inl (nI (i % 3)), .inl (nI m)] [] dS_put_136 mk_S_send in_S_send se_S_send rfl (by decide) rfl rfl ml_S_81 rfl rfl rfl (Nat.le_of_ble_eq_true rfl) rfl ?_
    refine c_send (w := m) (sz := fun z => (fl z).length) (show i % 3 < 3 by omega) (fun z hz9 => ⟨by rw [hf5 18 z (by simp), hf4 18 z (by simp), hf3 18 z (by simp), hf2 18 z (by simp), hf1 18 z (by simp)]; exact (hC.ffl hz9).1, hfl z hz9⟩) (fun mu6 hr6 => ?_)
    have hf45 : mfr [(10, i % 3), (5, m), (6, m), (0, 0), (8, i % 3), (9, i % 3)] mu mu5 := ((((hf1.wk (by simp)).tr (hf2.wk (by simp))).tr (hf3.wk (by simp))).tr (hf4.wk (by simp))).tr (hf5.wk (by simp))
    have hW6 : wOk mu6 (m + 1) (va_up ky m q) (va_up vr m (4 * (tmx (ck (i % 3) (q % 2)) (x i) vr 6 + 1) + i % 3)) (va_up nd m (nearB (x i) dp 6)) (va_up dp m (x i)) := by
      have h7 := hW4.fr hf5 rfl
      refine ⟨by rw [hr6.2 0 0 (by decide) (by decide)]; exact h7.1, h7.2.1, fun w hw => ?_⟩
      rw [hr6.2 5 w (by decide) (by decide), hr6.2 6 w (by decide) (by decide)]
      exact h7.2.2 w hw
    have hX6 : xOk mu6 15 i (m + 1) (x i) := fun z hz9 => by
      rw [hr6.2 15 i (by decide) (by decide), hf45 15 i (by simp)]
      exact ⟨(hC.fx hi z hz9).1, Nat.le_succ_of_le (hC.fx hi z hz9).2⟩
    show Om G M_S_put 139 [(0, .inr (some (ad 0 0))), (1, .inl (nI i)), (2, .inl (nI q)), (3, .inl v), (4, .inr (some (ad 14 i))), (5, .inl (nI (tmx (ck (i % 3) (q % 2)) (x i) vr 6 + 1))), (6, .inl (nI m))] [] mu6 Q
    refine o_aload_n dS_put_139 rfl ?_
    refine o_aload dS_put_140 rfl ?_
    refine o_iload dS_put_142 rfl ?_
    refine m_callV M_S_see [.inr (some (ad 14 i)), .inl (nI m)] [] dS_put_144 mk_S_see in_S_see se_S_see rfl (by decide) rfl rfl ml_S_84 rfl rfl rfl (Nat.le_of_ble_eq_true rfl) rfl ?_
    refine c_see hW6 hi (a := m + 1) (Nat.le_refl _) hX6 (fun e => ?_) (fun w hw e mu7 hx7 hf7 => ?_)
    · skip
      exact absurd e (by omega)
    · skip
      obtain rfl : m = w := by omega
      show Om G M_S_put 147 [(0, .inr (some (ad 0 0))), (1, .inl (nI i)), (2, .inl (nI q)), (3, .inl v), (4, .inr (some (ad 14 i))), (5, .inl (nI (tmx (ck (i % 3) (q % 2)) (x i) vr 6 + 1))), (6, .inl (nI m))] [] mu7 Q
      refine o_iload dS_put_147 rfl ?_
      refine m_iret dS_put_149 rfl ?_
      rw [va_s, va_s] at hx7
      have g7 : ∀ t j, ¬ t = 15 → ¬ t = 18 → ¬ t = 19 → mu7 t j = mu5 t j := fun t j a b c => by rw [hf7 t j (by simp [a]), hr6.2 t j b c]
      refine k mu7 ?_ (fun t j ht => ?_)
      · refine ⟨?_, fun w hw => ?_, fun c hc => ⟨fun w hw => ?_, fun z hz9 => ?_, fun p hp => ?_⟩, fun z hz9 => ?_, fun z hz9 => ?_, fun j hj => ?_⟩
        · have h7 := hW6.fr hf7 rfl
          exact h7
        · rw [g7 5 w (by decide) (by decide) (by decide), hf5 5 w (by simp)]
          by_cases e9 : w = m
          · subst e9
            rw [h5m, va_s]
            simp [upd]
          · rw [va_n e9, hf4 5 w (by simp), hf3 5 w (by simp [e9]), hf2 5 w (by simp [e9]), hf1 5 w (by simp)]
            exact hC.fv (by omega)
        · rw [g7 8 c (by decide) (by decide) (by decide)]
          by_cases ec : c = i % 3
          · subst ec
            rw [va_s, h8]
            by_cases ew : w = m
            · subst ew
              rw [va_s]
              simp [upd]
            · rw [va_n ew]
              simp only [upd, ew, if_false]
              rw [hf4 8 _ (by simp), hf3 8 _ (by simp), hf2 8 _ (by simp), hf1 8 _ (by simp)]
              exact hC.fsn hc w hw
          · rw [va_n ec, hf45 8 c (by simp [ec])]
            exact hC.fsn hc w hw
        · show mu7 9 c z = dec (latN (va_up sn (i % 3) (va_up (sn (i % 3)) m 1) c) (va_up ky m q) (va_up vr m (4 * (tmx (ck (i % 3) (q % 2)) (x i) vr 6 + 1) + i % 3)) z (m + 1)) ∧ latN (va_up sn (i % 3) (va_up (sn (i % 3)) m 1) c) (va_up ky m q) (va_up vr m (4 * (tmx (ck (i % 3) (q % 2)) (x i) vr 6 + 1) + i % 3)) z (m + 1) ≤ m + 1
          refine ⟨?_, latN_le (m + 1)⟩
          rw [g7 9 c (by decide) (by decide) (by decide)]
          by_cases ec : c = i % 3
          · subst ec
            rw [va_s, h9b, latN, latN_ext (sn := sn (i % 3)) (ky := ky) (vr := vr) m (fun u hu => ⟨va_n (Nat.ne_of_lt hu), va_n (Nat.ne_of_lt hu), va_n (Nat.ne_of_lt hu)⟩)]
            by_cases ez : z = (va_up ky m q) m
            · rw [if_pos ⟨by rw [va_s]; decide, ez.symm⟩, ez]
              simp [upd]
            · rw [if_neg (fun y => ez y.2.symm)]
              simp only [upd, ez, if_false]
              rw [hf4 9 _ (by simp), hf3 9 _ (by simp), hf2 9 _ (by simp), hf1 9 _ (by simp)]
              exact (hC.fnw hc z hz9).1
          · rw [va_n ec, hf45 9 c (by simp [ec]), latN, latN_ext (sn := sn c) (ky := ky) (vr := vr) m (fun u hu => ⟨rfl, va_n (Nat.ne_of_lt hu), va_n (Nat.ne_of_lt hu)⟩), if_neg (fun y => y.1 (hz c hc m (Nat.le_refl _) hm))]
            exact (hC.fnw hc z hz9).1
        · rw [g7 10 c (by decide) (by decide) (by decide), hf5 10 c (by simp), hf4 10 c (by simp), hf3 10 c (by simp), hf2 10 c (by simp)]
          by_cases ec : c = i % 3
          · subst ec
            rw [va_s, hmu1, up2_s]
            by_cases ep : p = q % 2
            · subst ep
              rw [va_s]
              simp [upd]
            · rw [va_n ep]
              simp only [upd, ep, if_false]
              exact hC.fck hc hp
          · rw [va_n ec, hf1 10 c (by simp [ec])]
            exact hC.fck hc hp
        · have h8r := hC.fwt hz9
          unfold rowOk at h8r ⊢
          rw [g7 12 z (by decide) (by decide) (by decide), g7 13 z (by decide) (by decide) (by decide), hf45 12 z (by simp), hf45 13 z (by simp)]
          exact h8r
        · have h5r : rowOk mu5 18 19 z (fl z) := (hC.ffl hz9).fr hf45 (by simp) (by simp)
          have h6r := hr6.1 z hz9
          have h6s : rowOk mu6 18 19 z (flP fl (i % 3) m z) := by
            unfold flP
            by_cases es : z / 3 = i % 3 ∧ ¬ z % 3 = i % 3
            · rw [if_pos es]
              have h7r := h6r.1 ⟨es.1, es.2, by omega⟩
              exact h5r.app (hfl z hz9) h7r.2 h7r.1
            · rw [if_neg es]
              have h7r := h6r.2 (fun y => es ⟨y.1, y.2.1⟩)
              unfold rowOk at h5r ⊢
              rw [h7r.1, h7r.2]
              exact h5r
          exact h6s.fr hf7 (by simp) (by simp)
        · rw [g7 14 j (by decide) (by decide) (by decide), hf45 14 j (by simp)]
          have hcj := hC.2.2.2.2.2 j hj
          refine ⟨hcj.1, ?_, fun z hz9 => ?_, fun z hz9 => ?_⟩
          · by_cases ej : j = i
            · subst ej
              rw [va_s]
              exact hx7
            · rw [va_n ej]
              intro z hz9
              rw [hf7 15 j (by simp [ej]), hr6.2 15 j (by decide) (by decide), hf45 15 j (by simp)]
              exact ⟨(hcj.2.1 z hz9).1, Nat.le_succ_of_le (hcj.2.1 z hz9).2⟩
          · rw [g7 16 j (by decide) (by decide) (by decide), hf45 16 j (by simp)]
            exact ⟨(hcj.2.2.1 z hz9).1, Nat.le_succ_of_le (hcj.2.2.1 z hz9).2⟩
          · rw [g7 17 j (by decide) (by decide) (by decide), hf45 17 j (by simp)]
            exact ⟨(hcj.2.2.2 z hz9).1, Nat.le_succ_of_le (hcj.2.2.2 z hz9).2⟩
      · rw [g7 t j (by omega) (by omega) (by omega)]
        exact mgt_of hf45 rfl t j ht
end
section
/-! The reference's get, begin, read. -/
def cseg (i : Nat) (mu mu' : oMu) : Prop := (∀ t z, ¬ (32 ≤ t ∧ t ≤ 38 ∧ z = 0) → mu' t z = mu t z) ∧ (∀ t j, 33 ≤ t → t ≤ 36 → ¬ j = i → mu' t 0 j = mu t 0 j) ∧ ∀ t j, t = 32 ∨ t = 37 ∨ t = 38 → ¬ (6 * i ≤ j ∧ j < 6 * i + 6) → mu' t 0 j = mu t 0 j
theorem cseg.tr {i : Nat} {a b c : oMu} (h1 : cseg i a b) (h2 : cseg i b c) : cseg i a c := ⟨fun t z h => (h2.1 t z h).trans (h1.1 t z h), fun t j p q r => (h2.2.1 t j p q r).trans (h1.2.1 t j p q r), fun t j p q => (h2.2.2 t j p q).trans (h1.2.2 t j p q)⟩
theorem cseg_fs {i : Nat} {mu mu' : oMu} (h : mfs 32 (6 * i) 6 mu mu') : cseg i mu mu' := ⟨fun t z hz => h.1 t z (fun y => hz (by omega)), fun t j p q _ => by rw [h.1 t 0 (by omega)], fun t j p q => by
  rcases p with rfl | rfl | rfl
  · exact h.2 j q
  · rw [h.1 37 0 (by omega)]
  · rw [h.1 38 0 (by omega)]⟩
theorem cseg_1 {i t : Nat} {v : Int32} {mu mu' : oMu} (h : mu' = up2 mu t 0 (upd (mu t 0) i v)) (h1 : 33 ≤ t) (h2 : t ≤ 36) : cseg i mu mu' := by
  subst h
  refine ⟨fun t' z hz => if_neg (fun y => hz (by omega)), fun t' j p q hj => ?_, fun t' j p q => ?_⟩
  · by_cases e : t' = t
    · subst e; rw [up2_s]; simp [upd, hj]
    · rw [up2_t e]
  · rw [up2_t (by omega)]
theorem cseg_6 {i t k : Nat} {v : Int32} {mu mu' : oMu} (h : mu' = up2 mu t 0 (upd (mu t 0) (6 * i + k) v)) (h1 : t = 32 ∨ t = 37 ∨ t = 38) (h2 : k < 6) : cseg i mu mu' := by
  subst h
  refine ⟨fun t' z hz => if_neg (fun y => hz (by omega)), fun t' j p q hj => ?_, fun t' j p q => ?_⟩
  · rw [up2_t (by omega)]
  · by_cases e : t' = t
    · subst e; rw [up2_s]
      have hj : ¬ j = 6 * i + k := by omega
      simp [upd, hj]
    · rw [up2_t e]
theorem cseg.lt {i : Nat} {mu mu' : oMu} (h : cseg i mu mu') : mlt mu mu' := fun t z ht => h.1 t z (by omega)
theorem cseg.v {i : Nat} {mu mu' : oMu} {m : Nat} {ky vr nd : Nat → Nat} {dp : Nat → Nat → Nat} (h : cseg i mu mu') (hV : vOk mu m ky vr nd dp) : vOk mu' m ky vr nd dp := hV.mv (h.1 20 0 (by omega)) (h.1 21 0 (by omega)) (h.1 23 0 (by omega)) (h.1 24 0 (by omega)) (h.1 25 0 (by omega))
theorem mlt.tr {a b c : oMu} (h1 : mlt a b) (h2 : mlt b c) : mlt a c := fun t i h => (h2 t i h).trans (h1 t i h)
theorem yOk.ne {mu mu' : oMu} {t i m : Nat} {x : Nat → Nat} (h : yOk mu t i m x) (e : mu' t 0 = mu t 0) : yOk mu' t i m x := fun k hk => by rw [e]; exact h k hk
theorem ReR.cli {mu mu' : oMu} {m : Nat} {ky vr nd : Nat → Nat} {dp : Nat → Nat → Nat} {vl : Nat → Int32} {sn ck : Nat → Nat → Nat} {wt fl : Nat → List Nat} {x h d : Nat → Nat → Nat} {s l r ph : Nat → Nat} {i : Nat} {X Hh D : Nat → Nat} {S' L' R' P' : Nat} (hC : ReR mu m ky vr nd dp vl sn ck wt fl x h d s l r ph) (hi : i < 6) (hf : cseg i mu mu') (h3 : mu' 33 0 i = nI P') (h4 : mu' 34 0 i = nI S') (h6 : mu' 36 0 i = nI L') (h5 : mu' 35 0 i = nI R') (hX : yOk mu' 32 i m X) (hH : yOk mu' 37 i m Hh) (hD : yOk mu' 38 i m D) : ReR mu' m ky vr nd dp vl sn ck wt fl (va_up x i X) (va_up h i Hh) (va_up d i D) (va_up s i S') (va_up l i L') (va_up r i R') (va_up ph i P') := by
  have f : ∀ t, ¬ (32 ≤ t ∧ t ≤ 38) → mu' t 0 = mu t 0 := fun t ht => hf.1 t 0 (by omega)
  refine ⟨hf.v hC.fw, fun w hw => by rw [f 22 (by decide)]; exact hC.fv hw, fun c hc => ⟨fun w hw => by rw [f 26 (by decide)]; exact hC.fsn hc w hw, fun p hp => by rw [f 27 (by decide)]; exact hC.fck hc hp⟩, fun q hq => ?_, fun q hq => ?_, fun j hj => ?_⟩
  · have h9 := hC.fwt hq
    unfold lineOk at h9 ⊢
    rw [f 28 (by decide), f 29 (by decide)]
    exact h9
  · have h9 := hC.ffl hq
    unfold lineOk at h9 ⊢
    rw [f 30 (by decide), f 31 (by decide)]
    exact h9
  · by_cases e : j = i
    · subst e
      simp only [va_s]
      exact ⟨⟨h3, h4, h6, h5⟩, hX, hH, hD⟩
    · simp only [va_n e]
      rw [hf.2.1 33 j (by decide) (by decide) e, hf.2.1 34 j (by decide) (by decide) e, hf.2.1 35 j (by decide) (by decide) e, hf.2.1 36 j (by decide) (by decide) e]
      refine ⟨(hC.2.2.2.2.2 j hj).1, fun k hk => ?_, fun k hk => ?_, fun k hk => ?_⟩
      · rw [hf.2.2 32 _ (by simp) (by omega)]; exact hC.fx hj k hk
      · rw [hf.2.2 37 _ (by simp) (by omega)]; exact hC.fh hj k hk
      · rw [hf.2.2 38 _ (by simp) (by omega)]; exact hC.fd hj k hk
theorem r_open_y {G : oG} {mu : oMu} {Q : oPm} {i p : Nat} (hi : i < 6) (hp : mu 33 0 i = nI p) (hp4 : p < 4) (h : p = 1 ∨ p = 2) (k : Q (some (.inl (nI 1))) mu) : Om G M_N_open 0 [(0, .inr (some (ad 20 0))), (1, .inl (nI i))] [] mu Q := r_open hi hp hp4 (fun _ => k) (fun z => absurd h z)
theorem r_open_n {G : oG} {mu : oMu} {Q : oPm} {i p : Nat} (hi : i < 6) (hp : mu 33 0 i = nI p) (hp4 : p < 4) (h : ¬ (p = 1 ∨ p = 2)) (k : Q (some (.inl (nI 0))) mu) : Om G M_N_open 0 [(0, .inr (some (ad 20 0))), (1, .inl (nI i))] [] mu Q := r_open hi hp hp4 (fun z => absurd z h) (fun _ => k)
theorem R_get_b1 {G : oG} {mu : oMu} {Q : oPm} {a b : Int32} (ha : ∀ j, j < 6 → ¬ a = nI j) (k : Q (some (.inl (-1))) mu) : Om G M_N_get 0 [(0, .inr (some (ad 20 0))), (1, .inl a), (2, .inl b)] [] mu Q := by
  refine o_iload_n dN_get_0 rfl ?_
  refine o_bipush (nI 6) dN_get_1 rfl ?_
  refine m_callS M_N_out [.inl a, .inl (nI 6)] [] dN_get_3 mk_N_out st_N_out ml_N_73 rfl rfl rfl (Nat.le_of_ble_eq_true rfl) rfl ?_
  refine r_out_n (by decide) ha ?_
  show Om G M_N_get 6 [(0, .inr (some (ad 20 0))), (1, .inl a), (2, .inl b)] [.inl (nI 1)] mu Q
  refine n_if_ne 18 dN_get_6 rfl (by omega) (fun _ => ?_) (fun h => absurd h (by decide))
  refine o_iconst (-1) dN_get_18 rfl ?_
  refine m_iret dN_get_19 rfl ?_
  exact k
theorem R_get_b2 {G : oG} {mu : oMu} {Q : oPm} {i : Nat} {b : Int32} (hi : i < 6) (hb : ∀ j, j < 6 → ¬ b = nI j) (k : Q (some (.inl (-1))) mu) : Om G M_N_get 0 [(0, .inr (some (ad 20 0))), (1, .inl (nI i)), (2, .inl b)] [] mu Q := by
  refine o_iload_n dN_get_0 rfl ?_
  refine o_bipush (nI 6) dN_get_1 rfl ?_
  refine m_callS M_N_out [.inl (nI i), .inl (nI 6)] [] dN_get_3 mk_N_out st_N_out ml_N_73 rfl rfl rfl (Nat.le_of_ble_eq_true rfl) rfl ?_
  refine r_out_y (by decide) hi ?_
  show Om G M_N_get 6 [(0, .inr (some (ad 20 0))), (1, .inl (nI i)), (2, .inl b)] [.inl (nI 0)] mu Q
  refine n_if_ne 18 dN_get_6 rfl (by omega) (fun h => absurd h (by decide)) (fun _ => ?_)
  refine o_iload_n dN_get_9 rfl ?_
  refine o_bipush (nI 6) dN_get_10 rfl ?_
  refine m_callS M_N_out [.inl b, .inl (nI 6)] [] dN_get_12 mk_N_out st_N_out ml_N_73 rfl rfl rfl (Nat.le_of_ble_eq_true rfl) rfl ?_
  refine r_out_n (by decide) hb ?_
  show Om G M_N_get 15 [(0, .inr (some (ad 20 0))), (1, .inl (nI i)), (2, .inl b)] [.inl (nI 1)] mu Q
  refine n_if_eq 20 dN_get_15 rfl (by omega) (fun h => absurd h (by decide)) (fun _ => ?_)
  refine o_iconst (-1) dN_get_18 rfl ?_
  refine m_iret dN_get_19 rfl ?_
  exact k
theorem R_get_busy {G : oG} {mu : oMu} {Q : oPm} {m : Nat} {ky vr nd : Nat → Nat} {dp : Nat → Nat → Nat} {vl : Nat → Int32} {sn ck : Nat → Nat → Nat} {wt fl : Nat → List Nat} {x h d : Nat → Nat → Nat} {s l r ph : Nat → Nat} (hC : ReR mu m ky vr nd dp vl sn ck wt fl x h d s l r ph) {i q : Nat} (hi : i < 6) (hp4 : ph i < 4) (hq : q < 6) (hop : ph i = 1 ∨ ph i = 2) (k : Q (some (.inl (-2))) mu) : Om G M_N_get 0 [(0, .inr (some (ad 20 0))), (1, .inl (nI i)), (2, .inl (nI q))] [] mu Q := by
  refine o_iload_n dN_get_0 rfl ?_
  refine o_bipush (nI 6) dN_get_1 rfl ?_
  refine m_callS M_N_out [.inl (nI i), .inl (nI 6)] [] dN_get_3 mk_N_out st_N_out ml_N_73 rfl rfl rfl (Nat.le_of_ble_eq_true rfl) rfl ?_
  refine r_out_y (by decide) hi ?_
  show Om G M_N_get 6 [(0, .inr (some (ad 20 0))), (1, .inl (nI i)), (2, .inl (nI q))] [.inl (nI 0)] mu Q
  refine n_if_ne 18 dN_get_6 rfl (by omega) (fun h => absurd h (by decide)) (fun _ => ?_)
  refine o_iload_n dN_get_9 rfl ?_
  refine o_bipush (nI 6) dN_get_10 rfl ?_
  refine m_callS M_N_out [.inl (nI q), .inl (nI 6)] [] dN_get_12 mk_N_out st_N_out ml_N_73 rfl rfl rfl (Nat.le_of_ble_eq_true rfl) rfl ?_
  refine r_out_y (by decide) hq ?_
  show Om G M_N_get 15 [(0, .inr (some (ad 20 0))), (1, .inl (nI i)), (2, .inl (nI q))] [.inl (nI 0)] mu Q
  refine n_if_eq 20 dN_get_15 rfl (by omega) (fun _ => ?_) (fun h => absurd h (by decide))
  refine o_aload_n dN_get_20 rfl ?_
  refine o_iload_n dN_get_21 rfl ?_
  refine m_callV M_N_open [.inl (nI i)] [] dN_get_22 mk_N_open in_N_open se_N_open rfl (by decide) rfl rfl ml_N_77 rfl rfl rfl (Nat.le_of_ble_eq_true rfl) rfl ?_
  refine r_open_y hi (hC.fph hi) hp4 hop ?_
  show Om G M_N_get 25 [(0, .inr (some (ad 20 0))), (1, .inl (nI i)), (2, .inl (nI q))] [.inl (nI 1)] mu Q
  refine n_if_eq 31 dN_get_25 rfl (by omega) (fun h => absurd h (by decide)) (fun _ => ?_)
  refine o_bipush (-2) dN_get_28 rfl ?_
  refine m_iret dN_get_30 rfl ?_
  exact k
theorem R_get_none {G : oG} {mu : oMu} {Q : oPm} {m : Nat} {ky vr nd : Nat → Nat} {dp : Nat → Nat → Nat} {vl : Nat → Int32} {sn ck : Nat → Nat → Nat} {wt fl : Nat → List Nat} {x h d : Nat → Nat → Nat} {s l r ph : Nat → Nat} (hC : ReR mu m ky vr nd dp vl sn ck wt fl x h d s l r ph) {i q : Nat} (hi : i < 6) (hp4 : ph i < 4) (hq : q < 6) (hop : ¬ (ph i = 1 ∨ ph i = 2)) (hz : latN (sn (i % 3)) ky vr q m = 0) (k : Q (some (.inl (-4))) mu) : Om G M_N_get 0 [(0, .inr (some (ad 20 0))), (1, .inl (nI i)), (2, .inl (nI q))] [] mu Q := by
  refine o_iload_n dN_get_0 rfl ?_
  refine o_bipush (nI 6) dN_get_1 rfl ?_
  refine m_callS M_N_out [.inl (nI i), .inl (nI 6)] [] dN_get_3 mk_N_out st_N_out ml_N_73 rfl rfl rfl (Nat.le_of_ble_eq_true rfl) rfl ?_
  refine r_out_y (by decide) hi ?_
  show Om G M_N_get 6 [(0, .inr (some (ad 20 0))), (1, .inl (nI i)), (2, .inl (nI q))] [.inl (nI 0)] mu Q
  refine n_if_ne 18 dN_get_6 rfl (by omega) (fun h => absurd h (by decide)) (fun _ => ?_)
  refine o_iload_n dN_get_9 rfl ?_
  refine o_bipush (nI 6) dN_get_10 rfl ?_
  refine m_callS M_N_out [.inl (nI q), .inl (nI 6)] [] dN_get_12 mk_N_out st_N_out ml_N_73 rfl rfl rfl (Nat.le_of_ble_eq_true rfl) rfl ?_
  refine r_out_y (by decide) hq ?_
  show Om G M_N_get 15 [(0, .inr (some (ad 20 0))), (1, .inl (nI i)), (2, .inl (nI q))] [.inl (nI 0)] mu Q
  refine n_if_eq 20 dN_get_15 rfl (by omega) (fun _ => ?_) (fun h => absurd h (by decide))
  refine o_aload_n dN_get_20 rfl ?_
  refine o_iload_n dN_get_21 rfl ?_
  refine m_callV M_N_open [.inl (nI i)] [] dN_get_22 mk_N_open in_N_open se_N_open rfl (by decide) rfl rfl ml_N_77 rfl rfl rfl (Nat.le_of_ble_eq_true rfl) rfl ?_
  refine r_open_n hi (hC.fph hi) hp4 hop ?_
  show Om G M_N_get 25 [(0, .inr (some (ad 20 0))), (1, .inl (nI i)), (2, .inl (nI q))] [.inl (nI 0)] mu Q
  refine n_if_eq 31 dN_get_25 rfl (by omega) (fun _ => ?_) (fun h => absurd h (by decide))
  refine o_aload_n dN_get_31 rfl ?_
  refine o_iload_n dN_get_32 rfl ?_
  refine o_iconst (nI 3) dN_get_33 rfl ?_
  refine o_irem dN_get_34 (by decide) ?_
  refine o_top _ (pk_rem (by omega) (by decide) (by decide)) ?_
  refine o_iload_n dN_get_35 rfl ?_
  refine m_callV M_N_latestOf [.inl (nI (i % 3)), .inl (nI q)] [] dN_get_36 mk_N_latestOf in_N_latestOf se_N_latestOf rfl (by decide) rfl rfl ml_N_93 rfl rfl rfl (Nat.le_of_ble_eq_true rfl) rfl ?_
  refine r_latestOf hC.fw (show i % 3 < 3 by omega) hq (hC.fsn (by omega)) ?_
  show Om G M_N_get 39 [(0, .inr (some (ad 20 0))), (1, .inl (nI i)), (2, .inl (nI q))] [.inl (nI (latN (sn (i % 3)) ky vr q m))] mu Q
  refine o_istore_n [(0, _), (1, _), (2, _), (3, _)] dN_get_39 rfl rfl ?_
  refine o_iload_n dN_get_40 rfl ?_
  have hle9 := latN_le (sn := sn (i % 3)) (ky := ky) (vr := vr) (q := q) m
  have hm4 := hC.fw.m4
  refine n_if_ne 47 dN_get_41 rfl (by omega) (fun h => absurd hz h) (fun hb41 => ?_)
  refine o_bipush (-4) dN_get_44 rfl ?_
  refine m_iret dN_get_46 rfl ?_
  exact k
theorem R_get {G : oG} {mu : oMu} {Q : oPm} {m : Nat} {ky vr nd : Nat → Nat} {dp : Nat → Nat → Nat} {vl : Nat → Int32} {sn ck : Nat → Nat → Nat} {wt fl : Nat → List Nat} {x h d : Nat → Nat → Nat} {s l r ph : Nat → Nat} (hC : ReR mu m ky vr nd dp vl sn ck wt fl x h d s l r ph) {i q w : Nat} (hi : i < 6) (hp4 : ph i < 4) (hq : q < 6) (hop : ¬ (ph i = 1 ∨ ph i = 2)) (hw : w < m) (hz : latN (sn (i % 3)) ky vr q m = w + 1) (k : ∀ mu' : oMu, ReR mu' m ky vr nd dp vl sn ck wt fl (va_up x i (sX (x i) (dp w) vr (ky w) w)) h d s l r ph → mlt mu mu' → Q (some (.inl (nI w))) mu') : Om G M_N_get 0 [(0, .inr (some (ad 20 0))), (1, .inl (nI i)), (2, .inl (nI q))] [] mu Q := by
  refine o_iload_n dN_get_0 rfl ?_
  refine o_bipush (nI 6) dN_get_1 rfl ?_
  refine m_callS M_N_out [.inl (nI i), .inl (nI 6)] [] dN_get_3 mk_N_out st_N_out ml_N_73 rfl rfl rfl (Nat.le_of_ble_eq_true rfl) rfl ?_
  refine r_out_y (by decide) hi ?_
  show Om G M_N_get 6 [(0, .inr (some (ad 20 0))), (1, .inl (nI i)), (2, .inl (nI q))] [.inl (nI 0)] mu Q
  refine n_if_ne 18 dN_get_6 rfl (by omega) (fun h => absurd h (by decide)) (fun _ => ?_)
  refine o_iload_n dN_get_9 rfl ?_
  refine o_bipush (nI 6) dN_get_10 rfl ?_
  refine m_callS M_N_out [.inl (nI q), .inl (nI 6)] [] dN_get_12 mk_N_out st_N_out ml_N_73 rfl rfl rfl (Nat.le_of_ble_eq_true rfl) rfl ?_
  refine r_out_y (by decide) hq ?_
  show Om G M_N_get 15 [(0, .inr (some (ad 20 0))), (1, .inl (nI i)), (2, .inl (nI q))] [.inl (nI 0)] mu Q
  refine n_if_eq 20 dN_get_15 rfl (by omega) (fun _ => ?_) (fun h => absurd h (by decide))
  refine o_aload_n dN_get_20 rfl ?_
  refine o_iload_n dN_get_21 rfl ?_
  refine m_callV M_N_open [.inl (nI i)] [] dN_get_22 mk_N_open in_N_open se_N_open rfl (by decide) rfl rfl ml_N_77 rfl rfl rfl (Nat.le_of_ble_eq_true rfl) rfl ?_
  refine r_open_n hi (hC.fph hi) hp4 hop ?_
  show Om G M_N_get 25 [(0, .inr (some (ad 20 0))), (1, .inl (nI i)), (2, .inl (nI q))] [.inl (nI 0)] mu Q
  refine n_if_eq 31 dN_get_25 rfl (by omega) (fun _ => ?_) (fun h => absurd h (by decide))
  refine o_aload_n dN_get_31 rfl ?_
  refine o_iload_n dN_get_32 rfl ?_
  refine o_iconst (nI 3) dN_get_33 rfl ?_
  refine o_irem dN_get_34 (by decide) ?_
  refine o_top _ (pk_rem (by omega) (by decide) (by decide)) ?_
  refine o_iload_n dN_get_35 rfl ?_
  refine m_callV M_N_latestOf [.inl (nI (i % 3)), .inl (nI q)] [] dN_get_36 mk_N_latestOf in_N_latestOf se_N_latestOf rfl (by decide) rfl rfl ml_N_93 rfl rfl rfl (Nat.le_of_ble_eq_true rfl) rfl ?_
  refine r_latestOf hC.fw (show i % 3 < 3 by omega) hq (hC.fsn (by omega)) ?_
  show Om G M_N_get 39 [(0, .inr (some (ad 20 0))), (1, .inl (nI i)), (2, .inl (nI q))] [.inl (nI (latN (sn (i % 3)) ky vr q m))] mu Q
  rw [hz]
  show Om G M_N_get 39 [(0, .inr (some (ad 20 0))), (1, .inl (nI i)), (2, .inl (nI q))] [.inl (nI (w + 1))] mu Q
  have hm4 := hC.fw.m4
  refine o_istore_n [(0, _), (1, _), (2, _), (3, _)] dN_get_39 rfl rfl ?_
  refine o_iload_n dN_get_40 rfl ?_
  refine n_if_ne 47 dN_get_41 rfl (by omega) (fun hb41 => ?_) (fun h => absurd h (by omega))
  refine o_aload_n dN_get_47 rfl ?_
  refine o_iload_n dN_get_48 rfl ?_
  refine o_iload_n dN_get_49 rfl ?_
  refine o_iconst (nI 1) dN_get_50 rfl ?_
  refine o_isub dN_get_51 ?_
  refine o_top (nI w) (pk_sub (show 1 ≤ w + 1 by omega)) ?_
  refine m_callV M_N_see [.inl (nI i), .inl (nI w)] [] dN_get_52 mk_N_see in_N_see se_N_see rfl (by decide) rfl rfl ml_N_89 rfl rfl rfl (Nat.le_of_ble_eq_true rfl) rfl ?_
  refine r_see hC.fw hi hw (hC.fx hi) (fun mu1 hx1 hf1 => ?_)
  show Om G M_N_get 55 [(0, .inr (some (ad 20 0))), (1, .inl (nI i)), (2, .inl (nI q)), (3, .inl (nI (w + 1)))] [] mu1 Q
  refine o_iload_n dN_get_55 rfl ?_
  refine o_iconst (nI 1) dN_get_56 rfl ?_
  refine o_isub dN_get_57 ?_
  refine o_top (nI w) (pk_sub (show 1 ≤ w + 1 by omega)) ?_
  refine m_iret dN_get_58 rfl ?_
  have hs1 := cseg_fs hf1
  refine k mu1 ?_ hs1.lt
  have hz9 := hC.cli (i := i) (X := sX (x i) (dp w) vr (ky w) w) (Hh := h i) (D := d i) (S' := s i) (L' := l i) (R' := r i) (P' := ph i) hi hs1 (by rw [hf1.1 33 0 (by omega)]; exact hC.fph hi) (by rw [hf1.1 34 0 (by omega)]; exact hC.fse hi) (by rw [hf1.1 36 0 (by omega)]; exact hC.fle hi) (by rw [hf1.1 35 0 (by omega)]; exact hC.fro hi) hx1 ((hC.fh hi).ne (hf1.1 37 0 (by omega))) ((hC.fd hi).ne (hf1.1 38 0 (by omega)))
  rw [va_self (f := h) rfl, va_self (f := d) rfl, va_self (f := s) rfl, va_self (f := l) rfl, va_self (f := r) rfl, va_self (f := ph) rfl] at hz9
  exact hz9
theorem R_begin_b1 {G : oG} {mu : oMu} {Q : oPm} {a b : Int32} (ha : ∀ j, j < 6 → ¬ a = nI j) (k : Q (some (.inl (nI 0))) mu) : Om G M_N_begin 0 [(0, .inr (some (ad 20 0))), (1, .inl a), (2, .inl b)] [] mu Q := by
  refine o_iload_n dN_begin_0 rfl ?_
  refine o_bipush (nI 6) dN_begin_1 rfl ?_
  refine m_callS M_N_out [.inl a, .inl (nI 6)] [] dN_begin_3 mk_N_out st_N_out ml_N_73 rfl rfl rfl (Nat.le_of_ble_eq_true rfl) rfl ?_
  refine r_out_n (by decide) ha ?_
  show Om G M_N_begin 6 [(0, .inr (some (ad 20 0))), (1, .inl a), (2, .inl b)] [.inl (nI 1)] mu Q
  refine n_if_ne 20 dN_begin_6 rfl (by omega) (fun _ => ?_) (fun h => absurd h (by decide))
  refine o_iconst (nI 0) dN_begin_20 rfl ?_
  refine m_zret dN_begin_21 rfl rfl ?_
  exact k
theorem R_begin_b2 {G : oG} {mu : oMu} {Q : oPm} {i : Nat} {b : Int32} (hi : i < 6) (hb : ∀ j, 1 ≤ j → j < 64 → ¬ b = nI j) (k : Q (some (.inl (nI 0))) mu) : Om G M_N_begin 0 [(0, .inr (some (ad 20 0))), (1, .inl (nI i)), (2, .inl b)] [] mu Q := by
  refine o_iload_n dN_begin_0 rfl ?_
  refine o_bipush (nI 6) dN_begin_1 rfl ?_
  refine m_callS M_N_out [.inl (nI i), .inl (nI 6)] [] dN_begin_3 mk_N_out st_N_out ml_N_73 rfl rfl rfl (Nat.le_of_ble_eq_true rfl) rfl ?_
  refine r_out_y (by decide) hi ?_
  show Om G M_N_begin 6 [(0, .inr (some (ad 20 0))), (1, .inl (nI i)), (2, .inl b)] [.inl (nI 0)] mu Q
  refine n_if_ne 20 dN_begin_6 rfl (by omega) (fun h => absurd h (by decide)) (fun _ => ?_)
  refine o_iload_n dN_begin_9 rfl ?_
  refine o_iconst (nI 1) dN_begin_10 rfl ?_
  refine o_icmp_lt 20 dN_begin_11 rfl (fun hb11 => ?_) (fun hb11 => ?_)
  · skip
    refine o_iconst (nI 0) dN_begin_20 rfl ?_
    refine m_zret dN_begin_21 rfl rfl ?_
    exact k
  · skip
    refine o_iload_n dN_begin_14 rfl ?_
    refine o_bipush (nI 63) dN_begin_15 rfl ?_
    refine o_icmp_le 22 dN_begin_17 rfl (fun h => by obtain ⟨j, h1, h2, e⟩ := set_in hb11 (fun z => Int32.lt_irrefl (Int32.lt_of_lt_of_le z h)); exact absurd e (hb j h1 h2)) (fun hb17 => ?_)
    refine o_iconst (nI 0) dN_begin_20 rfl ?_
    refine m_zret dN_begin_21 rfl rfl ?_
    exact k
theorem R_begin_busy {G : oG} {mu : oMu} {Q : oPm} {m : Nat} {ky vr nd : Nat → Nat} {dp : Nat → Nat → Nat} {vl : Nat → Int32} {sn ck : Nat → Nat → Nat} {wt fl : Nat → List Nat} {x h d : Nat → Nat → Nat} {s l r ph : Nat → Nat} (hC : ReR mu m ky vr nd dp vl sn ck wt fl x h d s l r ph) {i q : Nat} (hi : i < 6) (hp4 : ph i < 4) (hq : 1 ≤ q) (hq2 : q < 64) (hop : ph i = 1 ∨ ph i = 2) (k : Q (some (.inl (nI 0))) mu) : Om G M_N_begin 0 [(0, .inr (some (ad 20 0))), (1, .inl (nI i)), (2, .inl (nI q))] [] mu Q := by
  refine o_iload_n dN_begin_0 rfl ?_
  refine o_bipush (nI 6) dN_begin_1 rfl ?_
  refine m_callS M_N_out [.inl (nI i), .inl (nI 6)] [] dN_begin_3 mk_N_out st_N_out ml_N_73 rfl rfl rfl (Nat.le_of_ble_eq_true rfl) rfl ?_
  refine r_out_y (by decide) hi ?_
  show Om G M_N_begin 6 [(0, .inr (some (ad 20 0))), (1, .inl (nI i)), (2, .inl (nI q))] [.inl (nI 0)] mu Q
  refine n_if_ne 20 dN_begin_6 rfl (by omega) (fun h => absurd h (by decide)) (fun _ => ?_)
  refine o_iload_n dN_begin_9 rfl ?_
  refine o_iconst (nI 1) dN_begin_10 rfl ?_
  refine n_icmp_lt 20 dN_begin_11 rfl (by omega) (by omega) (fun h => absurd h (by omega)) (fun hb11 => ?_)
  refine o_iload_n dN_begin_14 rfl ?_
  refine o_bipush (nI 63) dN_begin_15 rfl ?_
  refine n_icmp_le 22 dN_begin_17 rfl (by omega) (by omega) (fun hb17 => ?_) (fun h => absurd h (by omega))
  refine o_aload_n dN_begin_22 rfl ?_
  refine o_iload_n dN_begin_23 rfl ?_
  refine m_callV M_N_open [.inl (nI i)] [] dN_begin_24 mk_N_open in_N_open se_N_open rfl (by decide) rfl rfl ml_N_77 rfl rfl rfl (Nat.le_of_ble_eq_true rfl) rfl ?_
  refine r_open_y hi (hC.fph hi) hp4 hop ?_
  show Om G M_N_begin 27 [(0, .inr (some (ad 20 0))), (1, .inl (nI i)), (2, .inl (nI q))] [.inl (nI 1)] mu Q
  refine n_if_eq 32 dN_begin_27 rfl (by omega) (fun h => absurd h (by decide)) (fun _ => ?_)
  refine o_iconst (nI 0) dN_begin_30 rfl ?_
  refine m_zret dN_begin_31 rfl rfl ?_
  exact k
theorem l_rbegin {G : oG} {mu : oMu} {Q : oPm} {i q : Nat} (hi : i < 6) (j : Nat) (hj : j ≤ 6) (hh : ∀ z, z < j → mu 37 0 (6 * i + z) = nI 0) (k : ∀ mu' : oMu, (∀ z, z < 6 → mu' 37 0 (6 * i + z) = nI 0) → (∀ t z, ¬ (t = 37 ∧ z = 0) → mu' t z = mu t z) → cseg i mu mu' → Q (some (.inl (nI 1))) mu') : Om G M_N_begin 62 [(0, .inr (some (ad 20 0))), (1, .inl (nI i)), (2, .inl (nI q)), (3, .inl (nI j))] [] mu Q := by
  refine o_iload_n dN_begin_62 rfl ?_
  refine o_bipush (nI 6) dN_begin_63 rfl ?_
  refine n_icmp_ge 86 dN_begin_65 rfl (by omega) (by omega) (fun hb65 => ?_) (fun hb65 => ?_)
  · skip
    have hj6 : j = 6 := by omega
    refine o_iconst (nI 1) dN_begin_86 rfl ?_
    refine m_zret dN_begin_87 rfl rfl ?_
    subst hj6
    exact k mu hh (fun _ _ _ => rfl) ⟨fun _ _ _ => rfl, fun _ _ _ _ _ => rfl, fun _ _ _ _ => rfl⟩
  · skip
    refine o_aload_n dN_begin_68 rfl ?_
    refine m_getr dN_begin_69 fl_N_59 rfl rfl (by decide) ?_
    refine o_bipush (nI 6) dN_begin_72 rfl ?_
    refine o_iload_n dN_begin_74 rfl ?_
    refine o_imul dN_begin_75 ?_
    refine o_top _ (pk_mul _ _) ?_
    refine o_iload_n dN_begin_76 rfl ?_
    refine o_iadd dN_begin_77 ?_
    refine o_top _ (nI_add _ _) ?_
    refine o_iconst (nI 0) dN_begin_78 rfl ?_
    refine m_iast (6 * i + j) dN_begin_79 rfl rfl rfl (by decide) rfl (by omega) (fun mu1 hmu1 => ?_)
    refine o_iinc (nI (j + 1)) [(0, _), (1, _), (2, _), (3, _)] dN_begin_80 rfl (nInc _) rfl rfl ?_
    refine o_goto 62 dN_begin_83 rfl ?_
    have hs1 := cseg_6 (i := i) hmu1 (by simp) hb65
    have hn1 : ∀ t z, ¬ (t = 37 ∧ z = 0) → mu1 t z = mu t z := fun t z hz => by rw [hmu1]; exact if_neg hz
    exact l_rbegin hi (j + 1) (by omega) (fun z hz => by
      rw [hmu1, up2_s]
      by_cases e : z = j
      · simp [upd, e]
      · have e2 : ¬ 6 * i + z = 6 * i + j := by omega
        simp only [upd, e2, if_false]
        exact hh z (by omega)) (fun mu' a b c => k mu' a (fun t z hz => (b t z hz).trans (hn1 t z hz)) (hs1.tr c))
termination_by 6 - j
theorem R_begin {G : oG} {mu : oMu} {Q : oPm} {m : Nat} {ky vr nd : Nat → Nat} {dp : Nat → Nat → Nat} {vl : Nat → Int32} {sn ck : Nat → Nat → Nat} {wt fl : Nat → List Nat} {x h d : Nat → Nat → Nat} {s l r ph : Nat → Nat} (hC : ReR mu m ky vr nd dp vl sn ck wt fl x h d s l r ph) {i q : Nat} (hi : i < 6) (hp4 : ph i < 4) (hq : 1 ≤ q) (hq2 : q < 64) (hop : ¬ (ph i = 1 ∨ ph i = 2)) (k : ∀ mu' : oMu, ReR mu' m ky vr nd dp vl sn ck wt fl x (va_up h i (fun _ => 0)) d (va_up s i q) (va_up l i q) (va_up r i 1) (va_up ph i 1) → mlt mu mu' → Q (some (.inl (nI 1))) mu') : Om G M_N_begin 0 [(0, .inr (some (ad 20 0))), (1, .inl (nI i)), (2, .inl (nI q))] [] mu Q := by
  refine o_iload_n dN_begin_0 rfl ?_
  refine o_bipush (nI 6) dN_begin_1 rfl ?_
  refine m_callS M_N_out [.inl (nI i), .inl (nI 6)] [] dN_begin_3 mk_N_out st_N_out ml_N_73 rfl rfl rfl (Nat.le_of_ble_eq_true rfl) rfl ?_
  refine r_out_y (by decide) hi ?_
  show Om G M_N_begin 6 [(0, .inr (some (ad 20 0))), (1, .inl (nI i)), (2, .inl (nI q))] [.inl (nI 0)] mu Q
  refine n_if_ne 20 dN_begin_6 rfl (by omega) (fun h => absurd h (by decide)) (fun _ => ?_)
  refine o_iload_n dN_begin_9 rfl ?_
  refine o_iconst (nI 1) dN_begin_10 rfl ?_
  refine n_icmp_lt 20 dN_begin_11 rfl (by omega) (by omega) (fun h => absurd h (by omega)) (fun hb11 => ?_)
  refine o_iload_n dN_begin_14 rfl ?_
  refine o_bipush (nI 63) dN_begin_15 rfl ?_
  refine n_icmp_le 22 dN_begin_17 rfl (by omega) (by omega) (fun hb17 => ?_) (fun h => absurd h (by omega))
  refine o_aload_n dN_begin_22 rfl ?_
  refine o_iload_n dN_begin_23 rfl ?_
  refine m_callV M_N_open [.inl (nI i)] [] dN_begin_24 mk_N_open in_N_open se_N_open rfl (by decide) rfl rfl ml_N_77 rfl rfl rfl (Nat.le_of_ble_eq_true rfl) rfl ?_
  refine r_open_n hi (hC.fph hi) hp4 hop ?_
  show Om G M_N_begin 27 [(0, .inr (some (ad 20 0))), (1, .inl (nI i)), (2, .inl (nI q))] [.inl (nI 0)] mu Q
  refine n_if_eq 32 dN_begin_27 rfl (by omega) (fun _ => ?_) (fun h => absurd h (by decide))
  refine o_aload_n dN_begin_32 rfl ?_
  refine m_getr dN_begin_33 fl_N_47 rfl rfl (by decide) ?_
  refine o_iload_n dN_begin_36 rfl ?_
  refine o_iconst (nI 1) dN_begin_37 rfl ?_
  refine m_iast i dN_begin_38 rfl rfl rfl (by decide) rfl hi (fun mu1 hmu1 => ?_)
  refine o_aload_n dN_begin_39 rfl ?_
  refine m_getr dN_begin_40 fl_N_50 rfl rfl (by decide) ?_
  refine o_iload_n dN_begin_43 rfl ?_
  refine o_iload_n dN_begin_44 rfl ?_
  refine m_iast i dN_begin_45 rfl rfl rfl (by decide) rfl hi (fun mu2 hmu2 => ?_)
  refine o_aload_n dN_begin_46 rfl ?_
  refine m_getr dN_begin_47 fl_N_53 rfl rfl (by decide) ?_
  refine o_iload_n dN_begin_50 rfl ?_
  refine o_iconst (nI 1) dN_begin_51 rfl ?_
  refine m_iast i dN_begin_52 rfl rfl rfl (by decide) rfl hi (fun mu3 hmu3 => ?_)
  refine o_aload_n dN_begin_53 rfl ?_
  refine m_getr dN_begin_54 fl_N_56 rfl rfl (by decide) ?_
  refine o_iload_n dN_begin_57 rfl ?_
  refine o_iload_n dN_begin_58 rfl ?_
  refine m_iast i dN_begin_59 rfl rfl rfl (by decide) rfl hi (fun mu4 hmu4 => ?_)
  refine o_iconst (nI 0) dN_begin_60 rfl ?_
  refine o_istore_n [(0, _), (1, _), (2, _), (3, _)] dN_begin_61 rfl rfl ?_
  have hs4 := (((cseg_1 (i := i) hmu1 (by decide) (by decide)).tr (cseg_1 hmu2 (by decide) (by decide))).tr (cseg_1 hmu3 (by decide) (by decide))).tr (cseg_1 hmu4 (by decide) (by decide))
  refine l_rbegin hi 0 (by omega) (fun z hz => absurd hz (by omega)) (fun mu5 h37 hn5 hs5 => ?_)
  have hs := hs4.tr hs5
  refine k mu5 ?_ hs.lt
  have hz9 := hC.cli (i := i) (X := x i) (Hh := fun _ => 0) (D := d i) (S' := q) (L' := q) (R' := 1) (P' := 1) hi hs (by rw [hn5 33 0 (by decide), hmu4, up2_t (by decide), hmu3, up2_t (by decide), hmu2, up2_t (by decide), hmu1, up2_s]; simp [upd]) (by rw [hn5 34 0 (by decide), hmu4, up2_t (by decide), hmu3, up2_t (by decide), hmu2, up2_s]; simp [upd]) (by rw [hn5 36 0 (by decide), hmu4, up2_s]; simp [upd]) (by rw [hn5 35 0 (by decide), hmu4, up2_t (by decide), hmu3, up2_s]; simp [upd]) ((hC.fx hi).ne (by rw [hn5 32 0 (by decide), hmu4, up2_t (by decide), hmu3, up2_t (by decide), hmu2, up2_t (by decide), hmu1, up2_t (by decide)])) (fun z hz => ⟨h37 z hz, Nat.zero_le _⟩) ((hC.fd hi).ne (by rw [hn5 38 0 (by decide), hmu4, up2_t (by decide), hmu3, up2_t (by decide), hmu2, up2_t (by decide), hmu1, up2_t (by decide)]))
  rw [va_self (f := x) rfl, va_self (f := d) rfl] at hz9
  exact hz9
end
section
/-! The reference's second, read. -/
theorem l_second {G : oG} {mu : oMu} {Q : oPm} {m : Nat} {ky vr nd : Nat → Nat} {dp : Nat → Nat → Nat} (hV : vOk mu m ky vr nd dp) {i s : Nat} {h du : Nat → Nat} (hi : i < 6) (hh : yOk mu 37 i m h) (hset : mu 34 0 i = nI s) (hs6 : s < 64) (hin : ∀ z, z < 6 → ¬ h z = 0 → s.testBit z = true) (j : Nat) (hj : j ≤ 6) (hd : yOk mu 38 i m (dY du h dp vr j)) (k : ∀ mu' : oMu, yOk mu' 38 i m (fun q => dueN h dp vr q 6) → (∀ t z, ¬ (t = 38 ∧ z = 0) → mu' t z = mu t z) → cseg i mu mu' → Om G M_N_second 94 [(0, .inr (some (ad 20 0))), (1, .inl (nI i)), (2, .inl (nI (secN h dp vr s 6))), (3, .inl (nI 6))] [] mu' Q) : Om G M_N_second 4 [(0, .inr (some (ad 20 0))), (1, .inl (nI i)), (2, .inl (nI (secN h dp vr s j))), (3, .inl (nI j))] [] mu Q := by
  refine o_iload_n dN_second_4 rfl ?_
  refine o_bipush (nI 6) dN_second_5 rfl ?_
  refine n_icmp_ge 94 dN_second_7 rfl (by omega) (by omega) (fun hb7 => ?_) (fun hb7 => ?_)
  · skip
    obtain rfl : j = 6 := by omega
    exact k mu (fun q hq => by
      have h1 := hd q hq
      simp only [dY, hq, if_true] at h1
      exact h1) (fun _ _ _ => rfl) ⟨fun _ _ _ => rfl, fun _ _ _ _ _ => rfl, fun _ _ _ _ => rfl⟩
  · skip
    refine o_aload_n dN_second_10 rfl ?_
    refine m_getr dN_second_11 fl_N_62 rfl rfl (by decide) ?_
    refine o_bipush (nI 6) dN_second_14 rfl ?_
    refine o_iload_n dN_second_16 rfl ?_
    refine o_imul dN_second_17 ?_
    refine o_top _ (pk_mul _ _) ?_
    refine o_iload_n dN_second_18 rfl ?_
    refine o_iadd dN_second_19 ?_
    refine o_top _ (nI_add _ _) ?_
    refine o_aload_n dN_second_20 rfl ?_
    refine o_iload_n dN_second_21 rfl ?_
    refine o_iload_n dN_second_22 rfl ?_
    refine m_callV M_N_due [.inl (nI i), .inl (nI j)] [.inl (nI (6 * i + j)), .inr (some (ad 38 0))] dN_second_23 mk_N_due in_N_due se_N_due rfl (by decide) rfl rfl ml_N_96 rfl rfl rfl (Nat.le_of_ble_eq_true rfl) rfl ?_
    refine r_due hV hi hb7 hh hset hs6 hin ?_
    show Om G M_N_second 26 [(0, .inr (some (ad 20 0))), (1, .inl (nI i)), (2, .inl (nI (secN h dp vr s j))), (3, .inl (nI j))] [.inl (nI (dueN h dp vr j 6)), .inl (nI (6 * i + j)), .inr (some (ad 38 0))] mu Q
    refine m_iast (6 * i + j) dN_second_26 rfl rfl rfl (by decide) rfl (by omega) (fun mu1 hmu1 => ?_)
    have hs1 := cseg_6 (i := i) hmu1 (by simp) hb7
    have hn1 : ∀ t z, ¬ (t = 38 ∧ z = 0) → mu1 t z = mu t z := fun t z hz => by rw [hmu1]; exact if_neg hz
    have hh1 : yOk mu1 37 i m h := hh.ne (hn1 37 0 (by decide))
    have hset1 : mu1 34 0 i = nI s := by rw [hn1 34 0 (by decide)]; exact hset
    have hdl : dueN h dp vr j 6 ≤ m := dueN_le hb7 (fun z hz => (hh z hz).2) (fun u hu => hV.depB hu hb7) 6 (Nat.le_refl _)
    have hd1 : yOk mu1 38 i m (dY du h dp vr (j + 1)) := hd.step hmu1 hdl (fun q hq => by
      by_cases hqj : q = j
      · subst hqj
        simp [dY]
      · by_cases hql : q < j
        · simp [dY, hqj, hql, Nat.lt_succ_of_lt hql]
        · have h3 : ¬ q < j + 1 := by omega
          simp [dY, hqj, hql, h3])
    have hhl := (hh j hb7).2
    have hm4 := hV.m4
    refine o_aload_n dN_second_27 rfl ?_
    refine m_getr dN_second_28 fl_N_50 rfl rfl (by decide) ?_
    refine o_iload_n dN_second_31 rfl ?_
    refine m_iald i dN_second_32 rfl rfl rfl (by decide) rfl hi ?_
    refine o_top (nI s) hset1 ?_
    refine o_iload_n dN_second_33 rfl ?_
    refine o_ishr dN_second_34 ?_
    refine o_iconst (nI 1) dN_second_35 rfl ?_
    refine o_iand dN_second_36 ?_
    refine o_iconst (nI 1) dN_second_37 rfl ?_
    refine o_icmp_ne 70 dN_second_38 rfl (fun hb38 => ?_) (fun hb38 => ?_)
    · skip
      have hbf : s.testBit j = false := by
        cases hz : s.testBit j with
        | false => rfl
        | true => exact absurd ((b1_iff _ hs6 j hb7).mpr hz) hb38
      refine o_iconst (nI 0) dN_second_70 rfl ?_
      refine o_istore [(0, _), (1, _), (2, _), (3, _), (4, _)] dN_second_71 rfl rfl ?_
      refine o_iload dN_second_73 rfl ?_
      refine n_if_eq 86 dN_second_75 rfl (by omega) (fun _ => ?_) (fun h => absurd h (by decide))
      refine o_iload_n dN_second_86 rfl ?_
      refine o_istore_n [(0, _), (1, _), (2, _), (3, _), (4, _)] dN_second_87 rfl rfl ?_
      refine o_iinc (nI (j + 1)) [(0, _), (1, _), (2, _), (3, _), (4, _)] dN_second_88 rfl (nInc _) rfl rfl ?_
      refine o_goto 4 dN_second_91 rfl ?_
      refine o_lv [(0, _), (1, _), (2, _), (3, _)] [0, 1, 2, 3] rfl ?_
      rw [show secN h dp vr s j = secN h dp vr s (j + 1) by rw [secN, if_neg (by first | exact fun z => absurd (z.1.symm.trans hbf) (by decide) | exact fun z => z.2 hb63)]]
      exact l_second (hs1.v hV) hi hh1 (hset1) hs6 hin (j + 1) (by omega) hd1 (fun mu' a b c => k mu' a (fun t z hz => (b t z hz).trans (hn1 t z hz)) (hs1.tr c))
    · skip
      have hbt := (b1_iff _ hs6 j hb7).mp hb38
      refine o_aload_n dN_second_41 rfl ?_
      refine m_getr dN_second_42 fl_N_62 rfl rfl (by decide) ?_
      refine o_bipush (nI 6) dN_second_45 rfl ?_
      refine o_iload_n dN_second_47 rfl ?_
      refine o_imul dN_second_48 ?_
      refine o_top _ (pk_mul _ _) ?_
      refine o_iload_n dN_second_49 rfl ?_
      refine o_iadd dN_second_50 ?_
      refine o_top _ (nI_add _ _) ?_
      refine m_iald (6 * i + j) dN_second_51 rfl rfl rfl (by decide) rfl (by omega) ?_
      refine o_top (nI (dueN h dp vr j 6)) ((hd1 j hb7).1.trans (by simp [dY])) ?_
      refine o_aload_n dN_second_52 rfl ?_
      refine m_getr dN_second_53 fl_N_59 rfl rfl (by decide) ?_
      refine o_bipush (nI 6) dN_second_56 rfl ?_
      refine o_iload_n dN_second_58 rfl ?_
      refine o_imul dN_second_59 ?_
      refine o_top _ (pk_mul _ _) ?_
      refine o_iload_n dN_second_60 rfl ?_
      refine o_iadd dN_second_61 ?_
      refine o_top _ (nI_add _ _) ?_
      refine m_iald (6 * i + j) dN_second_62 rfl rfl rfl (by decide) rfl (by omega) ?_
      refine o_top (nI (h j)) (hh1 j hb7).1 ?_
      refine n_icmp_eq 70 dN_second_63 rfl (by omega) (by omega) (fun hb63 => ?_) (fun hb63 => ?_)
      · skip
        refine o_iconst (nI 0) dN_second_70 rfl ?_
        refine o_istore [(0, _), (1, _), (2, _), (3, _), (4, _)] dN_second_71 rfl rfl ?_
        refine o_iload dN_second_73 rfl ?_
        refine n_if_eq 86 dN_second_75 rfl (by omega) (fun _ => ?_) (fun h => absurd h (by decide))
        refine o_iload_n dN_second_86 rfl ?_
        refine o_istore_n [(0, _), (1, _), (2, _), (3, _), (4, _)] dN_second_87 rfl rfl ?_
        refine o_iinc (nI (j + 1)) [(0, _), (1, _), (2, _), (3, _), (4, _)] dN_second_88 rfl (nInc _) rfl rfl ?_
        refine o_goto 4 dN_second_91 rfl ?_
        refine o_lv [(0, _), (1, _), (2, _), (3, _)] [0, 1, 2, 3] rfl ?_
        rw [show secN h dp vr s j = secN h dp vr s (j + 1) by rw [secN, if_neg (by first | exact fun z => absurd (z.1.symm.trans hbf) (by decide) | exact fun z => z.2 hb63)]]
        exact l_second (hs1.v hV) hi hh1 (hset1) hs6 hin (j + 1) (by omega) hd1 (fun mu' a b c => k mu' a (fun t z hz => (b t z hz).trans (hn1 t z hz)) (hs1.tr c))
      · skip
        refine o_iconst (nI 1) dN_second_66 rfl ?_
        refine o_goto 71 dN_second_67 rfl ?_
        refine o_istore [(0, _), (1, _), (2, _), (3, _), (4, _)] dN_second_71 rfl rfl ?_
        refine o_iload dN_second_73 rfl ?_
        refine n_if_eq 86 dN_second_75 rfl (by omega) (fun h => absurd h (by decide)) (fun _ => ?_)
        refine o_iload_n dN_second_78 rfl ?_
        refine o_iconst (nI 1) dN_second_79 rfl ?_
        refine o_iload_n dN_second_80 rfl ?_
        refine o_ishl dN_second_81 ?_
        refine o_ior dN_second_82 ?_
        refine o_top (nI (secN h dp vr s j ||| 1 <<< j)) (b_or _ (secN_lt j hj) j hb7).1 ?_
        refine o_goto 87 dN_second_83 rfl ?_
        refine o_istore_n [(0, _), (1, _), (2, _), (3, _), (4, _)] dN_second_87 rfl rfl ?_
        refine o_iinc (nI (j + 1)) [(0, _), (1, _), (2, _), (3, _), (4, _)] dN_second_88 rfl (nInc _) rfl rfl ?_
        refine o_goto 4 dN_second_91 rfl ?_
        refine o_lv [(0, _), (1, _), (2, _), (3, _)] [0, 1, 2, 3] rfl ?_
        rw [show secN h dp vr s j ||| 1 <<< j = secN h dp vr s (j + 1) by rw [secN, if_pos ⟨hbt, hb63⟩]]
        exact l_second (hs1.v hV) hi hh1 (hset1) hs6 hin (j + 1) (by omega) hd1 (fun mu' a b c => k mu' a (fun t z hz => (b t z hz).trans (hn1 t z hz)) (hs1.tr c))
termination_by 6 - j
theorem r_second {G : oG} {mu : oMu} {Q : oPm} {m : Nat} {ky vr nd : Nat → Nat} {dp : Nat → Nat → Nat} (hV : vOk mu m ky vr nd dp) {i s : Nat} {h du : Nat → Nat} (hi : i < 6) (hh : yOk mu 37 i m h) (hset : mu 34 0 i = nI s) (hs6 : s < 64) (hin : ∀ z, z < 6 → ¬ h z = 0 → s.testBit z = true) {x : Nat → Nat} (hx : yOk mu 32 i m x) (hd : yOk mu 38 i m du) (k0 : secN h dp vr s 6 = 0 → ∀ mu' : oMu, yOk mu' 38 i m (fun q => dueN h dp vr q 6) → yOk mu' 32 i m (sF x h ky vr dp 6) → mu' 33 0 i = nI 3 → mu' 36 0 i = nI 0 → mu' 35 0 i = nI 1 → (∀ t, t = 34 ∨ t = 37 → mu' t 0 = mu t 0) → cseg i mu mu' → Q none mu') (k1 : ¬ secN h dp vr s 6 = 0 → ∀ mu' : oMu, yOk mu' 38 i m (fun q => dueN h dp vr q 6) → mu' 33 0 i = nI 2 → mu' 36 0 i = nI (secN h dp vr s 6) → mu' 35 0 i = nI 2 → (∀ t, t = 34 ∨ t = 37 ∨ t = 32 → mu' t 0 = mu t 0) → cseg i mu mu' → Q none mu') : Om G M_N_second 0 [(0, .inr (some (ad 20 0))), (1, .inl (nI i))] [] mu Q := by
  refine o_iconst (nI 0) dN_second_0 rfl ?_
  refine o_istore_n [(0, _), (1, _), (2, _)] dN_second_1 rfl rfl ?_
  refine o_iconst (nI 0) dN_second_2 rfl ?_
  refine o_istore_n [(0, _), (1, _), (2, _), (3, _)] dN_second_3 rfl rfl ?_
  refine l_second hV hi hh hset hs6 hin 0 (by omega) (by rw [dY_0]; exact hd) (fun mu1 hd1 hn1 hs1 => ?_)
  show Om G M_N_second 94 [(0, .inr (some (ad 20 0))), (1, .inl (nI i)), (2, .inl (nI (secN h dp vr s 6))), (3, .inl (nI 6))] [] mu1 Q
  refine o_aload_n dN_second_94 rfl ?_
  refine m_getr dN_second_95 fl_N_56 rfl rfl (by decide) ?_
  refine o_iload_n dN_second_98 rfl ?_
  refine o_iload_n dN_second_99 rfl ?_
  refine m_iast i dN_second_100 rfl rfl rfl (by decide) rfl hi (fun mu2 hmu2 => ?_)
  refine o_aload_n dN_second_101 rfl ?_
  refine m_getr dN_second_102 fl_N_47 rfl rfl (by decide) ?_
  refine o_iload_n dN_second_105 rfl ?_
  refine o_iconst (nI 2) dN_second_106 rfl ?_
  refine m_iast i dN_second_107 rfl rfl rfl (by decide) rfl hi (fun mu3 hmu3 => ?_)
  refine o_aload_n dN_second_108 rfl ?_
  refine m_getr dN_second_109 fl_N_53 rfl rfl (by decide) ?_
  refine o_iload_n dN_second_112 rfl ?_
  refine o_iload_n dN_second_113 rfl ?_
  have hsl := secN_lt (h := h) (vr := vr) (dp := dp) (s := s) 6 (Nat.le_refl _)
  have hs3 := (hs1.tr (cseg_1 hmu2 (by decide) (by decide))).tr (cseg_1 hmu3 (by decide) (by decide))
  have hW3 := hs3.v hV
  refine n_if_ne 121 dN_second_114 rfl (by omega) (fun hb114 => ?_) (fun hb114 => ?_)
  · skip
    refine o_iconst (nI 2) dN_second_121 rfl ?_
    refine m_iast i dN_second_122 rfl rfl rfl (by decide) rfl hi (fun mu4 hmu4 => ?_)
    have hs4 := hs3.tr (cseg_1 (i := i) hmu4 (by decide) (by decide))
    have g4 : ∀ t, ¬ t = 38 → ¬ t = 36 → ¬ t = 33 → ¬ t = 35 → mu4 t 0 = mu t 0 := fun t a b c d => by rw [hmu4, up2_t d, hmu3, up2_t c, hmu2, up2_t b, hn1 t 0 (fun z => a z.1)]
    have hd4 : yOk mu4 38 i m (fun q => dueN h dp vr q 6) := hd1.ne (by rw [hmu4, up2_t (by decide), hmu3, up2_t (by decide), hmu2, up2_t (by decide)])
    have h36 : mu4 36 0 i = nI (secN h dp vr s 6) := by rw [hmu4, up2_t (by decide), hmu3, up2_t (by decide), hmu2, up2_s]; simp [upd]
    refine o_iload_n dN_second_123 rfl ?_
    refine n_if_ne 132 dN_second_124 rfl (by omega) (fun hb124 => ?_) (fun hb124 => ?_)
    · skip
      refine m_vret dN_second_132 rfl ?_
      exact k1 hb124 mu4 hd4 (by rw [hmu4, up2_t (by decide), hmu3, up2_s]; simp [upd]) h36 (by first | exact absurd hb114 hb124 | (rw [hmu4, up2_s]; simp [upd])) (fun t ht => g4 t (by omega) (by omega) (by omega) (by omega)) hs4
    · skip
      refine o_aload_n dN_second_127 rfl ?_
      refine o_iload_n dN_second_128 rfl ?_
      refine m_callV M_N_finish [.inl (nI i)] [] dN_second_129 mk_N_finish in_N_finish se_N_finish rfl (by decide) rfl rfl ml_N_99 rfl rfl rfl (Nat.le_of_ble_eq_true rfl) rfl ?_
      refine r_finish (hs4.v hV) hi (hh.ne (g4 37 (by decide) (by decide) (by decide) (by decide))) (hx.ne (g4 32 (by decide) (by decide) (by decide) (by decide))) (fun mu5 hx5 hq5 h33 hf5 => ?_)
      show Om G M_N_second 132 [(0, .inr (some (ad 20 0))), (1, .inl (nI i)), (2, .inl (nI (secN h dp vr s 6))), (3, .inl (nI 6))] [] mu5 Q
      refine m_vret dN_second_132 rfl ?_
      have hs5 : cseg i mu4 mu5 := ⟨fun t z hz => hf5 t z (by simp; omega), fun t j a b c => by
        by_cases e : t = 33
        · subst e; rw [h33]; simp [upd, c]
        · rw [hf5 t 0 (by simp; omega)], fun t j a b => by
        rcases a with rfl | rfl | rfl
        · exact hq5 j b
        · rw [hf5 37 0 (by simp)]
        · rw [hf5 38 0 (by simp)]⟩
      exact k0 hb124 mu5 (hd4.ne (hf5 38 0 (by simp))) hx5 (by rw [h33]; simp [upd]) (by rw [hf5 36 0 (by simp), h36, hb124]) (by first | exact absurd hb124 hb114 | (rw [hf5 35 0 (by simp), hmu4, up2_s]; simp [upd])) (fun t ht => by rw [hf5 t 0 (by simp; omega)]; exact g4 t (by omega) (by omega) (by omega) (by omega)) (hs4.tr hs5)
  · skip
    refine o_iconst (nI 1) dN_second_117 rfl ?_
    refine o_goto 122 dN_second_118 rfl ?_
    refine m_iast i dN_second_122 rfl rfl rfl (by decide) rfl hi (fun mu4 hmu4 => ?_)
    have hs4 := hs3.tr (cseg_1 (i := i) hmu4 (by decide) (by decide))
    have g4 : ∀ t, ¬ t = 38 → ¬ t = 36 → ¬ t = 33 → ¬ t = 35 → mu4 t 0 = mu t 0 := fun t a b c d => by rw [hmu4, up2_t d, hmu3, up2_t c, hmu2, up2_t b, hn1 t 0 (fun z => a z.1)]
    have hd4 : yOk mu4 38 i m (fun q => dueN h dp vr q 6) := hd1.ne (by rw [hmu4, up2_t (by decide), hmu3, up2_t (by decide), hmu2, up2_t (by decide)])
    have h36 : mu4 36 0 i = nI (secN h dp vr s 6) := by rw [hmu4, up2_t (by decide), hmu3, up2_t (by decide), hmu2, up2_s]; simp [upd]
    refine o_iload_n dN_second_123 rfl ?_
    refine n_if_ne 132 dN_second_124 rfl (by omega) (fun hb124 => ?_) (fun hb124 => ?_)
    · skip
      refine m_vret dN_second_132 rfl ?_
      exact k1 hb124 mu4 hd4 (by rw [hmu4, up2_t (by decide), hmu3, up2_s]; simp [upd]) h36 (by first | exact absurd hb114 hb124 | (rw [hmu4, up2_s]; simp [upd])) (fun t ht => g4 t (by omega) (by omega) (by omega) (by omega)) hs4
    · skip
      refine o_aload_n dN_second_127 rfl ?_
      refine o_iload_n dN_second_128 rfl ?_
      refine m_callV M_N_finish [.inl (nI i)] [] dN_second_129 mk_N_finish in_N_finish se_N_finish rfl (by decide) rfl rfl ml_N_99 rfl rfl rfl (Nat.le_of_ble_eq_true rfl) rfl ?_
      refine r_finish (hs4.v hV) hi (hh.ne (g4 37 (by decide) (by decide) (by decide) (by decide))) (hx.ne (g4 32 (by decide) (by decide) (by decide) (by decide))) (fun mu5 hx5 hq5 h33 hf5 => ?_)
      show Om G M_N_second 132 [(0, .inr (some (ad 20 0))), (1, .inl (nI i)), (2, .inl (nI (secN h dp vr s 6))), (3, .inl (nI 6))] [] mu5 Q
      refine m_vret dN_second_132 rfl ?_
      have hs5 : cseg i mu4 mu5 := ⟨fun t z hz => hf5 t z (by simp; omega), fun t j a b c => by
        by_cases e : t = 33
        · subst e; rw [h33]; simp [upd, c]
        · rw [hf5 t 0 (by simp; omega)], fun t j a b => by
        rcases a with rfl | rfl | rfl
        · exact hq5 j b
        · rw [hf5 37 0 (by simp)]
        · rw [hf5 38 0 (by simp)]⟩
      exact k0 hb124 mu5 (hd4.ne (hf5 38 0 (by simp))) hx5 (by rw [h33]; simp [upd]) (by rw [hf5 36 0 (by simp), h36, hb124]) (by first | exact absurd hb124 hb114 | (rw [hf5 35 0 (by simp), hmu4, up2_s]; simp [upd])) (fun t ht => by rw [hf5 t 0 (by simp; omega)]; exact g4 t (by omega) (by omega) (by omega) (by omega)) (hs4.tr hs5)
end
section
/-! The reference's read. -/
theorem lowB_eq {l j : Nat} (hl : l < 64) (h : lowB l j) : lowT l 6 = nI j := by
  have hl0 : ¬ l = 0 := fun z => by
    have h1 := h.2.1
    rw [z] at h1
    simp at h1
  obtain ⟨j', h1, h2, h3, h4⟩ := low_is l hl hl0
  have e : j' = j := by
    rcases Nat.lt_trichotomy j' j with a | a | a
    · have h5 := h.2.2 j' a
      rw [h2] at h5
      cases h5
    · exact a
    · have h5 := h3 j a
      rw [h.2.1] at h5
      cases h5
  rw [h4, e]
theorem R_read_b1 {G : oG} {mu : oMu} {Q : oPm} {a : Int32} (ha : ∀ j, j < 6 → ¬ a = nI j) (k : Q (some (.inl (-1))) mu) : Om G M_N_read 0 [(0, .inr (some (ad 20 0))), (1, .inl a)] [] mu Q := by
  refine o_iload_n dN_read_0 rfl ?_
  refine o_bipush (nI 6) dN_read_1 rfl ?_
  refine m_callS M_N_out [.inl a, .inl (nI 6)] [] dN_read_3 mk_N_out st_N_out ml_N_73 rfl rfl rfl (Nat.le_of_ble_eq_true rfl) rfl ?_
  refine r_out_n (by decide) ha ?_
  show Om G M_N_read 6 [(0, .inr (some (ad 20 0))), (1, .inl a)] [.inl (nI 1)] mu Q
  refine n_if_eq 11 dN_read_6 rfl (by omega) (fun h => absurd h (by decide)) (fun _ => ?_)
  refine o_iconst (-1) dN_read_9 rfl ?_
  refine m_iret dN_read_10 rfl ?_
  exact k
theorem R_read_closed {G : oG} {mu : oMu} {Q : oPm} {m : Nat} {ky vr nd : Nat → Nat} {dp : Nat → Nat → Nat} {vl : Nat → Int32} {sn ck : Nat → Nat → Nat} {wt fl : Nat → List Nat} {x h d : Nat → Nat → Nat} {s l r ph : Nat → Nat} (hC : ReR mu m ky vr nd dp vl sn ck wt fl x h d s l r ph) {i : Nat} (hi : i < 6) (hp4 : ph i < 4) (hop : ¬ (ph i = 1 ∨ ph i = 2)) (k : Q (some (.inl (-4))) mu) : Om G M_N_read 0 [(0, .inr (some (ad 20 0))), (1, .inl (nI i))] [] mu Q := by
  refine o_iload_n dN_read_0 rfl ?_
  refine o_bipush (nI 6) dN_read_1 rfl ?_
  refine m_callS M_N_out [.inl (nI i), .inl (nI 6)] [] dN_read_3 mk_N_out st_N_out ml_N_73 rfl rfl rfl (Nat.le_of_ble_eq_true rfl) rfl ?_
  refine r_out_y (by decide) hi ?_
  show Om G M_N_read 6 [(0, .inr (some (ad 20 0))), (1, .inl (nI i))] [.inl (nI 0)] mu Q
  refine n_if_eq 11 dN_read_6 rfl (by omega) (fun _ => ?_) (fun h => absurd h (by decide))
  refine o_aload_n dN_read_11 rfl ?_
  refine o_iload_n dN_read_12 rfl ?_
  refine m_callV M_N_open [.inl (nI i)] [] dN_read_13 mk_N_open in_N_open se_N_open rfl (by decide) rfl rfl ml_N_77 rfl rfl rfl (Nat.le_of_ble_eq_true rfl) rfl ?_
  refine r_open_n hi (hC.fph hi) hp4 hop ?_
  show Om G M_N_read 16 [(0, .inr (some (ad 20 0))), (1, .inl (nI i))] [.inl (nI 0)] mu Q
  refine n_if_ne 22 dN_read_16 rfl (by omega) (fun h => absurd h (by decide)) (fun _ => ?_)
  refine o_bipush (-4) dN_read_19 rfl ?_
  refine m_iret dN_read_21 rfl ?_
  exact k
theorem R_read {G : oG} {mu : oMu} {Q : oPm} {m : Nat} {ky vr nd : Nat → Nat} {dp : Nat → Nat → Nat} {vl : Nat → Int32} {sn ck : Nat → Nat → Nat} {wt fl : Nat → List Nat} {x h d : Nat → Nat → Nat} {s l r ph : Nat → Nat} (hC : ReR mu m ky vr nd dp vl sn ck wt fl x h d s l r ph) {i j : Nat} (hi : i < 6) (hp4 : ph i < 4) (hop : ph i = 1 ∨ ph i = 2) (hlow : lowB (l i) j) (hl6 : l i < 64) (hs6 : s i < 64) (hr : r i = 1 ↔ ph i = 1) (hin : ∀ z, z < 6 → ¬ (rdH m ky vr sn h d r i j) z = 0 → (s i).testBit z = true) (kA : ¬ clr (l i) j = 0 → ∀ mu' : oMu, ReR mu' m ky vr nd dp vl sn ck wt fl x (va_up h i (rdH m ky vr sn h d r i j)) d s (va_up l i (clr (l i) j)) r ph → mlt mu mu' → Q (some (.inl (nI (cntN (clr (l i) j) 6)))) mu') (kB0 : clr (l i) j = 0 → r i = 1 → (secN (rdH m ky vr sn h d r i j) dp vr (s i) 6) = 0 → ∀ mu' : oMu, ReR mu' m ky vr nd dp vl sn ck wt fl (va_up x i (sF (x i) (rdH m ky vr sn h d r i j) ky vr dp 6)) (va_up h i (rdH m ky vr sn h d r i j)) (va_up d i (fun q => dueN (rdH m ky vr sn h d r i j) dp vr q 6)) s (va_up l i 0) r (va_up ph i 3) → mlt mu mu' → Q (some (.inl (nI 0))) mu') (kB1 : clr (l i) j = 0 → r i = 1 → ¬ (secN (rdH m ky vr sn h d r i j) dp vr (s i) 6) = 0 → ∀ mu' : oMu, ReR mu' m ky vr nd dp vl sn ck wt fl x (va_up h i (rdH m ky vr sn h d r i j)) (va_up d i (fun q => dueN (rdH m ky vr sn h d r i j) dp vr q 6)) s (va_up l i (secN (rdH m ky vr sn h d r i j) dp vr (s i) 6)) (va_up r i 2) (va_up ph i 2) → mlt mu mu' → Q (some (.inl (nI (cntN (secN (rdH m ky vr sn h d r i j) dp vr (s i) 6) 6)))) mu') (kC : clr (l i) j = 0 → ¬ r i = 1 → ∀ mu' : oMu, ReR mu' m ky vr nd dp vl sn ck wt fl (va_up x i (sF (x i) (rdH m ky vr sn h d r i j) ky vr dp 6)) (va_up h i (rdH m ky vr sn h d r i j)) d s (va_up l i 0) r (va_up ph i 3) → mlt mu mu' → Q (some (.inl (nI 0))) mu') : Om G M_N_read 0 [(0, .inr (some (ad 20 0))), (1, .inl (nI i))] [] mu Q := by
  have hj := hlow.1
  have hcl := clr_lt hl6 hj
  have hm4 := hC.fw.m4
  refine o_iload_n dN_read_0 rfl ?_
  refine o_bipush (nI 6) dN_read_1 rfl ?_
  refine m_callS M_N_out [.inl (nI i), .inl (nI 6)] [] dN_read_3 mk_N_out st_N_out ml_N_73 rfl rfl rfl (Nat.le_of_ble_eq_true rfl) rfl ?_
  refine r_out_y (by decide) hi ?_
  show Om G M_N_read 6 [(0, .inr (some (ad 20 0))), (1, .inl (nI i))] [.inl (nI 0)] mu Q
  refine n_if_eq 11 dN_read_6 rfl (by omega) (fun _ => ?_) (fun h => absurd h (by decide))
  refine o_aload_n dN_read_11 rfl ?_
  refine o_iload_n dN_read_12 rfl ?_
  refine m_callV M_N_open [.inl (nI i)] [] dN_read_13 mk_N_open in_N_open se_N_open rfl (by decide) rfl rfl ml_N_77 rfl rfl rfl (Nat.le_of_ble_eq_true rfl) rfl ?_
  refine r_open_y hi (hC.fph hi) hp4 hop ?_
  show Om G M_N_read 16 [(0, .inr (some (ad 20 0))), (1, .inl (nI i))] [.inl (nI 1)] mu Q
  refine n_if_ne 22 dN_read_16 rfl (by omega) (fun _ => ?_) (fun h => absurd h (by decide))
  refine o_aload_n dN_read_22 rfl ?_
  refine m_getr dN_read_23 fl_N_56 rfl rfl (by decide) ?_
  refine o_iload_n dN_read_26 rfl ?_
  refine m_iald i dN_read_27 rfl rfl rfl (by decide) rfl hi ?_
  refine o_top (nI (l i)) (hC.fle hi) ?_
  refine m_callS M_N_lowest [.inl (nI (l i))] [] dN_read_28 mk_N_lowest st_N_lowest ml_N_103 rfl rfl rfl (Nat.le_of_ble_eq_true rfl) rfl ?_
  refine r_lowest hl6 ?_
  rw [lowB_eq hl6 hlow]
  show Om G M_N_read 31 [(0, .inr (some (ad 20 0))), (1, .inl (nI i))] [.inl (nI j)] mu Q
  refine o_istore_n [(0, _), (1, _), (2, _)] dN_read_31 rfl rfl ?_
  refine o_aload_n dN_read_32 rfl ?_
  refine m_getr dN_read_33 fl_N_56 rfl rfl (by decide) ?_
  refine o_iload_n dN_read_36 rfl ?_
  refine o_aload_n dN_read_37 rfl ?_
  refine m_getr dN_read_38 fl_N_56 rfl rfl (by decide) ?_
  refine o_iload_n dN_read_41 rfl ?_
  refine m_iald i dN_read_42 rfl rfl rfl (by decide) rfl hi ?_
  refine o_top (nI (l i)) (hC.fle hi) ?_
  refine o_iconst (nI 1) dN_read_43 rfl ?_
  refine o_iload_n dN_read_44 rfl ?_
  refine o_ishl dN_read_45 ?_
  refine o_iconst (-1) dN_read_46 rfl ?_
  refine o_ixor dN_read_47 ?_
  refine o_iand dN_read_48 ?_
  refine o_top (nI (clr (l i) j)) (b_clr (l i) hl6 j hj).1 ?_
  refine m_iast i dN_read_49 rfl rfl rfl (by decide) rfl hi (fun mu1 hmu1 => ?_)
  have hs1 := cseg_1 (i := i) hmu1 (by decide) (by decide)
  have hW1 := hs1.v hC.fw
  refine o_aload_n dN_read_50 rfl ?_
  refine m_getr dN_read_51 fl_N_47 rfl rfl (by decide) ?_
  refine o_iload_n dN_read_54 rfl ?_
  refine m_iald i dN_read_55 rfl rfl rfl (by decide) rfl hi ?_
  refine o_top (nI (ph i)) (by rw [hmu1, up2_t (by decide)]; exact hC.fph hi) ?_
  refine o_iconst (nI 1) dN_read_56 rfl ?_
  refine n_icmp_ne 96 dN_read_57 rfl (by omega) (by omega) (fun hb57 => ?_) (fun hb57 => ?_)
  · skip
    have hrn : ¬ r i = 1 := fun z => hb57 (hr.mp z)
    have hvm : rdV m ky vr sn d r i j ≤ m := by unfold rdV; rw [if_neg hrn]; exact (hC.fd hi j hj).2
    refine o_aload_n dN_read_96 rfl ?_
    refine m_getr dN_read_97 fl_N_59 rfl rfl (by decide) ?_
    refine o_bipush (nI 6) dN_read_100 rfl ?_
    refine o_iload_n dN_read_102 rfl ?_
    refine o_imul dN_read_103 ?_
    refine o_top _ (pk_mul _ _) ?_
    refine o_iload_n dN_read_104 rfl ?_
    refine o_iadd dN_read_105 ?_
    refine o_top _ (nI_add _ _) ?_
    refine o_aload_n dN_read_106 rfl ?_
    refine m_getr dN_read_107 fl_N_62 rfl rfl (by decide) ?_
    refine o_bipush (nI 6) dN_read_110 rfl ?_
    refine o_iload_n dN_read_112 rfl ?_
    refine o_imul dN_read_113 ?_
    refine o_top _ (pk_mul _ _) ?_
    refine o_iload_n dN_read_114 rfl ?_
    refine o_iadd dN_read_115 ?_
    refine o_top _ (nI_add _ _) ?_
    refine m_iald (6 * i + j) dN_read_116 rfl rfl rfl (by decide) rfl (by omega) ?_
    refine o_top (nI (d i j)) (by rw [hmu1, up2_t (by decide)]; exact (hC.fd hi j hj).1) ?_
    refine m_iast (6 * i + j) dN_read_117 rfl rfl rfl (by decide) rfl (by omega) (fun mu2 hmu2 => ?_)
    have hs2 := hs1.tr (cseg_6 (i := i) (k := j) hmu2 (by simp) hj)
    have hW2 := hs2.v hC.fw
    have g2 : ∀ t, ¬ t = 36 → ¬ t = 37 → mu2 t 0 = mu t 0 := fun t a b => by rw [hmu2, up2_t b, hmu1, up2_t a]
    have hH2 : yOk mu2 37 i m (rdH m ky vr sn h d r i j) := by
      intro q hq
      rw [hmu2, up2_s]
      by_cases e : q = j
      · subst e
        simp only [upd, if_true, rdH, va_s]
        exact ⟨(by unfold rdV; rw [if_neg hrn]), hvm⟩
      · have e2 : ¬ 6 * i + q = 6 * i + j := by omega
        simp only [upd, e2, if_false, rdH, va_n e]
        rw [hmu1, up2_t (by decide)]
        exact hC.fh hi q hq
    have h36 : mu2 36 0 i = nI (clr (l i) j) := by rw [hmu2, up2_t (by decide), hmu1, up2_s]; simp [upd]
    refine o_aload_n dN_read_118 rfl ?_
    refine m_getr dN_read_119 fl_N_56 rfl rfl (by decide) ?_
    refine o_iload_n dN_read_122 rfl ?_
    refine m_iald i dN_read_123 rfl rfl rfl (by decide) rfl hi ?_
    refine o_top (nI (clr (l i) j)) h36 ?_
    refine n_if_ne 132 dN_read_124 rfl (by omega) (fun hb124 => ?_) (fun hb124 => ?_)
    · skip
      refine o_aload_n dN_read_132 rfl ?_
      refine m_getr dN_read_133 fl_N_56 rfl rfl (by decide) ?_
      refine o_iload_n dN_read_136 rfl ?_
      refine m_iald i dN_read_137 rfl rfl rfl (by decide) rfl hi ?_
      refine o_top (nI (clr (l i) j)) h36 ?_
      refine m_callS M_N_count [.inl (nI (clr (l i) j))] [] dN_read_138 mk_N_count st_N_count ml_N_109 rfl rfl rfl (Nat.le_of_ble_eq_true rfl) rfl ?_
      refine r_count hcl ?_
      show Om G M_N_read 141 [(0, .inr (some (ad 20 0))), (1, .inl (nI i)), (2, .inl (nI j))] [.inl (nI (cntN (clr (l i) j) 6))] mu2 Q
      refine m_iret dN_read_141 rfl ?_
      have hz := hC.cli (i := i) (X := x i) (Hh := (rdH m ky vr sn h d r i j)) (D := d i) (S' := s i) (L' := clr (l i) j) (R' := r i) (P' := ph i) hi hs2 (by rw [g2 33 (by decide) (by decide)]; exact hC.fph hi) (by rw [g2 34 (by decide) (by decide)]; exact hC.fse hi) h36 (by rw [g2 35 (by decide) (by decide)]; exact hC.fro hi) ((hC.fx hi).ne (g2 32 (by decide) (by decide))) hH2 ((hC.fd hi).ne (g2 38 (by decide) (by decide)))
      rw [va_self (f := x) rfl, va_self (f := s) rfl, va_self (f := d) rfl, va_self (f := r) rfl, va_self (f := ph) rfl] at hz
      exact kA (by first | exact hb85 | exact hb124) mu2 hz (cseg.lt hs2)
    · skip
      refine o_aload_n dN_read_127 rfl ?_
      refine o_iload_n dN_read_128 rfl ?_
      refine m_callV M_N_finish [.inl (nI i)] [] dN_read_129 mk_N_finish in_N_finish se_N_finish rfl (by decide) rfl rfl ml_N_99 rfl rfl rfl (Nat.le_of_ble_eq_true rfl) rfl ?_
      refine r_finish hW2 hi hH2 ((hC.fx hi).ne (g2 32 (by decide) (by decide))) (fun mu3 hx3 hq3 h33 hf3 => ?_)
      have hs3 : cseg i mu2 mu3 := ⟨fun t z hz => hf3 t z (by simp; omega), fun t z a b c => by
        by_cases e : t = 33
        · subst e; rw [h33]; simp [upd, c]
        · rw [hf3 t 0 (by simp; omega)], fun t z a b => by
        rcases a with rfl | rfl | rfl
        · exact hq3 z b
        · rw [hf3 37 0 (by simp)]
        · rw [hf3 38 0 (by simp)]⟩
      show Om G M_N_read 132 [(0, .inr (some (ad 20 0))), (1, .inl (nI i)), (2, .inl (nI j))] [] mu3 Q
      refine o_aload_n dN_read_132 rfl ?_
      refine m_getr dN_read_133 fl_N_56 rfl rfl (by decide) ?_
      refine o_iload_n dN_read_136 rfl ?_
      refine m_iald i dN_read_137 rfl rfl rfl (by decide) rfl hi ?_
      refine o_top (nI 0) (by rw [hf3 36 0 (by simp), h36, hb124]) ?_
      refine m_callS M_N_count [.inl (nI 0)] [] dN_read_138 mk_N_count st_N_count ml_N_109 rfl rfl rfl (Nat.le_of_ble_eq_true rfl) rfl ?_
      refine r_count (by decide) ?_
      show Om G M_N_read 141 [(0, .inr (some (ad 20 0))), (1, .inl (nI i)), (2, .inl (nI j))] [.inl (nI (cntN (0) 6))] mu3 Q
      refine m_iret dN_read_141 rfl ?_
      have hz := hC.cli (i := i) (X := (sF (x i) (rdH m ky vr sn h d r i j) ky vr dp 6)) (Hh := (rdH m ky vr sn h d r i j)) (D := d i) (S' := s i) (L' := 0) (R' := r i) (P' := 3) hi (hs2.tr hs3) (by rw [h33]; simp [upd]) (by rw [hf3 34 0 (by simp), g2 34 (by decide) (by decide)]; exact hC.fse hi) (by rw [hf3 36 0 (by simp), h36, hb124]) (by rw [hf3 35 0 (by simp), g2 35 (by decide) (by decide)]; exact hC.fro hi) hx3 (hH2.ne (hf3 37 0 (by simp))) ((hC.fd hi).ne ((hf3 38 0 (by simp)).trans (g2 38 (by decide) (by decide))))
      rw [va_self (f := s) rfl, va_self (f := d) rfl, va_self (f := r) rfl] at hz
      rw [cnt0]
      exact kC hb124 hrn mu3 hz (cseg.lt (hs2.tr hs3))
  · skip
    have hr1 := hr.mpr hb57
    have hvm : rdV m ky vr sn d r i j ≤ m := by unfold rdV; rw [if_pos hr1]; exact latN_le m
    refine o_aload_n dN_read_60 rfl ?_
    refine m_getr dN_read_61 fl_N_59 rfl rfl (by decide) ?_
    refine o_bipush (nI 6) dN_read_64 rfl ?_
    refine o_iload_n dN_read_66 rfl ?_
    refine o_imul dN_read_67 ?_
    refine o_top _ (pk_mul _ _) ?_
    refine o_iload_n dN_read_68 rfl ?_
    refine o_iadd dN_read_69 ?_
    refine o_top _ (nI_add _ _) ?_
    refine o_aload_n dN_read_70 rfl ?_
    refine o_iload_n dN_read_71 rfl ?_
    refine o_iconst (nI 3) dN_read_72 rfl ?_
    refine o_irem dN_read_73 (by decide) ?_
    refine o_top _ (pk_rem (by omega) (by decide) (by decide)) ?_
    refine o_iload_n dN_read_74 rfl ?_
    refine m_callV M_N_latestOf [.inl (nI (i % 3)), .inl (nI j)] [.inl (nI (6 * i + j)), .inr (some (ad 37 0))] dN_read_75 mk_N_latestOf in_N_latestOf se_N_latestOf rfl (by decide) rfl rfl ml_N_93 rfl rfl rfl (Nat.le_of_ble_eq_true rfl) rfl ?_
    refine r_latestOf hW1 (show i % 3 < 3 by omega) hj (fun w hw => by rw [hs1.1 26 0 (by omega)]; exact hC.fsn (by omega) w hw) ?_
    show Om G M_N_read 78 [(0, .inr (some (ad 20 0))), (1, .inl (nI i)), (2, .inl (nI j))] [.inl (nI (latN (sn (i % 3)) ky vr j m)), .inl (nI (6 * i + j)), .inr (some (ad 37 0))] mu1 Q
    refine m_iast (6 * i + j) dN_read_78 rfl rfl rfl (by decide) rfl (by omega) (fun mu2 hmu2 => ?_)
    have hs2 := hs1.tr (cseg_6 (i := i) (k := j) hmu2 (by simp) hj)
    have hW2 := hs2.v hC.fw
    have g2 : ∀ t, ¬ t = 36 → ¬ t = 37 → mu2 t 0 = mu t 0 := fun t a b => by rw [hmu2, up2_t b, hmu1, up2_t a]
    have hH2 : yOk mu2 37 i m (rdH m ky vr sn h d r i j) := by
      intro q hq
      rw [hmu2, up2_s]
      by_cases e : q = j
      · subst e
        simp only [upd, if_true, rdH, va_s]
        exact ⟨(by unfold rdV; rw [if_pos hr1]), hvm⟩
      · have e2 : ¬ 6 * i + q = 6 * i + j := by omega
        simp only [upd, e2, if_false, rdH, va_n e]
        rw [hmu1, up2_t (by decide)]
        exact hC.fh hi q hq
    have h36 : mu2 36 0 i = nI (clr (l i) j) := by rw [hmu2, up2_t (by decide), hmu1, up2_s]; simp [upd]
    refine o_aload_n dN_read_79 rfl ?_
    refine m_getr dN_read_80 fl_N_56 rfl rfl (by decide) ?_
    refine o_iload_n dN_read_83 rfl ?_
    refine m_iald i dN_read_84 rfl rfl rfl (by decide) rfl hi ?_
    refine o_top (nI (clr (l i) j)) h36 ?_
    refine n_if_ne 132 dN_read_85 rfl (by omega) (fun hb85 => ?_) (fun hb85 => ?_)
    · skip
      refine o_aload_n dN_read_132 rfl ?_
      refine m_getr dN_read_133 fl_N_56 rfl rfl (by decide) ?_
      refine o_iload_n dN_read_136 rfl ?_
      refine m_iald i dN_read_137 rfl rfl rfl (by decide) rfl hi ?_
      refine o_top (nI (clr (l i) j)) h36 ?_
      refine m_callS M_N_count [.inl (nI (clr (l i) j))] [] dN_read_138 mk_N_count st_N_count ml_N_109 rfl rfl rfl (Nat.le_of_ble_eq_true rfl) rfl ?_
      refine r_count hcl ?_
      show Om G M_N_read 141 [(0, .inr (some (ad 20 0))), (1, .inl (nI i)), (2, .inl (nI j))] [.inl (nI (cntN (clr (l i) j) 6))] mu2 Q
      refine m_iret dN_read_141 rfl ?_
      have hz := hC.cli (i := i) (X := x i) (Hh := (rdH m ky vr sn h d r i j)) (D := d i) (S' := s i) (L' := clr (l i) j) (R' := r i) (P' := ph i) hi hs2 (by rw [g2 33 (by decide) (by decide)]; exact hC.fph hi) (by rw [g2 34 (by decide) (by decide)]; exact hC.fse hi) h36 (by rw [g2 35 (by decide) (by decide)]; exact hC.fro hi) ((hC.fx hi).ne (g2 32 (by decide) (by decide))) hH2 ((hC.fd hi).ne (g2 38 (by decide) (by decide)))
      rw [va_self (f := x) rfl, va_self (f := s) rfl, va_self (f := d) rfl, va_self (f := r) rfl, va_self (f := ph) rfl] at hz
      exact kA (by first | exact hb85 | exact hb124) mu2 hz (cseg.lt hs2)
    · skip
      refine o_aload_n dN_read_88 rfl ?_
      refine o_iload_n dN_read_89 rfl ?_
      refine m_callV M_N_second [.inl (nI i)] [] dN_read_90 mk_N_second in_N_second se_N_second rfl (by decide) rfl rfl ml_N_106 rfl rfl rfl (Nat.le_of_ble_eq_true rfl) rfl ?_
      refine r_second hW2 hi hH2 (by rw [g2 34 (by decide) (by decide)]; exact hC.fse hi) hs6 hin ((hC.fx hi).ne (g2 32 (by decide) (by decide))) ((hC.fd hi).ne (g2 38 (by decide) (by decide))) (fun hS0 mu3 hd3 hx3 h33 h36b h35 g3 hs3 => ?_) (fun hS1 mu3 hd3 h33 h36b h35 g3 hs3 => ?_)
      · skip
        show Om G M_N_read 93 [(0, .inr (some (ad 20 0))), (1, .inl (nI i)), (2, .inl (nI j))] [] mu3 Q
        refine o_goto 132 dN_read_93 rfl ?_
        refine o_aload_n dN_read_132 rfl ?_
        refine m_getr dN_read_133 fl_N_56 rfl rfl (by decide) ?_
        refine o_iload_n dN_read_136 rfl ?_
        refine m_iald i dN_read_137 rfl rfl rfl (by decide) rfl hi ?_
        refine o_top (nI 0) h36b ?_
        refine m_callS M_N_count [.inl (nI 0)] [] dN_read_138 mk_N_count st_N_count ml_N_109 rfl rfl rfl (Nat.le_of_ble_eq_true rfl) rfl ?_
        refine r_count (by decide) ?_
        show Om G M_N_read 141 [(0, .inr (some (ad 20 0))), (1, .inl (nI i)), (2, .inl (nI j))] [.inl (nI (cntN (0) 6))] mu3 Q
        refine m_iret dN_read_141 rfl ?_
        have hz := hC.cli (i := i) (X := (sF (x i) (rdH m ky vr sn h d r i j) ky vr dp 6)) (Hh := (rdH m ky vr sn h d r i j)) (D := fun q => dueN (rdH m ky vr sn h d r i j) dp vr q 6) (S' := s i) (L' := 0) (R' := r i) (P' := 3) hi (hs2.tr hs3) h33 (by rw [g3 34 (by simp), g2 34 (by decide) (by decide)]; exact hC.fse hi) h36b (by rw [h35]; rw [hr1]) hx3 (hH2.ne (g3 37 (by simp))) hd3
        rw [va_self (f := s) rfl, va_self (f := r) rfl] at hz
        rw [cnt0]
        exact kB0 hb85 hr1 hS0 mu3 hz (cseg.lt (hs2.tr hs3))
      · skip
        have hsl := secN_lt (h := (rdH m ky vr sn h d r i j)) (vr := vr) (dp := dp) (s := s i) 6 (Nat.le_refl _)
        show Om G M_N_read 93 [(0, .inr (some (ad 20 0))), (1, .inl (nI i)), (2, .inl (nI j))] [] mu3 Q
        refine o_goto 132 dN_read_93 rfl ?_
        refine o_aload_n dN_read_132 rfl ?_
        refine m_getr dN_read_133 fl_N_56 rfl rfl (by decide) ?_
        refine o_iload_n dN_read_136 rfl ?_
        refine m_iald i dN_read_137 rfl rfl rfl (by decide) rfl hi ?_
        refine o_top (nI (secN (rdH m ky vr sn h d r i j) dp vr (s i) 6)) h36b ?_
        refine m_callS M_N_count [.inl (nI (secN (rdH m ky vr sn h d r i j) dp vr (s i) 6))] [] dN_read_138 mk_N_count st_N_count ml_N_109 rfl rfl rfl (Nat.le_of_ble_eq_true rfl) rfl ?_
        refine r_count hsl ?_
        show Om G M_N_read 141 [(0, .inr (some (ad 20 0))), (1, .inl (nI i)), (2, .inl (nI j))] [.inl (nI (cntN (secN (rdH m ky vr sn h d r i j) dp vr (s i) 6) 6))] mu3 Q
        refine m_iret dN_read_141 rfl ?_
        have hz := hC.cli (i := i) (X := x i) (Hh := (rdH m ky vr sn h d r i j)) (D := fun q => dueN (rdH m ky vr sn h d r i j) dp vr q 6) (S' := s i) (L' := secN (rdH m ky vr sn h d r i j) dp vr (s i) 6) (R' := 2) (P' := 2) hi (hs2.tr hs3) h33 (by rw [g3 34 (by simp), g2 34 (by decide) (by decide)]; exact hC.fse hi) h36b h35 ((hC.fx hi).ne ((g3 32 (by simp)).trans (g2 32 (by decide) (by decide)))) (hH2.ne (g3 37 (by simp))) hd3
        rw [va_self (f := x) rfl, va_self (f := s) rfl] at hz
        exact kB1 hb85 hr1 hS1 mu3 hz (cseg.lt (hs2.tr hs3))
end
section
/-! The reference's deliver, serve. -/
def shf (g : Nat → Int32) (a b : Nat) : Nat → Int32 := fun y => if a ≤ y ∧ y < b then g (y + 1) else g y
theorem shf_0 {g : Nat → Int32} {a : Nat} : shf g a a = g := by
  funext y
  unfold shf
  rw [if_neg (by omega)]
theorem shf_s {g : Nat → Int32} {a z : Nat} (h : a ≤ z) : upd (shf g a z) z (shf g a z (z + 1)) = shf g a (z + 1) := by
  funext y
  unfold shf
  by_cases e : y = z
  · subst e
    simp only [upd, if_true]
    rw [if_neg (by omega), if_pos (by omega)]
  · simp only [upd, e, if_false]
    by_cases e2 : a ≤ y ∧ y < z
    · rw [if_pos e2, if_pos (by omega)]
    · rw [if_neg e2, if_neg (by omega)]
theorem lineOk.app {mu mu' : oMu} {t t' q w : Nat} {L : List Nat} (h : lineOk mu t t' q L) (hl : L.length < 40) (h1 : mu' t' 0 = upd (mu t' 0) (40 * q + L.length) (nI w)) (h2 : mu' t 0 = upd (mu t 0) q (nI (L.length + 1))) : lineOk mu' t t' q (L ++ [w]) := by
  refine ⟨by rw [h2]; simp [upd], by simp; omega, fun j hj => ?_⟩
  rw [h1, getD_snoc]
  have hj2 : j < L.length + 1 := by simpa using hj
  by_cases e : j = L.length
  · simp [upd, e]
  · have h3 : j < L.length := by omega
    have e2 : ¬ 40 * q + j = 40 * q + L.length := by omega
    simp only [upd, e, e2, if_false, h3, if_true]
    exact h.2.2 j h3
theorem lineOk.app_o {mu mu' : oMu} {t t' q q2 w n n' : Nat} {L : List Nat} (h : lineOk mu t t' q2 L) (hq : ¬ q2 = q) (hl : n < 40) (h1 : mu' t' 0 = upd (mu t' 0) (40 * q + n) (nI w)) (h2 : mu' t 0 = upd (mu t 0) q (nI n')) : lineOk mu' t t' q2 L := by
  refine ⟨by rw [h2]; simp only [upd, hq, if_false]; exact h.1, h.2.1, fun j hj => ?_⟩
  have h3 := h.2.1
  have e2 : ¬ 40 * q2 + j = 40 * q + n := by omega
  rw [h1]
  simp only [upd, e2, if_false]
  exact h.2.2 j hj
theorem lineOk.rem {mu mu' : oMu} {t t' q j : Nat} {L : List Nat} (h : lineOk mu t t' q L) (hj : j < L.length) (h1 : mu' t' 0 = shf (mu t' 0) (40 * q + j) (40 * q + (L.length - 1))) (h2 : mu' t 0 = upd (mu t 0) q (nI (L.length - 1))) : lineOk mu' t t' q (L.eraseIdx j) := by
  have hl : (L.eraseIdx j).length = L.length - 1 := by rw [List.length_eraseIdx, if_pos hj]
  refine ⟨by rw [h2, hl]; simp [upd], by rw [hl]; have := h.2.1; omega, fun z hz => ?_⟩
  rw [hl] at hz
  rw [h1, getD_erase]
  unfold shf
  by_cases hzj : z < j
  · rw [if_neg (by omega), if_pos hzj]
    exact h.2.2 z (by omega)
  · rw [if_pos (by omega), if_neg hzj, show 40 * q + z + 1 = 40 * q + (z + 1) by omega]
    exact h.2.2 (z + 1) (by omega)
theorem lineOk.rem_o {mu mu' : oMu} {t t' q q2 j n n' : Nat} {L : List Nat} (h : lineOk mu t t' q2 L) (hq : ¬ q2 = q) (hn : n < 40) (h1 : mu' t' 0 = shf (mu t' 0) (40 * q + j) (40 * q + n)) (h2 : mu' t 0 = upd (mu t 0) q (nI n')) : lineOk mu' t t' q2 L := by
  refine ⟨by rw [h2]; simp only [upd, hq, if_false]; exact h.1, h.2.1, fun z hz => ?_⟩
  have h3 := h.2.1
  rw [h1]
  unfold shf
  rw [if_neg (by omega)]
  exact h.2.2 z hz
theorem lineOk.mv {mu mu' : oMu} {t t' q : Nat} {L : List Nat} (h : lineOk mu t t' q L) (h1 : mu' t 0 = mu t 0) (h2 : mu' t' 0 = mu t' 0) : lineOk mu' t t' q L := by
  unfold lineOk at h ⊢
  rw [h1, h2]
  exact h
theorem R_deliver_b1 {G : oG} {mu : oMu} {Q : oPm} {a b z : Int32} (ha : ∀ j, j < 3 → ¬ a = nI j) (k : Q (some (.inl (nI 0))) mu) : Om G M_N_deliver 0 [(0, .inr (some (ad 20 0))), (1, .inl a), (2, .inl b), (3, .inl z)] [] mu Q := by
  refine o_aload_n dN_deliver_0 rfl ?_
  refine o_iload_n dN_deliver_1 rfl ?_
  refine o_iload_n dN_deliver_2 rfl ?_
  refine m_callV M_N_link [.inl a, .inl b] [] dN_deliver_3 mk_N_link in_N_link se_N_link rfl (by decide) rfl rfl ml_N_112 rfl rfl rfl (Nat.le_of_ble_eq_true rfl) rfl ?_
  refine r_link_b1 ha ?_
  show Om G M_N_deliver 6 [(0, .inr (some (ad 20 0))), (1, .inl a), (2, .inl b), (3, .inl z)] [.inl (nI 0)] mu Q
  refine n_if_ne 11 dN_deliver_6 rfl (by omega) (fun h => absurd h (by decide)) (fun _ => ?_)
  refine o_iconst (nI 0) dN_deliver_9 rfl ?_
  refine m_zret dN_deliver_10 rfl rfl ?_
  exact k
theorem R_deliver_b2 {G : oG} {mu : oMu} {Q : oPm} {i : Nat} {b z : Int32} (hi : i < 3) (hb : ∀ j, j < 3 → ¬ b = nI j) (k : Q (some (.inl (nI 0))) mu) : Om G M_N_deliver 0 [(0, .inr (some (ad 20 0))), (1, .inl (nI i)), (2, .inl b), (3, .inl z)] [] mu Q := by
  refine o_aload_n dN_deliver_0 rfl ?_
  refine o_iload_n dN_deliver_1 rfl ?_
  refine o_iload_n dN_deliver_2 rfl ?_
  refine m_callV M_N_link [.inl (nI i), .inl b] [] dN_deliver_3 mk_N_link in_N_link se_N_link rfl (by decide) rfl rfl ml_N_112 rfl rfl rfl (Nat.le_of_ble_eq_true rfl) rfl ?_
  refine r_link_b2 hi hb ?_
  show Om G M_N_deliver 6 [(0, .inr (some (ad 20 0))), (1, .inl (nI i)), (2, .inl b), (3, .inl z)] [.inl (nI 0)] mu Q
  refine n_if_ne 11 dN_deliver_6 rfl (by omega) (fun h => absurd h (by decide)) (fun _ => ?_)
  refine o_iconst (nI 0) dN_deliver_9 rfl ?_
  refine m_zret dN_deliver_10 rfl rfl ?_
  exact k
theorem R_deliver_e {G : oG} {mu : oMu} {Q : oPm} {i : Nat} {z : Int32} (hi : i < 3) (k : Q (some (.inl (nI 0))) mu) : Om G M_N_deliver 0 [(0, .inr (some (ad 20 0))), (1, .inl (nI i)), (2, .inl (nI i)), (3, .inl z)] [] mu Q := by
  refine o_aload_n dN_deliver_0 rfl ?_
  refine o_iload_n dN_deliver_1 rfl ?_
  refine o_iload_n dN_deliver_2 rfl ?_
  refine m_callV M_N_link [.inl (nI i), .inl (nI i)] [] dN_deliver_3 mk_N_link in_N_link se_N_link rfl (by decide) rfl rfl ml_N_112 rfl rfl rfl (Nat.le_of_ble_eq_true rfl) rfl ?_
  refine r_link_e hi ?_
  show Om G M_N_deliver 6 [(0, .inr (some (ad 20 0))), (1, .inl (nI i)), (2, .inl (nI i)), (3, .inl z)] [.inl (nI 0)] mu Q
  refine n_if_ne 11 dN_deliver_6 rfl (by omega) (fun h => absurd h (by decide)) (fun _ => ?_)
  refine o_iconst (nI 0) dN_deliver_9 rfl ?_
  refine m_zret dN_deliver_10 rfl rfl ?_
  exact k
theorem R_deliver_n {G : oG} {mu : oMu} {Q : oPm} {m : Nat} {ky vr nd : Nat → Nat} {dp : Nat → Nat → Nat} {vl : Nat → Int32} {sn ck : Nat → Nat → Nat} {wt fl : Nat → List Nat} {x h d : Nat → Nat → Nat} {s l r ph : Nat → Nat} (hC : ReR mu m ky vr nd dp vl sn ck wt fl x h d s l r ph) {i q : Nat} {z : Int32} (hi : i < 3) (hq : q < 3) (hne : ¬ i = q) (hj : ∀ j, j < (fl (3 * i + q)).length → ¬ z = nI j) (k : Q (some (.inl (nI 0))) mu) : Om G M_N_deliver 0 [(0, .inr (some (ad 20 0))), (1, .inl (nI i)), (2, .inl (nI q)), (3, .inl z)] [] mu Q := by
  have hl4 := (hC.ffl (show 3 * i + q < 9 by omega)).2.1
  refine o_aload_n dN_deliver_0 rfl ?_
  refine o_iload_n dN_deliver_1 rfl ?_
  refine o_iload_n dN_deliver_2 rfl ?_
  refine m_callV M_N_link [.inl (nI i), .inl (nI q)] [] dN_deliver_3 mk_N_link in_N_link se_N_link rfl (by decide) rfl rfl ml_N_112 rfl rfl rfl (Nat.le_of_ble_eq_true rfl) rfl ?_
  refine r_link hi hq hne ?_
  show Om G M_N_deliver 6 [(0, .inr (some (ad 20 0))), (1, .inl (nI i)), (2, .inl (nI q)), (3, .inl z)] [.inl (nI 1)] mu Q
  refine n_if_ne 11 dN_deliver_6 rfl (by omega) (fun _ => ?_) (fun h => absurd h (by decide))
  refine o_iconst (nI 3) dN_deliver_11 rfl ?_
  refine o_iload_n dN_deliver_12 rfl ?_
  refine o_imul dN_deliver_13 ?_
  refine o_top _ (pk_mul _ _) ?_
  refine o_iload_n dN_deliver_14 rfl ?_
  refine o_iadd dN_deliver_15 ?_
  refine o_top _ (nI_add _ _) ?_
  refine o_istore [(0, _), (1, _), (2, _), (3, _), (4, _)] dN_deliver_16 rfl rfl ?_
  refine o_iload_n dN_deliver_18 rfl ?_
  refine o_aload_n dN_deliver_19 rfl ?_
  refine m_getr dN_deliver_20 fl_N_38 rfl rfl (by decide) ?_
  refine o_iload dN_deliver_23 rfl ?_
  refine m_iald (3 * i + q) dN_deliver_25 rfl rfl rfl (by decide) rfl (by omega) ?_
  refine o_top (nI ((fl (3 * i + q)).length)) (hC.ffl (by omega)).1 ?_
  refine m_callS M_N_out [.inl z, .inl (nI ((fl (3 * i + q)).length))] [] dN_deliver_26 mk_N_out st_N_out ml_N_73 rfl rfl rfl (Nat.le_of_ble_eq_true rfl) rfl ?_
  refine r_out_n (by omega) hj ?_
  show Om G M_N_deliver 29 [(0, .inr (some (ad 20 0))), (1, .inl (nI i)), (2, .inl (nI q)), (3, .inl z), (4, .inl (nI (3 * i + q)))] [.inl (nI 1)] mu Q
  refine n_if_eq 34 dN_deliver_29 rfl (by omega) (fun h => absurd h (by decide)) (fun _ => ?_)
  refine o_iconst (nI 0) dN_deliver_32 rfl ?_
  refine m_zret dN_deliver_33 rfl rfl ?_
  exact k
theorem l_shift {G : oG} {mu : oMu} {Q : oPm} {i q j w n : Nat} {g : Nat → Int32} (hi : i < 3) (hq : q < 3) (hn : n < 40) (hf : mu 30 0 (3 * i + q) = nI n) (z : Nat) (hz : j ≤ z) (hz2 : z ≤ n) (hg : mu 31 0 = shf g (40 * (3 * i + q) + j) (40 * (3 * i + q) + z)) (k : ∀ mu' : oMu, mu' 31 0 = shf g (40 * (3 * i + q) + j) (40 * (3 * i + q) + n) → mfr [(31, 0)] mu mu' → Om G M_N_deliver 108 [(0, .inr (some (ad 20 0))), (1, .inl (nI i)), (2, .inl (nI q)), (3, .inl (nI j)), (4, .inl (nI (3 * i + q))), (5, .inl (nI w)), (6, .inl (nI n))] [] mu' Q) : Om G M_N_deliver 62 [(0, .inr (some (ad 20 0))), (1, .inl (nI i)), (2, .inl (nI q)), (3, .inl (nI j)), (4, .inl (nI (3 * i + q))), (5, .inl (nI w)), (6, .inl (nI z))] [] mu Q := by
  refine o_iload dN_deliver_62 rfl ?_
  refine o_aload_n dN_deliver_64 rfl ?_
  refine m_getr dN_deliver_65 fl_N_38 rfl rfl (by decide) ?_
  refine o_iload dN_deliver_68 rfl ?_
  refine m_iald (3 * i + q) dN_deliver_70 rfl rfl rfl (by decide) rfl (by omega) ?_
  refine o_top (nI n) hf ?_
  refine n_icmp_ge 108 dN_deliver_71 rfl (by omega) (by omega) (fun hb71 => ?_) (fun hb71 => ?_)
  · skip
    obtain rfl : z = n := by omega
    exact k mu hg mfr_rf
  · skip
    refine o_aload_n dN_deliver_74 rfl ?_
    refine m_getr dN_deliver_75 fl_N_41 rfl rfl (by decide) ?_
    refine o_bipush (nI 40) dN_deliver_78 rfl ?_
    refine o_iload dN_deliver_80 rfl ?_
    refine o_imul dN_deliver_82 ?_
    refine o_top _ (pk_mul _ _) ?_
    refine o_iload dN_deliver_83 rfl ?_
    refine o_iadd dN_deliver_85 ?_
    refine o_top _ (nI_add _ _) ?_
    refine o_aload_n dN_deliver_86 rfl ?_
    refine m_getr dN_deliver_87 fl_N_41 rfl rfl (by decide) ?_
    refine o_bipush (nI 40) dN_deliver_90 rfl ?_
    refine o_iload dN_deliver_92 rfl ?_
    refine o_imul dN_deliver_94 ?_
    refine o_top _ (pk_mul _ _) ?_
    refine o_iload dN_deliver_95 rfl ?_
    refine o_iadd dN_deliver_97 ?_
    refine o_top _ (nI_add _ _) ?_
    refine o_iconst (nI 1) dN_deliver_98 rfl ?_
    refine o_iadd dN_deliver_99 ?_
    refine o_top _ (nI_add _ _) ?_
    refine m_iald (40 * (3 * i + q) + z + 1) dN_deliver_100 rfl rfl rfl (by decide) rfl (by omega) ?_
    refine m_iast (40 * (3 * i + q) + z) dN_deliver_101 rfl rfl rfl (by decide) rfl (by omega) (fun mu1 hmu1 => ?_)
    refine o_iinc (nI (z + 1)) [(0, _), (1, _), (2, _), (3, _), (4, _), (5, _), (6, _)] dN_deliver_102 rfl (nInc _) rfl rfl ?_
    refine o_goto 62 dN_deliver_105 rfl ?_
    have hf1 := mfr_up (L := [(31, 0)]) hmu1 (by simp)
    exact l_shift hi hq hn (by rw [hf1 30 0 (by simp)]; exact hf) (z + 1) (by omega) (by omega) (by
      rw [hmu1, up2_s, hg, show 40 * (3 * i + q) + z + 1 = 40 * (3 * i + q) + (z + 1) by omega]
      exact shf_s (show 40 * (3 * i + q) + j ≤ 40 * (3 * i + q) + z by omega)) (fun mu' a b => k mu' a (hf1.tr b))
termination_by n - z
theorem R_deliver {G : oG} {mu : oMu} {Q : oPm} {m : Nat} {ky vr nd : Nat → Nat} {dp : Nat → Nat → Nat} {vl : Nat → Int32} {sn ck : Nat → Nat → Nat} {wt fl : Nat → List Nat} {x h d : Nat → Nat → Nat} {s l r ph : Nat → Nat} (hC : ReR mu m ky vr nd dp vl sn ck wt fl x h d s l r ph) {i q j w : Nat} (hi : i < 3) (hq : q < 3) (hne : ¬ i = q) (hj : j < (fl (3 * i + q)).length) (hw : (fl (3 * i + q)).getD j 0 = w) (hwm : w < m) (hck : ∀ p, p < 2 → ck q p < 1000) (hwl : (wt (2 * q + ky w % 2)).length < 40) (k : ∀ mu' : oMu, ReR mu' m ky vr nd dp vl sn (va_up ck q (va_up (ck q) (ky w % 2) (mx (ck q (ky w % 2)) (vr w / 4)))) (va_up wt (2 * q + ky w % 2) (wt (2 * q + ky w % 2) ++ [w])) (va_up fl (3 * i + q) ((fl (3 * i + q)).eraseIdx j)) x h d s l r ph → mlt mu mu' → Q (some (.inl (nI 1))) mu') : Om G M_N_deliver 0 [(0, .inr (some (ad 20 0))), (1, .inl (nI i)), (2, .inl (nI q)), (3, .inl (nI j))] [] mu Q := by
  have hl4 := (hC.ffl (show 3 * i + q < 9 by omega)).2.1
  have hm4 := hC.fw.m4
  have hkb := hC.fw.key6 hwm
  have hvb := hC.fw.verK w hwm
  have hc1 := hck (ky w % 2) (by omega)
  refine o_aload_n dN_deliver_0 rfl ?_
  refine o_iload_n dN_deliver_1 rfl ?_
  refine o_iload_n dN_deliver_2 rfl ?_
  refine m_callV M_N_link [.inl (nI i), .inl (nI q)] [] dN_deliver_3 mk_N_link in_N_link se_N_link rfl (by decide) rfl rfl ml_N_112 rfl rfl rfl (Nat.le_of_ble_eq_true rfl) rfl ?_
  refine r_link hi hq hne ?_
  show Om G M_N_deliver 6 [(0, .inr (some (ad 20 0))), (1, .inl (nI i)), (2, .inl (nI q)), (3, .inl (nI j))] [.inl (nI 1)] mu Q
  refine n_if_ne 11 dN_deliver_6 rfl (by omega) (fun _ => ?_) (fun h => absurd h (by decide))
  refine o_iconst (nI 3) dN_deliver_11 rfl ?_
  refine o_iload_n dN_deliver_12 rfl ?_
  refine o_imul dN_deliver_13 ?_
  refine o_top _ (pk_mul _ _) ?_
  refine o_iload_n dN_deliver_14 rfl ?_
  refine o_iadd dN_deliver_15 ?_
  refine o_top _ (nI_add _ _) ?_
  refine o_istore [(0, _), (1, _), (2, _), (3, _), (4, _)] dN_deliver_16 rfl rfl ?_
  refine o_iload_n dN_deliver_18 rfl ?_
  refine o_aload_n dN_deliver_19 rfl ?_
  refine m_getr dN_deliver_20 fl_N_38 rfl rfl (by decide) ?_
  refine o_iload dN_deliver_23 rfl ?_
  refine m_iald (3 * i + q) dN_deliver_25 rfl rfl rfl (by decide) rfl (by omega) ?_
  refine o_top (nI ((fl (3 * i + q)).length)) (hC.ffl (by omega)).1 ?_
  refine m_callS M_N_out [.inl (nI j), .inl (nI ((fl (3 * i + q)).length))] [] dN_deliver_26 mk_N_out st_N_out ml_N_73 rfl rfl rfl (Nat.le_of_ble_eq_true rfl) rfl ?_
  refine r_out_y (by omega) hj ?_
  show Om G M_N_deliver 29 [(0, .inr (some (ad 20 0))), (1, .inl (nI i)), (2, .inl (nI q)), (3, .inl (nI j)), (4, .inl (nI (3 * i + q)))] [.inl (nI 0)] mu Q
  refine n_if_eq 34 dN_deliver_29 rfl (by omega) (fun _ => ?_) (fun h => absurd h (by decide))
  refine o_aload_n dN_deliver_34 rfl ?_
  refine m_getr dN_deliver_35 fl_N_41 rfl rfl (by decide) ?_
  refine o_bipush (nI 40) dN_deliver_38 rfl ?_
  refine o_iload dN_deliver_40 rfl ?_
  refine o_imul dN_deliver_42 ?_
  refine o_top _ (pk_mul _ _) ?_
  refine o_iload_n dN_deliver_43 rfl ?_
  refine o_iadd dN_deliver_44 ?_
  refine o_top _ (nI_add _ _) ?_
  refine m_iald (40 * (3 * i + q) + j) dN_deliver_45 rfl rfl rfl (by decide) rfl (by omega) ?_
  refine o_top (nI w) (((hC.ffl (show 3 * i + q < 9 by omega)).2.2 j hj).trans (by rw [hw])) ?_
  refine o_istore [(0, _), (1, _), (2, _), (3, _), (4, _), (5, _)] dN_deliver_46 rfl rfl ?_
  refine o_aload_n dN_deliver_48 rfl ?_
  refine m_getr dN_deliver_49 fl_N_38 rfl rfl (by decide) ?_
  refine o_iload dN_deliver_52 rfl ?_
  refine o_dup2 dN_deliver_54 ?_
  refine m_iald (3 * i + q) dN_deliver_55 rfl rfl rfl (by decide) rfl (by omega) ?_
  refine o_top (nI ((fl (3 * i + q)).length)) (hC.ffl (by omega)).1 ?_
  refine o_iconst (nI 1) dN_deliver_56 rfl ?_
  refine o_isub dN_deliver_57 ?_
  refine o_top _ (pk_sub (by omega)) ?_
  refine m_iast (3 * i + q) dN_deliver_58 rfl rfl rfl (by decide) rfl (by omega) (fun mu1 hmu1 => ?_)
  refine o_iload_n dN_deliver_59 rfl ?_
  refine o_istore [(0, _), (1, _), (2, _), (3, _), (4, _), (5, _), (6, _)] dN_deliver_60 rfl rfl ?_
  refine l_shift (n := (fl (3 * i + q)).length - 1) (g := mu 31 0) hi hq (by omega) (by rw [hmu1, up2_s]; simp [upd]) j (Nat.le_refl _) (by omega) (by rw [hmu1, up2_t (by decide), shf_0]) (fun mu2 h31 hf2 => ?_)
  show Om G M_N_deliver 108 [(0, .inr (some (ad 20 0))), (1, .inl (nI i)), (2, .inl (nI q)), (3, .inl (nI j)), (4, .inl (nI (3 * i + q))), (5, .inl (nI w)), (6, .inl (nI ((fl (3 * i + q)).length - 1)))] [] mu2 Q
  have hW2 : vOk mu2 m ky vr nd dp := hC.fw.mv (by rw [hf2 20 0 (by simp), hmu1, up2_t (by decide)]) (by rw [hf2 21 0 (by simp), hmu1, up2_t (by decide)]) (by rw [hf2 23 0 (by simp), hmu1, up2_t (by decide)]) (by rw [hf2 24 0 (by simp), hmu1, up2_t (by decide)]) (by rw [hf2 25 0 (by simp), hmu1, up2_t (by decide)])
  refine o_iconst (nI 2) dN_deliver_108 rfl ?_
  refine o_iload_n dN_deliver_109 rfl ?_
  refine o_imul dN_deliver_110 ?_
  refine o_top _ (pk_mul _ _) ?_
  refine o_aload_n dN_deliver_111 rfl ?_
  refine m_getr dN_deliver_112 fl_N_7 rfl rfl (by decide) ?_
  refine o_iload dN_deliver_115 rfl ?_
  refine m_iald w dN_deliver_117 rfl rfl rfl (by decide) rfl (by omega) ?_
  refine o_top (nI (ky w)) (hW2.key hwm) ?_
  refine o_iconst (nI 2) dN_deliver_118 rfl ?_
  refine o_irem dN_deliver_119 (by decide) ?_
  refine o_top _ (pk_rem (by omega) (by decide) (by decide)) ?_
  refine o_iadd dN_deliver_120 ?_
  refine o_top _ (nI_add _ _) ?_
  refine o_istore [(0, _), (1, _), (2, _), (3, _), (4, _), (5, _), (6, _)] dN_deliver_121 rfl rfl ?_
  refine o_aload_n dN_deliver_123 rfl ?_
  refine m_getr dN_deliver_124 fl_N_29 rfl rfl (by decide) ?_
  refine o_iload dN_deliver_127 rfl ?_
  refine o_aload_n dN_deliver_129 rfl ?_
  refine m_getr dN_deliver_130 fl_N_16 rfl rfl (by decide) ?_
  refine o_iload dN_deliver_133 rfl ?_
  refine m_iald w dN_deliver_135 rfl rfl rfl (by decide) rfl (by omega) ?_
  refine o_top (nI (vr w)) (hW2.ver w hwm) ?_
  refine o_iconst (nI 4) dN_deliver_136 rfl ?_
  refine o_idiv dN_deliver_137 (by decide) ?_
  refine o_top _ (pk_div (by omega) (by decide) (by decide)) ?_
  refine o_aload_n dN_deliver_138 rfl ?_
  refine m_getr dN_deliver_139 fl_N_29 rfl rfl (by decide) ?_
  refine o_iload dN_deliver_142 rfl ?_
  refine m_iald (2 * q + ((ky w) % 2)) dN_deliver_144 rfl rfl rfl (by decide) rfl (by omega) ?_
  refine o_top (nI (ck q (ky w % 2))) (by rw [hf2 27 0 (by simp), hmu1, up2_t (by decide)]; exact hC.fck hq (by omega)) ?_
  refine n_icmp_le 160 dN_deliver_145 rfl (by omega) (by omega) (fun hb145 => ?_) (fun hb145 => ?_)
  · skip
    refine o_aload_n dN_deliver_160 rfl ?_
    refine m_getr dN_deliver_161 fl_N_29 rfl rfl (by decide) ?_
    refine o_iload dN_deliver_164 rfl ?_
    refine m_iald (2 * q + ((ky w) % 2)) dN_deliver_166 rfl rfl rfl (by decide) rfl (by omega) ?_
    refine o_top (nI (ck q (ky w % 2))) (by rw [hf2 27 0 (by simp), hmu1, up2_t (by decide)]; exact hC.fck hq (by omega)) ?_
    refine m_iast (2 * q + ((ky w) % 2)) dN_deliver_167 rfl rfl rfl (by decide) rfl (by omega) (fun mu3 hmu3 => ?_)
    refine o_aload_n dN_deliver_168 rfl ?_
    refine m_getr dN_deliver_169 fl_N_35 rfl rfl (by decide) ?_
    refine o_bipush (nI 40) dN_deliver_172 rfl ?_
    refine o_iload dN_deliver_174 rfl ?_
    refine o_imul dN_deliver_176 ?_
    refine o_top _ (pk_mul _ _) ?_
    refine o_aload_n dN_deliver_177 rfl ?_
    refine m_getr dN_deliver_178 fl_N_32 rfl rfl (by decide) ?_
    refine o_iload dN_deliver_181 rfl ?_
    refine m_iald (2 * q + ((ky w) % 2)) dN_deliver_183 rfl rfl rfl (by decide) rfl (by omega) ?_
    refine o_top (nI ((wt (2 * q + ky w % 2)).length)) (by rw [hmu3, up2_t (by decide), hf2 28 0 (by simp), hmu1, up2_t (by decide)]; exact (hC.fwt (by omega)).1) ?_
    refine o_iadd dN_deliver_184 ?_
    refine o_top _ (nI_add _ _) ?_
    refine o_iload dN_deliver_185 rfl ?_
    refine m_iast (40 * (2 * q + ((ky w) % 2)) + ((wt (2 * q + ky w % 2)).length)) dN_deliver_187 rfl rfl rfl (by decide) rfl (by omega) (fun mu4 hmu4 => ?_)
    refine o_aload_n dN_deliver_188 rfl ?_
    refine m_getr dN_deliver_189 fl_N_32 rfl rfl (by decide) ?_
    refine o_iload dN_deliver_192 rfl ?_
    refine o_dup2 dN_deliver_194 ?_
    refine m_iald (2 * q + ((ky w) % 2)) dN_deliver_195 rfl rfl rfl (by decide) rfl (by omega) ?_
    refine o_top (nI ((wt (2 * q + ky w % 2)).length)) (by rw [hmu4, up2_t (by decide), hmu3, up2_t (by decide), hf2 28 0 (by simp), hmu1, up2_t (by decide)]; exact (hC.fwt (by omega)).1) ?_
    refine o_iconst (nI 1) dN_deliver_196 rfl ?_
    refine o_iadd dN_deliver_197 ?_
    refine o_top _ (nI_add _ _) ?_
    refine m_iast (2 * q + ((ky w) % 2)) dN_deliver_198 rfl rfl rfl (by decide) rfl (by omega) (fun mu5 hmu5 => ?_)
    refine o_iconst (nI 1) dN_deliver_199 rfl ?_
    refine m_zret dN_deliver_200 rfl rfl ?_
    have g5 : ∀ t z, ¬ (t = 30 ∧ z = 0) → ¬ (t = 31 ∧ z = 0) → ¬ (t = 27 ∧ z = 0) → ¬ (t = 29 ∧ z = 0) → ¬ (t = 28 ∧ z = 0) → mu5 t z = mu t z := fun t z a b c d e => by
      rw [hmu5, up2, if_neg e, hmu4, up2, if_neg d, hmu3, up2, if_neg c, hf2 t z (by simpa using b), hmu1, up2, if_neg a]
    have e30 : mu5 30 0 = upd (mu 30 0) (3 * i + q) (nI ((fl (3 * i + q)).length - 1)) := by rw [hmu5, up2_t (by decide), hmu4, up2_t (by decide), hmu3, up2_t (by decide), hf2 30 0 (by simp), hmu1, up2_s]
    have e31 : mu5 31 0 = shf (mu 31 0) (40 * (3 * i + q) + j) (40 * (3 * i + q) + ((fl (3 * i + q)).length - 1)) := by rw [hmu5, up2_t (by decide), hmu4, up2_t (by decide), hmu3, up2_t (by decide), h31]
    have e27 : ∀ y, mu5 27 0 y = if y = 2 * q + ky w % 2 then nI (mx (ck q (ky w % 2)) (vr w / 4)) else mu 27 0 y := fun y => by
      rw [hmu5, up2_t (by decide), hmu4, up2_t (by decide), hmu3, up2_s]
      by_cases ey : y = 2 * q + ky w % 2
      · simp only [upd, ey, if_true]
        unfold mx
        first | rw [if_neg (Nat.not_lt.mpr hb145)] | rw [if_pos hb145]
      · simp only [upd, ey, if_false]
        rw [hf2 27 0 (by simp), hmu1, up2_t (by decide)]
    have e29 : mu5 29 0 = upd (mu 29 0) (40 * (2 * q + ky w % 2) + (wt (2 * q + ky w % 2)).length) (nI w) := by rw [hmu5, up2_t (by decide), hmu4, up2_s, hmu3, up2_t (by decide), hf2 29 0 (by simp), hmu1, up2_t (by decide)]
    have e28 : mu5 28 0 = upd (mu 28 0) (2 * q + ky w % 2) (nI ((wt (2 * q + ky w % 2)).length + 1)) := by rw [hmu5, up2_s, hmu4, up2_t (by decide), hmu3, up2_t (by decide), hf2 28 0 (by simp), hmu1, up2_t (by decide)]
    have hA := hC.ffl (show 3 * i + q < 9 by omega)
    have hB := hC.fwt (show 2 * q + ky w % 2 < 6 by omega)
    refine k mu5 ⟨hC.fw.mv (g5 _ _ (by decide) (by decide) (by decide) (by decide) (by decide)) (g5 _ _ (by decide) (by decide) (by decide) (by decide) (by decide)) (g5 _ _ (by decide) (by decide) (by decide) (by decide) (by decide)) (g5 _ _ (by decide) (by decide) (by decide) (by decide) (by decide)) (g5 _ _ (by decide) (by decide) (by decide) (by decide) (by decide)), fun u hu => by rw [g5 22 0 (by decide) (by decide) (by decide) (by decide) (by decide)]; exact hC.fv hu, fun c hc => ⟨fun u hu => by rw [g5 26 0 (by decide) (by decide) (by decide) (by decide) (by decide)]; exact hC.fsn hc u hu, fun p hp => ?_⟩, fun z hz => ?_, fun z hz => ?_, fun y hy => ?_⟩ (fun t z ht => g5 t z (by omega) (by omega) (by omega) (by omega) (by omega))
    · rw [e27]
      by_cases ec : c = q
      · subst ec
        rw [va_s]
        by_cases ep : p = ky w % 2
        · rw [if_pos (by omega), ep, va_s]
        · rw [if_neg (by omega), va_n ep]
          exact hC.fck hc hp
      · rw [if_neg (by omega), va_n ec]
        exact hC.fck hc hp
    · by_cases ez : z = 2 * q + ky w % 2
      · rw [ez, va_s]
        exact hB.app hwl e29 e28
      · rw [va_n ez]
        exact (hC.fwt hz).app_o ez hwl e29 e28
    · by_cases ez : z = 3 * i + q
      · rw [ez, va_s]
        exact hA.rem hj e31 e30
      · rw [va_n ez]
        exact (hC.ffl hz).rem_o ez (by omega) e31 e30
    · rw [g5 33 0 (by decide) (by decide) (by decide) (by decide) (by decide), g5 34 0 (by decide) (by decide) (by decide) (by decide) (by decide), g5 35 0 (by decide) (by decide) (by decide) (by decide) (by decide), g5 36 0 (by decide) (by decide) (by decide) (by decide) (by decide)]
      have hcy := hC.2.2.2.2.2 y hy
      exact ⟨hcy.1, hcy.2.1.ne (g5 32 0 (by decide) (by decide) (by decide) (by decide) (by decide)), hcy.2.2.1.ne (g5 37 0 (by decide) (by decide) (by decide) (by decide) (by decide)), hcy.2.2.2.ne (g5 38 0 (by decide) (by decide) (by decide) (by decide) (by decide))⟩
  · skip
    refine o_aload_n dN_deliver_148 rfl ?_
    refine m_getr dN_deliver_149 fl_N_16 rfl rfl (by decide) ?_
    refine o_iload dN_deliver_152 rfl ?_
    refine m_iald w dN_deliver_154 rfl rfl rfl (by decide) rfl (by omega) ?_
    refine o_top (nI (vr w)) (hW2.ver w hwm) ?_
    refine o_iconst (nI 4) dN_deliver_155 rfl ?_
    refine o_idiv dN_deliver_156 (by decide) ?_
    refine o_top _ (pk_div (by omega) (by decide) (by decide)) ?_
    refine o_goto 167 dN_deliver_157 rfl ?_
    refine m_iast (2 * q + ((ky w) % 2)) dN_deliver_167 rfl rfl rfl (by decide) rfl (by omega) (fun mu3 hmu3 => ?_)
    refine o_aload_n dN_deliver_168 rfl ?_
    refine m_getr dN_deliver_169 fl_N_35 rfl rfl (by decide) ?_
    refine o_bipush (nI 40) dN_deliver_172 rfl ?_
    refine o_iload dN_deliver_174 rfl ?_
    refine o_imul dN_deliver_176 ?_
    refine o_top _ (pk_mul _ _) ?_
    refine o_aload_n dN_deliver_177 rfl ?_
    refine m_getr dN_deliver_178 fl_N_32 rfl rfl (by decide) ?_
    refine o_iload dN_deliver_181 rfl ?_
    refine m_iald (2 * q + ((ky w) % 2)) dN_deliver_183 rfl rfl rfl (by decide) rfl (by omega) ?_
    refine o_top (nI ((wt (2 * q + ky w % 2)).length)) (by rw [hmu3, up2_t (by decide), hf2 28 0 (by simp), hmu1, up2_t (by decide)]; exact (hC.fwt (by omega)).1) ?_
    refine o_iadd dN_deliver_184 ?_
    refine o_top _ (nI_add _ _) ?_
    refine o_iload dN_deliver_185 rfl ?_
    refine m_iast (40 * (2 * q + ((ky w) % 2)) + ((wt (2 * q + ky w % 2)).length)) dN_deliver_187 rfl rfl rfl (by decide) rfl (by omega) (fun mu4 hmu4 => ?_)
    refine o_aload_n dN_deliver_188 rfl ?_
    refine m_getr dN_deliver_189 fl_N_32 rfl rfl (by decide) ?_
    refine o_iload dN_deliver_192 rfl ?_
    refine o_dup2 dN_deliver_194 ?_
    refine m_iald (2 * q + ((ky w) % 2)) dN_deliver_195 rfl rfl rfl (by decide) rfl (by omega) ?_
    refine o_top (nI ((wt (2 * q + ky w % 2)).length)) (by rw [hmu4, up2_t (by decide), hmu3, up2_t (by decide), hf2 28 0 (by simp), hmu1, up2_t (by decide)]; exact (hC.fwt (by omega)).1) ?_
    refine o_iconst (nI 1) dN_deliver_196 rfl ?_
    refine o_iadd dN_deliver_197 ?_
    refine o_top _ (nI_add _ _) ?_
    refine m_iast (2 * q + ((ky w) % 2)) dN_deliver_198 rfl rfl rfl (by decide) rfl (by omega) (fun mu5 hmu5 => ?_)
    refine o_iconst (nI 1) dN_deliver_199 rfl ?_
    refine m_zret dN_deliver_200 rfl rfl ?_
    have g5 : ∀ t z, ¬ (t = 30 ∧ z = 0) → ¬ (t = 31 ∧ z = 0) → ¬ (t = 27 ∧ z = 0) → ¬ (t = 29 ∧ z = 0) → ¬ (t = 28 ∧ z = 0) → mu5 t z = mu t z := fun t z a b c d e => by
      rw [hmu5, up2, if_neg e, hmu4, up2, if_neg d, hmu3, up2, if_neg c, hf2 t z (by simpa using b), hmu1, up2, if_neg a]
    have e30 : mu5 30 0 = upd (mu 30 0) (3 * i + q) (nI ((fl (3 * i + q)).length - 1)) := by rw [hmu5, up2_t (by decide), hmu4, up2_t (by decide), hmu3, up2_t (by decide), hf2 30 0 (by simp), hmu1, up2_s]
    have e31 : mu5 31 0 = shf (mu 31 0) (40 * (3 * i + q) + j) (40 * (3 * i + q) + ((fl (3 * i + q)).length - 1)) := by rw [hmu5, up2_t (by decide), hmu4, up2_t (by decide), hmu3, up2_t (by decide), h31]
    have e27 : ∀ y, mu5 27 0 y = if y = 2 * q + ky w % 2 then nI (mx (ck q (ky w % 2)) (vr w / 4)) else mu 27 0 y := fun y => by
      rw [hmu5, up2_t (by decide), hmu4, up2_t (by decide), hmu3, up2_s]
      by_cases ey : y = 2 * q + ky w % 2
      · simp only [upd, ey, if_true]
        unfold mx
        first | rw [if_neg (Nat.not_lt.mpr hb145)] | rw [if_pos hb145]
      · simp only [upd, ey, if_false]
        rw [hf2 27 0 (by simp), hmu1, up2_t (by decide)]
    have e29 : mu5 29 0 = upd (mu 29 0) (40 * (2 * q + ky w % 2) + (wt (2 * q + ky w % 2)).length) (nI w) := by rw [hmu5, up2_t (by decide), hmu4, up2_s, hmu3, up2_t (by decide), hf2 29 0 (by simp), hmu1, up2_t (by decide)]
    have e28 : mu5 28 0 = upd (mu 28 0) (2 * q + ky w % 2) (nI ((wt (2 * q + ky w % 2)).length + 1)) := by rw [hmu5, up2_s, hmu4, up2_t (by decide), hmu3, up2_t (by decide), hf2 28 0 (by simp), hmu1, up2_t (by decide)]
    have hA := hC.ffl (show 3 * i + q < 9 by omega)
    have hB := hC.fwt (show 2 * q + ky w % 2 < 6 by omega)
    refine k mu5 ⟨hC.fw.mv (g5 _ _ (by decide) (by decide) (by decide) (by decide) (by decide)) (g5 _ _ (by decide) (by decide) (by decide) (by decide) (by decide)) (g5 _ _ (by decide) (by decide) (by decide) (by decide) (by decide)) (g5 _ _ (by decide) (by decide) (by decide) (by decide) (by decide)) (g5 _ _ (by decide) (by decide) (by decide) (by decide) (by decide)), fun u hu => by rw [g5 22 0 (by decide) (by decide) (by decide) (by decide) (by decide)]; exact hC.fv hu, fun c hc => ⟨fun u hu => by rw [g5 26 0 (by decide) (by decide) (by decide) (by decide) (by decide)]; exact hC.fsn hc u hu, fun p hp => ?_⟩, fun z hz => ?_, fun z hz => ?_, fun y hy => ?_⟩ (fun t z ht => g5 t z (by omega) (by omega) (by omega) (by omega) (by omega))
    · rw [e27]
      by_cases ec : c = q
      · subst ec
        rw [va_s]
        by_cases ep : p = ky w % 2
        · rw [if_pos (by omega), ep, va_s]
        · rw [if_neg (by omega), va_n ep]
          exact hC.fck hc hp
      · rw [if_neg (by omega), va_n ec]
        exact hC.fck hc hp
    · by_cases ez : z = 2 * q + ky w % 2
      · rw [ez, va_s]
        exact hB.app hwl e29 e28
      · rw [va_n ez]
        exact (hC.fwt hz).app_o ez hwl e29 e28
    · by_cases ez : z = 3 * i + q
      · rw [ez, va_s]
        exact hA.rem hj e31 e30
      · rw [va_n ez]
        exact (hC.ffl hz).rem_o ez (by omega) e31 e30
    · rw [g5 33 0 (by decide) (by decide) (by decide) (by decide) (by decide), g5 34 0 (by decide) (by decide) (by decide) (by decide) (by decide), g5 35 0 (by decide) (by decide) (by decide) (by decide) (by decide), g5 36 0 (by decide) (by decide) (by decide) (by decide) (by decide)]
      have hcy := hC.2.2.2.2.2 y hy
      exact ⟨hcy.1, hcy.2.1.ne (g5 32 0 (by decide) (by decide) (by decide) (by decide) (by decide)), hcy.2.2.1.ne (g5 37 0 (by decide) (by decide) (by decide) (by decide) (by decide)), hcy.2.2.2.ne (g5 38 0 (by decide) (by decide) (by decide) (by decide) (by decide))⟩
end
section
/-! The reference's serve. -/
def ssg (c a : Nat) (mu mu' : oMu) : Prop := (∀ t z, ¬ ((t = 26 ∨ t = 29) ∧ z = 0) → mu' t z = mu t z) ∧ (∀ y, ¬ (40 * c ≤ y ∧ y < 40 * c + 40) → mu' 26 0 y = mu 26 0 y) ∧ ∀ y, ¬ (40 * a ≤ y ∧ y < 40 * a + 40) → mu' 29 0 y = mu 29 0 y
theorem ssg.tr {c a : Nat} {x y z : oMu} (h1 : ssg c a x y) (h2 : ssg c a y z) : ssg c a x z := ⟨fun t u h => (h2.1 t u h).trans (h1.1 t u h), fun u h => (h2.2.1 u h).trans (h1.2.1 u h), fun u h => (h2.2.2 u h).trans (h1.2.2 u h)⟩
theorem ssg_rf {c a : Nat} {x : oMu} : ssg c a x x := ⟨fun _ _ _ => rfl, fun _ _ => rfl, fun _ _ => rfl⟩
theorem ssg_26 {c a y : Nat} {v : Int32} {mu mu' : oMu} (h : mu' = up2 mu 26 0 (upd (mu 26 0) (40 * c + y) v)) (hy : y < 40) : ssg c a mu mu' := by
  subst h
  refine ⟨fun t z hz => if_neg (fun q => hz (by omega)), fun u hu => ?_, fun u hu => by rw [up2_t (by decide)]⟩
  have e : ¬ u = 40 * c + y := by omega
  rw [up2_s]
  simp [upd, e]
theorem ssg_29 {c a y : Nat} {v : Int32} {mu mu' : oMu} (h : mu' = up2 mu 29 0 (upd (mu 29 0) (40 * a + y) v)) (hy : y < 40) : ssg c a mu mu' := by
  subst h
  refine ⟨fun t z hz => if_neg (fun q => hz (by omega)), fun u hu => by rw [up2_t (by decide)], fun u hu => ?_⟩
  have e : ¬ u = 40 * a + y := by omega
  rw [up2_s]
  simp [upd, e]
theorem ssg.v {c a : Nat} {mu mu' : oMu} {m : Nat} {ky vr nd : Nat → Nat} {dp : Nat → Nat → Nat} (h : ssg c a mu mu') (hV : vOk mu m ky vr nd dp) : vOk mu' m ky vr nd dp := hV.mv (h.1 20 0 (by decide)) (h.1 21 0 (by decide)) (h.1 23 0 (by decide)) (h.1 24 0 (by decide)) (h.1 25 0 (by decide))
theorem R_serve_b1 {G : oG} {mu : oMu} {Q : oPm} {a b : Int32} (ha : ∀ j, j < 3 → ¬ a = nI j) (k : Q (some (.inl (-1))) mu) : Om G M_N_serve 0 [(0, .inr (some (ad 20 0))), (1, .inl a), (2, .inl b)] [] mu Q := by
  refine o_iload_n dN_serve_0 rfl ?_
  refine o_iconst (nI 3) dN_serve_1 rfl ?_
  refine m_callS M_N_out [.inl a, .inl (nI 3)] [] dN_serve_2 mk_N_out st_N_out ml_N_73 rfl rfl rfl (Nat.le_of_ble_eq_true rfl) rfl ?_
  refine r_out_n (by decide) ha ?_
  show Om G M_N_serve 5 [(0, .inr (some (ad 20 0))), (1, .inl a), (2, .inl b)] [.inl (nI 1)] mu Q
  refine n_if_ne 16 dN_serve_5 rfl (by omega) (fun _ => ?_) (fun h => absurd h (by decide))
  refine o_iconst (-1) dN_serve_16 rfl ?_
  refine m_iret dN_serve_17 rfl ?_
  exact k
theorem R_serve_b2 {G : oG} {mu : oMu} {Q : oPm} {i : Nat} {b : Int32} (hi : i < 3) (hb : ∀ j, j < 2 → ¬ b = nI j) (k : Q (some (.inl (-1))) mu) : Om G M_N_serve 0 [(0, .inr (some (ad 20 0))), (1, .inl (nI i)), (2, .inl b)] [] mu Q := by
  refine o_iload_n dN_serve_0 rfl ?_
  refine o_iconst (nI 3) dN_serve_1 rfl ?_
  refine m_callS M_N_out [.inl (nI i), .inl (nI 3)] [] dN_serve_2 mk_N_out st_N_out ml_N_73 rfl rfl rfl (Nat.le_of_ble_eq_true rfl) rfl ?_
  refine r_out_y (by decide) hi ?_
  show Om G M_N_serve 5 [(0, .inr (some (ad 20 0))), (1, .inl (nI i)), (2, .inl b)] [.inl (nI 0)] mu Q
  refine n_if_ne 16 dN_serve_5 rfl (by omega) (fun h => absurd h (by decide)) (fun _ => ?_)
  refine o_iload_n dN_serve_8 rfl ?_
  refine o_iconst (nI 2) dN_serve_9 rfl ?_
  refine m_callS M_N_out [.inl b, .inl (nI 2)] [] dN_serve_10 mk_N_out st_N_out ml_N_73 rfl rfl rfl (Nat.le_of_ble_eq_true rfl) rfl ?_
  refine r_out_n (by decide) hb ?_
  show Om G M_N_serve 13 [(0, .inr (some (ad 20 0))), (1, .inl (nI i)), (2, .inl b)] [.inl (nI 1)] mu Q
  refine n_if_eq 18 dN_serve_13 rfl (by omega) (fun h => absurd h (by decide)) (fun _ => ?_)
  refine o_iconst (-1) dN_serve_16 rfl ?_
  refine m_iret dN_serve_17 rfl ?_
  exact k
theorem l_rserve {G : oG} {mu : oMu} {Q : oPm} {m : Nat} {ky vr nd : Nat → Nat} {dp : Nat → Nat → Nat} {L : List Nat} {sn0 : Nat → Nat} {i q : Nat} (hV : vOk mu m ky vr nd dp) (hi : i < 3) (hq : q < 2) (hnd : ∀ w, w < m → ∀ k, k < 6 → (nd w).testBit k = true → ¬ dp w k = 0) (hL : ∀ e ∈ L, e < m) (hL4 : L.length ≤ 40) (j : Nat) (hj : j ≤ L.length) (hr1 : ∀ y, y < (svs nd dp L sn0 j).2.length → mu 29 0 (40 * (2 * i + q) + y) = nI ((svs nd dp L sn0 j).2.getD y 0)) (hr2 : ∀ y, j ≤ y → y < L.length → mu 29 0 (40 * (2 * i + q) + y) = nI (L.getD y 0)) (hs : tOk mu i (svs nd dp L sn0 j).1) (k : ∀ mu' : oMu, lineOk mu' 28 29 (2 * i + q) (svs nd dp L sn0 L.length).2 → tOk mu' i (svs nd dp L sn0 L.length).1 → (∀ t z, ¬ ((t = 26 ∨ t = 29) ∧ z = 0) → ¬ (t = 28 ∧ z = 0) → mu' t z = mu t z) → (((∀ y, ¬ (40 * i ≤ y ∧ y < 40 * i + 40) → mu' 26 0 y = mu 26 0 y) ∧ ∀ y, ¬ (40 * (2 * i + q) ≤ y ∧ y < 40 * (2 * i + q) + 40) → mu' 29 0 y = mu 29 0 y) ∧ ∀ y, ¬ y = 2 * i + q → mu' 28 0 y = mu 28 0 y) → Q (some (.inl (nI (L.length - (svs nd dp L sn0 L.length).2.length)))) mu') : Om G M_N_serve 38 [(0, .inr (some (ad 20 0))), (1, .inl (nI i)), (2, .inl (nI q)), (3, .inl (nI (2 * i + q))), (4, .inl (nI ((svs nd dp L sn0 j).2.length))), (5, .inl (nI L.length)), (6, .inl (nI j))] [] mu Q := by
  have hm4 := hV.m4
  refine o_iload dN_serve_38 rfl ?_
  refine o_iload dN_serve_40 rfl ?_
  refine n_icmp_ge 108 dN_serve_42 rfl (by omega) (by omega) (fun hb42 => ?_) (fun hb42 => ?_)
  · skip
    have hj6 : j = L.length := by omega
    refine o_aload_n dN_serve_108 rfl ?_
    refine m_getr dN_serve_109 fl_N_32 rfl rfl (by decide) ?_
    refine o_iload_n dN_serve_112 rfl ?_
    refine o_iload dN_serve_113 rfl ?_
    refine m_iast (2 * i + q) dN_serve_115 rfl rfl rfl (by decide) rfl (by omega) (fun mu1 hmu1 => ?_)
    refine o_iload dN_serve_116 rfl ?_
    refine o_iload dN_serve_118 rfl ?_
    refine o_isub dN_serve_120 ?_
    refine o_top _ (pk_sub (by subst hj6; exact svs_len _)) ?_
    refine m_iret dN_serve_121 rfl ?_
    subst hj6
    have hln := svs_len (nd := nd) (dp := dp) (L := L) (sn := sn0) L.length
    refine k mu1 ⟨by rw [hmu1, up2_s]; simp [upd], by omega, fun y hy => by rw [hmu1, up2_t (by decide)]; exact hr1 y hy⟩ (fun u hu => by rw [hmu1, up2_t (by decide)]; exact hs u hu) (fun t z hz h28 => by rw [hmu1]; exact if_neg h28) ⟨⟨fun y hy => by rw [hmu1, up2_t (by decide)], fun y hy => by rw [hmu1, up2_t (by decide)]⟩, fun y hy => ?_⟩
    rw [hmu1, up2_s]
    simp [upd, hy]
  · skip
    have hln := svs_len (nd := nd) (dp := dp) (L := L) (sn := sn0) j
    have hwm := getD_mem hL hb42
    refine o_aload_n dN_serve_45 rfl ?_
    refine m_getr dN_serve_46 fl_N_35 rfl rfl (by decide) ?_
    refine o_bipush (nI 40) dN_serve_49 rfl ?_
    refine o_iload_n dN_serve_51 rfl ?_
    refine o_imul dN_serve_52 ?_
    refine o_top _ (pk_mul _ _) ?_
    refine o_iload dN_serve_53 rfl ?_
    refine o_iadd dN_serve_55 ?_
    refine o_top _ (nI_add _ _) ?_
    refine m_iald (40 * (2 * i + q) + j) dN_serve_56 rfl rfl rfl (by decide) rfl (by omega) ?_
    refine o_top (nI (L.getD j 0)) (hr2 j (Nat.le_refl _) hb42) ?_
    refine o_istore [(0, _), (1, _), (2, _), (3, _), (4, _), (5, _), (6, _), (7, _)] dN_serve_57 rfl rfl ?_
    refine o_aload_n dN_serve_59 rfl ?_
    refine o_iload_n dN_serve_60 rfl ?_
    refine o_iload dN_serve_61 rfl ?_
    refine m_callV M_N_missing [.inl (nI i), .inl (nI (L.getD j 0))] [] dN_serve_63 mk_N_missing in_N_missing se_N_missing rfl (by decide) rfl rfl ml_N_115 rfl rfl rfl (Nat.le_of_ble_eq_true rfl) rfl ?_
    refine r_missing hV hi hwm hs (hnd _ hwm) ?_
    show Om G M_N_serve 66 [(0, .inr (some (ad 20 0))), (1, .inl (nI i)), (2, .inl (nI q)), (3, .inl (nI (2 * i + q))), (4, .inl (nI ((svs nd dp L sn0 j).2.length))), (5, .inl (nI L.length)), (6, .inl (nI j)), (7, .inl (nI (L.getD j 0)))] [.inl (nI (misN (nd (L.getD j 0)) (dp (L.getD j 0)) (svs nd dp L sn0 j).1 6))] mu Q
    have hmi : misN (nd (L.getD j 0)) (dp (L.getD j 0)) (svs nd dp L sn0 j).1 6 ≤ 6 := misN_le 6
    refine n_if_ne 85 dN_serve_66 rfl (by omega) (fun hb66 => ?_) (fun hb66 => ?_)
    · skip
      refine o_aload_n dN_serve_85 rfl ?_
      refine m_getr dN_serve_86 fl_N_35 rfl rfl (by decide) ?_
      refine o_bipush (nI 40) dN_serve_89 rfl ?_
      refine o_iload_n dN_serve_91 rfl ?_
      refine o_imul dN_serve_92 ?_
      refine o_top _ (pk_mul _ _) ?_
      refine o_iload dN_serve_93 rfl ?_
      refine o_iadd dN_serve_95 ?_
      refine o_top _ (nI_add _ _) ?_
      refine o_iload dN_serve_96 rfl ?_
      refine m_iast (40 * (2 * i + q) + ((svs nd dp L sn0 j).2.length)) dN_serve_98 rfl rfl rfl (by decide) rfl (by omega) (fun mu1 hmu1 => ?_)
      refine o_iinc (nI ((svs nd dp L sn0 j).2.length + 1)) [(0, _), (1, _), (2, _), (3, _), (4, _), (5, _), (6, _), (7, _)] dN_serve_99 rfl (nInc _) rfl rfl ?_
      refine o_iinc (nI (j + 1)) [(0, _), (1, _), (2, _), (3, _), (4, _), (5, _), (6, _), (7, _)] dN_serve_102 rfl (nInc _) rfl rfl ?_
      refine o_goto 38 dN_serve_105 rfl ?_
      refine o_lv [(0, _), (1, _), (2, _), (3, _), (4, _), (5, _), (6, _)] [0, 1, 2, 3, 4, 5, 6] rfl ?_
      have e9 : svs nd dp L sn0 (j + 1) = ((svs nd dp L sn0 j).1, (svs nd dp L sn0 j).2 ++ [L.getD j 0]) := by rw [svs, if_neg hb66]
      have hs1 := ssg_29 (c := i) (a := 2 * i + q) hmu1 (by omega)
      rw [show (svs nd dp L sn0 j).2.length + 1 = (svs nd dp L sn0 (j + 1)).2.length by rw [e9]; simp]
      refine l_rserve (hs1.v hV) hi hq hnd hL hL4 (j + 1) (by omega) (fun y hy => ?_) (fun y hy hy2 => ?_) (fun u hu => ?_) (fun mu' a b c d => k mu' a b (fun t z hz h28 => (c t z hz h28).trans (hs1.1 t z (fun w => hz w))) ?_)
      · rw [e9] at hy ⊢
        have hy2 : y < (svs nd dp L sn0 j).2.length + 1 := by simpa using hy
        show mu1 29 0 (40 * (2 * i + q) + y) = nI (((svs nd dp L sn0 j).2 ++ [L.getD j 0]).getD y 0)
        rw [hmu1, up2_s, getD_snoc]
        by_cases e : y = (svs nd dp L sn0 j).2.length
        · simp [upd, e]
        · have e2 : ¬ 40 * (2 * i + q) + y = 40 * (2 * i + q) + (svs nd dp L sn0 j).2.length := by omega
          have e3 : y < (svs nd dp L sn0 j).2.length := by omega
          simp only [upd, e2, if_false, e3, if_true]
          exact hr1 y e3
      · rw [hmu1, up2_s]
        have e2 : ¬ 40 * (2 * i + q) + y = 40 * (2 * i + q) + (svs nd dp L sn0 j).2.length := by omega
        simp only [upd, e2, if_false]
        exact hr2 y (by omega) hy2
      · rw [e9, hmu1, up2_t (by decide)]
        exact hs u hu
      · exact ⟨⟨fun y hy => (d.1.1 y hy).trans (hs1.2.1 y hy), fun y hy => (d.1.2 y hy).trans (hs1.2.2 y hy)⟩, fun y hy => (d.2 y hy).trans (by rw [hs1.1 28 0 (by decide)])⟩
    · skip
      refine o_aload_n dN_serve_69 rfl ?_
      refine m_getr dN_serve_70 fl_N_25 rfl rfl (by decide) ?_
      refine o_bipush (nI 40) dN_serve_73 rfl ?_
      refine o_iload_n dN_serve_75 rfl ?_
      refine o_imul dN_serve_76 ?_
      refine o_top _ (pk_mul _ _) ?_
      refine o_iload dN_serve_77 rfl ?_
      refine o_iadd dN_serve_79 ?_
      refine o_top _ (nI_add _ _) ?_
      refine o_iconst (nI 1) dN_serve_80 rfl ?_
      refine m_zast (40 * i + (L.getD j 0)) dN_serve_81 rfl rfl rfl (by decide) rfl (by omega) rfl (fun mu1 hmu1 => ?_)
      refine o_goto 102 dN_serve_82 rfl ?_
      refine o_iinc (nI (j + 1)) [(0, _), (1, _), (2, _), (3, _), (4, _), (5, _), (6, _), (7, _)] dN_serve_102 rfl (nInc _) rfl rfl ?_
      refine o_goto 38 dN_serve_105 rfl ?_
      refine o_lv [(0, _), (1, _), (2, _), (3, _), (4, _), (5, _), (6, _)] [0, 1, 2, 3, 4, 5, 6] rfl ?_
      have e9 : svs nd dp L sn0 (j + 1) = (va_up (svs nd dp L sn0 j).1 (L.getD j 0) 1, (svs nd dp L sn0 j).2) := by rw [svs, if_pos hb66]
      have hs1 := ssg_26 (c := i) (a := 2 * i + q) hmu1 (by omega)
      rw [show (svs nd dp L sn0 j).2.length = (svs nd dp L sn0 (j + 1)).2.length by rw [e9]]
      refine l_rserve (hs1.v hV) hi hq hnd hL hL4 (j + 1) (by omega) (fun y hy => ?_) (fun y hy hy2 => ?_) (fun u hu => ?_) (fun mu' a b c d => k mu' a b (fun t z hz h28 => (c t z hz h28).trans (hs1.1 t z (fun w => hz w))) ?_)
      · rw [e9] at hy ⊢
        rw [hmu1, up2_t (by decide)]
        exact hr1 y hy
      · rw [hmu1, up2_t (by decide)]
        exact hr2 y (by omega) hy2
      · rw [e9]
        show mu1 26 0 (40 * i + u) = nI (va_up (svs nd dp L sn0 j).1 (L.getD j 0) 1 u) ∧ va_up (svs nd dp L sn0 j).1 (L.getD j 0) 1 u < 2
        rw [hmu1, up2_s]
        by_cases e : u = L.getD j 0
        · rw [e, va_s]; simp [upd]
        · have e2 : ¬ 40 * i + u = 40 * i + L.getD j 0 := by omega
          rw [va_n e]
          simp only [upd, e2, if_false]
          exact hs u hu
      · exact ⟨⟨fun y hy => (d.1.1 y hy).trans (hs1.2.1 y hy), fun y hy => (d.1.2 y hy).trans (hs1.2.2 y hy)⟩, fun y hy => (d.2 y hy).trans (by rw [hs1.1 28 0 (by decide)])⟩
termination_by L.length - j
theorem R_serve {G : oG} {mu : oMu} {Q : oPm} {m : Nat} {ky vr nd : Nat → Nat} {dp : Nat → Nat → Nat} {vl : Nat → Int32} {sn ck : Nat → Nat → Nat} {wt fl : Nat → List Nat} {x h d : Nat → Nat → Nat} {s l r ph : Nat → Nat} (hC : ReR mu m ky vr nd dp vl sn ck wt fl x h d s l r ph) {i q : Nat} (hi : i < 3) (hq : q < 2) (hnd : ∀ w, w < m → ∀ k, k < 6 → (nd w).testBit k = true → ¬ dp w k = 0) (hL : ∀ e ∈ wt (2 * i + q), e < m) (k : ∀ mu' : oMu, ReR mu' m ky vr nd dp vl (va_up sn i (svs nd dp (wt (2 * i + q)) (sn i) (wt (2 * i + q)).length).1) ck (va_up wt (2 * i + q) (svs nd dp (wt (2 * i + q)) (sn i) (wt (2 * i + q)).length).2) fl x h d s l r ph → mlt mu mu' → Q (some (.inl (nI ((wt (2 * i + q)).length - (svs nd dp (wt (2 * i + q)) (sn i) (wt (2 * i + q)).length).2.length)))) mu') : Om G M_N_serve 0 [(0, .inr (some (ad 20 0))), (1, .inl (nI i)), (2, .inl (nI q))] [] mu Q := by
  refine o_iload_n dN_serve_0 rfl ?_
  refine o_iconst (nI 3) dN_serve_1 rfl ?_
  refine m_callS M_N_out [.inl (nI i), .inl (nI 3)] [] dN_serve_2 mk_N_out st_N_out ml_N_73 rfl rfl rfl (Nat.le_of_ble_eq_true rfl) rfl ?_
  refine r_out_y (by decide) hi ?_
  show Om G M_N_serve 5 [(0, .inr (some (ad 20 0))), (1, .inl (nI i)), (2, .inl (nI q))] [.inl (nI 0)] mu Q
  refine n_if_ne 16 dN_serve_5 rfl (by omega) (fun h => absurd h (by decide)) (fun _ => ?_)
  refine o_iload_n dN_serve_8 rfl ?_
  refine o_iconst (nI 2) dN_serve_9 rfl ?_
  refine m_callS M_N_out [.inl (nI q), .inl (nI 2)] [] dN_serve_10 mk_N_out st_N_out ml_N_73 rfl rfl rfl (Nat.le_of_ble_eq_true rfl) rfl ?_
  refine r_out_y (by decide) hq ?_
  show Om G M_N_serve 13 [(0, .inr (some (ad 20 0))), (1, .inl (nI i)), (2, .inl (nI q))] [.inl (nI 0)] mu Q
  refine n_if_eq 18 dN_serve_13 rfl (by omega) (fun _ => ?_) (fun h => absurd h (by decide))
  refine o_iconst (nI 2) dN_serve_18 rfl ?_
  refine o_iload_n dN_serve_19 rfl ?_
  refine o_imul dN_serve_20 ?_
  refine o_top _ (pk_mul _ _) ?_
  refine o_iload_n dN_serve_21 rfl ?_
  refine o_iadd dN_serve_22 ?_
  refine o_top _ (nI_add _ _) ?_
  refine o_istore_n [(0, _), (1, _), (2, _), (3, _)] dN_serve_23 rfl rfl ?_
  refine o_iconst (nI 0) dN_serve_24 rfl ?_
  refine o_istore [(0, _), (1, _), (2, _), (3, _), (4, _)] dN_serve_25 rfl rfl ?_
  refine o_aload_n dN_serve_27 rfl ?_
  refine m_getr dN_serve_28 fl_N_32 rfl rfl (by decide) ?_
  refine o_iload_n dN_serve_31 rfl ?_
  refine m_iald (2 * i + q) dN_serve_32 rfl rfl rfl (by decide) rfl (by omega) ?_
  refine o_top (nI ((wt (2 * i + q)).length)) (hC.fwt (by omega)).1 ?_
  refine o_istore [(0, _), (1, _), (2, _), (3, _), (4, _), (5, _)] dN_serve_33 rfl rfl ?_
  refine o_iconst (nI 0) dN_serve_35 rfl ?_
  refine o_istore [(0, _), (1, _), (2, _), (3, _), (4, _), (5, _), (6, _)] dN_serve_36 rfl rfl ?_
  refine l_rserve hC.fw hi hq hnd hL (hC.fwt (show 2 * i + q < 6 by omega)).2.1 0 (Nat.zero_le _) (fun y hy => absurd hy (by simp [svs])) (fun y _ hy => (hC.fwt (show 2 * i + q < 6 by omega)).2.2 y hy) (hC.fsn hi) (fun mu1 hl1 ht1 hn1 hg1 => ?_)
  have g : ∀ t, ¬ t = 26 → ¬ t = 29 → ¬ t = 28 → mu1 t 0 = mu t 0 := fun t a b c => hn1 t 0 (fun z => by omega) (fun z => by omega)
  refine k mu1 ⟨hC.fw.mv (g 20 (by decide) (by decide) (by decide)) (g 21 (by decide) (by decide) (by decide)) (g 23 (by decide) (by decide) (by decide)) (g 24 (by decide) (by decide) (by decide)) (g 25 (by decide) (by decide) (by decide)), fun u hu => by rw [g 22 (by decide) (by decide) (by decide)]; exact hC.fv hu, fun c hc => ⟨?_, fun p hp => by rw [g 27 (by decide) (by decide) (by decide)]; exact hC.fck hc hp⟩, fun z hz => ?_, fun z hz => (hC.ffl hz).mv (g 30 (by decide) (by decide) (by decide)) (g 31 (by decide) (by decide) (by decide)), fun y hy => ?_⟩ (fun t z ht => hn1 t z (by omega) (by omega))
  · by_cases ec : c = i
    · subst ec
      rw [va_s]
      exact ht1
    · rw [va_n ec]
      intro u hu
      rw [hg1.1.1 _ (by omega)]
      exact hC.fsn hc u hu
  · by_cases ez : z = 2 * i + q
    · rw [ez, va_s]
      exact hl1
    · rw [va_n ez]
      have hz9 := hC.fwt hz
      refine ⟨by rw [hg1.2 z ez]; exact hz9.1, hz9.2.1, fun y hy => ?_⟩
      have := hz9.2.1
      rw [hg1.1.2 _ (by omega)]
      exact hz9.2.2 y hy
  · rw [g 33 (by decide) (by decide) (by decide), g 34 (by decide) (by decide) (by decide), g 35 (by decide) (by decide) (by decide), g 36 (by decide) (by decide) (by decide)]
    have hcy := hC.2.2.2.2.2 y hy
    exact ⟨hcy.1, hcy.2.1.ne (g 32 (by decide) (by decide) (by decide)), hcy.2.2.1.ne (g 37 (by decide) (by decide) (by decide)), hcy.2.2.2.ne (g 38 (by decide) (by decide) (by decide))⟩
end
