section
-- ===== PART A: goes FIRST, ahead of the names: the tables' words, and 'selects' of the private methods out of them =====
/-- a private method of a class that the tables say can be made, by its rows of tables_1 -/
def lw_okq (q : MethodName × Nat) : Prop := (q.1.cls ≠ "java/lang/invoke/MethodHandle" ∧ q.1.cls ≠ "java/lang/invoke/VarHandle") ∧ Cond.instantiable q.1.cls q.2 ∈ tables_1 ∧ Cond.privateMethod q.1 ∈ tables_1 ∧ Cond.instanceMethod q.1 ∈ tables_1
theorem lw_p0 : lw_okq (⟨"CausalStore$Client", "isOpen", "()Z"⟩, 7) := ⟨⟨by decide +kernel, by decide +kernel⟩, List.mem_of_getElem? (i := 102) (by decide +kernel), List.mem_of_getElem? (i := 165) (by decide +kernel), List.mem_of_getElem? (i := 166) (by decide +kernel)⟩
theorem lw_p1 : lw_okq (⟨"CausalStore", "tick", "(LCausalStore$Client;I)I"⟩, 5) := ⟨⟨by decide +kernel, by decide +kernel⟩, List.mem_of_getElem? (i := 12) (by decide +kernel), List.mem_of_getElem? (i := 169) (by decide +kernel), List.mem_of_getElem? (i := 170) (by decide +kernel)⟩
theorem lw_p2 : lw_okq (⟨"CausalStore", "isWrite", "(I)Z"⟩, 5) := ⟨⟨by decide +kernel, by decide +kernel⟩, List.mem_of_getElem? (i := 12) (by decide +kernel), List.mem_of_getElem? (i := 173) (by decide +kernel), List.mem_of_getElem? (i := 174) (by decide +kernel)⟩
theorem lw_p3 : lw_okq (⟨"CausalStore$Write", "fill", "(IIII)V"⟩, 6) := ⟨⟨by decide +kernel, by decide +kernel⟩, List.mem_of_getElem? (i := 27) (by decide +kernel), List.mem_of_getElem? (i := 180) (by decide +kernel), List.mem_of_getElem? (i := 181) (by decide +kernel)⟩
theorem lw_p4 : lw_okq (⟨"CausalStore", "nearestKeys", "([I)I"⟩, 5) := ⟨⟨by decide +kernel, by decide +kernel⟩, List.mem_of_getElem? (i := 12) (by decide +kernel), List.mem_of_getElem? (i := 184) (by decide +kernel), List.mem_of_getElem? (i := 185) (by decide +kernel)⟩
theorem lw_p5 : lw_okq (⟨"CausalStore", "isCovered", "([II)Z"⟩, 5) := ⟨⟨by decide +kernel, by decide +kernel⟩, List.mem_of_getElem? (i := 12) (by decide +kernel), List.mem_of_getElem? (i := 188) (by decide +kernel), List.mem_of_getElem? (i := 189) (by decide +kernel)⟩
theorem lw_p6 : lw_okq (⟨"CausalStore$Write", "dependOn", "([II)V"⟩, 6) := ⟨⟨by decide +kernel, by decide +kernel⟩, List.mem_of_getElem? (i := 27) (by decide +kernel), List.mem_of_getElem? (i := 192) (by decide +kernel), List.mem_of_getElem? (i := 193) (by decide +kernel)⟩
theorem lw_p7 : lw_okq (⟨"CausalStore", "show", "(II)V"⟩, 5) := ⟨⟨by decide +kernel, by decide +kernel⟩, List.mem_of_getElem? (i := 12) (by decide +kernel), List.mem_of_getElem? (i := 199) (by decide +kernel), List.mem_of_getElem? (i := 200) (by decide +kernel)⟩
theorem lw_p8 : lw_okq (⟨"CausalStore", "greater", "(II)I"⟩, 5) := ⟨⟨by decide +kernel, by decide +kernel⟩, List.mem_of_getElem? (i := 12) (by decide +kernel), List.mem_of_getElem? (i := 203) (by decide +kernel), List.mem_of_getElem? (i := 204) (by decide +kernel)⟩
theorem lw_p9 : lw_okq (⟨"CausalStore", "send", "(II)V"⟩, 5) := ⟨⟨by decide +kernel, by decide +kernel⟩, List.mem_of_getElem? (i := 12) (by decide +kernel), List.mem_of_getElem? (i := 207) (by decide +kernel), List.mem_of_getElem? (i := 208) (by decide +kernel)⟩
theorem lw_p10 : lw_okq (⟨"CausalStore$Row", "append", "(I)V"⟩, 2) := ⟨⟨by decide +kernel, by decide +kernel⟩, List.mem_of_getElem? (i := 71) (by decide +kernel), List.mem_of_getElem? (i := 211) (by decide +kernel), List.mem_of_getElem? (i := 212) (by decide +kernel)⟩
theorem lw_p11 : lw_okq (⟨"CausalStore", "see", "(LCausalStore$Client;I)V"⟩, 5) := ⟨⟨by decide +kernel, by decide +kernel⟩, List.mem_of_getElem? (i := 12) (by decide +kernel), List.mem_of_getElem? (i := 215) (by decide +kernel), List.mem_of_getElem? (i := 216) (by decide +kernel)⟩
theorem lw_p12 : lw_okq (⟨"CausalStore$Client", "open", "(I)V"⟩, 7) := ⟨⟨by decide +kernel, by decide +kernel⟩, List.mem_of_getElem? (i := 102) (by decide +kernel), List.mem_of_getElem? (i := 227) (by decide +kernel), List.mem_of_getElem? (i := 228) (by decide +kernel)⟩
theorem lw_p13 : lw_okq (⟨"CausalStore", "readLowestKey", "(LCausalStore$Client;)V"⟩, 5) := ⟨⟨by decide +kernel, by decide +kernel⟩, List.mem_of_getElem? (i := 12) (by decide +kernel), List.mem_of_getElem? (i := 236) (by decide +kernel), List.mem_of_getElem? (i := 237) (by decide +kernel)⟩
theorem lw_p14 : lw_okq (⟨"CausalStore", "prepareSecondRound", "(LCausalStore$Client;)V"⟩, 5) := ⟨⟨by decide +kernel, by decide +kernel⟩, List.mem_of_getElem? (i := 12) (by decide +kernel), List.mem_of_getElem? (i := 243) (by decide +kernel), List.mem_of_getElem? (i := 244) (by decide +kernel)⟩
theorem lw_p15 : lw_okq (⟨"CausalStore", "dueWrite", "([II)I"⟩, 5) := ⟨⟨by decide +kernel, by decide +kernel⟩, List.mem_of_getElem? (i := 12) (by decide +kernel), List.mem_of_getElem? (i := 247) (by decide +kernel), List.mem_of_getElem? (i := 248) (by decide +kernel)⟩
def lw_privs_1 : List (MethodName × Nat) := [(⟨"CausalStore$Client", "isOpen", "()Z"⟩, 7), (⟨"CausalStore", "tick", "(LCausalStore$Client;I)I"⟩, 5), (⟨"CausalStore", "isWrite", "(I)Z"⟩, 5), (⟨"CausalStore$Write", "fill", "(IIII)V"⟩, 6), (⟨"CausalStore", "nearestKeys", "([I)I"⟩, 5), (⟨"CausalStore", "isCovered", "([II)Z"⟩, 5), (⟨"CausalStore$Write", "dependOn", "([II)V"⟩, 6), (⟨"CausalStore", "show", "(II)V"⟩, 5), (⟨"CausalStore", "greater", "(II)I"⟩, 5), (⟨"CausalStore", "send", "(II)V"⟩, 5), (⟨"CausalStore$Row", "append", "(I)V"⟩, 2), (⟨"CausalStore", "see", "(LCausalStore$Client;I)V"⟩, 5), (⟨"CausalStore$Client", "open", "(I)V"⟩, 7), (⟨"CausalStore", "readLowestKey", "(LCausalStore$Client;)V"⟩, 5), (⟨"CausalStore", "prepareSecondRound", "(LCausalStore$Client;)V"⟩, 5), (⟨"CausalStore", "dueWrite", "([II)I"⟩, 5)]
theorem lw_r1 : ∀ q ∈ lw_privs_1, lw_okq q := List.forall_mem_cons.mpr ⟨lw_p0, List.forall_mem_cons.mpr ⟨lw_p1, List.forall_mem_cons.mpr ⟨lw_p2, List.forall_mem_cons.mpr ⟨lw_p3, List.forall_mem_cons.mpr ⟨lw_p4, List.forall_mem_cons.mpr ⟨lw_p5, List.forall_mem_cons.mpr ⟨lw_p6, List.forall_mem_cons.mpr ⟨lw_p7, List.forall_mem_cons.mpr ⟨lw_p8, List.forall_mem_cons.mpr ⟨lw_p9, List.forall_mem_cons.mpr ⟨lw_p10, List.forall_mem_cons.mpr ⟨lw_p11, List.forall_mem_cons.mpr ⟨lw_p12, List.forall_mem_cons.mpr ⟨lw_p13, List.forall_mem_cons.mpr ⟨lw_p14, List.forall_mem_cons.mpr ⟨lw_p15, fun _ h => absurd h List.not_mem_nil⟩⟩⟩⟩⟩⟩⟩⟩⟩⟩⟩⟩⟩⟩⟩⟩
theorem lw_p16 : lw_okq (⟨"CausalStore", "seeFetched", "(LCausalStore$Client;)V"⟩, 5) := ⟨⟨by decide +kernel, by decide +kernel⟩, List.mem_of_getElem? (i := 12) (by decide +kernel), List.mem_of_getElem? (i := 251) (by decide +kernel), List.mem_of_getElem? (i := 252) (by decide +kernel)⟩
theorem lw_p17 : lw_okq (⟨"CausalStore$Row", "at", "(I)I"⟩, 2) := ⟨⟨by decide +kernel, by decide +kernel⟩, List.mem_of_getElem? (i := 71) (by decide +kernel), List.mem_of_getElem? (i := 280) (by decide +kernel), List.mem_of_getElem? (i := 281) (by decide +kernel)⟩
theorem lw_p18 : lw_okq (⟨"CausalStore$Row", "removeAt", "(I)V"⟩, 2) := ⟨⟨by decide +kernel, by decide +kernel⟩, List.mem_of_getElem? (i := 71) (by decide +kernel), List.mem_of_getElem? (i := 284) (by decide +kernel), List.mem_of_getElem? (i := 285) (by decide +kernel)⟩
theorem lw_p19 : lw_okq (⟨"CausalStore", "missingNeeds", "(II)I"⟩, 5) := ⟨⟨by decide +kernel, by decide +kernel⟩, List.mem_of_getElem? (i := 12) (by decide +kernel), List.mem_of_getElem? (i := 296) (by decide +kernel), List.mem_of_getElem? (i := 297) (by decide +kernel)⟩
theorem lw_p20 : lw_okq (⟨"CausalStoreModel", "open", "(I)Z"⟩, 19) := ⟨⟨by decide +kernel, by decide +kernel⟩, List.mem_of_getElem? (i := 342) (by decide +kernel), List.mem_of_getElem? (i := 413) (by decide +kernel), List.mem_of_getElem? (i := 414) (by decide +kernel)⟩
theorem lw_p21 : lw_okq (⟨"CausalStoreModel", "near", "(I)I"⟩, 19) := ⟨⟨by decide +kernel, by decide +kernel⟩, List.mem_of_getElem? (i := 342) (by decide +kernel), List.mem_of_getElem? (i := 417) (by decide +kernel), List.mem_of_getElem? (i := 418) (by decide +kernel)⟩
theorem lw_p22 : lw_okq (⟨"CausalStoreModel", "send", "(III)V"⟩, 19) := ⟨⟨by decide +kernel, by decide +kernel⟩, List.mem_of_getElem? (i := 342) (by decide +kernel), List.mem_of_getElem? (i := 421) (by decide +kernel), List.mem_of_getElem? (i := 422) (by decide +kernel)⟩
theorem lw_p23 : lw_okq (⟨"CausalStoreModel", "see", "(II)V"⟩, 19) := ⟨⟨by decide +kernel, by decide +kernel⟩, List.mem_of_getElem? (i := 342) (by decide +kernel), List.mem_of_getElem? (i := 425) (by decide +kernel), List.mem_of_getElem? (i := 426) (by decide +kernel)⟩
theorem lw_p24 : lw_okq (⟨"CausalStoreModel", "greater", "(II)I"⟩, 19) := ⟨⟨by decide +kernel, by decide +kernel⟩, List.mem_of_getElem? (i := 342) (by decide +kernel), List.mem_of_getElem? (i := 429) (by decide +kernel), List.mem_of_getElem? (i := 430) (by decide +kernel)⟩
theorem lw_p25 : lw_okq (⟨"CausalStoreModel", "latestOf", "(II)I"⟩, 19) := ⟨⟨by decide +kernel, by decide +kernel⟩, List.mem_of_getElem? (i := 342) (by decide +kernel), List.mem_of_getElem? (i := 437) (by decide +kernel), List.mem_of_getElem? (i := 438) (by decide +kernel)⟩
theorem lw_p26 : lw_okq (⟨"CausalStoreModel", "second", "(I)V"⟩, 19) := ⟨⟨by decide +kernel, by decide +kernel⟩, List.mem_of_getElem? (i := 342) (by decide +kernel), List.mem_of_getElem? (i := 452) (by decide +kernel), List.mem_of_getElem? (i := 453) (by decide +kernel)⟩
theorem lw_p27 : lw_okq (⟨"CausalStoreModel", "due", "(II)I"⟩, 19) := ⟨⟨by decide +kernel, by decide +kernel⟩, List.mem_of_getElem? (i := 342) (by decide +kernel), List.mem_of_getElem? (i := 456) (by decide +kernel), List.mem_of_getElem? (i := 457) (by decide +kernel)⟩
theorem lw_p28 : lw_okq (⟨"CausalStoreModel", "finish", "(I)V"⟩, 19) := ⟨⟨by decide +kernel, by decide +kernel⟩, List.mem_of_getElem? (i := 342) (by decide +kernel), List.mem_of_getElem? (i := 460) (by decide +kernel), List.mem_of_getElem? (i := 461) (by decide +kernel)⟩
theorem lw_p29 : lw_okq (⟨"CausalStoreModel", "link", "(II)Z"⟩, 19) := ⟨⟨by decide +kernel, by decide +kernel⟩, List.mem_of_getElem? (i := 342) (by decide +kernel), List.mem_of_getElem? (i := 479) (by decide +kernel), List.mem_of_getElem? (i := 480) (by decide +kernel)⟩
theorem lw_p30 : lw_okq (⟨"CausalStoreModel", "missing", "(II)I"⟩, 19) := ⟨⟨by decide +kernel, by decide +kernel⟩, List.mem_of_getElem? (i := 342) (by decide +kernel), List.mem_of_getElem? (i := 487) (by decide +kernel), List.mem_of_getElem? (i := 488) (by decide +kernel)⟩
def lw_privs_2 : List (MethodName × Nat) := [(⟨"CausalStore", "seeFetched", "(LCausalStore$Client;)V"⟩, 5), (⟨"CausalStore$Row", "at", "(I)I"⟩, 2), (⟨"CausalStore$Row", "removeAt", "(I)V"⟩, 2), (⟨"CausalStore", "missingNeeds", "(II)I"⟩, 5), (⟨"CausalStoreModel", "open", "(I)Z"⟩, 19), (⟨"CausalStoreModel", "near", "(I)I"⟩, 19), (⟨"CausalStoreModel", "send", "(III)V"⟩, 19), (⟨"CausalStoreModel", "see", "(II)V"⟩, 19), (⟨"CausalStoreModel", "greater", "(II)I"⟩, 19), (⟨"CausalStoreModel", "latestOf", "(II)I"⟩, 19), (⟨"CausalStoreModel", "second", "(I)V"⟩, 19), (⟨"CausalStoreModel", "due", "(II)I"⟩, 19), (⟨"CausalStoreModel", "finish", "(I)V"⟩, 19), (⟨"CausalStoreModel", "link", "(II)Z"⟩, 19), (⟨"CausalStoreModel", "missing", "(II)I"⟩, 19)]
theorem lw_r2 : ∀ q ∈ lw_privs_2, lw_okq q := List.forall_mem_cons.mpr ⟨lw_p16, List.forall_mem_cons.mpr ⟨lw_p17, List.forall_mem_cons.mpr ⟨lw_p18, List.forall_mem_cons.mpr ⟨lw_p19, List.forall_mem_cons.mpr ⟨lw_p20, List.forall_mem_cons.mpr ⟨lw_p21, List.forall_mem_cons.mpr ⟨lw_p22, List.forall_mem_cons.mpr ⟨lw_p23, List.forall_mem_cons.mpr ⟨lw_p24, List.forall_mem_cons.mpr ⟨lw_p25, List.forall_mem_cons.mpr ⟨lw_p26, List.forall_mem_cons.mpr ⟨lw_p27, List.forall_mem_cons.mpr ⟨lw_p28, List.forall_mem_cons.mpr ⟨lw_p29, List.forall_mem_cons.mpr ⟨lw_p30, fun _ h => absurd h List.not_mem_nil⟩⟩⟩⟩⟩⟩⟩⟩⟩⟩⟩⟩⟩⟩⟩
def lw_privs : List (MethodName × Nat) := lw_privs_1 ++ (lw_privs_2)
def lw_tbl : List Cond := k2_sels lw_privs ++ tables_1
theorem lw_privs_ok : ∀ q ∈ lw_privs, lw_okq q := by
  show ∀ q ∈ lw_privs_1 ++ (lw_privs_2), lw_okq q
  exact List.forall_mem_append.mpr ⟨lw_r1, lw_r2⟩
end
section
/-! Names: classes, their fields, methods, code. -/
def RS : String := "CausalStore"
def TS : u_T := fun k => match k with
  | 0 => ("CausalStore", "writes", "[LCausalStore$Write;", true)
  | 1 => ("CausalStore", "centers", "[LCausalStore$Center;", true)
  | 2 => ("CausalStore", "clients", "[LCausalStore$Client;", true)
  | 3 => ("CausalStore", "flights", "[LCausalStore$Row;", true)
  | _ => ("CausalStore", "made", "I", false)
def tyS : Nat → FieldType := fun k => match k with
  | 0 => .array (.object "CausalStore$Write")
  | 1 => .array (.object "CausalStore$Center")
  | 2 => .array (.object "CausalStore$Client")
  | 3 => .array (.object "CausalStore$Row")
  | _ => .int
abbrev wsS0 : List Cond := u_ws RS TS 5
theorem nmS : ∀ a, a < 5 → ∀ b, b < 5 → a ≠ b → (TS a).2.1 ≠ (TS b).2.1 := by decide +kernel
theorem tyS_ok : ∀ k, k < 5 → parseFieldDescriptor (TS k).2.2.1 = some (tyS k) := by decide +kernel
theorem inS : ∀ w ∈ wsS0, w ∈ tables_1 := by decide +kernel
def RW : String := "CausalStore$Write"
def TW : u_T := fun k => match k with
  | 0 => ("CausalStore$Write", "depends", "[I", true)
  | 1 => ("CausalStore$Write", "key", "I", false)
  | 2 => ("CausalStore$Write", "value", "I", false)
  | 3 => ("CausalStore$Write", "time", "I", false)
  | 4 => ("CausalStore$Write", "version", "I", false)
  | _ => ("CausalStore$Write", "needs", "I", false)
def tyW : Nat → FieldType := fun k => match k with
  | 0 => .array .int
  | 1 => .int
  | 2 => .int
  | 3 => .int
  | 4 => .int
  | _ => .int
abbrev wsW0 : List Cond := u_ws RW TW 6
theorem nmW : ∀ a, a < 6 → ∀ b, b < 6 → a ≠ b → (TW a).2.1 ≠ (TW b).2.1 := by decide +kernel
theorem tyW_ok : ∀ k, k < 6 → parseFieldDescriptor (TW k).2.2.1 = some (tyW k) := by decide +kernel
theorem inW : ∀ w ∈ wsW0, w ∈ tables_1 := by decide +kernel
def RC : String := "CausalStore$Center"
def TC : u_T := fun k => match k with
  | 0 => ("CausalStore$Center", "shows", "[Z", true)
  | 1 => ("CausalStore$Center", "newest", "[I", true)
  | 2 => ("CausalStore$Center", "clocks", "[I", true)
  | _ => ("CausalStore$Center", "waiting", "[LCausalStore$Row;", true)
def tyC : Nat → FieldType := fun k => match k with
  | 0 => .array .boolean
  | 1 => .array .int
  | 2 => .array .int
  | _ => .array (.object "CausalStore$Row")
abbrev wsC0 : List Cond := u_ws RC TC 4
theorem nmC : ∀ a, a < 4 → ∀ b, b < 4 → a ≠ b → (TC a).2.1 ≠ (TC b).2.1 := by decide +kernel
theorem tyC_ok : ∀ k, k < 4 → parseFieldDescriptor (TC k).2.2.1 = some (tyC k) := by decide +kernel
theorem inC : ∀ w ∈ wsC0, w ∈ tables_1 := by decide +kernel
def RK : String := "CausalStore$Client"
def TK : u_T := fun k => match k with
  | 0 => ("CausalStore$Client", "center", "I", true)
  | 1 => ("CausalStore$Client", "depends", "[I", true)
  | 2 => ("CausalStore$Client", "fetched", "[I", true)
  | 3 => ("CausalStore$Client", "due", "[I", true)
  | 4 => ("CausalStore$Client", "set", "I", false)
  | 5 => ("CausalStore$Client", "left", "I", false)
  | _ => ("CausalStore$Client", "round", "I", false)
def tyK : Nat → FieldType := fun k => match k with
  | 0 => .int
  | 1 => .array .int
  | 2 => .array .int
  | 3 => .array .int
  | 4 => .int
  | 5 => .int
  | _ => .int
abbrev wsK0 : List Cond := u_ws RK TK 7
theorem nmK : ∀ a, a < 7 → ∀ b, b < 7 → a ≠ b → (TK a).2.1 ≠ (TK b).2.1 := by decide +kernel
theorem tyK_ok : ∀ k, k < 7 → parseFieldDescriptor (TK k).2.2.1 = some (tyK k) := by decide +kernel
theorem inK : ∀ w ∈ wsK0, w ∈ tables_1 := by decide +kernel
def RR : String := "CausalStore$Row"
def TR : u_T := fun k => match k with
  | 0 => ("CausalStore$Row", "writes", "[I", true)
  | _ => ("CausalStore$Row", "size", "I", false)
def tyR : Nat → FieldType := fun k => match k with
  | 0 => .array .int
  | _ => .int
abbrev wsR0 : List Cond := u_ws RR TR 2
theorem nmR : ∀ a, a < 2 → ∀ b, b < 2 → a ≠ b → (TR a).2.1 ≠ (TR b).2.1 := by decide +kernel
theorem tyR_ok : ∀ k, k < 2 → parseFieldDescriptor (TR k).2.2.1 = some (tyR k) := by decide +kernel
theorem inR : ∀ w ∈ wsR0, w ∈ tables_1 := by decide +kernel
def RN : String := "CausalStoreModel"
def TN : u_T := fun k => match k with
  | 0 => ("CausalStoreModel", "writes", "I", false)
  | 1 => ("CausalStoreModel", "keyOf", "[I", true)
  | 2 => ("CausalStoreModel", "valueOf", "[I", true)
  | 3 => ("CausalStoreModel", "version", "[I", true)
  | 4 => ("CausalStoreModel", "depends", "[I", true)
  | 5 => ("CausalStoreModel", "needs", "[I", true)
  | 6 => ("CausalStoreModel", "seen", "[Z", true)
  | 7 => ("CausalStoreModel", "clocks", "[I", true)
  | 8 => ("CausalStoreModel", "waiting", "[I", true)
  | 9 => ("CausalStoreModel", "row", "[I", true)
  | 10 => ("CausalStoreModel", "flying", "[I", true)
  | 11 => ("CausalStoreModel", "air", "[I", true)
  | 12 => ("CausalStoreModel", "context", "[I", true)
  | 13 => ("CausalStoreModel", "phase", "[I", true)
  | 14 => ("CausalStoreModel", "set", "[I", true)
  | 15 => ("CausalStoreModel", "round", "[I", true)
  | 16 => ("CausalStoreModel", "left", "[I", true)
  | 17 => ("CausalStoreModel", "have", "[I", true)
  | _ => ("CausalStoreModel", "owed", "[I", true)
def tyN : Nat → FieldType := fun k => match k with
  | 0 => .int
  | 1 => .array .int
  | 2 => .array .int
  | 3 => .array .int
  | 4 => .array .int
  | 5 => .array .int
  | 6 => .array .boolean
  | 7 => .array .int
  | 8 => .array .int
  | 9 => .array .int
  | 10 => .array .int
  | 11 => .array .int
  | 12 => .array .int
  | 13 => .array .int
  | 14 => .array .int
  | 15 => .array .int
  | 16 => .array .int
  | 17 => .array .int
  | _ => .array .int
abbrev wsN0 : List Cond := u_ws RN TN 19
theorem nmN : ∀ a, a < 19 → ∀ b, b < 19 → a ≠ b → (TN a).2.1 ≠ (TN b).2.1 := by decide +kernel
theorem tyN_ok : ∀ k, k < 19 → parseFieldDescriptor (TN k).2.2.1 = some (tyN k) := by decide +kernel
theorem inN : ∀ w ∈ wsN0, w ∈ tables_1 := by decide +kernel
def RL : String := "CausalStoreLaw"
def RJI : String := "java/lang/Integer"
def RJA : String := "java/util/Arrays"
abbrev cS_init : ByteArray := prog_1_method_1_code
def yS_init : MethodName := ⟨RS, "<init>", "()V"⟩
-- .code yS_init cS_init 2 none
abbrev cW_init : ByteArray := prog_5_method_1_code
def yW_init : MethodName := ⟨RW, "<init>", "()V"⟩
-- .code yW_init cW_init 1 none
abbrev cS_noWrites : ByteArray := prog_1_method_39_code
def yS_noWrites : MethodName := ⟨RS, "noWrites", "()[I"⟩
-- .code yS_noWrites cS_noWrites 1 (some (.array .int))
abbrev cJA_fill : ByteArray := prog_11_method_103_code
def yJA_fill : MethodName := ⟨RJA, "fill", "([II)V"⟩
-- .code yJA_fill cJA_fill 4 none
abbrev cC_init : ByteArray := prog_2_method_1_code
def yC_init : MethodName := ⟨RC, "<init>", "()V"⟩
-- .code yC_init cC_init 2 none
abbrev cR_init : ByteArray := prog_4_method_1_code
def yR_init : MethodName := ⟨RR, "<init>", "()V"⟩
-- .code yR_init cR_init 1 none
abbrev cK_init : ByteArray := prog_3_method_1_code
def yK_init : MethodName := ⟨RK, "<init>", "(I)V"⟩
-- .code yK_init cK_init 2 none
abbrev cS_put : ByteArray := prog_1_method_2_code
def yS_put : MethodName := ⟨RS, "put", "(III)I"⟩
-- .code yS_put cS_put 7 (some .int)
abbrev cS_isClient : ByteArray := prog_1_method_21_code
def yS_isClient : MethodName := ⟨RS, "isClient", "(I)Z"⟩
-- .code yS_isClient cS_isClient 1 (some .boolean)
abbrev cS_isKey : ByteArray := prog_1_method_22_code
def yS_isKey : MethodName := ⟨RS, "isKey", "(I)Z"⟩
-- .code yS_isKey cS_isKey 1 (some .boolean)
abbrev cK_isOpen : ByteArray := prog_3_method_2_code
def yK_isOpen : MethodName := ⟨RK, "isOpen", "()Z"⟩
-- .code yK_isOpen cK_isOpen 1 (some .boolean)
abbrev cS_tick : ByteArray := prog_1_method_27_code
def yS_tick : MethodName := ⟨RS, "tick", "(LCausalStore$Client;I)I"⟩
-- .code yS_tick cS_tick 7 (some .int)
abbrev cS_isWrite : ByteArray := prog_1_method_25_code
def yS_isWrite : MethodName := ⟨RS, "isWrite", "(I)Z"⟩
-- .code yS_isWrite cS_isWrite 2 (some .boolean)
abbrev cW_fill : ByteArray := prog_5_method_2_code
def yW_fill : MethodName := ⟨RW, "fill", "(IIII)V"⟩
-- .code yW_fill cW_fill 5 none
abbrev cS_nearestKeys : ByteArray := prog_1_method_32_code
def yS_nearestKeys : MethodName := ⟨RS, "nearestKeys", "([I)I"⟩
-- .code yS_nearestKeys cS_nearestKeys 4 (some .int)
abbrev cS_isCovered : ByteArray := prog_1_method_33_code
def yS_isCovered : MethodName := ⟨RS, "isCovered", "([II)Z"⟩
-- .code yS_isCovered cS_isCovered 5 (some .boolean)
abbrev cW_dependOn : ByteArray := prog_5_method_3_code
def yW_dependOn : MethodName := ⟨RW, "dependOn", "([II)V"⟩
-- .code yW_dependOn cW_dependOn 3 none
abbrev cS_show : ByteArray := prog_1_method_28_code
def yS_show : MethodName := ⟨RS, "show", "(II)V"⟩
-- .code yS_show cS_show 5 none
abbrev cS_greater : ByteArray := prog_1_method_31_code
def yS_greater : MethodName := ⟨RS, "greater", "(II)I"⟩
-- .code yS_greater cS_greater 3 (some .int)
abbrev cS_send : ByteArray := prog_1_method_29_code
def yS_send : MethodName := ⟨RS, "send", "(II)V"⟩
-- .code yS_send cS_send 4 none
abbrev cR_append : ByteArray := prog_4_method_3_code
def yR_append : MethodName := ⟨RR, "append", "(I)V"⟩
-- .code yR_append cR_append 2 none
abbrev cS_see : ByteArray := prog_1_method_30_code
def yS_see : MethodName := ⟨RS, "see", "(LCausalStore$Client;I)V"⟩
-- .code yS_see cS_see 5 none
abbrev cS_get : ByteArray := prog_1_method_3_code
def yS_get : MethodName := ⟨RS, "get", "(II)I"⟩
-- .code yS_get cS_get 5 (some .int)
abbrev cS_begin : ByteArray := prog_1_method_4_code
def yS_begin : MethodName := ⟨RS, "begin", "(II)Z"⟩
-- .code yS_begin cS_begin 3 (some .boolean)
abbrev cK_open : ByteArray := prog_3_method_3_code
def yK_open : MethodName := ⟨RK, "open", "(I)V"⟩
-- .code yK_open cK_open 2 none
abbrev cS_read : ByteArray := prog_1_method_5_code
def yS_read : MethodName := ⟨RS, "read", "(I)I"⟩
-- .code yS_read cS_read 3 (some .int)
abbrev cS_readLowestKey : ByteArray := prog_1_method_35_code
def yS_readLowestKey : MethodName := ⟨RS, "readLowestKey", "(LCausalStore$Client;)V"⟩
-- .code yS_readLowestKey cS_readLowestKey 4 none
abbrev cS_hasKey : ByteArray := prog_1_method_26_code
def yS_hasKey : MethodName := ⟨RS, "hasKey", "(II)Z"⟩
-- .code yS_hasKey cS_hasKey 2 (some .boolean)
abbrev cS_prepareSecondRound : ByteArray := prog_1_method_36_code
def yS_prepareSecondRound : MethodName := ⟨RS, "prepareSecondRound", "(LCausalStore$Client;)V"⟩
-- .code yS_prepareSecondRound cS_prepareSecondRound 3 none
abbrev cS_dueWrite : ByteArray := prog_1_method_37_code
def yS_dueWrite : MethodName := ⟨RS, "dueWrite", "([II)I"⟩
-- .code yS_dueWrite cS_dueWrite 5 (some .int)
abbrev cS_seeFetched : ByteArray := prog_1_method_38_code
def yS_seeFetched : MethodName := ⟨RS, "seeFetched", "(LCausalStore$Client;)V"⟩
-- .code yS_seeFetched cS_seeFetched 3 none
abbrev cJI_bitCount : ByteArray := prog_8_method_49_code
def yJI_bitCount : MethodName := ⟨RJI, "bitCount", "(I)I"⟩
-- .code yJI_bitCount cJI_bitCount 1 (some .int)
abbrev cS_got : ByteArray := prog_1_method_6_code
def yS_got : MethodName := ⟨RS, "got", "(II)I"⟩
-- .code yS_got cS_got 3 (some .int)
abbrev cS_rounds : ByteArray := prog_1_method_7_code
def yS_rounds : MethodName := ⟨RS, "rounds", "(I)I"⟩
-- .code yS_rounds cS_rounds 2 (some .int)
abbrev cS_deliver : ByteArray := prog_1_method_8_code
def yS_deliver : MethodName := ⟨RS, "deliver", "(III)Z"⟩
-- .code yS_deliver cS_deliver 7 (some .boolean)
abbrev cS_sent : ByteArray := prog_1_method_11_code
def yS_sent : MethodName := ⟨RS, "sent", "(III)I"⟩
-- .code yS_sent cS_sent 4 (some .int)
abbrev cS_isCenter : ByteArray := prog_1_method_23_code
def yS_isCenter : MethodName := ⟨RS, "isCenter", "(I)Z"⟩
-- .code yS_isCenter cS_isCenter 1 (some .boolean)
abbrev cR_at : ByteArray := prog_4_method_2_code
def yR_at : MethodName := ⟨RR, "at", "(I)I"⟩
-- .code yR_at cR_at 2 (some .int)
abbrev cR_removeAt : ByteArray := prog_4_method_4_code
def yR_removeAt : MethodName := ⟨RR, "removeAt", "(I)V"⟩
-- .code yR_removeAt cR_removeAt 2 none
abbrev cS_serve : ByteArray := prog_1_method_9_code
def yS_serve : MethodName := ⟨RS, "serve", "(II)I"⟩
-- .code yS_serve cS_serve 9 (some .int)
abbrev cS_isPartition : ByteArray := prog_1_method_24_code
def yS_isPartition : MethodName := ⟨RS, "isPartition", "(I)Z"⟩
-- .code yS_isPartition cS_isPartition 1 (some .boolean)
abbrev cS_missingNeeds : ByteArray := prog_1_method_34_code
def yS_missingNeeds : MethodName := ⟨RS, "missingNeeds", "(II)I"⟩
-- .code yS_missingNeeds cS_missingNeeds 5 (some .int)
abbrev cS_visible : ByteArray := prog_1_method_15_code
def yS_visible : MethodName := ⟨RS, "visible", "(II)Z"⟩
-- .code yS_visible cS_visible 3 (some .boolean)
abbrev cS_flight : ByteArray := prog_1_method_10_code
def yS_flight : MethodName := ⟨RS, "flight", "(II)I"⟩
-- .code yS_flight cS_flight 3 (some .int)
abbrev cS_pending : ByteArray := prog_1_method_12_code
def yS_pending : MethodName := ⟨RS, "pending", "(II)I"⟩
-- .code yS_pending cS_pending 3 (some .int)
abbrev cS_lacks : ByteArray := prog_1_method_13_code
def yS_lacks : MethodName := ⟨RS, "lacks", "(III)I"⟩
-- .code yS_lacks cS_lacks 5 (some .int)
abbrev cS_latest : ByteArray := prog_1_method_14_code
def yS_latest : MethodName := ⟨RS, "latest", "(II)I"⟩
-- .code yS_latest cS_latest 3 (some .int)
abbrev cS_clock : ByteArray := prog_1_method_16_code
def yS_clock : MethodName := ⟨RS, "clock", "(II)I"⟩
-- .code yS_clock cS_clock 3 (some .int)
abbrev cS_context : ByteArray := prog_1_method_17_code
def yS_context : MethodName := ⟨RS, "context", "(II)I"⟩
-- .code yS_context cS_context 3 (some .int)
abbrev cS_nearest : ByteArray := prog_1_method_18_code
def yS_nearest : MethodName := ⟨RS, "nearest", "(I)I"⟩
-- .code yS_nearest cS_nearest 2 (some .int)
abbrev cS_about : ByteArray := prog_1_method_19_code
def yS_about : MethodName := ⟨RS, "about", "(II)I"⟩
-- .code yS_about cS_about 3 (some .int)
abbrev cS_dependency : ByteArray := prog_1_method_20_code
def yS_dependency : MethodName := ⟨RS, "dependency", "(II)I"⟩
-- .code yS_dependency cS_dependency 3 (some .int)
abbrev cN_init : ByteArray := prog_7_method_1_code
def yN_init : MethodName := ⟨RN, "<init>", "()V"⟩
-- .code yN_init cN_init 1 none
abbrev cN_put : ByteArray := prog_7_method_11_code
def yN_put : MethodName := ⟨RN, "put", "(III)I"⟩
-- .code yN_put cN_put 9 (some .int)
abbrev cN_out : ByteArray := prog_7_method_2_code
def yN_out : MethodName := ⟨RN, "out", "(II)Z"⟩
-- .code yN_out cN_out 2 (some .boolean)
abbrev cN_open : ByteArray := prog_7_method_5_code
def yN_open : MethodName := ⟨RN, "open", "(I)Z"⟩
-- .code yN_open cN_open 2 (some .boolean)
abbrev cN_near : ByteArray := prog_7_method_8_code
def yN_near : MethodName := ⟨RN, "near", "(I)I"⟩
-- .code yN_near cN_near 8 (some .int)
abbrev cN_send : ByteArray := prog_7_method_10_code
def yN_send : MethodName := ⟨RN, "send", "(III)V"⟩
-- .code yN_send cN_send 5 none
abbrev cN_see : ByteArray := prog_7_method_9_code
def yN_see : MethodName := ⟨RN, "see", "(II)V"⟩
-- .code yN_see cN_see 4 none
abbrev cN_greater : ByteArray := prog_7_method_6_code
def yN_greater : MethodName := ⟨RN, "greater", "(II)I"⟩
-- .code yN_greater cN_greater 3 (some .int)
abbrev cN_get : ByteArray := prog_7_method_12_code
def yN_get : MethodName := ⟨RN, "get", "(II)I"⟩
-- .code yN_get cN_get 4 (some .int)
abbrev cN_latestOf : ByteArray := prog_7_method_7_code
def yN_latestOf : MethodName := ⟨RN, "latestOf", "(II)I"⟩
-- .code yN_latestOf cN_latestOf 5 (some .int)
abbrev cN_begin : ByteArray := prog_7_method_13_code
def yN_begin : MethodName := ⟨RN, "begin", "(II)Z"⟩
-- .code yN_begin cN_begin 4 (some .boolean)
abbrev cN_read : ByteArray := prog_7_method_17_code
def yN_read : MethodName := ⟨RN, "read", "(I)I"⟩
-- .code yN_read cN_read 3 (some .int)
abbrev cN_lowest : ByteArray := prog_7_method_4_code
def yN_lowest : MethodName := ⟨RN, "lowest", "(I)I"⟩
-- .code yN_lowest cN_lowest 3 (some .int)
abbrev cN_second : ByteArray := prog_7_method_16_code
def yN_second : MethodName := ⟨RN, "second", "(I)V"⟩
-- .code yN_second cN_second 5 none
abbrev cN_due : ByteArray := prog_7_method_14_code
def yN_due : MethodName := ⟨RN, "due", "(II)I"⟩
-- .code yN_due cN_due 6 (some .int)
abbrev cN_finish : ByteArray := prog_7_method_15_code
def yN_finish : MethodName := ⟨RN, "finish", "(I)V"⟩
-- .code yN_finish cN_finish 3 none
abbrev cN_count : ByteArray := prog_7_method_3_code
def yN_count : MethodName := ⟨RN, "count", "(I)I"⟩
-- .code yN_count cN_count 3 (some .int)
abbrev cN_got : ByteArray := prog_7_method_18_code
def yN_got : MethodName := ⟨RN, "got", "(II)I"⟩
-- .code yN_got cN_got 3 (some .int)
abbrev cN_rounds : ByteArray := prog_7_method_19_code
def yN_rounds : MethodName := ⟨RN, "rounds", "(I)I"⟩
-- .code yN_rounds cN_rounds 2 (some .int)
abbrev cN_deliver : ByteArray := prog_7_method_21_code
def yN_deliver : MethodName := ⟨RN, "deliver", "(III)Z"⟩
-- .code yN_deliver cN_deliver 7 (some .boolean)
abbrev cN_link : ByteArray := prog_7_method_20_code
def yN_link : MethodName := ⟨RN, "link", "(II)Z"⟩
-- .code yN_link cN_link 3 (some .boolean)
abbrev cN_serve : ByteArray := prog_7_method_23_code
def yN_serve : MethodName := ⟨RN, "serve", "(II)I"⟩
-- .code yN_serve cN_serve 8 (some .int)
abbrev cN_missing : ByteArray := prog_7_method_22_code
def yN_missing : MethodName := ⟨RN, "missing", "(II)I"⟩
-- .code yN_missing cN_missing 6 (some .int)
abbrev cN_flight : ByteArray := prog_7_method_24_code
def yN_flight : MethodName := ⟨RN, "flight", "(II)I"⟩
-- .code yN_flight cN_flight 3 (some .int)
abbrev cN_sent : ByteArray := prog_7_method_25_code
def yN_sent : MethodName := ⟨RN, "sent", "(III)I"⟩
-- .code yN_sent cN_sent 4 (some .int)
abbrev cN_pending : ByteArray := prog_7_method_26_code
def yN_pending : MethodName := ⟨RN, "pending", "(II)I"⟩
-- .code yN_pending cN_pending 3 (some .int)
abbrev cN_lacks : ByteArray := prog_7_method_27_code
def yN_lacks : MethodName := ⟨RN, "lacks", "(III)I"⟩
-- .code yN_lacks cN_lacks 5 (some .int)
abbrev cN_latest : ByteArray := prog_7_method_28_code
def yN_latest : MethodName := ⟨RN, "latest", "(II)I"⟩
-- .code yN_latest cN_latest 4 (some .int)
abbrev cN_visible : ByteArray := prog_7_method_29_code
def yN_visible : MethodName := ⟨RN, "visible", "(II)Z"⟩
-- .code yN_visible cN_visible 3 (some .boolean)
abbrev cN_clock : ByteArray := prog_7_method_30_code
def yN_clock : MethodName := ⟨RN, "clock", "(II)I"⟩
-- .code yN_clock cN_clock 3 (some .int)
abbrev cN_context : ByteArray := prog_7_method_31_code
def yN_context : MethodName := ⟨RN, "context", "(II)I"⟩
-- .code yN_context cN_context 3 (some .int)
abbrev cN_nearest : ByteArray := prog_7_method_32_code
def yN_nearest : MethodName := ⟨RN, "nearest", "(I)I"⟩
-- .code yN_nearest cN_nearest 2 (some .int)
abbrev cN_about : ByteArray := prog_7_method_33_code
def yN_about : MethodName := ⟨RN, "about", "(II)I"⟩
-- .code yN_about cN_about 3 (some .int)
abbrev cN_dependency : ByteArray := prog_7_method_34_code
def yN_dependency : MethodName := ⟨RN, "dependency", "(II)I"⟩
-- .code yN_dependency cN_dependency 3 (some .int)
abbrev cL_law : ByteArray := code
def yL_law : MethodName := ⟨RL, "law", "([I)Z"⟩
-- .code yL_law cL_law 4 (some .boolean)
abbrev vwCl : List vw_C := [(RS, TS, 5), (RW, TW, 6), (RC, TC, 4), (RK, TK, 7), (RR, TR, 2), (RN, TN, 19)]
end
section
/-! The words that all methods share: the good ones of the tables; links of nest mates; array classes. -/
def oAll : List Cond := lw_tbl.filter goodWord
theorem oGood : ∀ w ∈ oAll, (w.onTables && w.keeps) = true ∨ ∃ ty, w = .arrayClass ty := fun _ h => good_of_word (List.mem_filter.mp h).2
theorem oMem1 {i : Nat} {w : Cond} (h : tables_1_1[i]? = some w) (hg : goodWord w = true) : w ∈ oAll := List.mem_filter.mpr ⟨List.mem_append_right _ (List.mem_append_left _ (List.mem_of_getElem? h)), hg⟩
theorem oMem2 {i : Nat} {w : Cond} (h : tables_1_2[i]? = some w) (hg : goodWord w = true) : w ∈ oAll := List.mem_filter.mpr ⟨List.mem_append_right _ (List.mem_append_right _ (List.mem_append_left _ (List.mem_of_getElem? h))), hg⟩
theorem oMem3 {i : Nat} {w : Cond} (h : tables_1_3[i]? = some w) (hg : goodWord w = true) : w ∈ oAll := List.mem_filter.mpr ⟨List.mem_append_right _ (List.mem_append_right _ (List.mem_append_right _ (List.mem_of_getElem? h))), hg⟩
theorem oMemS {i : Nat} {w : Cond} (h : (k2_sels lw_privs)[i]? = some w) (hg : goodWord w = true) : w ∈ oAll := List.mem_filter.mpr ⟨List.mem_append_left _ (List.mem_of_getElem? h), hg⟩
def oNwF : List (String × Nat × String × String × String × String) := [("CausalStore", 178, "CausalStore$Write", "depends", "[I", "CausalStore"), ("CausalStore", 129, "CausalStore$Write", "key", "I", "CausalStore"), ("CausalStore", 172, "CausalStore$Write", "value", "I", "CausalStore"), ("CausalStore", 135, "CausalStore$Write", "time", "I", "CausalStore"), ("CausalStore", 169, "CausalStore$Write", "version", "I", "CausalStore"), ("CausalStore", 175, "CausalStore$Write", "needs", "I", "CausalStore"), ("CausalStore", 156, "CausalStore$Row", "size", "I", "CausalStore"), ("CausalStore", 165, "CausalStore$Center", "shows", "[Z", "CausalStore"), ("CausalStore", 88, "CausalStore$Center", "newest", "[I", "CausalStore"), ("CausalStore", 132, "CausalStore$Center", "clocks", "[I", "CausalStore"), ("CausalStore", 144, "CausalStore$Center", "waiting", "[LCausalStore$Row;", "CausalStore"), ("CausalStore", 58, "CausalStore$Client", "center", "I", "CausalStore"), ("CausalStore", 65, "CausalStore$Client", "depends", "[I", "CausalStore"), ("CausalStore", 116, "CausalStore$Client", "fetched", "[I", "CausalStore"), ("CausalStore", 193, "CausalStore$Client", "due", "[I", "CausalStore"), ("CausalStore", 200, "CausalStore$Client", "set", "I", "CausalStore"), ("CausalStore", 98, "CausalStore$Client", "left", "I", "CausalStore"), ("CausalStore", 101, "CausalStore$Client", "round", "I", "CausalStore")]
def oNwM : List (String × Nat × MethodName × String) := [("CausalStore", 33, ⟨"CausalStore$Write", "<init>", "()V"⟩, "CausalStore"), ("CausalStore$Write", 9, ⟨"CausalStore", "noWrites", "()[I"⟩, "CausalStore"), ("CausalStore", 34, ⟨"CausalStore$Center", "<init>", "()V"⟩, "CausalStore"), ("CausalStore$Center", 15, ⟨"CausalStore", "noWrites", "()[I"⟩, "CausalStore"), ("CausalStore$Center", 32, ⟨"CausalStore$Row", "<init>", "()V"⟩, "CausalStore"), ("CausalStore", 35, ⟨"CausalStore$Client", "<init>", "(I)V"⟩, "CausalStore"), ("CausalStore$Client", 9, ⟨"CausalStore", "noWrites", "()[I"⟩, "CausalStore"), ("CausalStore", 38, ⟨"CausalStore$Row", "<init>", "()V"⟩, "CausalStore"), ("CausalStore", 46, ⟨"CausalStore$Client", "isOpen", "()Z"⟩, "CausalStore"), ("CausalStore", 61, ⟨"CausalStore$Write", "fill", "(IIII)V"⟩, "CausalStore"), ("CausalStore", 73, ⟨"CausalStore$Write", "dependOn", "([II)V"⟩, "CausalStore"), ("CausalStore", 147, ⟨"CausalStore$Row", "append", "(I)V"⟩, "CausalStore"), ("CausalStore", 91, ⟨"CausalStore$Client", "open", "(I)V"⟩, "CausalStore"), ("CausalStore", 159, ⟨"CausalStore$Row", "at", "(I)I"⟩, "CausalStore"), ("CausalStore", 126, ⟨"CausalStore$Row", "removeAt", "(I)V"⟩, "CausalStore")]
def oAO : List String := ["CausalStore$Write", "CausalStore$Center", "CausalStore$Client", "CausalStore$Row"]
def oTyL : List FieldType := [.int, .boolean, .object "CausalStore$Write", .object "CausalStore$Center", .object "CausalStore$Client", .object "CausalStore$Row"]
abbrev tyInt : Nat := 0
abbrev tyBool : Nat := 1
abbrev tyWrite : Nat := 2
abbrev tyCenter : Nat := 3
abbrev tyClient : Nat := 4
abbrev tyRow : Nat := 5
abbrev ciStore : Nat := 0
abbrev ciWrite : Nat := 1
abbrev ciCenter : Nat := 2
abbrev ciClient : Nat := 3
abbrev ciRow : Nat := 4
abbrev ciModel : Nat := 5
theorem oIn_0 : ∀ w ∈ wsS0, w ∈ oAll := fun w h => List.mem_filter.mpr ⟨List.mem_append_right _ (inS w h), List.all_eq_true.mp (show (wsS0).all goodWord = true by decide +kernel) w h⟩
theorem oIn_1 : ∀ w ∈ wsW0, w ∈ oAll := fun w h => List.mem_filter.mpr ⟨List.mem_append_right _ (inW w h), List.all_eq_true.mp (show (wsW0).all goodWord = true by decide +kernel) w h⟩
theorem oIn_2 : ∀ w ∈ wsC0, w ∈ oAll := fun w h => List.mem_filter.mpr ⟨List.mem_append_right _ (inC w h), List.all_eq_true.mp (show (wsC0).all goodWord = true by decide +kernel) w h⟩
theorem oIn_3 : ∀ w ∈ wsK0, w ∈ oAll := fun w h => List.mem_filter.mpr ⟨List.mem_append_right _ (inK w h), List.all_eq_true.mp (show (wsK0).all goodWord = true by decide +kernel) w h⟩
theorem oIn_4 : ∀ w ∈ wsR0, w ∈ oAll := fun w h => List.mem_filter.mpr ⟨List.mem_append_right _ (inR w h), List.all_eq_true.mp (show (wsR0).all goodWord = true by decide +kernel) w h⟩
theorem oIn_5 : ∀ w ∈ wsN0, w ∈ oAll := fun w h => List.mem_filter.mpr ⟨List.mem_append_right _ (inN w h), List.all_eq_true.mp (show (wsN0).all goodWord = true by decide +kernel) w h⟩
theorem oIn : ∀ (ci : Nat) (q : vw_C), vwCl[ci]? = some q → ∀ w ∈ u_ws q.1 q.2.1 q.2.2, w ∈ oAll
  | 0, _, h => by
    cases h
    exact oIn_0
  | 1, _, h => by
    cases h
    exact oIn_1
  | 2, _, h => by
    cases h
    exact oIn_2
  | 3, _, h => by
    cases h
    exact oIn_3
  | 4, _, h => by
    cases h
    exact oIn_4
  | 5, _, h => by
    cases h
    exact oIn_5
  | k + 6, _, h => by simp [vwCl] at h
theorem oTyp : ∀ (ci : Nat) (q : vw_C), vwCl[ci]? = some q → ∃ ty0 : Nat → FieldType, (∀ k, k < q.2.2 → parseFieldDescriptor (q.2.1 k).2.2.1 = some (ty0 k)) ∧ ∀ a, a < q.2.2 → ∀ b, b < q.2.2 → a ≠ b → (q.2.1 a).2.1 ≠ (q.2.1 b).2.1
  | 0, _, h => by
    cases h
    exact ⟨tyS, tyS_ok, nmS⟩
  | 1, _, h => by
    cases h
    exact ⟨tyW, tyW_ok, nmW⟩
  | 2, _, h => by
    cases h
    exact ⟨tyC, tyC_ok, nmC⟩
  | 3, _, h => by
    cases h
    exact ⟨tyK, tyK_ok, nmK⟩
  | 4, _, h => by
    cases h
    exact ⟨tyR, tyR_ok, nmR⟩
  | 5, _, h => by
    cases h
    exact ⟨tyN, tyN_ok, nmN⟩
  | k + 6, _, h => by simp [vwCl] at h
end
section
/-! The reading machine. Ok G M pc lv st H b Q: wherever method M stands at pc with locals lv, stack st, abstract heap H and room b left, it ends, and its answer and heap have Q. Reference 0 is the script, reference k + 1 the k-th cell that we made. -/
abbrev oU : Type := Int32 ⊕ Option Nat
abbrev oC : Type := (Nat × Nat × (Nat → Int32)) ⊕ (Nat × Nat × (Nat → Option Nat)) ⊕ (Nat × List oU)
abbrev oH : Type := Nat × (Nat → Option oC)
abbrev oG : Type := Launch × va_G × List (ClassId × FieldType) × Nat × Nat × Nat × (Nat → Int32)
abbrev oM : Type := MethodName × ByteArray × Nat × Option FieldType × Nat × Nat
abbrev oL : Type := List (Nat × oU)
abbrev oP : Type := Option oU → oH → Prop
abbrev oLa (G : oG) : Launch := G.1
abbrev oD (G : oG) : va_G := G.2.1
abbrev oT (G : oG) : List (ClassId × FieldType) := G.2.2.1
abbrev oB (G : oG) : Nat := G.2.2.2.1
abbrev oS (G : oG) : Nat := G.2.2.2.2.1
abbrev oN (G : oG) : Nat := G.2.2.2.2.2.1
abbrev oX (G : oG) : Nat → Int32 := G.2.2.2.2.2.2
def oAd (G : oG) (r : Nat) : Nat := match r with
  | 0 => oS G
  | k + 1 => oB G + k
def oV (G : oG) (v : oU) : Value := match v with
  | .inl x => .int x
  | .inr none => .null
  | .inr (some r) => .ref (oAd G r)
def oE (G : oG) (c : oC) : va_E := match c with
  | .inl a => .inl (((oT G).getD a.1 (0, .int)).1, a.2.1, .inl a.2.2)
  | .inr (.inl a) => .inl (((oT G).getD a.1 (0, .int)).1, a.2.1, .inr (.inr (.inr (.inr fun k => (a.2.2 k).map (oAd G)))))
  | .inr (.inr a) => .inr (a.1, a.2.map (oV G))
def oW (G : oG) (H : oH) (hp : Heap) : Prop := hp.size = oB G + H.1 ∧ ∀ (r : Nat) (c : oC), H.2 r = some c → (∃ k, r = k + 1 ∧ k < H.1) ∧ va_at (oD G) vwCl (oAd G r, oE G c) hp
def oA (G : oG) : Nat → Prop := fun q => oB G ≤ q
def oNs (s : State) : Prop := (∀ q ∈ oNwF, va_Nw (.fieldLinkNest q.1 q.2.1 q.2.2.1 q.2.2.2.1 q.2.2.2.2.1 q.2.2.2.2.2) s) ∧ (∀ q ∈ oNwM, va_Nw (.methodLinkNest q.1 q.2.1 q.2.2.1 q.2.2.2) s) ∧ ∀ C ∈ oAO, va_AO C s
def oSt (G : oG) (H : oH) (U : State) : Prop := va_K (oD G) vwCl (oT G) U ∧ oNs U ∧ (oT G).map (fun q => q.2) = oTyL ∧ va_X (oS G) (oN G) (oX G) U U.heap ∧ oS G < oB G ∧ oB G ≤ U.heap.size ∧ oW G H U.heap
def oQ (G : oG) (Q : oP) : Array Value → State → Outcome → State → Prop := fun _ st oc t => (∃ (r : Option oU) (H' : oH), oc = .returned (r.map (oV G)) ∧ Q r H' ∧ oW G H' t.heap) ∧ va_F (oA G) st t
abbrev oCd (M : oM) : ByteArray := M.2.1
abbrev oMx (M : oM) : Nat := M.2.2.1
abbrev oRt (M : oM) : Option FieldType := M.2.2.2.1
abbrev oFr (M : oM) : Nat := M.2.2.2.2.1
abbrev oWd (M : oM) : Nat := M.2.2.2.2.2
def oCx (G : oG) (M : oM) (p : Program) (R : Room) (s : State) (mid : MethodId) (args : Array Value) (meth : Method) (c : Code) : Prop :=
  p.tables.exec = Jvm.exec ∧ c.code = oCd M ∧ c.maxLocals = oMx M ∧ meth.sig.returnType = oRt M ∧ meth.locks = false ∧ meth.name = M.1.name ∧ s.vm.findClass M.1.cls = some mid.cls ∧
  (∀ w ∈ oAll, w.before args s = true) ∧ va_K (oD G) vwCl (oT G) s ∧ oNs s ∧ (oT G).map (fun q => q.2) = oTyL ∧ va_X (oS G) (oN G) (oX G) s s.heap ∧ oS G < oB G ∧ oB G ≤ s.heap.size ∧ oFr M ≤ R.frames ∧ oWd M ≤ R.locals
def oDy (G : oG) (M : oM) (lv : oL) (H : oH) (b : Nat × Nat) (R : Room) (s : State) (hp : Heap) (locs : List Loc) (cells slots mc ms : Nat) (ls : Array Slot) : Prop :=
  lv_has ls (oMx M) (lv.map fun q => (q.1, oV G q.2)) ∧ oW G H hp ∧ va_S (oA G) s.heap hp locs ∧ cells + b.1 = mc ∧ slots + b.2 = ms ∧ mc ≤ R.cells ∧ ms ≤ R.slots
def Ok (G : oG) (M : oM) (pc : Nat) (lv : oL) (st : List oU) (H : oH) (b : Nat × Nat) (Q : oP) : Prop :=
  ∀ (p : Program) (e : Env) (R : Room) (s : State) (mid : MethodId) (args : Array Value) (below : List Frame) (meth : Method) (c : Code) (hp : Heap) (locs : List Loc) (cells slots mc ms : Nat) (ls : Array Slot),
    oCx G M p R s mid args meth c → oDy G M lv H b R s hp locs cells slots mc ms ls →
    W p (oLa G) e R s mid args below meth c hp locs cells slots (MQ below (oQ G Q) args s mc ms (oA G)) (F0 mid pc ls (st.map (oV G)))
def oGet : oL → Nat → Option oU
  | [], _ => none
  | q :: l, i => bif Nat.beq q.1 i then some q.2 else oGet l i
def oSet : oL → Nat → oU → oL
  | [], i, v => [(i, v)]
  | q :: l, i, v => bif Nat.beq q.1 i then (i, v) :: l.filter (fun q => !(Nat.beq q.1 i)) else q :: oSet l i v
def oUp (H : oH) (r : Nat) (c : oC) : oH := (H.1, va_up H.2 r (some c))
def oNw (H : oH) (c : oC) : oH := (H.1 + 1, va_up H.2 (H.1 + 1) (some c))
theorem oGet_mem : ∀ (l : oL) (i : Nat) (v : oU), oGet l i = some v → (i, v) ∈ l
  | [], _, _, h => by cases h
  | q :: l, i, v, h => by
    cases hb : Nat.beq q.1 i with
    | true =>
      simp only [oGet, hb, cond_true, Option.some.injEq] at h
      have e := Nat.eq_of_beq_eq_true hb
      subst h; subst e
      exact List.mem_cons_self
    | false =>
      simp only [oGet, hb, cond_false] at h
      exact List.mem_cons_of_mem _ (oGet_mem l i v h)
theorem oSet_mem : ∀ (l : oL) (i : Nat) (v : oU) (q : Nat × oU), q ∈ oSet l i v → q = (i, v) ∨ (q ∈ l ∧ ¬ q.1 = i)
  | [], i, v, q, h => Or.inl (List.mem_singleton.mp h)
  | a :: l, i, v, q, h => by
    cases hb : Nat.beq a.1 i with
    | true =>
      simp only [oSet, hb, cond_true] at h
      rcases List.mem_cons.mp h with h | h
      · exact Or.inl h
      · have h2 := List.mem_filter.mp h
        refine Or.inr ⟨List.mem_cons_of_mem _ h2.1, fun e => ?_⟩
        have h3 := h2.2
        rw [e] at h3
        simp at h3
    | false =>
      simp only [oSet, hb, cond_false] at h
      rcases List.mem_cons.mp h with h | h
      · refine Or.inr ⟨by rw [h]; exact List.mem_cons_self, fun e => ?_⟩
        rw [h] at e
        rw [e] at hb
        simp at hb
      · rcases oSet_mem l i v q h with h | ⟨h1, h2⟩
        · exact Or.inl h
        · exact Or.inr ⟨List.mem_cons_of_mem _ h1, h2⟩
theorem oV_cat (G : oG) (v : oU) : (oV G v).category = 1 := by
  obtain x | (_ | r) := v <;> rfl
theorem oSum (G : oG) : ∀ st : List oU, ((st.map (oV G)).map fun v => v.category).sum = st.length
  | [] => rfl
  | v :: st => by
    rw [List.map_cons, List.map_cons, List.sum_cons, oSum G st, oV_cat, List.length_cons]
    omega
theorem oHas_at {G : oG} {ls : Array Slot} {n : Nat} {lv : oL} (h : lv_has ls n (lv.map fun q => (q.1, oV G q.2))) {i : Nat} {v : oU} (hg : oGet lv i = some v) : ls[i]? = some (.val (oV G v)) :=
  h.2.2 (i, oV G v) (List.mem_map.mpr ⟨(i, v), oGet_mem lv i v hg, rfl⟩)
theorem oHas_set {G : oG} {ls : Array Slot} {n : Nat} {lv lv' : oL} {i : Nat} {v : oU} (hl : oSet lv i v = lv') (h : lv_has ls n ((i, oV G v) :: (lv.map fun q => (q.1, oV G q.2)).filter (fun q => !(q.1 == i) && !(q.1 + 1 == i && q.2.category == 2)))) : lv_has ls n (lv'.map fun q => (q.1, oV G q.2)) := by
  subst hl
  refine ⟨h.1, h.2.1, fun q hq => ?_⟩
  obtain ⟨a, ha, rfl⟩ := List.mem_map.mp hq
  rcases oSet_mem lv i v a ha with rfl | ⟨h1, h2⟩
  · exact h.2.2 _ List.mem_cons_self
  · refine h.2.2 _ (List.mem_cons_of_mem _ (List.mem_filter.mpr ⟨List.mem_map.mpr ⟨a, h1, rfl⟩, ?_⟩))
    have h3 : ((oV G a.2).category == 2) = false := by rw [oV_cat]; rfl
    simp [h2, h3]
theorem oHas_sub {G : oG} {ls : Array Slot} {n : Nat} {lv lv' : oL} (ks : List Nat) (hl : ks.filterMap (fun k => lv[k]?) = lv') (h : lv_has ls n (lv.map fun q => (q.1, oV G q.2))) : lv_has ls n (lv'.map fun q => (q.1, oV G q.2)) := by
  subst hl
  refine ⟨h.1, h.2.1, fun q hq => ?_⟩
  obtain ⟨a, ha, rfl⟩ := List.mem_map.mp hq
  obtain ⟨k, -, hk⟩ := List.mem_filterMap.mp ha
  exact h.2.2 _ (List.mem_map.mpr ⟨a, List.mem_of_getElem? hk, rfl⟩)
section MA
variable {G : oG} {M : oM} {pc : Nat} {lv : oL} {st : List oU} {H : oH} {b : Nat × Nat} {Q : oP}
theorem o_iadd {x y : Int32} (hd : decode (oCd M) pc = .ok (.iadd, 1)) (k : Ok G M (pc + 1) lv (.inl (x + y) :: st) H b Q) : Ok G M pc lv (.inl y :: .inl x :: st) H b Q :=
  fun p e R s mid args below meth c hp locs cells slots mc ms ls X Y => lv_iadd X.1 X.2.1 hd (k p e R s mid args below meth c hp locs cells slots mc ms ls X Y)
theorem o_isub {x y : Int32} (hd : decode (oCd M) pc = .ok (.isub, 1)) (k : Ok G M (pc + 1) lv (.inl (x - y) :: st) H b Q) : Ok G M pc lv (.inl y :: .inl x :: st) H b Q :=
  fun p e R s mid args below meth c hp locs cells slots mc ms ls X Y => lv_isub X.1 X.2.1 hd (k p e R s mid args below meth c hp locs cells slots mc ms ls X Y)
theorem o_imul {x y : Int32} (hd : decode (oCd M) pc = .ok (.imul, 1)) (k : Ok G M (pc + 1) lv (.inl (x * y) :: st) H b Q) : Ok G M pc lv (.inl y :: .inl x :: st) H b Q :=
  fun p e R s mid args below meth c hp locs cells slots mc ms ls X Y => lv_imul X.1 X.2.1 hd (k p e R s mid args below meth c hp locs cells slots mc ms ls X Y)
theorem o_iand {x y : Int32} (hd : decode (oCd M) pc = .ok (.iand, 1)) (k : Ok G M (pc + 1) lv (.inl (x &&& y) :: st) H b Q) : Ok G M pc lv (.inl y :: .inl x :: st) H b Q :=
  fun p e R s mid args below meth c hp locs cells slots mc ms ls X Y => lv_iand X.1 X.2.1 hd (k p e R s mid args below meth c hp locs cells slots mc ms ls X Y)
theorem o_ior {x y : Int32} (hd : decode (oCd M) pc = .ok (.ior, 1)) (k : Ok G M (pc + 1) lv (.inl (x ||| y) :: st) H b Q) : Ok G M pc lv (.inl y :: .inl x :: st) H b Q :=
  fun p e R s mid args below meth c hp locs cells slots mc ms ls X Y => lv_ior X.1 X.2.1 hd (k p e R s mid args below meth c hp locs cells slots mc ms ls X Y)
theorem o_ixor {x y : Int32} (hd : decode (oCd M) pc = .ok (.ixor, 1)) (k : Ok G M (pc + 1) lv (.inl (x ^^^ y) :: st) H b Q) : Ok G M pc lv (.inl y :: .inl x :: st) H b Q :=
  fun p e R s mid args below meth c hp locs cells slots mc ms ls X Y => lv_ixor X.1 X.2.1 hd (k p e R s mid args below meth c hp locs cells slots mc ms ls X Y)
theorem o_ishl {x y : Int32} (hd : decode (oCd M) pc = .ok (.ishl, 1)) (k : Ok G M (pc + 1) lv (.inl (x <<< (y &&& 31)) :: st) H b Q) : Ok G M pc lv (.inl y :: .inl x :: st) H b Q :=
  fun p e R s mid args below meth c hp locs cells slots mc ms ls X Y => lv_ishl X.1 X.2.1 hd (k p e R s mid args below meth c hp locs cells slots mc ms ls X Y)
theorem o_ishr {x y : Int32} (hd : decode (oCd M) pc = .ok (.ishr, 1)) (k : Ok G M (pc + 1) lv (.inl (x >>> (y &&& 31)) :: st) H b Q) : Ok G M pc lv (.inl y :: .inl x :: st) H b Q :=
  fun p e R s mid args below meth c hp locs cells slots mc ms ls X Y => lv_ishr X.1 X.2.1 hd (k p e R s mid args below meth c hp locs cells slots mc ms ls X Y)
theorem o_idiv {x y : Int32} (hd : decode (oCd M) pc = .ok (.idiv, 1)) (hne : ¬ y = 0) (k : Ok G M (pc + 1) lv (.inl (x / y) :: st) H b Q) : Ok G M pc lv (.inl y :: .inl x :: st) H b Q :=
  fun p e R s mid args below meth c hp locs cells slots mc ms ls X Y => lv_idiv X.1 X.2.1 hd hne (k p e R s mid args below meth c hp locs cells slots mc ms ls X Y)
theorem o_irem {x y : Int32} (hd : decode (oCd M) pc = .ok (.irem, 1)) (hne : ¬ y = 0) (k : Ok G M (pc + 1) lv (.inl (x - x / y * y) :: st) H b Q) : Ok G M pc lv (.inl y :: .inl x :: st) H b Q :=
  fun p e R s mid args below meth c hp locs cells slots mc ms ls X Y => lv_irem X.1 X.2.1 hd hne (k p e R s mid args below meth c hp locs cells slots mc ms ls X Y)
theorem o_iushr {x y : Int32} (hd : decode (oCd M) pc = .ok (.iushr, 1)) (k : Ok G M (pc + 1) lv (.inl ((x.toUInt32 >>> (y.toUInt32 &&& Int32.toUInt32 31)).toInt32) :: st) H b Q) : Ok G M pc lv (.inl y :: .inl x :: st) H b Q :=
  fun p e R s mid args below meth c hp locs cells slots mc ms ls X Y => lv_iushr X.1 X.2.1 hd rfl (k p e R s mid args below meth c hp locs cells slots mc ms ls X Y)
theorem o_iconst (v : Int32) {n : Int} (hd : decode (oCd M) pc = .ok (.iconst n, 1)) (hv : Int32.ofInt n = v) (k : Ok G M (pc + 1) lv (.inl v :: st) H b Q) : Ok G M pc lv (st) H b Q :=
  fun p e R s mid args below meth c hp locs cells slots mc ms ls X Y => lv_iconst X.1 X.2.1 hd hv (k p e R s mid args below meth c hp locs cells slots mc ms ls X Y)
theorem o_bipush (v : Int32) {n : Int} (hd : decode (oCd M) pc = .ok (.bipush n, 2)) (hv : (Int8.ofInt n).toInt32 = v) (k : Ok G M (pc + 2) lv (.inl v :: st) H b Q) : Ok G M pc lv (st) H b Q :=
  fun p e R s mid args below meth c hp locs cells slots mc ms ls X Y => lv_bipush X.1 X.2.1 hd hv (k p e R s mid args below meth c hp locs cells slots mc ms ls X Y)
theorem o_sipush (v : Int32) {n : Int} (hd : decode (oCd M) pc = .ok (.sipush n, 3)) (hv : (Int16.ofInt n).toInt32 = v) (k : Ok G M (pc + 3) lv (.inl v :: st) H b Q) : Ok G M pc lv (st) H b Q :=
  fun p e R s mid args below meth c hp locs cells slots mc ms ls X Y => lv_sipush X.1 X.2.1 hd hv (k p e R s mid args below meth c hp locs cells slots mc ms ls X Y)
theorem o_dup {v : oU} (hd : decode (oCd M) pc = .ok (.dup, 1)) (k : Ok G M (pc + 1) lv (v :: v :: st) H b Q) : Ok G M pc lv (v :: st) H b Q :=
  fun p e R s mid args below meth c hp locs cells slots mc ms ls X Y => lv_dup X.1 X.2.1 hd (oV_cat G v) (k p e R s mid args below meth c hp locs cells slots mc ms ls X Y)
theorem o_pop {v : oU} (hd : decode (oCd M) pc = .ok (.pop, 1)) (k : Ok G M (pc + 1) lv (st) H b Q) : Ok G M pc lv (v :: st) H b Q :=
  fun p e R s mid args below meth c hp locs cells slots mc ms ls X Y => lv_pop X.1 X.2.1 hd (oV_cat G v) (k p e R s mid args below meth c hp locs cells slots mc ms ls X Y)
theorem o_dup2 {v w : oU} (hd : decode (oCd M) pc = .ok (.dup2, 1)) (k : Ok G M (pc + 1) lv (v :: w :: v :: w :: st) H b Q) : Ok G M pc lv (v :: w :: st) H b Q :=
  fun p e R s mid args below meth c hp locs cells slots mc ms ls X Y => lv_dup2_11 X.1 X.2.1 hd (oV_cat G v) (oV_cat G w) (k p e R s mid args below meth c hp locs cells slots mc ms ls X Y)
theorem o_iload {i : Nat} {x : Int32} (hd : decode (oCd M) pc = .ok (.iload i, 2)) (hl : oGet lv i = some (.inl x)) (k : Ok G M (pc + 2) lv (.inl x :: st) H b Q) : Ok G M pc lv st H b Q :=
  fun p e R s mid args below meth c hp locs cells slots mc ms ls X Y => lv_iload X.1 X.2.1 hd (oHas_at Y.1 hl) (k p e R s mid args below meth c hp locs cells slots mc ms ls X Y)
theorem o_iload_n {j : Fin 4} {x : Int32} (hd : decode (oCd M) pc = .ok (.iload_n j, 1)) (hl : oGet lv (j : Nat) = some (.inl x)) (k : Ok G M (pc + 1) lv (.inl x :: st) H b Q) : Ok G M pc lv st H b Q :=
  fun p e R s mid args below meth c hp locs cells slots mc ms ls X Y => lv_iload_n X.1 X.2.1 hd rfl (oHas_at Y.1 hl) (k p e R s mid args below meth c hp locs cells slots mc ms ls X Y)
theorem o_aload {i : Nat} {x : Nat} (hd : decode (oCd M) pc = .ok (.aload i, 2)) (hl : oGet lv i = some (.inr (some x))) (k : Ok G M (pc + 2) lv (.inr (some x) :: st) H b Q) : Ok G M pc lv st H b Q :=
  fun p e R s mid args below meth c hp locs cells slots mc ms ls X Y => lv_aload X.1 X.2.1 hd (oHas_at Y.1 hl) (k p e R s mid args below meth c hp locs cells slots mc ms ls X Y)
theorem o_aload_n {j : Fin 4} {x : Nat} (hd : decode (oCd M) pc = .ok (.aload_n j, 1)) (hl : oGet lv (j : Nat) = some (.inr (some x))) (k : Ok G M (pc + 1) lv (.inr (some x) :: st) H b Q) : Ok G M pc lv st H b Q :=
  fun p e R s mid args below meth c hp locs cells slots mc ms ls X Y => lv_aload_n X.1 X.2.1 hd rfl (oHas_at Y.1 hl) (k p e R s mid args below meth c hp locs cells slots mc ms ls X Y)
theorem o_istore {i : Nat} {x : Int32} (lv' : oL) (hd : decode (oCd M) pc = .ok (.istore i, 2)) (hn : Nat.blt i (oMx M) = true) (hl : oSet lv i (.inl x) = lv') (k : Ok G M (pc + 2) lv' st H b Q) : Ok G M pc lv (.inl x :: st) H b Q :=
  fun p e R s mid args below meth c hp locs cells slots mc ms ls X Y => lv_istore X.1 X.2.1 hd Y.1 (Nat.le_of_ble_eq_true hn) rfl (fun ls h => k p e R s mid args below meth c hp locs cells slots mc ms ls X ⟨oHas_set hl h, Y.2⟩)
theorem o_istore_n {j : Fin 4} {x : Int32} (lv' : oL) (hd : decode (oCd M) pc = .ok (.istore_n j, 1)) (hn : Nat.blt (j : Nat) (oMx M) = true) (hl : oSet lv (j : Nat) (.inl x) = lv') (k : Ok G M (pc + 1) lv' st H b Q) : Ok G M pc lv (.inl x :: st) H b Q :=
  fun p e R s mid args below meth c hp locs cells slots mc ms ls X Y => lv_istore_n X.1 X.2.1 hd rfl Y.1 (Nat.le_of_ble_eq_true hn) rfl (fun ls h => k p e R s mid args below meth c hp locs cells slots mc ms ls X ⟨oHas_set hl h, Y.2⟩)
theorem o_astore {i : Nat} {x : Nat} (lv' : oL) (hd : decode (oCd M) pc = .ok (.astore i, 2)) (hn : Nat.blt i (oMx M) = true) (hl : oSet lv i (.inr (some x)) = lv') (k : Ok G M (pc + 2) lv' st H b Q) : Ok G M pc lv (.inr (some x) :: st) H b Q :=
  fun p e R s mid args below meth c hp locs cells slots mc ms ls X Y => lv_astore X.1 X.2.1 hd Y.1 (Nat.le_of_ble_eq_true hn) rfl (fun ls h => k p e R s mid args below meth c hp locs cells slots mc ms ls X ⟨oHas_set hl h, Y.2⟩)
theorem o_astore_n {j : Fin 4} {x : Nat} (lv' : oL) (hd : decode (oCd M) pc = .ok (.astore_n j, 1)) (hn : Nat.blt (j : Nat) (oMx M) = true) (hl : oSet lv (j : Nat) (.inr (some x)) = lv') (k : Ok G M (pc + 1) lv' st H b Q) : Ok G M pc lv (.inr (some x) :: st) H b Q :=
  fun p e R s mid args below meth c hp locs cells slots mc ms ls X Y => lv_astore_n X.1 X.2.1 hd rfl Y.1 (Nat.le_of_ble_eq_true hn) rfl (fun ls h => k p e R s mid args below meth c hp locs cells slots mc ms ls X ⟨oHas_set hl h, Y.2⟩)
theorem o_iinc {i : Nat} {n : Int} {x : Int32} (v : Int32) (lv' : oL) (hd : decode (oCd M) pc = .ok (.iinc i n, 3)) (hg : oGet lv i = some (.inl x)) (hv : x + Int32.ofInt n = v) (hn : Nat.blt i (oMx M) = true) (hl : oSet lv i (.inl v) = lv') (k : Ok G M (pc + 3) lv' st H b Q) : Ok G M pc lv st H b Q := by
  intro p e R s mid args below meth c hp locs cells slots mc ms ls X Y
  obtain ⟨z, hz⟩ := List.getElem?_of_mem (List.mem_map.mpr ⟨(i, .inl x), oGet_mem lv i _ hg, rfl⟩ : (i, oV G (.inl x)) ∈ lv.map fun q => (q.1, oV G q.2))
  exact lv_iinc X.1 X.2.1 hd Y.1 hz hv (Nat.le_of_ble_eq_true hn) rfl (fun ls h => k p e R s mid args below meth c hp locs cells slots mc ms ls X ⟨oHas_set (v := .inl v) hl h, Y.2⟩)
theorem o_lv (lv' : oL) (ks : List Nat) (hl : ks.filterMap (fun k => lv[k]?) = lv') (k : Ok G M pc lv' st H b Q) : Ok G M pc lv st H b Q :=
  fun p e R s mid args below meth c hp locs cells slots mc ms ls X Y => k p e R s mid args below meth c hp locs cells slots mc ms ls X ⟨oHas_sub ks hl Y.1, Y.2⟩
theorem o_if_eq {x : Int32} {off : Int} (tgt : Nat) (hd : decode (oCd M) pc = .ok (.ifCond .eq off, 3)) (ht : (pc : Int) + off = (tgt : Int)) (kt : x = 0 → Ok G M tgt lv st H b Q) (kf : ¬ x = 0 → Ok G M (pc + 3) lv st H b Q) : Ok G M pc lv (.inl x :: st) H b Q :=
  fun p e R s mid args below meth c hp locs cells slots mc ms ls X Y => lv_if_eq X.1 X.2.1 hd ht (fun h => kt h p e R s mid args below meth c hp locs cells slots mc ms ls X Y) (fun h => kf h p e R s mid args below meth c hp locs cells slots mc ms ls X Y)
theorem o_icmp_eq {x y : Int32} {off : Int} (tgt : Nat) (hd : decode (oCd M) pc = .ok (.if_icmp .eq off, 3)) (ht : (pc : Int) + off = (tgt : Int)) (kt : x = y → Ok G M tgt lv st H b Q) (kf : ¬ x = y → Ok G M (pc + 3) lv st H b Q) : Ok G M pc lv (.inl y :: .inl x :: st) H b Q :=
  fun p e R s mid args below meth c hp locs cells slots mc ms ls X Y => lv_icmp_eq X.1 X.2.1 hd ht (fun h => kt h p e R s mid args below meth c hp locs cells slots mc ms ls X Y) (fun h => kf h p e R s mid args below meth c hp locs cells slots mc ms ls X Y)
theorem o_if_ne {x : Int32} {off : Int} (tgt : Nat) (hd : decode (oCd M) pc = .ok (.ifCond .ne off, 3)) (ht : (pc : Int) + off = (tgt : Int)) (kt : ¬ x = 0 → Ok G M tgt lv st H b Q) (kf : x = 0 → Ok G M (pc + 3) lv st H b Q) : Ok G M pc lv (.inl x :: st) H b Q :=
  fun p e R s mid args below meth c hp locs cells slots mc ms ls X Y => lv_if_ne X.1 X.2.1 hd ht (fun h => kt h p e R s mid args below meth c hp locs cells slots mc ms ls X Y) (fun h => kf h p e R s mid args below meth c hp locs cells slots mc ms ls X Y)
theorem o_icmp_ne {x y : Int32} {off : Int} (tgt : Nat) (hd : decode (oCd M) pc = .ok (.if_icmp .ne off, 3)) (ht : (pc : Int) + off = (tgt : Int)) (kt : ¬ x = y → Ok G M tgt lv st H b Q) (kf : x = y → Ok G M (pc + 3) lv st H b Q) : Ok G M pc lv (.inl y :: .inl x :: st) H b Q :=
  fun p e R s mid args below meth c hp locs cells slots mc ms ls X Y => lv_icmp_ne X.1 X.2.1 hd ht (fun h => kt h p e R s mid args below meth c hp locs cells slots mc ms ls X Y) (fun h => kf h p e R s mid args below meth c hp locs cells slots mc ms ls X Y)
theorem o_if_lt {x : Int32} {off : Int} (tgt : Nat) (hd : decode (oCd M) pc = .ok (.ifCond .lt off, 3)) (ht : (pc : Int) + off = (tgt : Int)) (kt : x < 0 → Ok G M tgt lv st H b Q) (kf : ¬ x < 0 → Ok G M (pc + 3) lv st H b Q) : Ok G M pc lv (.inl x :: st) H b Q :=
  fun p e R s mid args below meth c hp locs cells slots mc ms ls X Y => lv_if_lt X.1 X.2.1 hd ht (fun h => kt h p e R s mid args below meth c hp locs cells slots mc ms ls X Y) (fun h => kf h p e R s mid args below meth c hp locs cells slots mc ms ls X Y)
theorem o_icmp_lt {x y : Int32} {off : Int} (tgt : Nat) (hd : decode (oCd M) pc = .ok (.if_icmp .lt off, 3)) (ht : (pc : Int) + off = (tgt : Int)) (kt : x < y → Ok G M tgt lv st H b Q) (kf : ¬ x < y → Ok G M (pc + 3) lv st H b Q) : Ok G M pc lv (.inl y :: .inl x :: st) H b Q :=
  fun p e R s mid args below meth c hp locs cells slots mc ms ls X Y => lv_icmp_lt X.1 X.2.1 hd ht (fun h => kt h p e R s mid args below meth c hp locs cells slots mc ms ls X Y) (fun h => kf h p e R s mid args below meth c hp locs cells slots mc ms ls X Y)
theorem o_if_ge {x : Int32} {off : Int} (tgt : Nat) (hd : decode (oCd M) pc = .ok (.ifCond .ge off, 3)) (ht : (pc : Int) + off = (tgt : Int)) (kt : 0 ≤ x → Ok G M tgt lv st H b Q) (kf : ¬ 0 ≤ x → Ok G M (pc + 3) lv st H b Q) : Ok G M pc lv (.inl x :: st) H b Q :=
  fun p e R s mid args below meth c hp locs cells slots mc ms ls X Y => lv_if_ge X.1 X.2.1 hd ht (fun h => kt h p e R s mid args below meth c hp locs cells slots mc ms ls X Y) (fun h => kf h p e R s mid args below meth c hp locs cells slots mc ms ls X Y)
theorem o_icmp_ge {x y : Int32} {off : Int} (tgt : Nat) (hd : decode (oCd M) pc = .ok (.if_icmp .ge off, 3)) (ht : (pc : Int) + off = (tgt : Int)) (kt : y ≤ x → Ok G M tgt lv st H b Q) (kf : ¬ y ≤ x → Ok G M (pc + 3) lv st H b Q) : Ok G M pc lv (.inl y :: .inl x :: st) H b Q :=
  fun p e R s mid args below meth c hp locs cells slots mc ms ls X Y => lv_icmp_ge X.1 X.2.1 hd ht (fun h => kt h p e R s mid args below meth c hp locs cells slots mc ms ls X Y) (fun h => kf h p e R s mid args below meth c hp locs cells slots mc ms ls X Y)
theorem o_if_gt {x : Int32} {off : Int} (tgt : Nat) (hd : decode (oCd M) pc = .ok (.ifCond .gt off, 3)) (ht : (pc : Int) + off = (tgt : Int)) (kt : 0 < x → Ok G M tgt lv st H b Q) (kf : ¬ 0 < x → Ok G M (pc + 3) lv st H b Q) : Ok G M pc lv (.inl x :: st) H b Q :=
  fun p e R s mid args below meth c hp locs cells slots mc ms ls X Y => lv_if_gt X.1 X.2.1 hd ht (fun h => kt h p e R s mid args below meth c hp locs cells slots mc ms ls X Y) (fun h => kf h p e R s mid args below meth c hp locs cells slots mc ms ls X Y)
theorem o_icmp_gt {x y : Int32} {off : Int} (tgt : Nat) (hd : decode (oCd M) pc = .ok (.if_icmp .gt off, 3)) (ht : (pc : Int) + off = (tgt : Int)) (kt : y < x → Ok G M tgt lv st H b Q) (kf : ¬ y < x → Ok G M (pc + 3) lv st H b Q) : Ok G M pc lv (.inl y :: .inl x :: st) H b Q :=
  fun p e R s mid args below meth c hp locs cells slots mc ms ls X Y => lv_icmp_gt X.1 X.2.1 hd ht (fun h => kt h p e R s mid args below meth c hp locs cells slots mc ms ls X Y) (fun h => kf h p e R s mid args below meth c hp locs cells slots mc ms ls X Y)
theorem o_if_le {x : Int32} {off : Int} (tgt : Nat) (hd : decode (oCd M) pc = .ok (.ifCond .le off, 3)) (ht : (pc : Int) + off = (tgt : Int)) (kt : x ≤ 0 → Ok G M tgt lv st H b Q) (kf : ¬ x ≤ 0 → Ok G M (pc + 3) lv st H b Q) : Ok G M pc lv (.inl x :: st) H b Q :=
  fun p e R s mid args below meth c hp locs cells slots mc ms ls X Y => lv_if_le X.1 X.2.1 hd ht (fun h => kt h p e R s mid args below meth c hp locs cells slots mc ms ls X Y) (fun h => kf h p e R s mid args below meth c hp locs cells slots mc ms ls X Y)
theorem o_icmp_le {x y : Int32} {off : Int} (tgt : Nat) (hd : decode (oCd M) pc = .ok (.if_icmp .le off, 3)) (ht : (pc : Int) + off = (tgt : Int)) (kt : x ≤ y → Ok G M tgt lv st H b Q) (kf : ¬ x ≤ y → Ok G M (pc + 3) lv st H b Q) : Ok G M pc lv (.inl y :: .inl x :: st) H b Q :=
  fun p e R s mid args below meth c hp locs cells slots mc ms ls X Y => lv_icmp_le X.1 X.2.1 hd ht (fun h => kt h p e R s mid args below meth c hp locs cells slots mc ms ls X Y) (fun h => kf h p e R s mid args below meth c hp locs cells slots mc ms ls X Y)
theorem o_goto {off : Int} (tgt : Nat) (hd : decode (oCd M) pc = .ok (.goto off, 3)) (ht : (pc : Int) + off = (tgt : Int)) (k : Ok G M tgt lv st H b Q) : Ok G M pc lv st H b Q :=
  fun p e R s mid args below meth c hp locs cells slots mc ms ls X Y => lv_goto X.1 X.2.1 hd ht (k p e R s mid args below meth c hp locs cells slots mc ms ls X Y)
theorem o_tabOut {dflt lo hi : Int} {offs : Array Int} {len : Nat} {x : Int32} (tgt : Nat) (hd : decode (oCd M) pc = .ok (.tableswitch dflt lo hi offs, len)) (h : x.toInt < lo ∨ hi < x.toInt) (ht : (pc : Int) + dflt = (tgt : Int)) (k : Ok G M tgt lv st H b Q) : Ok G M pc lv (.inl x :: st) H b Q :=
  fun p e R s mid args below meth c hp locs cells slots mc ms ls X Y => lv_tableOut X.1 X.2.1 hd h ht (k p e R s mid args below meth c hp locs cells slots mc ms ls X Y)
theorem o_tabIn {dflt lo hi off : Int} {offs : Array Int} {len : Nat} {x : Int32} (tgt : Nat) (hd : decode (oCd M) pc = .ok (.tableswitch dflt lo hi offs, len)) (h1 : ¬ x.toInt < lo) (h2 : ¬ hi < x.toInt) (ho : offs[(x.toInt - lo).toNat]? = some off) (ht : (pc : Int) + off = (tgt : Int)) (k : Ok G M tgt lv st H b Q) : Ok G M pc lv (.inl x :: st) H b Q :=
  fun p e R s mid args below meth c hp locs cells slots mc ms ls X Y => lv_tableIn X.1 X.2.1 hd h1 h2 ho ht (k p e R s mid args below meth c hp locs cells slots mc ms ls X Y)
end MA
end
