/-! Names: classes, their fields, methods, code. -/
def RS : String := "CausalStore"
def TS : u_T := fun k => match k with
  | 0 => ("CausalStore", "writes", "[LCausalStore$Write;", true)
  | 1 => ("CausalStore", "centers", "[LCausalStore$Center;", true)
  | 2 => ("CausalStore", "clients", "[LCausalStore$Client;", true)
  | 3 => ("CausalStore", "flights", "[LCausalStore$Row;", true)
  | _ => ("CausalStore", "made", "I", false)
def tyS : Nat → FieldType := fun k => match k with
  | 0 => .array (.object "CausalStore$Write")
  | 1 => .array (.object "CausalStore$Center")
  | 2 => .array (.object "CausalStore$Client")
  | 3 => .array (.object "CausalStore$Row")
  | _ => .int
abbrev wsS0 : List Cond := u_ws RS TS 5
theorem nmS : ∀ a, a < 5 → ∀ b, b < 5 → a ≠ b → (TS a).2.1 ≠ (TS b).2.1 := by decide +kernel
theorem tyS_ok : ∀ k, k < 5 → parseFieldDescriptor (TS k).2.2.1 = some (tyS k) := by decide +kernel
theorem inS : ∀ w ∈ wsS0, w ∈ tables_1 := by decide +kernel
def RW : String := "CausalStore$Write"
def TW : u_T := fun k => match k with
  | 0 => ("CausalStore$Write", "depends", "[I", true)
  | 1 => ("CausalStore$Write", "key", "I", false)
  | 2 => ("CausalStore$Write", "value", "I", false)
  | 3 => ("CausalStore$Write", "time", "I", false)
  | 4 => ("CausalStore$Write", "version", "I", false)
  | _ => ("CausalStore$Write", "needs", "I", false)
def tyW : Nat → FieldType := fun k => match k with
  | 0 => .array .int
  | 1 => .int
  | 2 => .int
  | 3 => .int
  | 4 => .int
  | _ => .int
abbrev wsW0 : List Cond := u_ws RW TW 6
theorem nmW : ∀ a, a < 6 → ∀ b, b < 6 → a ≠ b → (TW a).2.1 ≠ (TW b).2.1 := by decide +kernel
theorem tyW_ok : ∀ k, k < 6 → parseFieldDescriptor (TW k).2.2.1 = some (tyW k) := by decide +kernel
theorem inW : ∀ w ∈ wsW0, w ∈ tables_1 := by decide +kernel
def RC : String := "CausalStore$Center"
def TC : u_T := fun k => match k with
  | 0 => ("CausalStore$Center", "shows", "[Z", true)
  | 1 => ("CausalStore$Center", "newest", "[I", true)
  | 2 => ("CausalStore$Center", "clocks", "[I", true)
  | _ => ("CausalStore$Center", "waiting", "[LCausalStore$Row;", true)
def tyC : Nat → FieldType := fun k => match k with
  | 0 => .array .boolean
  | 1 => .array .int
  | 2 => .array .int
  | _ => .array (.object "CausalStore$Row")
abbrev wsC0 : List Cond := u_ws RC TC 4
theorem nmC : ∀ a, a < 4 → ∀ b, b < 4 → a ≠ b → (TC a).2.1 ≠ (TC b).2.1 := by decide +kernel
theorem tyC_ok : ∀ k, k < 4 → parseFieldDescriptor (TC k).2.2.1 = some (tyC k) := by decide +kernel
theorem inC : ∀ w ∈ wsC0, w ∈ tables_1 := by decide +kernel
def RK : String := "CausalStore$Client"
def TK : u_T := fun k => match k with
  | 0 => ("CausalStore$Client", "center", "I", true)
  | 1 => ("CausalStore$Client", "depends", "[I", true)
  | 2 => ("CausalStore$Client", "fetched", "[I", true)
  | 3 => ("CausalStore$Client", "due", "[I", true)
  | 4 => ("CausalStore$Client", "set", "I", false)
  | 5 => ("CausalStore$Client", "left", "I", false)
  | _ => ("CausalStore$Client", "round", "I", false)
def tyK : Nat → FieldType := fun k => match k with
  | 0 => .int
  | 1 => .array .int
  | 2 => .array .int
  | 3 => .array .int
  | 4 => .int
  | 5 => .int
  | _ => .int
abbrev wsK0 : List Cond := u_ws RK TK 7
theorem nmK : ∀ a, a < 7 → ∀ b, b < 7 → a ≠ b → (TK a).2.1 ≠ (TK b).2.1 := by decide +kernel
theorem tyK_ok : ∀ k, k < 7 → parseFieldDescriptor (TK k).2.2.1 = some (tyK k) := by decide +kernel
theorem inK : ∀ w ∈ wsK0, w ∈ tables_1 := by decide +kernel
def RR : String := "CausalStore$Row"
def TR : u_T := fun k => match k with
  | 0 => ("CausalStore$Row", "writes", "[I", true)
  | _ => ("CausalStore$Row", "size", "I", false)
def tyR : Nat → FieldType := fun k => match k with
  | 0 => .array .int
  | _ => .int
abbrev wsR0 : List Cond := u_ws RR TR 2
theorem nmR : ∀ a, a < 2 → ∀ b, b < 2 → a ≠ b → (TR a).2.1 ≠ (TR b).2.1 := by decide +kernel
theorem tyR_ok : ∀ k, k < 2 → parseFieldDescriptor (TR k).2.2.1 = some (tyR k) := by decide +kernel
theorem inR : ∀ w ∈ wsR0, w ∈ tables_1 := by decide +kernel
def RN : String := "CausalStoreModel"
def TN : u_T := fun k => match k with
  | 0 => ("CausalStoreModel", "writes", "I", false)
  | 1 => ("CausalStoreModel", "keyOf", "[I", true)
  | 2 => ("CausalStoreModel", "valueOf", "[I", true)
  | 3 => ("CausalStoreModel", "version", "[I", true)
  | 4 => ("CausalStoreModel", "depends", "[I", true)
  | 5 => ("CausalStoreModel", "needs", "[I", true)
  | 6 => ("CausalStoreModel", "seen", "[Z", true)
  | 7 => ("CausalStoreModel", "clocks", "[I", true)
  | 8 => ("CausalStoreModel", "waiting", "[I", true)
  | 9 => ("CausalStoreModel", "row", "[I", true)
  | 10 => ("CausalStoreModel", "flying", "[I", true)
  | 11 => ("CausalStoreModel", "air", "[I", true)
  | 12 => ("CausalStoreModel", "context", "[I", true)
  | 13 => ("CausalStoreModel", "phase", "[I", true)
  | 14 => ("CausalStoreModel", "set", "[I", true)
  | 15 => ("CausalStoreModel", "round", "[I", true)
  | 16 => ("CausalStoreModel", "left", "[I", true)
  | 17 => ("CausalStoreModel", "have", "[I", true)
  | _ => ("CausalStoreModel", "owed", "[I", true)
def tyN : Nat → FieldType := fun k => match k with
  | 0 => .int
  | 1 => .array .int
  | 2 => .array .int
  | 3 => .array .int
  | 4 => .array .int
  | 5 => .array .int
  | 6 => .array .boolean
  | 7 => .array .int
  | 8 => .array .int
  | 9 => .array .int
  | 10 => .array .int
  | 11 => .array .int
  | 12 => .array .int
  | 13 => .array .int
  | 14 => .array .int
  | 15 => .array .int
  | 16 => .array .int
  | 17 => .array .int
  | _ => .array .int
abbrev wsN0 : List Cond := u_ws RN TN 19
theorem nmN : ∀ a, a < 19 → ∀ b, b < 19 → a ≠ b → (TN a).2.1 ≠ (TN b).2.1 := by decide +kernel
theorem tyN_ok : ∀ k, k < 19 → parseFieldDescriptor (TN k).2.2.1 = some (tyN k) := by decide +kernel
theorem inN : ∀ w ∈ wsN0, w ∈ tables_1 := by decide +kernel
def RL : String := "CausalStoreLaw"
def RJI : String := "java/lang/Integer"
def RJA : String := "java/util/Arrays"
abbrev cS_init : ByteArray := prog_1_method_1_code
def yS_init : MethodName := ⟨RS, "<init>", "()V"⟩
-- .code yS_init cS_init 2 none
abbrev cW_init : ByteArray := prog_5_method_1_code
def yW_init : MethodName := ⟨RW, "<init>", "()V"⟩
-- .code yW_init cW_init 1 none
abbrev cS_noWrites : ByteArray := prog_1_method_39_code
def yS_noWrites : MethodName := ⟨RS, "noWrites", "()[I"⟩
-- .code yS_noWrites cS_noWrites 1 (some (.array .int))
abbrev cJA_fill : ByteArray := prog_11_method_103_code
def yJA_fill : MethodName := ⟨RJA, "fill", "([II)V"⟩
-- .code yJA_fill cJA_fill 4 none
abbrev cC_init : ByteArray := prog_2_method_1_code
def yC_init : MethodName := ⟨RC, "<init>", "()V"⟩
-- .code yC_init cC_init 2 none
abbrev cR_init : ByteArray := prog_4_method_1_code
def yR_init : MethodName := ⟨RR, "<init>", "()V"⟩
-- .code yR_init cR_init 1 none
abbrev cK_init : ByteArray := prog_3_method_1_code
def yK_init : MethodName := ⟨RK, "<init>", "(I)V"⟩
-- .code yK_init cK_init 2 none
abbrev cS_put : ByteArray := prog_1_method_2_code
def yS_put : MethodName := ⟨RS, "put", "(III)I"⟩
-- .code yS_put cS_put 7 (some .int)
abbrev cS_isClient : ByteArray := prog_1_method_21_code
def yS_isClient : MethodName := ⟨RS, "isClient", "(I)Z"⟩
-- .code yS_isClient cS_isClient 1 (some .boolean)
abbrev cS_isKey : ByteArray := prog_1_method_22_code
def yS_isKey : MethodName := ⟨RS, "isKey", "(I)Z"⟩
-- .code yS_isKey cS_isKey 1 (some .boolean)
abbrev cK_isOpen : ByteArray := prog_3_method_2_code
def yK_isOpen : MethodName := ⟨RK, "isOpen", "()Z"⟩
-- .code yK_isOpen cK_isOpen 1 (some .boolean)
abbrev cS_tick : ByteArray := prog_1_method_27_code
def yS_tick : MethodName := ⟨RS, "tick", "(LCausalStore$Client;I)I"⟩
-- .code yS_tick cS_tick 7 (some .int)
abbrev cS_isWrite : ByteArray := prog_1_method_25_code
def yS_isWrite : MethodName := ⟨RS, "isWrite", "(I)Z"⟩
-- .code yS_isWrite cS_isWrite 2 (some .boolean)
abbrev cW_fill : ByteArray := prog_5_method_2_code
def yW_fill : MethodName := ⟨RW, "fill", "(IIII)V"⟩
-- .code yW_fill cW_fill 5 none
abbrev cS_nearestKeys : ByteArray := prog_1_method_32_code
def yS_nearestKeys : MethodName := ⟨RS, "nearestKeys", "([I)I"⟩
-- .code yS_nearestKeys cS_nearestKeys 4 (some .int)
abbrev cS_isCovered : ByteArray := prog_1_method_33_code
def yS_isCovered : MethodName := ⟨RS, "isCovered", "([II)Z"⟩
-- .code yS_isCovered cS_isCovered 5 (some .boolean)
abbrev cW_dependOn : ByteArray := prog_5_method_3_code
def yW_dependOn : MethodName := ⟨RW, "dependOn", "([II)V"⟩
-- .code yW_dependOn cW_dependOn 3 none
abbrev cS_show : ByteArray := prog_1_method_28_code
def yS_show : MethodName := ⟨RS, "show", "(II)V"⟩
-- .code yS_show cS_show 5 none
abbrev cS_greater : ByteArray := prog_1_method_31_code
def yS_greater : MethodName := ⟨RS, "greater", "(II)I"⟩
-- .code yS_greater cS_greater 3 (some .int)
abbrev cS_send : ByteArray := prog_1_method_29_code
def yS_send : MethodName := ⟨RS, "send", "(II)V"⟩
-- .code yS_send cS_send 4 none
abbrev cR_append : ByteArray := prog_4_method_3_code
def yR_append : MethodName := ⟨RR, "append", "(I)V"⟩
-- .code yR_append cR_append 2 none
abbrev cS_see : ByteArray := prog_1_method_30_code
def yS_see : MethodName := ⟨RS, "see", "(LCausalStore$Client;I)V"⟩
-- .code yS_see cS_see 5 none
abbrev cS_get : ByteArray := prog_1_method_3_code
def yS_get : MethodName := ⟨RS, "get", "(II)I"⟩
-- .code yS_get cS_get 5 (some .int)
abbrev cS_begin : ByteArray := prog_1_method_4_code
def yS_begin : MethodName := ⟨RS, "begin", "(II)Z"⟩
-- .code yS_begin cS_begin 3 (some .boolean)
abbrev cK_open : ByteArray := prog_3_method_3_code
def yK_open : MethodName := ⟨RK, "open", "(I)V"⟩
-- .code yK_open cK_open 2 none
abbrev cS_read : ByteArray := prog_1_method_5_code
def yS_read : MethodName := ⟨RS, "read", "(I)I"⟩
-- .code yS_read cS_read 3 (some .int)
abbrev cS_readLowestKey : ByteArray := prog_1_method_35_code
def yS_readLowestKey : MethodName := ⟨RS, "readLowestKey", "(LCausalStore$Client;)V"⟩
-- .code yS_readLowestKey cS_readLowestKey 4 none
abbrev cS_hasKey : ByteArray := prog_1_method_26_code
def yS_hasKey : MethodName := ⟨RS, "hasKey", "(II)Z"⟩
-- .code yS_hasKey cS_hasKey 2 (some .boolean)
abbrev cS_prepareSecondRound : ByteArray := prog_1_method_36_code
def yS_prepareSecondRound : MethodName := ⟨RS, "prepareSecondRound", "(LCausalStore$Client;)V"⟩
-- .code yS_prepareSecondRound cS_prepareSecondRound 3 none
abbrev cS_dueWrite : ByteArray := prog_1_method_37_code
def yS_dueWrite : MethodName := ⟨RS, "dueWrite", "([II)I"⟩
-- .code yS_dueWrite cS_dueWrite 5 (some .int)
abbrev cS_seeFetched : ByteArray := prog_1_method_38_code
def yS_seeFetched : MethodName := ⟨RS, "seeFetched", "(LCausalStore$Client;)V"⟩
-- .code yS_seeFetched cS_seeFetched 3 none
abbrev cJI_bitCount : ByteArray := prog_8_method_49_code
def yJI_bitCount : MethodName := ⟨RJI, "bitCount", "(I)I"⟩
-- .code yJI_bitCount cJI_bitCount 1 (some .int)
abbrev cS_got : ByteArray := prog_1_method_6_code
def yS_got : MethodName := ⟨RS, "got", "(II)I"⟩
-- .code yS_got cS_got 3 (some .int)
abbrev cS_rounds : ByteArray := prog_1_method_7_code
def yS_rounds : MethodName := ⟨RS, "rounds", "(I)I"⟩
-- .code yS_rounds cS_rounds 2 (some .int)
abbrev cS_deliver : ByteArray := prog_1_method_8_code
def yS_deliver : MethodName := ⟨RS, "deliver", "(III)Z"⟩
-- .code yS_deliver cS_deliver 7 (some .boolean)
abbrev cS_sent : ByteArray := prog_1_method_11_code
def yS_sent : MethodName := ⟨RS, "sent", "(III)I"⟩
-- .code yS_sent cS_sent 4 (some .int)
abbrev cS_isCenter : ByteArray := prog_1_method_23_code
def yS_isCenter : MethodName := ⟨RS, "isCenter", "(I)Z"⟩
-- .code yS_isCenter cS_isCenter 1 (some .boolean)
abbrev cR_at : ByteArray := prog_4_method_2_code
def yR_at : MethodName := ⟨RR, "at", "(I)I"⟩
-- .code yR_at cR_at 2 (some .int)
abbrev cR_removeAt : ByteArray := prog_4_method_4_code
def yR_removeAt : MethodName := ⟨RR, "removeAt", "(I)V"⟩
-- .code yR_removeAt cR_removeAt 2 none
abbrev cS_serve : ByteArray := prog_1_method_9_code
def yS_serve : MethodName := ⟨RS, "serve", "(II)I"⟩
-- .code yS_serve cS_serve 9 (some .int)
abbrev cS_isPartition : ByteArray := prog_1_method_24_code
def yS_isPartition : MethodName := ⟨RS, "isPartition", "(I)Z"⟩
-- .code yS_isPartition cS_isPartition 1 (some .boolean)
abbrev cS_missingNeeds : ByteArray := prog_1_method_34_code
def yS_missingNeeds : MethodName := ⟨RS, "missingNeeds", "(II)I"⟩
-- .code yS_missingNeeds cS_missingNeeds 5 (some .int)
abbrev cS_visible : ByteArray := prog_1_method_15_code
def yS_visible : MethodName := ⟨RS, "visible", "(II)Z"⟩
-- .code yS_visible cS_visible 3 (some .boolean)
abbrev cS_flight : ByteArray := prog_1_method_10_code
def yS_flight : MethodName := ⟨RS, "flight", "(II)I"⟩
-- .code yS_flight cS_flight 3 (some .int)
abbrev cS_pending : ByteArray := prog_1_method_12_code
def yS_pending : MethodName := ⟨RS, "pending", "(II)I"⟩
-- .code yS_pending cS_pending 3 (some .int)
abbrev cS_lacks : ByteArray := prog_1_method_13_code
def yS_lacks : MethodName := ⟨RS, "lacks", "(III)I"⟩
-- .code yS_lacks cS_lacks 5 (some .int)
abbrev cS_latest : ByteArray := prog_1_method_14_code
def yS_latest : MethodName := ⟨RS, "latest", "(II)I"⟩
-- .code yS_latest cS_latest 3 (some .int)
abbrev cS_clock : ByteArray := prog_1_method_16_code
def yS_clock : MethodName := ⟨RS, "clock", "(II)I"⟩
-- .code yS_clock cS_clock 3 (some .int)
abbrev cS_context : ByteArray := prog_1_method_17_code
def yS_context : MethodName := ⟨RS, "context", "(II)I"⟩
-- .code yS_context cS_context 3 (some .int)
abbrev cS_nearest : ByteArray := prog_1_method_18_code
def yS_nearest : MethodName := ⟨RS, "nearest", "(I)I"⟩
-- .code yS_nearest cS_nearest 2 (some .int)
abbrev cS_about : ByteArray := prog_1_method_19_code
def yS_about : MethodName := ⟨RS, "about", "(II)I"⟩
-- .code yS_about cS_about 3 (some .int)
abbrev cS_dependency : ByteArray := prog_1_method_20_code
def yS_dependency : MethodName := ⟨RS, "dependency", "(II)I"⟩
-- .code yS_dependency cS_dependency 3 (some .int)
abbrev cN_init : ByteArray := prog_7_method_1_code
def yN_init : MethodName := ⟨RN, "<init>", "()V"⟩
-- .code yN_init cN_init 1 none
abbrev cN_put : ByteArray := prog_7_method_11_code
def yN_put : MethodName := ⟨RN, "put", "(III)I"⟩
-- .code yN_put cN_put 9 (some .int)
abbrev cN_out : ByteArray := prog_7_method_2_code
def yN_out : MethodName := ⟨RN, "out", "(II)Z"⟩
-- .code yN_out cN_out 2 (some .boolean)
abbrev cN_open : ByteArray := prog_7_method_5_code
def yN_open : MethodName := ⟨RN, "open", "(I)Z"⟩
-- .code yN_open cN_open 2 (some .boolean)
abbrev cN_near : ByteArray := prog_7_method_8_code
def yN_near : MethodName := ⟨RN, "near", "(I)I"⟩
-- .code yN_near cN_near 8 (some .int)
abbrev cN_send : ByteArray := prog_7_method_10_code
def yN_send : MethodName := ⟨RN, "send", "(III)V"⟩
-- .code yN_send cN_send 5 none
abbrev cN_see : ByteArray := prog_7_method_9_code
def yN_see : MethodName := ⟨RN, "see", "(II)V"⟩
-- .code yN_see cN_see 4 none
abbrev cN_greater : ByteArray := prog_7_method_6_code
def yN_greater : MethodName := ⟨RN, "greater", "(II)I"⟩
-- .code yN_greater cN_greater 3 (some .int)
abbrev cN_get : ByteArray := prog_7_method_12_code
def yN_get : MethodName := ⟨RN, "get", "(II)I"⟩
-- .code yN_get cN_get 4 (some .int)
abbrev cN_latestOf : ByteArray := prog_7_method_7_code
def yN_latestOf : MethodName := ⟨RN, "latestOf", "(II)I"⟩
-- .code yN_latestOf cN_latestOf 5 (some .int)
abbrev cN_begin : ByteArray := prog_7_method_13_code
def yN_begin : MethodName := ⟨RN, "begin", "(II)Z"⟩
-- .code yN_begin cN_begin 4 (some .boolean)
abbrev cN_read : ByteArray := prog_7_method_17_code
def yN_read : MethodName := ⟨RN, "read", "(I)I"⟩
-- .code yN_read cN_read 3 (some .int)
abbrev cN_lowest : ByteArray := prog_7_method_4_code
def yN_lowest : MethodName := ⟨RN, "lowest", "(I)I"⟩
-- .code yN_lowest cN_lowest 3 (some .int)
abbrev cN_second : ByteArray := prog_7_method_16_code
def yN_second : MethodName := ⟨RN, "second", "(I)V"⟩
-- .code yN_second cN_second 5 none
abbrev cN_due : ByteArray := prog_7_method_14_code
def yN_due : MethodName := ⟨RN, "due", "(II)I"⟩
-- .code yN_due cN_due 6 (some .int)
abbrev cN_finish : ByteArray := prog_7_method_15_code
def yN_finish : MethodName := ⟨RN, "finish", "(I)V"⟩
-- .code yN_finish cN_finish 3 none
abbrev cN_count : ByteArray := prog_7_method_3_code
def yN_count : MethodName := ⟨RN, "count", "(I)I"⟩
-- .code yN_count cN_count 3 (some .int)
abbrev cN_got : ByteArray := prog_7_method_18_code
def yN_got : MethodName := ⟨RN, "got", "(II)I"⟩
-- .code yN_got cN_got 3 (some .int)
abbrev cN_rounds : ByteArray := prog_7_method_19_code
def yN_rounds : MethodName := ⟨RN, "rounds", "(I)I"⟩
-- .code yN_rounds cN_rounds 2 (some .int)
abbrev cN_deliver : ByteArray := prog_7_method_21_code
def yN_deliver : MethodName := ⟨RN, "deliver", "(III)Z"⟩
-- .code yN_deliver cN_deliver 7 (some .boolean)
abbrev cN_link : ByteArray := prog_7_method_20_code
def yN_link : MethodName := ⟨RN, "link", "(II)Z"⟩
-- .code yN_link cN_link 3 (some .boolean)
abbrev cN_serve : ByteArray := prog_7_method_23_code
def yN_serve : MethodName := ⟨RN, "serve", "(II)I"⟩
-- .code yN_serve cN_serve 8 (some .int)
abbrev cN_missing : ByteArray := prog_7_method_22_code
def yN_missing : MethodName := ⟨RN, "missing", "(II)I"⟩
-- .code yN_missing cN_missing 6 (some .int)
abbrev cN_flight : ByteArray := prog_7_method_24_code
def yN_flight : MethodName := ⟨RN, "flight", "(II)I"⟩
-- .code yN_flight cN_flight 3 (some .int)
abbrev cN_sent : ByteArray := prog_7_method_25_code
def yN_sent : MethodName := ⟨RN, "sent", "(III)I"⟩
-- .code yN_sent cN_sent 4 (some .int)
abbrev cN_pending : ByteArray := prog_7_method_26_code
def yN_pending : MethodName := ⟨RN, "pending", "(II)I"⟩
-- .code yN_pending cN_pending 3 (some .int)
abbrev cN_lacks : ByteArray := prog_7_method_27_code
def yN_lacks : MethodName := ⟨RN, "lacks", "(III)I"⟩
-- .code yN_lacks cN_lacks 5 (some .int)
abbrev cN_latest : ByteArray := prog_7_method_28_code
def yN_latest : MethodName := ⟨RN, "latest", "(II)I"⟩
-- .code yN_latest cN_latest 4 (some .int)
abbrev cN_visible : ByteArray := prog_7_method_29_code
def yN_visible : MethodName := ⟨RN, "visible", "(II)Z"⟩
-- .code yN_visible cN_visible 3 (some .boolean)
abbrev cN_clock : ByteArray := prog_7_method_30_code
def yN_clock : MethodName := ⟨RN, "clock", "(II)I"⟩
-- .code yN_clock cN_clock 3 (some .int)
abbrev cN_context : ByteArray := prog_7_method_31_code
def yN_context : MethodName := ⟨RN, "context", "(II)I"⟩
-- .code yN_context cN_context 3 (some .int)
abbrev cN_nearest : ByteArray := prog_7_method_32_code
def yN_nearest : MethodName := ⟨RN, "nearest", "(I)I"⟩
-- .code yN_nearest cN_nearest 2 (some .int)
abbrev cN_about : ByteArray := prog_7_method_33_code
def yN_about : MethodName := ⟨RN, "about", "(II)I"⟩
-- .code yN_about cN_about 3 (some .int)
abbrev cN_dependency : ByteArray := prog_7_method_34_code
def yN_dependency : MethodName := ⟨RN, "dependency", "(II)I"⟩
-- .code yN_dependency cN_dependency 3 (some .int)
abbrev cL_law : ByteArray := code
def yL_law : MethodName := ⟨RL, "law", "([I)Z"⟩
-- .code yL_law cL_law 4 (some .boolean)
abbrev vwCl : List vw_C := [(RS, TS, 5), (RW, TW, 6), (RC, TC, 4), (RK, TK, 7), (RR, TR, 2), (RN, TN, 19)]
