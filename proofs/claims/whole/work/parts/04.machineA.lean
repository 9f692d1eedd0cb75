/-! The reading machine. Ok G M pc lv st H b Q: wherever method M stands at pc with locals lv, stack st, abstract heap H and room b left, it ends, and its answer and heap have Q. Reference 0 is the script, reference k + 1 the k-th cell that we made. -/
abbrev oU : Type := Int32 ⊕ Option Nat
abbrev oC : Type := (Nat × Nat × (Nat → Int32)) ⊕ (Nat × Nat × (Nat → Option Nat)) ⊕ (Nat × List oU)
abbrev oH : Type := Nat × (Nat → Option oC)
abbrev oG : Type := Launch × va_G × List (ClassId × FieldType) × Nat × Nat × Nat × (Nat → Int32)
abbrev oM : Type := MethodName × ByteArray × Nat × Option FieldType × Nat × Nat
abbrev oL : Type := List (Nat × oU)
abbrev oP : Type := Option oU → oH → Prop
abbrev oLa (G : oG) : Launch := G.1
abbrev oD (G : oG) : va_G := G.2.1
abbrev oT (G : oG) : List (ClassId × FieldType) := G.2.2.1
abbrev oB (G : oG) : Nat := G.2.2.2.1
abbrev oS (G : oG) : Nat := G.2.2.2.2.1
abbrev oN (G : oG) : Nat := G.2.2.2.2.2.1
abbrev oX (G : oG) : Nat → Int32 := G.2.2.2.2.2.2
def oAd (G : oG) (r : Nat) : Nat := match r with
  | 0 => oS G
  | k + 1 => oB G + k
def oV (G : oG) (v : oU) : Value := match v with
  | .inl x => .int x
  | .inr none => .null
  | .inr (some r) => .ref (oAd G r)
def oE (G : oG) (c : oC) : va_E := match c with
  | .inl a => .inl (((oT G).getD a.1 (0, .int)).1, a.2.1, .inl a.2.2)
  | .inr (.inl a) => .inl (((oT G).getD a.1 (0, .int)).1, a.2.1, .inr (.inr (.inr (.inr fun k => (a.2.2 k).map (oAd G)))))
  | .inr (.inr a) => .inr (a.1, a.2.map (oV G))
def oW (G : oG) (H : oH) (hp : Heap) : Prop := hp.size = oB G + H.1 ∧ ∀ (r : Nat) (c : oC), H.2 r = some c → (∃ k, r = k + 1 ∧ k < H.1) ∧ va_at (oD G) vwCl (oAd G r, oE G c) hp
def oA (G : oG) : Nat → Prop := fun q => oB G ≤ q
def oNs (s : State) : Prop := (∀ q ∈ oNwF, va_Nw (.fieldLinkNest q.1 q.2.1 q.2.2.1 q.2.2.2.1 q.2.2.2.2.1 q.2.2.2.2.2) s) ∧ (∀ q ∈ oNwM, va_Nw (.methodLinkNest q.1 q.2.1 q.2.2.1 q.2.2.2) s) ∧ ∀ C ∈ oAO, va_AO C s
def oSt (G : oG) (H : oH) (U : State) : Prop := va_K (oD G) vwCl (oT G) U ∧ oNs U ∧ (oT G).map (fun q => q.2) = oTyL ∧ va_X (oS G) (oN G) (oX G) U U.heap ∧ oS G < oB G ∧ oB G ≤ U.heap.size ∧ oW G H U.heap
def oQ (G : oG) (Q : oP) : Array Value → State → Outcome → State → Prop := fun _ st oc t => (∃ (r : Option oU) (H' : oH), oc = .returned (r.map (oV G)) ∧ Q r H' ∧ oW G H' t.heap) ∧ va_F (oA G) st t
abbrev oCd (M : oM) : ByteArray := M.2.1
abbrev oMx (M : oM) : Nat := M.2.2.1
abbrev oRt (M : oM) : Option FieldType := M.2.2.2.1
abbrev oFr (M : oM) : Nat := M.2.2.2.2.1
abbrev oWd (M : oM) : Nat := M.2.2.2.2.2
def oCx (G : oG) (M : oM) (p : Program) (R : Room) (s : State) (mid : MethodId) (args : Array Value) (meth : Method) (c : Code) : Prop :=
  p.tables.exec = Jvm.exec ∧ c.code = oCd M ∧ c.maxLocals = oMx M ∧ meth.sig.returnType = oRt M ∧ meth.locks = false ∧ meth.name = M.1.name ∧ s.vm.findClass M.1.cls = some mid.cls ∧
  (∀ w ∈ oAll, w.before args s = true) ∧ va_K (oD G) vwCl (oT G) s ∧ oNs s ∧ (oT G).map (fun q => q.2) = oTyL ∧ va_X (oS G) (oN G) (oX G) s s.heap ∧ oS G < oB G ∧ oB G ≤ s.heap.size ∧ oFr M ≤ R.frames ∧ oWd M ≤ R.locals
def oDy (G : oG) (M : oM) (lv : oL) (H : oH) (b : Nat × Nat) (R : Room) (s : State) (hp : Heap) (locs : List Loc) (cells slots mc ms : Nat) (ls : Array Slot) : Prop :=
  lv_has ls (oMx M) (lv.map fun q => (q.1, oV G q.2)) ∧ oW G H hp ∧ va_S (oA G) s.heap hp locs ∧ cells + b.1 = mc ∧ slots + b.2 = ms ∧ mc ≤ R.cells ∧ ms ≤ R.slots
def Ok (G : oG) (M : oM) (pc : Nat) (lv : oL) (st : List oU) (H : oH) (b : Nat × Nat) (Q : oP) : Prop :=
  ∀ (p : Program) (e : Env) (R : Room) (s : State) (mid : MethodId) (args : Array Value) (below : List Frame) (meth : Method) (c : Code) (hp : Heap) (locs : List Loc) (cells slots mc ms : Nat) (ls : Array Slot),
    oCx G M p R s mid args meth c → oDy G M lv H b R s hp locs cells slots mc ms ls →
    W p (oLa G) e R s mid args below meth c hp locs cells slots (MQ below (oQ G Q) args s mc ms (oA G)) (F0 mid pc ls (st.map (oV G)))
def oGet : oL → Nat → Option oU
  | [], _ => none
  | q :: l, i => bif Nat.beq q.1 i then some q.2 else oGet l i
def oSet : oL → Nat → oU → oL
  | [], i, v => [(i, v)]
  | q :: l, i, v => bif Nat.beq q.1 i then (i, v) :: l.filter (fun q => !(Nat.beq q.1 i)) else q :: oSet l i v
def oUp (H : oH) (r : Nat) (c : oC) : oH := (H.1, va_up H.2 r (some c))
def oNw (H : oH) (c : oC) : oH := (H.1 + 1, va_up H.2 (H.1 + 1) (some c))
theorem oGet_mem : ∀ (l : oL) (i : Nat) (v : oU), oGet l i = some v → (i, v) ∈ l
  | [], _, _, h => by cases h
  | q :: l, i, v, h => by
    cases hb : Nat.beq q.1 i with
    | true =>
      simp only [oGet, hb, cond_true, Option.some.injEq] at h
      have e := Nat.eq_of_beq_eq_true hb
      subst h; subst e
      exact List.mem_cons_self
    | false =>
      simp only [oGet, hb, cond_false] at h
      exact List.mem_cons_of_mem _ (oGet_mem l i v h)
theorem oSet_mem : ∀ (l : oL) (i : Nat) (v : oU) (q : Nat × oU), q ∈ oSet l i v → q = (i, v) ∨ (q ∈ l ∧ ¬ q.1 = i)
  | [], i, v, q, h => Or.inl (List.mem_singleton.mp h)
  | a :: l, i, v, q, h => by
    cases hb : Nat.beq a.1 i with
    | true =>
      simp only [oSet, hb, cond_true] at h
      rcases List.mem_cons.mp h with h | h
      · exact Or.inl h
      · have h2 := List.mem_filter.mp h
        refine Or.inr ⟨List.mem_cons_of_mem _ h2.1, fun e => ?_⟩
        have h3 := h2.2
        rw [e] at h3
        simp at h3
    | false =>
      simp only [oSet, hb, cond_false] at h
      rcases List.mem_cons.mp h with h | h
      · refine Or.inr ⟨by rw [h]; exact List.mem_cons_self, fun e => ?_⟩
        rw [h] at e
        rw [e] at hb
        simp at hb
      · rcases oSet_mem l i v q h with h | ⟨h1, h2⟩
        · exact Or.inl h
        · exact Or.inr ⟨List.mem_cons_of_mem _ h1, h2⟩
theorem oV_cat (G : oG) (v : oU) : (oV G v).category = 1 := by
  obtain x | (_ | r) := v <;> rfl
theorem oSum (G : oG) : ∀ st : List oU, ((st.map (oV G)).map fun v => v.category).sum = st.length
  | [] => rfl
  | v :: st => by
    rw [List.map_cons, List.map_cons, List.sum_cons, oSum G st, oV_cat, List.length_cons]
    omega
theorem oHas_at {G : oG} {ls : Array Slot} {n : Nat} {lv : oL} (h : lv_has ls n (lv.map fun q => (q.1, oV G q.2))) {i : Nat} {v : oU} (hg : oGet lv i = some v) : ls[i]? = some (.val (oV G v)) :=
  h.2.2 (i, oV G v) (List.mem_map.mpr ⟨(i, v), oGet_mem lv i v hg, rfl⟩)
theorem oHas_set {G : oG} {ls : Array Slot} {n : Nat} {lv lv' : oL} {i : Nat} {v : oU} (hl : oSet lv i v = lv') (h : lv_has ls n ((i, oV G v) :: (lv.map fun q => (q.1, oV G q.2)).filter (fun q => !(q.1 == i) && !(q.1 + 1 == i && q.2.category == 2)))) : lv_has ls n (lv'.map fun q => (q.1, oV G q.2)) := by
  subst hl
  refine ⟨h.1, h.2.1, fun q hq => ?_⟩
  obtain ⟨a, ha, rfl⟩ := List.mem_map.mp hq
  rcases oSet_mem lv i v a ha with rfl | ⟨h1, h2⟩
  · exact h.2.2 _ List.mem_cons_self
  · refine h.2.2 _ (List.mem_cons_of_mem _ (List.mem_filter.mpr ⟨List.mem_map.mpr ⟨a, h1, rfl⟩, ?_⟩))
    have h3 : ((oV G a.2).category == 2) = false := by rw [oV_cat]; rfl
    simp [h2, h3]
theorem oHas_sub {G : oG} {ls : Array Slot} {n : Nat} {lv lv' : oL} (ks : List Nat) (hl : ks.filterMap (fun k => lv[k]?) = lv') (h : lv_has ls n (lv.map fun q => (q.1, oV G q.2))) : lv_has ls n (lv'.map fun q => (q.1, oV G q.2)) := by
  subst hl
  refine ⟨h.1, h.2.1, fun q hq => ?_⟩
  obtain ⟨a, ha, rfl⟩ := List.mem_map.mp hq
  obtain ⟨k, -, hk⟩ := List.mem_filterMap.mp ha
  exact h.2.2 _ (List.mem_map.mpr ⟨a, List.mem_of_getElem? hk, rfl⟩)
section MA
variable {G : oG} {M : oM} {pc : Nat} {lv : oL} {st : List oU} {H : oH} {b : Nat × Nat} {Q : oP}
theorem o_iadd {x y : Int32} (hd : decode (oCd M) pc = .ok (.iadd, 1)) (k : Ok G M (pc + 1) lv (.inl (x + y) :: st) H b Q) : Ok G M pc lv (.inl y :: .inl x :: st) H b Q :=
  fun p e R s mid args below meth c hp locs cells slots mc ms ls X Y => lv_iadd X.1 X.2.1 hd (k p e R s mid args below meth c hp locs cells slots mc ms ls X Y)
theorem o_isub {x y : Int32} (hd : decode (oCd M) pc = .ok (.isub, 1)) (k : Ok G M (pc + 1) lv (.inl (x - y) :: st) H b Q) : Ok G M pc lv (.inl y :: .inl x :: st) H b Q :=
  fun p e R s mid args below meth c hp locs cells slots mc ms ls X Y => lv_isub X.1 X.2.1 hd (k p e R s mid args below meth c hp locs cells slots mc ms ls X Y)
theorem o_imul {x y : Int32} (hd : decode (oCd M) pc = .ok (.imul, 1)) (k : Ok G M (pc + 1) lv (.inl (x * y) :: st) H b Q) : Ok G M pc lv (.inl y :: .inl x :: st) H b Q :=
  fun p e R s mid args below meth c hp locs cells slots mc ms ls X Y => lv_imul X.1 X.2.1 hd (k p e R s mid args below meth c hp locs cells slots mc ms ls X Y)
theorem o_iand {x y : Int32} (hd : decode (oCd M) pc = .ok (.iand, 1)) (k : Ok G M (pc + 1) lv (.inl (x &&& y) :: st) H b Q) : Ok G M pc lv (.inl y :: .inl x :: st) H b Q :=
  fun p e R s mid args below meth c hp locs cells slots mc ms ls X Y => lv_iand X.1 X.2.1 hd (k p e R s mid args below meth c hp locs cells slots mc ms ls X Y)
theorem o_ior {x y : Int32} (hd : decode (oCd M) pc = .ok (.ior, 1)) (k : Ok G M (pc + 1) lv (.inl (x ||| y) :: st) H b Q) : Ok G M pc lv (.inl y :: .inl x :: st) H b Q :=
  fun p e R s mid args below meth c hp locs cells slots mc ms ls X Y => lv_ior X.1 X.2.1 hd (k p e R s mid args below meth c hp locs cells slots mc ms ls X Y)
theorem o_ixor {x y : Int32} (hd : decode (oCd M) pc = .ok (.ixor, 1)) (k : Ok G M (pc + 1) lv (.inl (x ^^^ y) :: st) H b Q) : Ok G M pc lv (.inl y :: .inl x :: st) H b Q :=
  fun p e R s mid args below meth c hp locs cells slots mc ms ls X Y => lv_ixor X.1 X.2.1 hd (k p e R s mid args below meth c hp locs cells slots mc ms ls X Y)
theorem o_ishl {x y : Int32} (hd : decode (oCd M) pc = .ok (.ishl, 1)) (k : Ok G M (pc + 1) lv (.inl (x <<< (y &&& 31)) :: st) H b Q) : Ok G M pc lv (.inl y :: .inl x :: st) H b Q :=
  fun p e R s mid args below meth c hp locs cells slots mc ms ls X Y => lv_ishl X.1 X.2.1 hd (k p e R s mid args below meth c hp locs cells slots mc ms ls X Y)
theorem o_ishr {x y : Int32} (hd : decode (oCd M) pc = .ok (.ishr, 1)) (k : Ok G M (pc + 1) lv (.inl (x >>> (y &&& 31)) :: st) H b Q) : Ok G M pc lv (.inl y :: .inl x :: st) H b Q :=
  fun p e R s mid args below meth c hp locs cells slots mc ms ls X Y => lv_ishr X.1 X.2.1 hd (k p e R s mid args below meth c hp locs cells slots mc ms ls X Y)
theorem o_idiv {x y : Int32} (hd : decode (oCd M) pc = .ok (.idiv, 1)) (hne : ¬ y = 0) (k : Ok G M (pc + 1) lv (.inl (x / y) :: st) H b Q) : Ok G M pc lv (.inl y :: .inl x :: st) H b Q :=
  fun p e R s mid args below meth c hp locs cells slots mc ms ls X Y => lv_idiv X.1 X.2.1 hd hne (k p e R s mid args below meth c hp locs cells slots mc ms ls X Y)
theorem o_irem {x y : Int32} (hd : decode (oCd M) pc = .ok (.irem, 1)) (hne : ¬ y = 0) (k : Ok G M (pc + 1) lv (.inl (x - x / y * y) :: st) H b Q) : Ok G M pc lv (.inl y :: .inl x :: st) H b Q :=
  fun p e R s mid args below meth c hp locs cells slots mc ms ls X Y => lv_irem X.1 X.2.1 hd hne (k p e R s mid args below meth c hp locs cells slots mc ms ls X Y)
theorem o_iushr {x y : Int32} (hd : decode (oCd M) pc = .ok (.iushr, 1)) (k : Ok G M (pc + 1) lv (.inl ((x.toUInt32 >>> (y.toUInt32 &&& Int32.toUInt32 31)).toInt32) :: st) H b Q) : Ok G M pc lv (.inl y :: .inl x :: st) H b Q :=
  fun p e R s mid args below meth c hp locs cells slots mc ms ls X Y => lv_iushr X.1 X.2.1 hd rfl (k p e R s mid args below meth c hp locs cells slots mc ms ls X Y)
theorem o_iconst (v : Int32) {n : Int} (hd : decode (oCd M) pc = .ok (.iconst n, 1)) (hv : Int32.ofInt n = v) (k : Ok G M (pc + 1) lv (.inl v :: st) H b Q) : Ok G M pc lv (st) H b Q :=
  fun p e R s mid args below meth c hp locs cells slots mc ms ls X Y => lv_iconst X.1 X.2.1 hd hv (k p e R s mid args below meth c hp locs cells slots mc ms ls X Y)
theorem o_bipush (v : Int32) {n : Int} (hd : decode (oCd M) pc = .ok (.bipush n, 2)) (hv : (Int8.ofInt n).toInt32 = v) (k : Ok G M (pc + 2) lv (.inl v :: st) H b Q) : Ok G M pc lv (st) H b Q :=
  fun p e R s mid args below meth c hp locs cells slots mc ms ls X Y => lv_bipush X.1 X.2.1 hd hv (k p e R s mid args below meth c hp locs cells slots mc ms ls X Y)
theorem o_sipush (v : Int32) {n : Int} (hd : decode (oCd M) pc = .ok (.sipush n, 3)) (hv : (Int16.ofInt n).toInt32 = v) (k : Ok G M (pc + 3) lv (.inl v :: st) H b Q) : Ok G M pc lv (st) H b Q :=
  fun p e R s mid args below meth c hp locs cells slots mc ms ls X Y => lv_sipush X.1 X.2.1 hd hv (k p e R s mid args below meth c hp locs cells slots mc ms ls X Y)
theorem o_dup {v : oU} (hd : decode (oCd M) pc = .ok (.dup, 1)) (k : Ok G M (pc + 1) lv (v :: v :: st) H b Q) : Ok G M pc lv (v :: st) H b Q :=
  fun p e R s mid args below meth c hp locs cells slots mc ms ls X Y => lv_dup X.1 X.2.1 hd (oV_cat G v) (k p e R s mid args below meth c hp locs cells slots mc ms ls X Y)
theorem o_pop {v : oU} (hd : decode (oCd M) pc = .ok (.pop, 1)) (k : Ok G M (pc + 1) lv (st) H b Q) : Ok G M pc lv (v :: st) H b Q :=
  fun p e R s mid args below meth c hp locs cells slots mc ms ls X Y => lv_pop X.1 X.2.1 hd (oV_cat G v) (k p e R s mid args below meth c hp locs cells slots mc ms ls X Y)
theorem o_dup2 {v w : oU} (hd : decode (oCd M) pc = .ok (.dup2, 1)) (k : Ok G M (pc + 1) lv (v :: w :: v :: w :: st) H b Q) : Ok G M pc lv (v :: w :: st) H b Q :=
  fun p e R s mid args below meth c hp locs cells slots mc ms ls X Y => lv_dup2_11 X.1 X.2.1 hd (oV_cat G v) (oV_cat G w) (k p e R s mid args below meth c hp locs cells slots mc ms ls X Y)
theorem o_iload {i : Nat} {x : Int32} (hd : decode (oCd M) pc = .ok (.iload i, 2)) (hl : oGet lv i = some (.inl x)) (k : Ok G M (pc + 2) lv (.inl x :: st) H b Q) : Ok G M pc lv st H b Q :=
  fun p e R s mid args below meth c hp locs cells slots mc ms ls X Y => lv_iload X.1 X.2.1 hd (oHas_at Y.1 hl) (k p e R s mid args below meth c hp locs cells slots mc ms ls X Y)
theorem o_iload_n {j : Fin 4} {x : Int32} (hd : decode (oCd M) pc = .ok (.iload_n j, 1)) (hl : oGet lv (j : Nat) = some (.inl x)) (k : Ok G M (pc + 1) lv (.inl x :: st) H b Q) : Ok G M pc lv st H b Q :=
  fun p e R s mid args below meth c hp locs cells slots mc ms ls X Y => lv_iload_n X.1 X.2.1 hd rfl (oHas_at Y.1 hl) (k p e R s mid args below meth c hp locs cells slots mc ms ls X Y)
theorem o_aload {i : Nat} {x : Nat} (hd : decode (oCd M) pc = .ok (.aload i, 2)) (hl : oGet lv i = some (.inr (some x))) (k : Ok G M (pc + 2) lv (.inr (some x) :: st) H b Q) : Ok G M pc lv st H b Q :=
  fun p e R s mid args below meth c hp locs cells slots mc ms ls X Y => lv_aload X.1 X.2.1 hd (oHas_at Y.1 hl) (k p e R s mid args below meth c hp locs cells slots mc ms ls X Y)
theorem o_aload_n {j : Fin 4} {x : Nat} (hd : decode (oCd M) pc = .ok (.aload_n j, 1)) (hl : oGet lv (j : Nat) = some (.inr (some x))) (k : Ok G M (pc + 1) lv (.inr (some x) :: st) H b Q) : Ok G M pc lv st H b Q :=
  fun p e R s mid args below meth c hp locs cells slots mc ms ls X Y => lv_aload_n X.1 X.2.1 hd rfl (oHas_at Y.1 hl) (k p e R s mid args below meth c hp locs cells slots mc ms ls X Y)
theorem o_istore {i : Nat} {x : Int32} (lv' : oL) (hd : decode (oCd M) pc = .ok (.istore i, 2)) (hn : Nat.blt i (oMx M) = true) (hl : oSet lv i (.inl x) = lv') (k : Ok G M (pc + 2) lv' st H b Q) : Ok G M pc lv (.inl x :: st) H b Q :=
  fun p e R s mid args below meth c hp locs cells slots mc ms ls X Y => lv_istore X.1 X.2.1 hd Y.1 (Nat.le_of_ble_eq_true hn) rfl (fun ls h => k p e R s mid args below meth c hp locs cells slots mc ms ls X ⟨oHas_set hl h, Y.2⟩)
theorem o_istore_n {j : Fin 4} {x : Int32} (lv' : oL) (hd : decode (oCd M) pc = .ok (.istore_n j, 1)) (hn : Nat.blt (j : Nat) (oMx M) = true) (hl : oSet lv (j : Nat) (.inl x) = lv') (k : Ok G M (pc + 1) lv' st H b Q) : Ok G M pc lv (.inl x :: st) H b Q :=
  fun p e R s mid args below meth c hp locs cells slots mc ms ls X Y => lv_istore_n X.1 X.2.1 hd rfl Y.1 (Nat.le_of_ble_eq_true hn) rfl (fun ls h => k p e R s mid args below meth c hp locs cells slots mc ms ls X ⟨oHas_set hl h, Y.2⟩)
theorem o_astore {i : Nat} {x : Nat} (lv' : oL) (hd : decode (oCd M) pc = .ok (.astore i, 2)) (hn : Nat.blt i (oMx M) = true) (hl : oSet lv i (.inr (some x)) = lv') (k : Ok G M (pc + 2) lv' st H b Q) : Ok G M pc lv (.inr (some x) :: st) H b Q :=
  fun p e R s mid args below meth c hp locs cells slots mc ms ls X Y => lv_astore X.1 X.2.1 hd Y.1 (Nat.le_of_ble_eq_true hn) rfl (fun ls h => k p e R s mid args below meth c hp locs cells slots mc ms ls X ⟨oHas_set hl h, Y.2⟩)
theorem o_astore_n {j : Fin 4} {x : Nat} (lv' : oL) (hd : decode (oCd M) pc = .ok (.astore_n j, 1)) (hn : Nat.blt (j : Nat) (oMx M) = true) (hl : oSet lv (j : Nat) (.inr (some x)) = lv') (k : Ok G M (pc + 1) lv' st H b Q) : Ok G M pc lv (.inr (some x) :: st) H b Q :=
  fun p e R s mid args below meth c hp locs cells slots mc ms ls X Y => lv_astore_n X.1 X.2.1 hd rfl Y.1 (Nat.le_of_ble_eq_true hn) rfl (fun ls h => k p e R s mid args below meth c hp locs cells slots mc ms ls X ⟨oHas_set hl h, Y.2⟩)
theorem o_iinc {i : Nat} {n : Int} {x : Int32} (v : Int32) (lv' : oL) (hd : decode (oCd M) pc = .ok (.iinc i n, 3)) (hg : oGet lv i = some (.inl x)) (hv : x + Int32.ofInt n = v) (hn : Nat.blt i (oMx M) = true) (hl : oSet lv i (.inl v) = lv') (k : Ok G M (pc + 3) lv' st H b Q) : Ok G M pc lv st H b Q := by
  intro p e R s mid args below meth c hp locs cells slots mc ms ls X Y
  obtain ⟨z, hz⟩ := List.getElem?_of_mem (List.mem_map.mpr ⟨(i, .inl x), oGet_mem lv i _ hg, rfl⟩ : (i, oV G (.inl x)) ∈ lv.map fun q => (q.1, oV G q.2))
  exact lv_iinc X.1 X.2.1 hd Y.1 hz hv (Nat.le_of_ble_eq_true hn) rfl (fun ls h => k p e R s mid args below meth c hp locs cells slots mc ms ls X ⟨oHas_set (v := .inl v) hl h, Y.2⟩)
theorem o_lv (lv' : oL) (ks : List Nat) (hl : ks.filterMap (fun k => lv[k]?) = lv') (k : Ok G M pc lv' st H b Q) : Ok G M pc lv st H b Q :=
  fun p e R s mid args below meth c hp locs cells slots mc ms ls X Y => k p e R s mid args below meth c hp locs cells slots mc ms ls X ⟨oHas_sub ks hl Y.1, Y.2⟩
theorem o_if_eq {x : Int32} {off : Int} (tgt : Nat) (hd : decode (oCd M) pc = .ok (.ifCond .eq off, 3)) (ht : (pc : Int) + off = (tgt : Int)) (kt : x = 0 → Ok G M tgt lv st H b Q) (kf : ¬ x = 0 → Ok G M (pc + 3) lv st H b Q) : Ok G M pc lv (.inl x :: st) H b Q :=
  fun p e R s mid args below meth c hp locs cells slots mc ms ls X Y => lv_if_eq X.1 X.2.1 hd ht (fun h => kt h p e R s mid args below meth c hp locs cells slots mc ms ls X Y) (fun h => kf h p e R s mid args below meth c hp locs cells slots mc ms ls X Y)
theorem o_icmp_eq {x y : Int32} {off : Int} (tgt : Nat) (hd : decode (oCd M) pc = .ok (.if_icmp .eq off, 3)) (ht : (pc : Int) + off = (tgt : Int)) (kt : x = y → Ok G M tgt lv st H b Q) (kf : ¬ x = y → Ok G M (pc + 3) lv st H b Q) : Ok G M pc lv (.inl y :: .inl x :: st) H b Q :=
  fun p e R s mid args below meth c hp locs cells slots mc ms ls X Y => lv_icmp_eq X.1 X.2.1 hd ht (fun h => kt h p e R s mid args below meth c hp locs cells slots mc ms ls X Y) (fun h => kf h p e R s mid args below meth c hp locs cells slots mc ms ls X Y)
theorem o_if_ne {x : Int32} {off : Int} (tgt : Nat) (hd : decode (oCd M) pc = .ok (.ifCond .ne off, 3)) (ht : (pc : Int) + off = (tgt : Int)) (kt : ¬ x = 0 → Ok G M tgt lv st H b Q) (kf : x = 0 → Ok G M (pc + 3) lv st H b Q) : Ok G M pc lv (.inl x :: st) H b Q :=
  fun p e R s mid args below meth c hp locs cells slots mc ms ls X Y => lv_if_ne X.1 X.2.1 hd ht (fun h => kt h p e R s mid args below meth c hp locs cells slots mc ms ls X Y) (fun h => kf h p e R s mid args below meth c hp locs cells slots mc ms ls X Y)
theorem o_icmp_ne {x y : Int32} {off : Int} (tgt : Nat) (hd : decode (oCd M) pc = .ok (.if_icmp .ne off, 3)) (ht : (pc : Int) + off = (tgt : Int)) (kt : ¬ x = y → Ok G M tgt lv st H b Q) (kf : x = y → Ok G M (pc + 3) lv st H b Q) : Ok G M pc lv (.inl y :: .inl x :: st) H b Q :=
  fun p e R s mid args below meth c hp locs cells slots mc ms ls X Y => lv_icmp_ne X.1 X.2.1 hd ht (fun h => kt h p e R s mid args below meth c hp locs cells slots mc ms ls X Y) (fun h => kf h p e R s mid args below meth c hp locs cells slots mc ms ls X Y)
theorem o_if_lt {x : Int32} {off : Int} (tgt : Nat) (hd : decode (oCd M) pc = .ok (.ifCond .lt off, 3)) (ht : (pc : Int) + off = (tgt : Int)) (kt : x < 0 → Ok G M tgt lv st H b Q) (kf : ¬ x < 0 → Ok G M (pc + 3) lv st H b Q) : Ok G M pc lv (.inl x :: st) H b Q :=
  fun p e R s mid args below meth c hp locs cells slots mc ms ls X Y => lv_if_lt X.1 X.2.1 hd ht (fun h => kt h p e R s mid args below meth c hp locs cells slots mc ms ls X Y) (fun h => kf h p e R s mid args below meth c hp locs cells slots mc ms ls X Y)
theorem o_icmp_lt {x y : Int32} {off : Int} (tgt : Nat) (hd : decode (oCd M) pc = .ok (.if_icmp .lt off, 3)) (ht : (pc : Int) + off = (tgt : Int)) (kt : x < y → Ok G M tgt lv st H b Q) (kf : ¬ x < y → Ok G M (pc + 3) lv st H b Q) : Ok G M pc lv (.inl y :: .inl x :: st) H b Q :=
  fun p e R s mid args below meth c hp locs cells slots mc ms ls X Y => lv_icmp_lt X.1 X.2.1 hd ht (fun h => kt h p e R s mid args below meth c hp locs cells slots mc ms ls X Y) (fun h => kf h p e R s mid args below meth c hp locs cells slots mc ms ls X Y)
theorem o_if_ge {x : Int32} {off : Int} (tgt : Nat) (hd : decode (oCd M) pc = .ok (.ifCond .ge off, 3)) (ht : (pc : Int) + off = (tgt : Int)) (kt : 0 ≤ x → Ok G M tgt lv st H b Q) (kf : ¬ 0 ≤ x → Ok G M (pc + 3) lv st H b Q) : Ok G M pc lv (.inl x :: st) H b Q :=
  fun p e R s mid args below meth c hp locs cells slots mc ms ls X Y => lv_if_ge X.1 X.2.1 hd ht (fun h => kt h p e R s mid args below meth c hp locs cells slots mc ms ls X Y) (fun h => kf h p e R s mid args below meth c hp locs cells slots mc ms ls X Y)
theorem o_icmp_ge {x y : Int32} {off : Int} (tgt : Nat) (hd : decode (oCd M) pc = .ok (.if_icmp .ge off, 3)) (ht : (pc : Int) + off = (tgt : Int)) (kt : y ≤ x → Ok G M tgt lv st H b Q) (kf : ¬ y ≤ x → Ok G M (pc + 3) lv st H b Q) : Ok G M pc lv (.inl y :: .inl x :: st) H b Q :=
  fun p e R s mid args below meth c hp locs cells slots mc ms ls X Y => lv_icmp_ge X.1 X.2.1 hd ht (fun h => kt h p e R s mid args below meth c hp locs cells slots mc ms ls X Y) (fun h => kf h p e R s mid args below meth c hp locs cells slots mc ms ls X Y)
theorem o_if_gt {x : Int32} {off : Int} (tgt : Nat) (hd : decode (oCd M) pc = .ok (.ifCond .gt off, 3)) (ht : (pc : Int) + off = (tgt : Int)) (kt : 0 < x → Ok G M tgt lv st H b Q) (kf : ¬ 0 < x → Ok G M (pc + 3) lv st H b Q) : Ok G M pc lv (.inl x :: st) H b Q :=
  fun p e R s mid args below meth c hp locs cells slots mc ms ls X Y => lv_if_gt X.1 X.2.1 hd ht (fun h => kt h p e R s mid args below meth c hp locs cells slots mc ms ls X Y) (fun h => kf h p e R s mid args below meth c hp locs cells slots mc ms ls X Y)
theorem o_icmp_gt {x y : Int32} {off : Int} (tgt : Nat) (hd : decode (oCd M) pc = .ok (.if_icmp .gt off, 3)) (ht : (pc : Int) + off = (tgt : Int)) (kt : y < x → Ok G M tgt lv st H b Q) (kf : ¬ y < x → Ok G M (pc + 3) lv st H b Q) : Ok G M pc lv (.inl y :: .inl x :: st) H b Q :=
  fun p e R s mid args below meth c hp locs cells slots mc ms ls X Y => lv_icmp_gt X.1 X.2.1 hd ht (fun h => kt h p e R s mid args below meth c hp locs cells slots mc ms ls X Y) (fun h => kf h p e R s mid args below meth c hp locs cells slots mc ms ls X Y)
theorem o_if_le {x : Int32} {off : Int} (tgt : Nat) (hd : decode (oCd M) pc = .ok (.ifCond .le off, 3)) (ht : (pc : Int) + off = (tgt : Int)) (kt : x ≤ 0 → Ok G M tgt lv st H b Q) (kf : ¬ x ≤ 0 → Ok G M (pc + 3) lv st H b Q) : Ok G M pc lv (.inl x :: st) H b Q :=
  fun p e R s mid args below meth c hp locs cells slots mc ms ls X Y => lv_if_le X.1 X.2.1 hd ht (fun h => kt h p e R s mid args below meth c hp locs cells slots mc ms ls X Y) (fun h => kf h p e R s mid args below meth c hp locs cells slots mc ms ls X Y)
theorem o_icmp_le {x y : Int32} {off : Int} (tgt : Nat) (hd : decode (oCd M) pc = .ok (.if_icmp .le off, 3)) (ht : (pc : Int) + off = (tgt : Int)) (kt : x ≤ y → Ok G M tgt lv st H b Q) (kf : ¬ x ≤ y → Ok G M (pc + 3) lv st H b Q) : Ok G M pc lv (.inl y :: .inl x :: st) H b Q :=
  fun p e R s mid args below meth c hp locs cells slots mc ms ls X Y => lv_icmp_le X.1 X.2.1 hd ht (fun h => kt h p e R s mid args below meth c hp locs cells slots mc ms ls X Y) (fun h => kf h p e R s mid args below meth c hp locs cells slots mc ms ls X Y)
theorem o_goto {off : Int} (tgt : Nat) (hd : decode (oCd M) pc = .ok (.goto off, 3)) (ht : (pc : Int) + off = (tgt : Int)) (k : Ok G M tgt lv st H b Q) : Ok G M pc lv st H b Q :=
  fun p e R s mid args below meth c hp locs cells slots mc ms ls X Y => lv_goto X.1 X.2.1 hd ht (k p e R s mid args below meth c hp locs cells slots mc ms ls X Y)
theorem o_tabOut {dflt lo hi : Int} {offs : Array Int} {len : Nat} {x : Int32} (tgt : Nat) (hd : decode (oCd M) pc = .ok (.tableswitch dflt lo hi offs, len)) (h : x.toInt < lo ∨ hi < x.toInt) (ht : (pc : Int) + dflt = (tgt : Int)) (k : Ok G M tgt lv st H b Q) : Ok G M pc lv (.inl x :: st) H b Q :=
  fun p e R s mid args below meth c hp locs cells slots mc ms ls X Y => lv_tableOut X.1 X.2.1 hd h ht (k p e R s mid args below meth c hp locs cells slots mc ms ls X Y)
theorem o_tabIn {dflt lo hi off : Int} {offs : Array Int} {len : Nat} {x : Int32} (tgt : Nat) (hd : decode (oCd M) pc = .ok (.tableswitch dflt lo hi offs, len)) (h1 : ¬ x.toInt < lo) (h2 : ¬ hi < x.toInt) (ho : offs[(x.toInt - lo).toNat]? = some off) (ht : (pc : Int) + off = (tgt : Int)) (k : Ok G M tgt lv st H b Q) : Ok G M pc lv (.inl x :: st) H b Q :=
  fun p e R s mid args below meth c hp locs cells slots mc ms ls X Y => lv_tableIn X.1 X.2.1 hd h1 h2 ho ht (k p e R s mid args below meth c hp locs cells slots mc ms ls X Y)
end MA
