/-! The start: the classes, the array classes, the links; then one walk. -/
theorem oTb1 {i : Nat} {w : Cond} (h : tables_1_1[i]? = some w) : w ∈ lw_tbl := List.mem_append_right _ (List.mem_append_left _ (List.mem_of_getElem? h))
theorem oTb2 {i : Nat} {w : Cond} (h : tables_1_2[i]? = some w) : w ∈ lw_tbl := List.mem_append_right _ (List.mem_append_right _ (List.mem_append_left _ (List.mem_of_getElem? h)))
theorem oTb3 {i : Nat} {w : Cond} (h : tables_1_3[i]? = some w) : w ∈ lw_tbl := List.mem_append_right _ (List.mem_append_right _ (List.mem_append_right _ (List.mem_of_getElem? h)))
theorem oF_tb : ∀ q ∈ oNwF, Cond.fieldLinkNest q.1 q.2.1 q.2.2.1 q.2.2.2.1 q.2.2.2.2.1 q.2.2.2.2.2 ∈ lw_tbl := List.forall_mem_cons.mpr ⟨oTb1 (i := 39) rfl, List.forall_mem_cons.mpr ⟨oTb1 (i := 41) rfl, List.forall_mem_cons.mpr ⟨oTb1 (i := 43) rfl, List.forall_mem_cons.mpr ⟨oTb1 (i := 45) rfl, List.forall_mem_cons.mpr ⟨oTb1 (i := 47) rfl, List.forall_mem_cons.mpr ⟨oTb1 (i := 49) rfl, List.forall_mem_cons.mpr ⟨oTb1 (i := 78) rfl, List.forall_mem_cons.mpr ⟨oTb1 (i := 86) rfl, List.forall_mem_cons.mpr ⟨oTb1 (i := 88) rfl, List.forall_mem_cons.mpr ⟨oTb1 (i := 90) rfl, List.forall_mem_cons.mpr ⟨oTb1 (i := 92) rfl, List.forall_mem_cons.mpr ⟨oTb1 (i := 109) rfl, List.forall_mem_cons.mpr ⟨oTb1 (i := 111) rfl, List.forall_mem_cons.mpr ⟨oTb1 (i := 113) rfl, List.forall_mem_cons.mpr ⟨oTb1 (i := 115) rfl, List.forall_mem_cons.mpr ⟨oTb1 (i := 117) rfl, List.forall_mem_cons.mpr ⟨oTb1 (i := 119) rfl, List.forall_mem_cons.mpr ⟨oTb1 (i := 121) rfl, fun _ h => absurd h List.not_mem_nil⟩⟩⟩⟩⟩⟩⟩⟩⟩⟩⟩⟩⟩⟩⟩⟩⟩⟩
theorem oM_tb : ∀ q ∈ oNwM, Cond.methodLinkNest q.1 q.2.1 q.2.2.1 q.2.2.2 ∈ lw_tbl := List.forall_mem_cons.mpr ⟨oTb1 (i := 28) rfl, List.forall_mem_cons.mpr ⟨oTb1 (i := 32) rfl, List.forall_mem_cons.mpr ⟨oTb1 (i := 65) rfl, List.forall_mem_cons.mpr ⟨oTb1 (i := 69) rfl, List.forall_mem_cons.mpr ⟨oTb1 (i := 72) rfl, List.forall_mem_cons.mpr ⟨oTb1 (i := 103) rfl, List.forall_mem_cons.mpr ⟨oTb1 (i := 107) rfl, List.forall_mem_cons.mpr ⟨oTb1 (i := 137) rfl, List.forall_mem_cons.mpr ⟨oTb1 (i := 164) rfl, List.forall_mem_cons.mpr ⟨oTb1 (i := 179) rfl, List.forall_mem_cons.mpr ⟨oTb1 (i := 191) rfl, List.forall_mem_cons.mpr ⟨oTb1 (i := 210) rfl, List.forall_mem_cons.mpr ⟨oTb1 (i := 226) rfl, List.forall_mem_cons.mpr ⟨oTb2 (i := 39) rfl, List.forall_mem_cons.mpr ⟨oTb2 (i := 43) rfl, fun _ h => absurd h List.not_mem_nil⟩⟩⟩⟩⟩⟩⟩⟩⟩⟩⟩⟩⟩⟩⟩
theorem oA_tb : ∀ C ∈ oAO, Cond.arrayOver (.object C) ∈ lw_tbl := List.forall_mem_cons.mpr ⟨oTb1 (i := 20) rfl, List.forall_mem_cons.mpr ⟨oTb1 (i := 22) rfl, List.forall_mem_cons.mpr ⟨oTb1 (i := 24) rfl, List.forall_mem_cons.mpr ⟨oTb1 (i := 26) rfl, fun _ h => absurd h List.not_mem_nil⟩⟩⟩⟩
theorem oNs_0 {A : Array Value} {s : State} (hts : ∀ w ∈ lw_tbl, w.before A s = true) : oNs s := ⟨fun q hq => va_Nw.of rfl (hts _ (oF_tb q hq)), fun q hq => va_Nw.of rfl (hts _ (oM_tb q hq)), fun C hC => va_AO.of (hts _ (oA_tb C hC))⟩
theorem oCl_0 {A : Array Value} {s : State} (hw : ∀ w ∈ oAll, w.before A s = true) : ∀ ci : Nat, ∃ (cC : ClassId) (iS : Nat → Nat), ∀ q : vw_C, vwCl[ci]? = some q → u_Kn s q.1 q.2.1 q.2.2 cC iS
  | 0 => by
    obtain ⟨cC, iS, h⟩ := u_known hw (oIn 0 _ rfl) (hw _ it_S)
    exact ⟨cC, iS, fun q hq => by cases hq; exact h⟩
  | 1 => by
    obtain ⟨cC, iS, h⟩ := u_known hw (oIn 1 _ rfl) (hw _ it_W)
    exact ⟨cC, iS, fun q hq => by cases hq; exact h⟩
  | 2 => by
    obtain ⟨cC, iS, h⟩ := u_known hw (oIn 2 _ rfl) (hw _ it_C)
    exact ⟨cC, iS, fun q hq => by cases hq; exact h⟩
  | 3 => by
    obtain ⟨cC, iS, h⟩ := u_known hw (oIn 3 _ rfl) (hw _ it_K)
    exact ⟨cC, iS, fun q hq => by cases hq; exact h⟩
  | 4 => by
    obtain ⟨cC, iS, h⟩ := u_known hw (oIn 4 _ rfl) (hw _ it_R)
    exact ⟨cC, iS, fun q hq => by cases hq; exact h⟩
  | 5 => by
    obtain ⟨cC, iS, h⟩ := u_known hw (oIn 5 _ rfl) (hw _ it_N)
    exact ⟨cC, iS, fun q hq => by cases hq; exact h⟩
  | k + 6 => ⟨0, fun _ => 0, fun q hq => by simp [vwCl] at hq⟩
theorem oAr_p {A : Array Value} {s : State} {ty : FieldType} (hty : ∀ C, ¬ ty = .object C) (h : (Cond.arrayClass ty).before A s = true) : ∃ cA : ClassId, ArrOfT s cA ty ∧ va_RA s cA ty := by
  obtain ⟨c, k, comp, h1, h2, h3⟩ := Cond.arrayClass_spec h
  refine ⟨c, fun n z => ⟨(fun k h => by cases h), k, h2, comp, h3⟩, ?_⟩
  cases ty with
  | object C => exact absurd rfl (hty C)
  | _ => exact h1
theorem oAr_o {A : Array Value} {s : State} {C : String} (h : (Cond.arrayOver (.object C)).before A s = true) : ∃ cA : ClassId, ArrOfT s cA (.object C) ∧ va_RA s cA (.object C) := by
  obtain ⟨comp, c, k, h1, h2, h3, h4, h5⟩ := Cond.arrayOver_spec h
  exact ⟨c, fun n z => ⟨(fun k h => by cases h), k, h3, comp, h4⟩, k, comp, h3, h4, h1, h5⟩
theorem oTy_0 {A : Array Value} {s : State} (hts : ∀ w ∈ lw_tbl, w.before A s = true) : ∃ tys : List (ClassId × FieldType), tys.map (fun q => q.2) = oTyL ∧ ∀ (k : Nat) (q : ClassId × FieldType), tys[k]? = some q → ArrOfT s q.1 q.2 ∧ va_RA s q.1 q.2 := by
  have hw : ∀ w ∈ oAll, w.before A s = true := fun w h => hts w (List.mem_filter.mp h).1
  obtain ⟨c0, h0⟩ := oAr_p (fun C h => by cases h) (hw _ wa_i)
  obtain ⟨c1, h1⟩ := oAr_p (fun C h => by cases h) (hw _ wa_z)
  obtain ⟨c2, h2⟩ := oAr_o (hts _ (oA_tb "CausalStore$Write" (List.mem_of_getElem? (i := 0) rfl)))
  obtain ⟨c3, h3⟩ := oAr_o (hts _ (oA_tb "CausalStore$Center" (List.mem_of_getElem? (i := 1) rfl)))
  obtain ⟨c4, h4⟩ := oAr_o (hts _ (oA_tb "CausalStore$Client" (List.mem_of_getElem? (i := 2) rfl)))
  obtain ⟨c5, h5⟩ := oAr_o (hts _ (oA_tb "CausalStore$Row" (List.mem_of_getElem? (i := 3) rfl)))
  refine ⟨[(c0, .int), (c1, .boolean), (c2, .object "CausalStore$Write"), (c3, .object "CausalStore$Center"), (c4, .object "CausalStore$Client"), (c5, .object "CausalStore$Row")], rfl, fun k q hk => ?_⟩
  match k, hk with
  | 0, hk => cases hk; exact h0
  | 1, hk => cases hk; exact h1
  | 2, hk => cases hk; exact h2
  | 3, hk => cases hk; exact h3
  | 4, hk => cases hk; exact h4
  | 5, hk => cases hk; exact h5
  | k + 6, hk => simp at hk
/-! THE CLAIM OUT OF ONE WALK OF THE LAW'S BODY. Your part is whole_start (and what it stands on); all else here is the same for every law, but numbers. -/
def R_law : String := "CausalStoreLaw"
def lw_P (b : Addr) (xs : List Int32) (args : Array Value) (s : State) : Prop := args = #[.ref b] ∧ s.IntsAt b xs ∧ xs.length ≤ 2048 ∧ (Jvm.Cond.and given_1 narrow_1).before args s = true
def lw_Q (_ : Array Value) (s : State) (o : Outcome) (t : State) : Prop := o = .returned (some (.int 1)) ∧ Framed s o t [] 600000 7302250
def lw_Z (below : List Frame) (a : Array Value) (s : State) : State → Prop := fun t => ∃ o, t.status = .running ∧ Ended t below o ∧ lw_Q a s o t
/-- the law's own end, with 1 on the stack, nothing written that was there before, its room as the claim has it -/
theorem lw_ret {p : Program} {l : Launch} {e : Env} {s : State} {m : MethodId} {below : List Frame} {meth : Method} {c : Code} {b : Nat} (hx : p.tables.exec = Jvm.exec) (hb : c.code = code) (hr : meth.sig.returnType = ret) (hlocks : meth.locks = false) {pc : Nat} {H : Heap} {ls : Array Slot} (hdg : decode code pc = .ok (.ireturn, 1)) : W p l e room_1 s m #[Value.ref b] below meth c H [] 600000 7302250 (lw_Z below #[Value.ref b] s) (F0 m pc ls [.int 1]) := by
  intro T hT X
  obtain ⟨fs, hret, hrun, hended, hW, hframe⟩ := X.leave (v := some (.int 1)) (hlocks := hlocks) (fun h => by rw [hr] at h; cases h)
  have hmeth' : T.vm.method? m = some meth := X.method'
  refine ⟨T.setFrames fs, ?_, .returned (some (.int 1)), hrun, hended, rfl, ⟨_, rfl⟩, hW, hframe⟩
  jvm_step X.here [X.here.top, hx, hb, hdg, hmeth', hr, ret, narrow_b1]
  (try refine ⟨rfl, ?_⟩); (try refine ⟨rfl, ?_⟩)
  first | (intro acts; rw [hret _ acts rfl rfl rfl]) | rw [hret _ _ rfl rfl rfl]
  exact Steps.refl _
/-- what holds at the law's entry: the machine, the code, the tables' words (any of lw_tbl by 'hts w (by decide +kernel)'), the script of L ints xs at the cell b, what the Statement gives of the start (any of its parts by flat_of_before) -/
def lw_At (p : Program) (s : State) (m : MethodId) (meth : Method) (c : Code) (b L : Nat) (xs : Nat → Int32) : Prop :=
  p.tables.exec = Jvm.exec ∧ c.code = code ∧ meth.sig.returnType = ret ∧ c.maxLocals = 4 ∧ s.vm.findClass R_law = some m.cls ∧ (∀ w ∈ lw_tbl, w.before #[Value.ref b] s = true) ∧ va_X b L xs s s.heap ∧ b < s.heap.size ∧ meth.locks = false ∧ (Jvm.Cond.and given_1 narrow_1).before #[Value.ref b] s = true
/-- YOUR PART: from the entry, for every script of at most 2048 ints, the law comes to its end with true -/
theorem whole_start {p : Program} {e : Env} {s : State} {m : MethodId} {below : List Frame} {meth : Method} {c : Code} (l : Launch) {b L : Nat} {xs : Nat → Int32} (hL : L ≤ 2048) (C0 : lw_At p s m meth c b L xs) : W p l e room_1 s m #[Value.ref b] below meth c s.heap [] 0 0 (lw_Z below #[Value.ref b] s) (entryFrame m ([Value.ref b] : List Value).toArray 4) := by
  obtain ⟨hx, hb, hr, hml, hown, hts, hX, hbl, hlocks, hgv⟩ := C0
  have hw : ∀ w ∈ oAll, w.before #[Value.ref b] s = true := fun w h => hts w (List.mem_filter.mp h).1
  obtain ⟨tys, ht1, ht2⟩ := oTy_0 hts
  have hcl := oCl_0 hw
  let G : oG := (l, ((fun ci => (hcl ci).choose), (fun ci => (hcl ci).choose_spec.choose)), tys, s.heap.size, b, L, xs)
  have hK : va_K (oD G) vwCl (oT G) s := ⟨fun ci q hq => (hcl ci).choose_spec.choose_spec q hq, ht2⟩
  have hl := lv_entry ([Value.ref b]) (n := 4) (Nat.le_of_ble_eq_true rfl)
  rw [lg_entry_eq]
  intro T hT X
  obtain ⟨t, a1, o, b1, b2, ⟨⟨r, H', e1, e2, e3⟩, -⟩, Ls, ⟨f1, f2, f3⟩, f4⟩ := L_all (G := G) (nq := meth.name) hL p e room_1 s m #[Value.ref b] below meth c s.heap [] 0 0 173 2777 _ ⟨hx, hb, hml, hr, hlocks, rfl, hown, hw, hK, oNs_0 hts, ht1, hX, hbl, Nat.le_refl _, Nat.le_refl _, Nat.le_refl _⟩ ⟨hl, ⟨rfl, fun r c h => by cases h⟩, va_S.rf, rfl, rfl, by decide, by decide⟩ T hT X
  subst e2
  subst e1
  exact ⟨t, a1, _, b1, b2, rfl, ⟨_, rfl⟩, f2, f3.weaken (fun y hy hlt => absurd hlt (Nat.not_lt.mpr (f4 y hy))) (by decide) (by decide)⟩
set_option maxHeartbeats 4000000 in
theorem lw_walk (l : Launch) (b : Addr) (xs : List Int32) : MetFree l x (headSpec (Jvm.Cond.code x code maxLocals ret :: tables_1) room_1) (lw_P b xs) (fun _ _ _ _ _ => True) lw_Q := by
  refine MetFree.of_bodyS (code := code) (maxLocals := maxLocals) (ret := ret) (by decide) ?_ ?_
  · intro args s m h hn
    obtain ⟨meth, c, h1, h2, h3, h4, h5, h6, -, -⟩ := Cond.code_spec hn (atoms_spec (ws := Jvm.Cond.code x code maxLocals ret :: tables_1) h _ List.mem_cons_self)
    exact ⟨meth, c, h1, h2, h3, h4, h5, h6⟩
  · intro p e s m args below meth c s₁ B hml0 hP _
    obtain ⟨rfl, hx, hbd, hgv⟩ := hP
    obtain ⟨scr, harrAt, hlist, hof, hsmall⟩ := hx
    obtain ⟨hcb, hkn, -, -⟩ := State.arrayAt?_spec harrAt
    have hown : s.vm.findClass R_law = some m.cls := findClass_of_methodNamed B.named
    have hts0 : ∀ c ∈ (Jvm.Cond.code x code maxLocals ret :: tables_1), c.before #[Value.ref b] s = true := atoms_spec (ws := Jvm.Cond.code x code maxLocals ret :: tables_1) B.pre
    have hts : ∀ w ∈ lw_tbl, w.before #[Value.ref b] s = true := k2_hts_sels lw_privs (fun w hw => hts0 w (List.mem_cons_of_mem _ hw)) lw_privs_ok
    have hml : c.maxLocals = 4 := B.maxLocals_eq (hts0 _ List.mem_cons_self)
    have X₀ : Stand p l e room_1 s m #[Value.ref b] below meth c s₁ [] 0 0 := Stand.of_body B
    have hh0 : s₁.heap = s.heap := by rw [B.state]; rfl
    have hsz : scr.slots.size = xs.length := by rw [← Array.length_toList, hlist, List.length_map]
    have hval : ∀ j : Nat, j < xs.length → scr.slots[j]? = some (.int (xs.getD j 0)) := fun j hj => by
      rw [← Array.getElem?_toList, hlist]
      simp [hj]
    have hbl : b < s.heap.size := (Array.getElem?_eq_some_iff.mp hcb).1
    have hX : va_X b xs.length (fun j => xs.getD j 0) s s.heap := ⟨scr, hcb, hof, hkn, hsz, hval⟩
    have K : W p l e room_1 s m #[Value.ref b] below meth c s₁.heap [] 0 0 (lw_Z below #[Value.ref b] s) (entryFrame m ([Value.ref b] : List Value).toArray 4) := by
      rw [hh0]
      exact whole_start l hbd ⟨B.exec, B.bytes, B.returns, hml, hown, hts, hX, hbl, B.notSynchronized, hgv⟩
    obtain ⟨t, a1, o, b1, b2, b3⟩ := K s₁ rfl X₀
    exact ⟨t, o, a1, b1, b2, b3⟩
theorem lw_pre_spec {args : Array Value} {s : State} (h : (Jvm.Cond.and given_1 narrow_1).before args s = true) (hr : rest_1_c.before args s = true) : ∃ (b : Addr) (xs : List Int32), lw_P b xs args s := by
  have hs := flat_of_before _ h
  have hq := flat_of_before _ hr
  have hc : (Cond.count 1).before args s = true := hs _ (by decide +kernel)
  have harr : (Cond.arrayOf (.arg 0) .int).before args s = true := hs _ (by decide +kernel)
  have hle : (Cond.le (.length (.arg 0)) (.int 2048)).before args s = true := hs _ (by decide +kernel)
  have hlen : (Cond.isInt (.length (.arg 0))).before args s = true := hq _ (by decide +kernel)
  have hall : (Cond.all (.arg 0) (.isInt (.elem (.arg 0) (.index 0)))).before args s = true := hq _ (by decide +kernel)
  obtain ⟨b, xs, hb, hx⟩ := State.ints_of_pre rfl harr hlen hall
  have hsm : xs.length < 2 ^ 31 := hx.choose_spec.2.2.2
  have hev : (Term.length (.arg 0)).eval args s none [] s = some (.int xs.length.toInt32) := hx.length_eval hb
  have hv := Cond.le_ints hev (show (Term.int 2048).eval args s none [] s = some (.int 2048) from rfl)
  have hd : xs.length.toInt32 ≤ 2048 := by
    simpa [Cond.before, Cond.holds, hv] using hle
  have hN : xs.length ≤ 2048 := (Int32.ofNat_le_ofNat hsm (by decide)).mp (show Int32.ofNat xs.length ≤ Int32.ofNat 2048 from hd)
  exact ⟨b, xs, Cond.one_arg hc (show args[0]? = some (.ref b) from hb), hx, hN, h⟩
theorem lw_comes (l : Launch) : Comes l x (Jvm.Cond.code x code maxLocals ret :: tables_1) room_1 (fun tb e args s => Calls_1 tb e args s ∧ rest_1 tb e args s ∧ Pre_1 tb e args s)
    (fun _ _ args s o t => lw_Q args s o t) := by
  intro p e ha hc hk s m args below hf hfit hheap happ hpre
  obtain ⟨b, xs, hP⟩ := lw_pre_spec hpre.2.2 hpre.2.1
  obtain ⟨k, o, h1, h2, h3, hQ⟩ := lw_walk l b xs p e ha hc hk s m args below hf ((Spec.applies_iff_loose hf).mp happ).1 hP trivial
  exact ⟨k, o, h1, h2, h3, hQ⟩
theorem lw_frame {s t : State} {o : Outcome} {args : Array Value} (h : Framed s o t [] 600000 7302250) :
    Framed s o t (fieldLocs frame_1_writes args s ++ arrayLocs frame_1_arrays args s ++ staticLocs frame_1_statics s) 600000 7302250 := h
theorem lw_limb (L : Cond) (hL : ∀ (args : Array Value) (s t : State), L.after args s (.returned (some (.int 1))) t = true) :
    ArmFor flags0 classFile x code maxLocals ret World_1 tables_1 room_1 Calls_1 rest_1 Pre_1
      (fun tb e a s o t => postC L tb e a s o t ∧ Framed s o t (fieldLocs frame_1_writes a s ++ arrayLocs frame_1_arrays a s ++ staticLocs frame_1_statics s) 600000 7302250) := by
  intro l _ _ _ p e ha hc hk s m args below hf hfit hheap happ hpre
  obtain ⟨k, o, h1, h2, h3, rfl, hF⟩ := lw_comes l p e ha hc hk s m args below hf hfit hheap happ hpre
  exact ⟨k, _, h1, h2, h3, hL args s _, lw_frame hF⟩
theorem i_vc : Claimed_1_1 ∧ Claimed_1_2 := ⟨lw_limb limb_1_1 (fun args s t => by simp [limb_1_1, Cond.after, Cond.holds, Cond.value]), lw_limb limb_1_2 (fun args s t => Cond.after_iff.mpr (by
  first | (rw [show limb_1_2 = Cond.eq .result (.int 1) from rfl, Cond.eq_ints (x := 1) (y := 1) rfl rfl]; simp; done) | (simp [limb_1_2, Cond.value, Term.eval]; done)))⟩
