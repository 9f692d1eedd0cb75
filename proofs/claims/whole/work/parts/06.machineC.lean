/-! The machine's calls. -/
def oArgs : Nat → List oU → oL
  | _, [] => []
  | i, v :: vs => (i, v) :: oArgs (i + 1) vs
theorem oArgs_eq (G : oG) : ∀ (As : List oU) (i : Nat), (oArgs i As).map (fun q => (q.1, oV G q.2)) = lv_args i (As.map (oV G))
  | [], _ => rfl
  | v :: vs, i => by
    rw [List.map_cons]
    show (i, oV G v) :: (oArgs (i + 1) vs).map (fun q => (q.1, oV G q.2)) = (i, oV G v) :: lv_args (if (oV G v).category = 2 then i + 2 else i + 1) (vs.map (oV G))
    rw [oV_cat, if_neg (by decide), oArgs_eq G vs (i + 1)]
theorem oSl_len (G : oG) : ∀ As : List oU, (lg_sl (As.map (oV G))).length = As.length
  | [] => rfl
  | v :: vs => by
    have h := oSl_len G vs
    simp only [lg_sl, List.map_cons, List.flatMap_cons, List.length_append, List.length_cons] at h ⊢
    rw [h, oV_cat, if_neg (by decide)]
    simp
    omega
def oWs (M : oM) : List Cond := Cond.code M.1 (oCd M) (oMx M) (oRt M) :: oAll
theorem oNs.same {u U : State} (h : u.vm = U.vm) (hN : oNs u) : oNs U := ⟨fun q hq => va_Nw.same rfl h (hN.1 q hq), fun q hq => va_Nw.same rfl h (hN.2.1 q hq), fun C hC => va_AO.moved (by rw [h]; exact Vm.Alike.refl _) (hN.2.2 C hC)⟩
theorem oNs.warm {s U : State} (hW : s.WarmedH U.vm) (hN : oNs s) : oNs U := ⟨fun q hq => va_Nw.warmF hW (hN.1 q hq), fun q hq => va_Nw.warmM hW (hN.2.1 q hq), fun C hC => va_AO.moved hW.alike (hN.2.2 C hC)⟩
theorem oMet {G : oG} {M : oM} {As : List oU} {H : oH} {b : Nat × Nat} {Q : oP} (hpl : plainName M.1.cls = true) (hlen : As.length ≤ oMx M) (hok : Ok G M 0 (oArgs 0 As) [] H b Q) : Met (oLa G) M.1 (oWs M) { frames := oFr M, cells := b.1, slots := b.2, locals := oWd M } (va_Pc (As.map (oV G)) (oSt G H)) (oQ G Q) b.1 b.2 (oA G) := by
  refine Met.ofW (cc := oCd M) (maxL := oMx M) (ret := oRt M) hpl rfl ?_
  intro p e s m args below meth c s₁ B hml hv
  obtain ⟨rfl, hK, hNs, hTy, hX, hsb, hbs, hW⟩ := hv
  have hts := atoms_spec (ws := oWs M) B.pre
  have hl := lv_entry (As.map (oV G)) (n := oMx M) (by rw [oSl_len]; exact hlen)
  rw [← oArgs_eq] at hl
  rw [lg_entry_eq]
  exact hok p e _ s m _ below meth c s.heap [] 0 0 b.1 b.2 _ ⟨B.exec, B.bytes, hml, B.returns, B.notSynchronized, (name_of_methodNamed B.named B.method).1, findClass_of_methodNamed B.named, fun w h => hts w (List.mem_cons_of_mem _ h), hK, hNs, hTy, hX, hsb, hbs, Nat.le_refl _, Nat.le_refl _⟩ ⟨hl, hW, va_S.rf, Nat.zero_add _, Nat.zero_add _, Nat.le_refl _, Nat.le_refl _⟩
theorem oBlind {G : oG} {H : oH} {av : List Value} : FrameBlind (va_Pc av (oSt G H)) := by
  intro a U g mk q
  obtain ⟨q0, qK, qN, qT, qX, h1, h2, qW⟩ := q
  exact ⟨q0, va_K.moved (u := U) (U := U.calling g mk a) (Vm.Alike.refl U.vm) qK, oNs.same (u := U) (U := U.calling g mk a) rfl qN, qT, va_X.moved (u := U) (U := U.calling g mk a) (Vm.Alike.refl U.vm) qX, h1, h2, qW⟩
theorem oPre {G : oG} {M : oM} {lv : oL} {H : oH} {b : Nat × Nat} {p : Program} {R : Room} {s : State} {mid : MethodId} {args : Array Value} {meth : Method} {c : Code} {hp : Heap} {locs : List Loc} {cells slots mc ms : Nat} {ls : Array Slot} (X : oCx G M p R s mid args meth c) (Y : oDy G M lv H b R s hp locs cells slots mc ms ls) {U : State} (hU : U.heap = hp) (hWm : s.WarmedH U.vm) : oSt G H U := by
  obtain ⟨hx, hb, hml, hrt, hlk, hnm, hown, hts, hK, hNs, hTy, hX, hsb, hbs, hFr, hWd⟩ := X
  obtain ⟨hl, hW, hS, hc1, hc2, hc3, hc4⟩ := Y
  subst hU
  refine ⟨va_K.moved hWm.alike hK, oNs.warm hWm hNs, hTy, (hX.kept (hS.2.1 _ (Nat.lt_of_lt_of_le hsb hbs) (fun h => Nat.not_le.mpr hsb h))).moved hWm.alike, hsb, Nat.le_trans hbs hS.1, hW⟩
theorem oCont {G : oG} {p : Program} {e : Env} {R : Room} {s : State} {mid : MethodId} {args a : Array Value} {below : List Frame} {meth : Method} {c : Code} {hp : Heap} {locs : List Loc} {cells slots k n pc : Nat} {ls : Array Slot} {st : List oU} {st0 : List Value} {Qc : oP} {Qf : State → Prop} (hr : va_Run p (oLa G) e R s mid args below meth c hp locs cells slots k n (F0 mid pc ls st0) (st.map (oV G)) (oQ G Qc a) (oA G)) (hS : va_S (oA G) s.heap hp locs)
    (kk : ∀ (r : Option oU) (H' : oH) (H1 : Heap) (locs1 : List Loc), Qc r H' → oW G H' H1 → va_S (oA G) s.heap H1 locs1 → W p (oLa G) e R s mid args below meth c H1 locs1 (cells + k) (slots + n) Qf (F0 mid (pc + 3) ls ((r.toList ++ st).map (oV G)))) : W p (oLa G) e R s mid args below meth c hp locs cells slots Qf (F0 mid pc ls st0) := by
  intro T hT XX
  obtain ⟨v, st₀, t, T', L, h0, X', hL, e1, e2, ⟨⟨r, H', hv, hq, hw⟩, hz, hk⟩, stp⟩ := hr T hT XX
  have hv : v = r.map (oV G) := by injection hv
  subst hv
  rw [h0] at hz hk
  have hS' : va_S (oA G) s.heap T'.heap (locs ++ L) := ⟨Nat.le_trans hS.1 (by rw [e1]; exact hz), fun q h1 h2 => by rw [e1, hk q (Nat.lt_of_lt_of_le h1 hS.1) h2]; exact hS.2.1 q h1 h2, fun q hq => by
    rcases List.mem_append.mp hq with h | h
    · exact hS.2.2 q h
    · exact hL q h⟩
  have ef : (r.toList ++ st).map (oV G) = (r.map (oV G)).toList ++ st.map (oV G) := by cases r <;> rfl
  have kz := kk r H' T'.heap (locs ++ L) hq (by rw [e1]; exact hw) hS'
  rw [ef] at kz
  obtain ⟨t2, a1, b1⟩ := kz T' rfl X'
  exact ⟨t2, stp t2 a1, b1⟩
def oMk (N : oM) (n : Nat) : Prop := Cond.code N.1 (oCd N) (oMx N) (oRt N) ∈ oAll ∧ Cond.initialized N.1.cls ∈ oAll ∧ plainName N.1.cls = true ∧ (N.1.cls ≠ "java/lang/invoke/MethodHandle" ∧ N.1.cls ≠ "java/lang/invoke/VarHandle" ∧ (parseMethodDescriptor N.1.desc).map (fun d => d.parameters.length) = some n)
def oMl (own : String) (idx : Nat) (N : oM) : Prop := Cond.methodLink own idx N.1 ∈ oAll ∨ ∃ host : String, (own, idx, N.1, host) ∈ oNwM
def oFitsIn (N M : oM) : Bool := Nat.ble (oFr N + 1) (oFr M) && Nat.ble (8 + (oMx N + 11) + oWd N) (oWd M)
theorem oFitsIn.le {N M : oM} (h : oFitsIn N M = true) : oFr N + 1 ≤ oFr M ∧ 8 + (oMx N + 11) + oWd N ≤ oWd M := by
  unfold oFitsIn at h
  rw [Bool.and_eq_true] at h
  exact ⟨Nat.le_of_ble_eq_true h.1, Nat.le_of_ble_eq_true h.2⟩
theorem oGoodW {N : oM} (h : Cond.code N.1 (oCd N) (oMx N) (oRt N) ∈ oAll) : GoodIn oAll (oWs N) := by
  intro w hw
  rcases List.mem_cons.mp hw with rfl | hw
  · exact ⟨h, oGood _ h⟩
  · exact ⟨hw, oGood _ hw⟩
section MC
variable {G : oG} {M : oM} {pc : Nat} {lv : oL} {H : oH} {b : Nat × Nat} {Q : oP}
theorem o_callS {idx n : Nat} {st0 : List oU} (N : oM) (As st : List oU) (b1 b2 : Nat × Nat) (hd : decode (oCd M) pc = .ok (.invokestatic idx, 3)) (hm : oMk N n) (hs : Cond.static N.1 ∈ oAll) (hlk9 : oMl M.1.cls idx N) (hfi : oFitsIn N M = true) (hs0 : st0 = As.reverse ++ st) (hn : As.length = n) (hnm9 : As.length ≤ oMx N) (hst : Nat.ble st.length 8 = true) (hbb : b = (b1.1 + b2.1, b1.2 + b2.2))
    (kk : Ok G N 0 (oArgs 0 As) [] H b1 (fun r H' => Ok G M (pc + 3) lv (r.toList ++ st) H' b2 Q)) : Ok G M pc lv st0 H b Q := by
  intro p e R s mid args below meth c hp locs cells slots mc ms ls X Y
  obtain ⟨hx, hb, hml, hrt, hlk, hnm, hown, hts, hK, hNs, hTy, hX, hsb, hbs, hFr, hWd⟩ := id X
  obtain ⟨hl, hW, hS, hc1, hc2, hc3, hc4⟩ := id Y
  subst hs0; subst hbb
  have hc1 : cells + (b1.1 + b2.1) = mc := hc1
  have hc2 : slots + (b1.2 + b2.2) = ms := hc2
  obtain ⟨f1, f2⟩ := oFitsIn.le hfi
  have hM := oMet hm.2.2.1 hnm9 kk
  have hG := oGoodW hm.1
  have hR : oFr N + 1 ≤ R.frames ∧ 8 + (oMx N + 11) + oWd N ≤ R.locals := ⟨Nat.le_trans f1 hFr, Nat.le_trans f2 hWd⟩
  have hrm : 2 * (F0 mid pc ls ((As.reverse ++ st).map (oV G))).monitorRoom + ((st.map (oV G)).map fun v => v.category).sum ≤ 8 := lv_room (by rw [oSum]; exact Nat.le_of_ble_eq_true hst)
  have hf9 : cells + b1.1 ≤ R.cells ∧ slots + b1.2 ≤ R.slots := ⟨by omega, by omega⟩
  have hn9 : (As.map (oV G)).length = n := by rw [List.length_map]; exact hn
  have hsk : (F0 mid pc ls ((As.reverse ++ st).map (oV G))).stack = (As.map (oV G)).reverse ++ st.map (oV G) := by show (As.reverse ++ st).map (oV G) = _; rw [List.map_append, List.map_reverse]
  have hpre : PreS s hp (va_Pc (As.map (oV G)) (oSt G H)) (As.map (oV G)) := ⟨oBlind, fun U hU hWm => ⟨rfl, oPre X Y hU hWm⟩⟩
  refine oCont (Qc := fun r H' => Ok G M (pc + 3) lv (r.toList ++ st) H' b2 Q) (st := st) (k := b1.1) (n := b1.2) (a := (As.map (oV G)).toArray) ?_ hS fun r H' H1 locs1 hq hw hS1 => hq p e R s mid args below meth c H1 locs1 (cells + b1.1) (slots + b1.2) mc ms ls X ⟨hl, hw, hS1, by omega, by omega, hc3, hc4⟩
  rcases hlk9 with hlk9 | ⟨host, hlk9⟩
  · exact va_runS ⟨hx, hb, hml, hown, hts⟩ hM ⟨callB_of n hts hG rfl rfl rfl (hts _ hm.2.1) (hts _ hlk9) hm.2.2.2 hR, hts _ hs⟩ hpre rfl hn9 hl.1 hsk hrm hd hf9
  · exact va_runSN ⟨hx, hb, hml, hown, hts⟩ hM ⟨va_cnB n hts hG rfl rfl rfl (hNs.2.1 _ hlk9) (hts _ hm.2.1) hm.2.2.2 hR, hts _ hs, trivial⟩ hpre rfl hn9 hl.1 hsk hrm hd hf9
theorem o_callV {r0 ci : Nat} {fs : List oU} {q9 : vw_C} {idx n : Nat} {st0 : List oU} (N : oM) (As st : List oU) (b1 b2 : Nat × Nat) (hd : decode (oCd M) pc = .ok (.invokevirtual idx, 3)) (hm : oMk N n) (hs : Cond.instanceMethod N.1 ∈ oAll) (hs2 : Cond.selects N.1.cls N.1 N.1 ∈ oAll) (he : H.2 r0 = some (.inr (.inr (ci, fs)))) (hcl : vwCl[ci]? = some q9) (hq9 : q9.1 = N.1.cls) (hlk9 : oMl M.1.cls idx N) (hfi : oFitsIn N M = true) (hs0 : st0 = As.reverse ++ .inr (some r0) :: st) (hn : As.length = n) (hnm9 : As.length + 1 ≤ oMx N) (hst : Nat.ble st.length 8 = true) (hbb : b = (b1.1 + b2.1, b1.2 + b2.2))
    (kk : Ok G N 0 (oArgs 0 (.inr (some r0) :: As)) [] H b1 (fun r H' => Ok G M (pc + 3) lv (r.toList ++ st) H' b2 Q)) : Ok G M pc lv st0 H b Q := by
  intro p e R s mid args below meth c hp locs cells slots mc ms ls X Y
  obtain ⟨hx, hb, hml, hrt, hlk, hnm, hown, hts, hK, hNs, hTy, hX, hsb, hbs, hFr, hWd⟩ := id X
  obtain ⟨hl, hW, hS, hc1, hc2, hc3, hc4⟩ := id Y
  subst hs0; subst hbb
  have hc1 : cells + (b1.1 + b2.1) = mc := hc1
  have hc2 : slots + (b1.2 + b2.2) = ms := hc2
  obtain ⟨f1, f2⟩ := oFitsIn.le hfi
  have hM := oMet hm.2.2.1 (by rw [List.length_cons]; exact hnm9) kk
  have hG := oGoodW hm.1
  have hR : oFr N + 1 ≤ R.frames ∧ 8 + (oMx N + 11) + oWd N ≤ R.locals := ⟨Nat.le_trans f1 hFr, Nat.le_trans f2 hWd⟩
  have hrm : 2 * (F0 mid pc ls ((As.reverse ++ .inr (some r0) :: st).map (oV G))).monitorRoom + ((st.map (oV G)).map fun v => v.category).sum ≤ 8 := lv_room (by rw [oSum]; exact Nat.le_of_ble_eq_true hst)
  have hf9 : cells + b1.1 ≤ R.cells ∧ slots + b1.2 ≤ R.slots := ⟨by omega, by omega⟩
  have hn9 : (As.map (oV G)).length = n := by rw [List.length_map]; exact hn
  have hsk : (F0 mid pc ls ((As.reverse ++ .inr (some r0) :: st).map (oV G))).stack = (As.map (oV G)).reverse ++ .ref (oAd G r0) :: st.map (oV G) := by
    show (As.reverse ++ .inr (some r0) :: st).map (oV G) = _
    rw [List.map_append, List.map_reverse]
    rfl
  have hpre : PreV s hp N.1.cls (oAd G r0) (va_Pc (((.inr (some r0) : oU) :: As).map (oV G)) (oSt G H)) (As.map (oV G)) := ⟨oBlind, by rw [← hq9]; exact va_recv hK (hW.one he) hcl (q0 := 0) rfl, fun U hU hWm => ⟨rfl, oPre X Y hU hWm⟩⟩
  refine oCont (Qc := fun r H' => Ok G M (pc + 3) lv (r.toList ++ st) H' b2 Q) (st := st) (k := b1.1) (n := b1.2) (a := (((.inr (some r0) : oU) :: As).map (oV G)).toArray) ?_ hS fun r H' H1 locs1 hq hw hS1 => hq p e R s mid args below meth c H1 locs1 (cells + b1.1) (slots + b1.2) mc ms ls X ⟨hl, hw, hS1, by omega, by omega, hc3, hc4⟩
  rcases hlk9 with hlk9 | ⟨host, hlk9⟩
  · exact va_runV ⟨hx, hb, hml, hown, hts⟩ hM ⟨callB_of n hts hG rfl rfl rfl (hts _ hm.2.1) (hts _ hlk9) hm.2.2.2 hR, hts _ hs, hts _ hs2⟩ hpre rfl hn9 hl.1 hsk hrm hd hf9
  · exact va_runVN ⟨hx, hb, hml, hown, hts⟩ hM ⟨va_cnB n hts hG rfl rfl rfl (hNs.2.1 _ hlk9) (hts _ hm.2.1) hm.2.2.2 hR, hts _ hs, hts _ hs2⟩ hpre rfl hn9 hl.1 hsk hrm hd hf9
theorem o_callI {r0 : Nat} {idx n : Nat} {st0 : List oU} (N : oM) (As st : List oU) (b1 b2 : Nat × Nat) (hd : decode (oCd M) pc = .ok (.invokespecial idx, 3)) (hm : oMk N n) (hs : Cond.instanceMethod N.1 ∈ oAll) (hs2 : N.1.name = "<init>") (hrv : oRt N = none) (hlk9 : oMl M.1.cls idx N) (hfi : oFitsIn N M = true) (hs0 : st0 = As.reverse ++ .inr (some r0) :: st) (hn : As.length = n) (hnm9 : As.length + 1 ≤ oMx N) (hst : Nat.ble st.length 8 = true) (hbb : b = (b1.1 + b2.1, b1.2 + b2.2))
    (kk : Ok G N 0 (oArgs 0 (.inr (some r0) :: As)) [] H b1 (fun r H' => Ok G M (pc + 3) lv (r.toList ++ st) H' b2 Q)) : Ok G M pc lv st0 H b Q := by
  intro p e R s mid args below meth c hp locs cells slots mc ms ls X Y
  obtain ⟨hx, hb, hml, hrt, hlk, hnm, hown, hts, hK, hNs, hTy, hX, hsb, hbs, hFr, hWd⟩ := id X
  obtain ⟨hl, hW, hS, hc1, hc2, hc3, hc4⟩ := id Y
  subst hs0; subst hbb
  have hc1 : cells + (b1.1 + b2.1) = mc := hc1
  have hc2 : slots + (b1.2 + b2.2) = ms := hc2
  obtain ⟨f1, f2⟩ := oFitsIn.le hfi
  have hM := oMet hm.2.2.1 (by rw [List.length_cons]; exact hnm9) kk
  have hG := oGoodW hm.1
  have hR : oFr N + 1 ≤ R.frames ∧ 8 + (oMx N + 11) + oWd N ≤ R.locals := ⟨Nat.le_trans f1 hFr, Nat.le_trans f2 hWd⟩
  have hrm : 2 * (F0 mid pc ls ((As.reverse ++ .inr (some r0) :: st).map (oV G))).monitorRoom + ((st.map (oV G)).map fun v => v.category).sum ≤ 8 := lv_room (by rw [oSum]; exact Nat.le_of_ble_eq_true hst)
  have hf9 : cells + b1.1 ≤ R.cells ∧ slots + b1.2 ≤ R.slots := ⟨by omega, by omega⟩
  have hn9 : (As.map (oV G)).length = n := by rw [List.length_map]; exact hn
  have hsk : (F0 mid pc ls ((As.reverse ++ .inr (some r0) :: st).map (oV G))).stack = (As.map (oV G)).reverse ++ .ref (oAd G r0) :: st.map (oV G) := by
    show (As.reverse ++ .inr (some r0) :: st).map (oV G) = _
    rw [List.map_append, List.map_reverse]
    rfl
  have hpre : PreS s hp (va_Pc (((.inr (some r0) : oU) :: As).map (oV G)) (oSt G H)) (.ref (oAd G r0) :: As.map (oV G)) := ⟨oBlind, fun U hU hWm => ⟨rfl, oPre X Y hU hWm⟩⟩
  refine oCont (Qc := fun r H' => Ok G M (pc + 3) lv (r.toList ++ st) H' b2 Q) (st := st) (k := b1.1) (n := b1.2) (a := (((.inr (some r0) : oU) :: As).map (oV G)).toArray) ?_ hS fun r H' H1 locs1 hq hw hS1 => hq p e R s mid args below meth c H1 locs1 (cells + b1.1) (slots + b1.2) mc ms ls X ⟨hl, hw, hS1, by omega, by omega, hc3, hc4⟩
  have hw9 : oWs N = Cond.code N.1 (oCd N) (oMx N) none :: oAll := by unfold oWs; rw [hrv]
  rcases hlk9 with hlk9 | ⟨host, hlk9⟩
  · exact va_runI ⟨hx, hb, hml, hown, hts⟩ hM ⟨callB_of n hts hG hw9 rfl rfl (hts _ hm.2.1) (hts _ hlk9) hm.2.2.2 hR, hs2, hts _ hs⟩ hpre rfl hn9 hl.1 hsk hrm hd hf9
  · exact va_runIN ⟨hx, hb, hml, hown, hts⟩ hM ⟨va_cnB n hts hG hw9 rfl rfl (hNs.2.1 _ hlk9) (hts _ hm.2.1) hm.2.2.2 hR, hs2, hts _ hs⟩ hpre rfl hn9 hl.1 hsk hrm hd hf9
end MC
