def oDef (ci : Nat) : List oU := match ci with
  | 0 => [.inr none, .inr none, .inr none, .inr none, .inl 0]
  | 1 => [.inr none, .inl 0, .inl 0, .inl 0, .inl 0, .inl 0]
  | 2 => [.inr none, .inr none, .inr none, .inr none]
  | 3 => [.inl 0, .inr none, .inr none, .inr none, .inl 0, .inl 0, .inl 0]
  | 4 => [.inr none, .inl 0]
  | 5 => [.inl 0, .inr none, .inr none, .inr none, .inr none, .inr none, .inr none, .inr none, .inr none, .inr none, .inr none, .inr none, .inr none, .inr none, .inr none, .inr none, .inr none, .inr none, .inr none]
  | _ => []
theorem oDefs (G : oG) : ∀ (ci : Nat) (q : vw_C), vwCl[ci]? = some q → ∃ ty0 : Nat → FieldType, (∀ k, k < q.2.2 → parseFieldDescriptor (q.2.1 k).2.2.1 = some (ty0 k)) ∧ ∀ j, j < q.2.2 → defaultValue (ty0 j) = vp_V ((oDef ci).map (oV G)) j
  | 0, _, h => by
    cases h
    refine ⟨tyS, tyS_ok, fun j hj => ?_⟩
    match j, hj with
    | 0, _ => rfl
    | 1, _ => rfl
    | 2, _ => rfl
    | 3, _ => rfl
    | 4, _ => rfl
    | j + 5, hj => exact absurd hj (by show ¬ j + 5 < 5; omega)
  | 1, _, h => by
    cases h
    refine ⟨tyW, tyW_ok, fun j hj => ?_⟩
    match j, hj with
    | 0, _ => rfl
    | 1, _ => rfl
    | 2, _ => rfl
    | 3, _ => rfl
    | 4, _ => rfl
    | 5, _ => rfl
    | j + 6, hj => exact absurd hj (by show ¬ j + 6 < 6; omega)
  | 2, _, h => by
    cases h
    refine ⟨tyC, tyC_ok, fun j hj => ?_⟩
    match j, hj with
    | 0, _ => rfl
    | 1, _ => rfl
    | 2, _ => rfl
    | 3, _ => rfl
    | j + 4, hj => exact absurd hj (by show ¬ j + 4 < 4; omega)
  | 3, _, h => by
    cases h
    refine ⟨tyK, tyK_ok, fun j hj => ?_⟩
    match j, hj with
    | 0, _ => rfl
    | 1, _ => rfl
    | 2, _ => rfl
    | 3, _ => rfl
    | 4, _ => rfl
    | 5, _ => rfl
    | 6, _ => rfl
    | j + 7, hj => exact absurd hj (by show ¬ j + 7 < 7; omega)
  | 4, _, h => by
    cases h
    refine ⟨tyR, tyR_ok, fun j hj => ?_⟩
    match j, hj with
    | 0, _ => rfl
    | 1, _ => rfl
    | j + 2, hj => exact absurd hj (by show ¬ j + 2 < 2; omega)
  | 5, _, h => by
    cases h
    refine ⟨tyN, tyN_ok, fun j hj => ?_⟩
    match j, hj with
    | 0, _ => rfl
    | 1, _ => rfl
    | 2, _ => rfl
    | 3, _ => rfl
    | 4, _ => rfl
    | 5, _ => rfl
    | 6, _ => rfl
    | 7, _ => rfl
    | 8, _ => rfl
    | 9, _ => rfl
    | 10, _ => rfl
    | 11, _ => rfl
    | 12, _ => rfl
    | 13, _ => rfl
    | 14, _ => rfl
    | 15, _ => rfl
    | 16, _ => rfl
    | 17, _ => rfl
    | 18, _ => rfl
    | j + 19, hj => exact absurd hj (by show ¬ j + 19 < 19; omega)
  | k + 6, _, h => by simp [vwCl] at h
/-! The machine's rules of the heap. -/
theorem oW.one {G : oG} {H : oH} {hp : Heap} {r : Nat} {c : oC} (h : oW G H hp) (he : H.2 r = some c) : va_P (oD G) vwCl [(oAd G r, oE G c)] hp := by
  intro k q hk
  cases k with
  | zero =>
    have hk : some (oAd G r, oE G c) = some q := hk
    cases hk
    exact (h.2 r c he).2
  | succ k => simp at hk
theorem oW.own {G : oG} {H : oH} {hp : Heap} {r : Nat} {c : oC} (h : oW G H hp) (he : H.2 r = some c) : oA G (oAd G r) := by
  obtain ⟨⟨k, rfl, -⟩, -⟩ := h.2 r c he
  exact Nat.le_add_right _ _
theorem oW.up {G : oG} {H : oH} {hp hp1 : Heap} {r : Nat} {c0 c : oC} (h : oW G H hp) (he : H.2 r = some c0) (hat : va_at (oD G) vwCl (oAd G r, oE G c) hp1) (z : hp1.size = hp.size) (oq : ∀ q : Nat, q ≠ oAd G r → hp1[q]? = hp[q]?) : oW G (oUp H r c) hp1 := by
  refine ⟨z.trans h.1, fun r' c' hr' => ?_⟩
  by_cases hrr : r' = r
  · subst hrr
    have hc : c = c' := by
      have h1 : some c = some c' := by rw [← hr']; simp [oUp, va_up]
      exact Option.some.inj h1
    subst hc
    exact ⟨(h.2 r' c0 he).1, hat⟩
  · have h2 : H.2 r' = some c' := by
      rw [← hr']
      simp [oUp, va_up, hrr]
    obtain ⟨⟨k, e1, e2⟩, h3⟩ := h.2 r' c' h2
    obtain ⟨⟨k0, e3, -⟩, -⟩ := h.2 r c0 he
    refine ⟨⟨k, e1, e2⟩, h3.kept (oq _ ?_)⟩
    subst e1; subst e3
    show oB G + k ≠ oB G + k0
    omega
theorem oW.new {G : oG} {H : oH} {hp hp1 : Heap} {c : oC} (h : oW G H hp) (hat : va_at (oD G) vwCl (oB G + H.1, oE G c) hp1) (z : hp1.size = hp.size + 1) (oq : ∀ q : Nat, q < hp.size → hp1[q]? = hp[q]?) : oW G (oNw H c) hp1 := by
  refine ⟨by rw [z, h.1]; rfl, fun r' c' hr' => ?_⟩
  by_cases hrr : r' = H.1 + 1
  · subst hrr
    have hc : c = c' := by
      have h1 : some c = some c' := by rw [← hr']; simp [oNw, va_up]
      exact Option.some.inj h1
    subst hc
    exact ⟨⟨H.1, rfl, Nat.lt_succ_self _⟩, hat⟩
  · have h2 : H.2 r' = some c' := by
      rw [← hr']
      simp [oNw, va_up, hrr]
    obtain ⟨⟨k, e1, e2⟩, h3⟩ := h.2 r' c' h2
    exact ⟨⟨k, e1, Nat.lt_succ_of_lt e2⟩, h3.kept (oq _ h3.lt)⟩
theorem oTy_at {G : oG} (h : (oT G).map (fun q => q.2) = oTyL) {t : Nat} {ty : FieldType} (ht : oTyL[t]? = some ty) : (oT G)[t]? = some (((oT G).getD t (0, .int)).1, ty) := by
  rw [← h, List.getElem?_map] at ht
  cases e : (oT G)[t]? with
  | none => rw [e] at ht; cases ht
  | some q =>
    rw [e] at ht
    have h2 : q.2 = ty := Option.some.inj ht
    rw [List.getD_eq_getElem?_getD, e, ← h2]
    rfl
theorem oS_put {G : oG} {H : oH} {hp hp1 H0 : Heap} {locs : List Loc} {r k : Nat} {c0 : oC} (hS : va_S (oA G) H0 hp locs) (h : oW G H hp) (he : H.2 r = some c0) (z : hp1.size = hp.size) (oq : ∀ q : Nat, q ≠ oAd G r → hp1[q]? = hp[q]?) : va_S (oA G) H0 hp1 (locs ++ [⟨oAd G r, k⟩]) := hS.put z oq (h.own he)
/-- a field's place, by its own class's link or by a nest mate's -/
def oF (own : String) (idx ci k : Nat) : Prop := ∃ q : vw_C, vwCl[ci]? = some q ∧ k < q.2.2 ∧ (Cond.fieldLink own idx (q.2.1 k).1 (q.2.1 k).2.1 (q.2.1 k).2.2.1 ∈ oAll ∨ ∃ host : String, (own, idx, (q.2.1 k).1, (q.2.1 k).2.1, (q.2.1 k).2.2.1, host) ∈ oNwF)
def oFs (own : String) (idx ci k : Nat) (ty : FieldType) : Prop := oF own idx ci k ∧ ∀ q : vw_C, vwCl[ci]? = some q → (q.2.1 k).2.2.2 = false ∧ parseFieldDescriptor (q.2.1 k).2.2.1 = some ty
def oFf (own : String) (idx ci k : Nat) (ty : FieldType) : Prop := ∃ q : vw_C, vwCl[ci]? = some q ∧ k < q.2.2 ∧ Cond.fieldLink own idx (q.2.1 k).1 (q.2.1 k).2.1 (q.2.1 k).2.2.1 ∈ oAll ∧ (q.2.1 k).2.2.2 = true ∧ (q.2.1 k).1 = own ∧ parseFieldDescriptor (q.2.1 k).2.2.1 = some ty
def oFit (ty : FieldType) (v : oU) : Prop := ∀ G : oG, narrow ty (oV G v) = oV G v ∧ fits ty (oV G v) = true
theorem oFit_i (x : Int32) : oFit .int (.inl x) := fun _ => ⟨rfl, rfl⟩
theorem oFit_o (C : String) (r : Nat) : oFit (.object C) (.inr (some r)) := fun _ => ⟨rfl, rfl⟩
theorem oFit_a (t : FieldType) (r : Nat) : oFit (.array t) (.inr (some r)) := fun _ => ⟨rfl, rfl⟩
section MB
variable {G : oG} {M : oM} {pc : Nat} {lv : oL} {st : List oU} {H : oH} {b : Nat × Nat} {Q : oP}
theorem o_get {ci idx k r : Nat} {fs : List oU} {v : oU} (hd : decode (oCd M) pc = .ok (.getfield idx, 3)) (hf : oF M.1.cls idx ci k) (he : H.2 r = some (.inr (.inr (ci, fs)))) (hv : fs[k]? = some v) (kk : Ok G M (pc + 3) lv (v :: st) H b Q) : Ok G M pc lv (.inr (some r) :: st) H b Q := by
  intro p e R s mid args below meth c hp locs cells slots mc ms ls X Y
  obtain ⟨hx, hb, hml, hrt, hlk, hnm, hown, hts, hK, hNs, hTy, hX, hsb, hbs, hFr, hWd⟩ := id X
  obtain ⟨hl, hW, hS, hc1, hc2, hc3, hc4⟩ := id Y
  obtain ⟨⟨C, T, N⟩, hc, hk, hln⟩ := hf
  have hv' : (fs.map (oV G))[k]? = some (oV G v) := by rw [List.getElem?_map, hv]; rfl
  rcases hln with hln | ⟨host, hln⟩
  · exact va_get hx hb hts (oIn ci _ hc) hown hK (hW.one he) 0 rfl hc k hk (hts _ hln) (fun _ h => h) hv' hd (kk p e R s mid args below meth c hp locs cells slots mc ms ls X Y)
  · exact va_getN hx hb hts (oIn ci _ hc) hown hK (hW.one he) 0 rfl hc k hk (va_Nw.use rfl (hNs.1 _ hln)) (fun _ h => h) hv' hd (kk p e R s mid args below meth c hp locs cells slots mc ms ls X Y)
theorem o_put {ci idx k r : Nat} {ty : FieldType} {fs : List oU} {v : oU} (hd : decode (oCd M) pc = .ok (.putfield idx, 3)) (hf : oFs M.1.cls idx ci k ty) (hfit : oFit ty v) (he : H.2 r = some (.inr (.inr (ci, fs)))) (hln : k < fs.length) (kk : Ok G M (pc + 3) lv st (oUp H r (.inr (.inr (ci, fs.set k v)))) b Q) : Ok G M pc lv (v :: .inr (some r) :: st) H b Q := by
  intro p e R s mid args below meth c hp locs cells slots mc ms ls X Y
  obtain ⟨hx, hb, hml, hrt, hlk, hnm, hown, hts, hK, hNs, hTy, hX, hsb, hbs, hFr, hWd⟩ := id X
  obtain ⟨hl, hW, hS, hc1, hc2, hc3, hc4⟩ := id Y
  obtain ⟨⟨⟨C, T, N⟩, hc, hk, hlk2⟩, hff⟩ := hf
  obtain ⟨hfin, hpd⟩ := hff _ hc
  obtain ⟨ty0, hty, hnm2⟩ := oTyp ci _ hc
  have hin := oIn ci _ hc
  have hap := va_apart (own := M.1.cls) hts hin ty0 hty hnm2 hK hc
  obtain ⟨r9, h1, cell, q1, q2, q3, q4⟩ := hW.one he 0 _ rfl
  have hr9 : r9 = (C, T, N) := Option.some.inj (h1.symm.trans hc)
  subst hr9
  obtain ⟨hSl, hfc, kC, hkC, hkind⟩ := hK.1 ci _ hc
  obtain ⟨cf, kf, fi, f, hi, hsl⟩ := hSl k hk
  have hlay := hts _ (hin _ (u_in_lay hk))
  unfold u_lay at hlay
  rw [if_neg (by rw [hfin]; decide)] at hlay
  have hst := (u_facts hfc hkC (u_lays hts hin hk) hi).1
  have h6 := u_store hfc hkC hkind hlay hi hpd (hfit G).1 (hfit G).2
  have hlen : k < (fs.map (oV G)).length := by rw [List.length_map]; exact hln
  have done : ∀ H' : Heap, H'[oAd G r]? = some (cell.setSlot f.slot (oV G v)) → H'.size = hp.size → (∀ q : Nat, q ≠ oAd G r → H'[q]? = hp[q]?) → W p (oLa G) e R s mid args below meth c H' (locs ++ [⟨oAd G r, f.slot⟩]) cells slots (MQ below (oQ G Q) args s mc ms (oA G)) (F0 mid (pc + 3) ls (st.map (oV G))) := by
    intro H' e1 e2 e3
    refine kk p e R s mid args below meth c H' _ cells slots mc ms ls X ⟨hl, hW.up he ?_ e2 e3, oS_put hS hW he e2 e3, hc1, hc2, hc3, hc4⟩
    rw [hsl] at e1
    refine ⟨_, hc, t_OB.to (V := updV (vp_V (fs.map (oV G))) k (oV G v)) ⟨_, e1, q2, q3, t_set q4 hap hk (oV G v)⟩ (fun j _ => ?_)⟩
    rw [vp_updV_set hlen, List.map_set]
  rcases hlk2 with hlk2 | ⟨host, hlk2⟩
  · exact W.putK hx hb (f := f) ⟨hown, hts _ hlk2, ⟨_, _, _, hi⟩, hst⟩ (by rw [q2]; exact h6) q1 q3 (by rw [hsl]; exact k2_hasslot (q4 k hk)) rfl rfl hd done
  · exact va_WputK hx hb (f := f) hown (va_Nw.use rfl (hNs.1 _ hlk2)) hi hst (by rw [q2]; exact h6) q1 q3 (by rw [hsl]; exact k2_hasslot (q4 k hk)) rfl rfl hd done
theorem o_putF {ci idx k r : Nat} {ty : FieldType} {fs : List oU} {v : oU} (hd : decode (oCd M) pc = .ok (.putfield idx, 3)) (hf : oFf M.1.cls idx ci k ty) (hini : M.1.name = "<init>") (hfit : oFit ty v) (he : H.2 r = some (.inr (.inr (ci, fs)))) (hln : k < fs.length) (kk : Ok G M (pc + 3) lv st (oUp H r (.inr (.inr (ci, fs.set k v)))) b Q) : Ok G M pc lv (v :: .inr (some r) :: st) H b Q := by
  intro p e R s mid args below meth c hp locs cells slots mc ms ls X Y
  obtain ⟨hx, hb, hml, hrt, hlk, hnm, hown, hts, hK, hNs, hTy, hX, hsb, hbs, hFr, hWd⟩ := id X
  obtain ⟨hl, hW, hS, hc1, hc2, hc3, hc4⟩ := id Y
  obtain ⟨⟨C, T, N⟩, hc, hk, hlk2, hfin, hdecl, hpd⟩ := hf
  obtain ⟨ty0, hty, hnm2⟩ := oTyp ci _ hc
  have hin := oIn ci _ hc
  have hap := va_apart (own := M.1.cls) hts hin ty0 hty hnm2 hK hc
  obtain ⟨r9, h1, cell, q1, q2, q3, q4⟩ := hW.one he 0 _ rfl
  have hr9 : r9 = (C, T, N) := Option.some.inj (h1.symm.trans hc)
  subst hr9
  obtain ⟨hSl, hfc, kC, hkC, hkind⟩ := hK.1 ci _ hc
  obtain ⟨cf, kf, fi, f, hi, hsl⟩ := hSl k hk
  have hlay := hts _ (hin _ (u_in_lay hk))
  unfold u_lay at hlay
  rw [if_pos hfin] at hlay
  have hst := (u_facts hfc hkC (u_lays hts hin hk) hi).1
  have hcf : mid.cls = cf := by
    obtain ⟨_, _, c', _, _, _, -, -, hf', -, -, -, hown2, -⟩ := Cond.laysFinal_spec hlay
    have e1 : c' = cf := by have := hi.symm.trans hf'; simp at this; exact this.1.symm
    have hdecl2 : (T k).1 = M.1.cls := hdecl
    rw [hdecl2] at hown2
    rw [← e1]; exact Option.some.inj (hown.symm.trans hown2)
  have h6 := u_fits hfc hkC hkind (Or.inr hlay) hi hpd (hfit G).1 (hfit G).2
  have hlen : k < (fs.map (oV G)).length := by rw [List.length_map]; exact hln
  refine W.putFinK hx hb hown (hts _ hlk2) hi hst hcf (hnm.trans hini) (by rw [q2]; exact h6) q1 q3 (by rw [hsl]; exact k2_hasslot (q4 k hk)) rfl rfl hd fun H' e1 e2 e3 => ?_
  refine kk p e R s mid args below meth c H' _ cells slots mc ms ls X ⟨hl, hW.up he ?_ e2 e3, oS_put hS hW he e2 e3, hc1, hc2, hc3, hc4⟩
  rw [hsl] at e1
  refine ⟨_, hc, t_OB.to (V := updV (vp_V (fs.map (oV G))) k (oV G v)) ⟨_, e1, q2, q3, t_set q4 hap hk (oV G v)⟩ (fun j _ => ?_)⟩
  rw [vp_updV_set hlen, List.map_set]
theorem o_iald {t n r : Nat} {f : Nat → Int32} {i : Int32} (j : Nat) (hd : decode (oCd M) pc = .ok (.iaload, 1)) (he : H.2 r = some (.inl (t, n, f))) (ht : oTyL[t]? = some .int) (hN : Nat.blt n 2147483648 = true) (hi : i = nI j) (hj : j < n) (kk : Ok G M (pc + 1) lv (.inl (f j) :: st) H b Q) : Ok G M pc lv (.inl i :: .inr (some r) :: st) H b Q := by
  intro p e R s mid args below meth c hp locs cells slots mc ms ls X Y
  obtain ⟨hx, hb, hml, hrt, hlk, hnm, hown, hts, hK, hNs, hTy, hX, hsb, hbs, hFr, hWd⟩ := id X
  obtain ⟨hl, hW, hS, hc1, hc2, hc3, hc4⟩ := id Y
  have hN2 : n < 2147483648 := Nat.le_of_ble_eq_true hN
  have e9 : (nI j).toNatClampNeg = j := nI_clamp (Nat.lt_trans hj hN2)
  subst hi
  refine va_iald hx hb hK (hW.one he) 0 t rfl (oTy_at hTy ht) (vp_in_nI hj hN2) hd ?_
  rw [e9]
  exact kk p e R s mid args below meth c hp locs cells slots mc ms ls X Y
theorem o_zald {t n r : Nat} {f : Nat → Int32} {i : Int32} (j : Nat) (hd : decode (oCd M) pc = .ok (.baload, 1)) (he : H.2 r = some (.inl (t, n, f))) (ht : oTyL[t]? = some .boolean) (hN : Nat.blt n 2147483648 = true) (hi : i = nI j) (hj : j < n) (kk : Ok G M (pc + 1) lv (.inl (f j) :: st) H b Q) : Ok G M pc lv (.inl i :: .inr (some r) :: st) H b Q := by
  intro p e R s mid args below meth c hp locs cells slots mc ms ls X Y
  obtain ⟨hx, hb, hml, hrt, hlk, hnm, hown, hts, hK, hNs, hTy, hX, hsb, hbs, hFr, hWd⟩ := id X
  obtain ⟨hl, hW, hS, hc1, hc2, hc3, hc4⟩ := id Y
  have hN2 : n < 2147483648 := Nat.le_of_ble_eq_true hN
  have e9 : (nI j).toNatClampNeg = j := nI_clamp (Nat.lt_trans hj hN2)
  subst hi
  refine va_zald hx hb hK (hW.one he) 0 t rfl (oTy_at hTy ht) (vp_in_nI hj hN2) hd ?_
  rw [e9]
  exact kk p e R s mid args below meth c hp locs cells slots mc ms ls X Y
theorem o_iast {t n r : Nat} {f : Nat → Int32} {i x : Int32} (j : Nat) (hd : decode (oCd M) pc = .ok (.iastore, 1)) (he : H.2 r = some (.inl (t, n, f))) (ht : oTyL[t]? = some .int) (hN : Nat.blt n 2147483648 = true) (hi : i = nI j) (hj : j < n) (kk : Ok G M (pc + 1) lv st (oUp H r (.inl (t, n, upd f j (x)))) b Q) : Ok G M pc lv (.inl x :: .inl i :: .inr (some r) :: st) H b Q := by
  intro p e R s mid args below meth c hp locs cells slots mc ms ls X Y
  obtain ⟨hx, hb, hml, hrt, hlk, hnm, hown, hts, hK, hNs, hTy, hX, hsb, hbs, hFr, hWd⟩ := id X
  obtain ⟨hl, hW, hS, hc1, hc2, hc3, hc4⟩ := id Y
  have hN2 : n < 2147483648 := Nat.le_of_ble_eq_true hN
  have e9 : (nI j).toNatClampNeg = j := nI_clamp (Nat.lt_trans hj hN2)
  have hin : vp_in (nI j) n := vp_in_nI hj hN2
  subst hi
  refine W.iast hx hb (hW.one he 0 _ rfl) ((hK.2 t _ (oTy_at hTy ht)).1 n (fun j => .int (f j))) (fun q => by cases q) (by show ¬ (nI j < 0 ∨ (arrV _ _ _).slots.size ≤ _); rw [arrV_size]; exact hin) rfl rfl hd fun H1 e1 z oq => ?_
  refine kk p e R s mid args below meth c H1 _ cells slots mc ms ls X ⟨hl, hW.up he ?_ z oq, oS_put hS hW he z oq, hc1, hc2, hc3, hc4⟩
  show H1[oAd G r]? = some (vp_cell _ _)
  rw [e1]
  show some ((vp_cell _ _).setSlot _ _) = _
  rw [vp_cell_i, vp_cell_i, arrV_store, e9]
  congr 2
  funext q
  by_cases hq : q = j
  · subst hq
    simp [updV, upd, vp_nar]
    try rfl
  · simp [updV, upd, hq]
theorem o_zast {t n r : Nat} {f : Nat → Int32} {i x : Int32} (j : Nat) (hd : decode (oCd M) pc = .ok (.bastore, 1)) (he : H.2 r = some (.inl (t, n, f))) (ht : oTyL[t]? = some .boolean) (hN : Nat.blt n 2147483648 = true) (hi : i = nI j) (hj : j < n) (kk : Ok G M (pc + 1) lv st (oUp H r (.inl (t, n, upd f j (vp_nar .boolean x)))) b Q) : Ok G M pc lv (.inl x :: .inl i :: .inr (some r) :: st) H b Q := by
  intro p e R s mid args below meth c hp locs cells slots mc ms ls X Y
  obtain ⟨hx, hb, hml, hrt, hlk, hnm, hown, hts, hK, hNs, hTy, hX, hsb, hbs, hFr, hWd⟩ := id X
  obtain ⟨hl, hW, hS, hc1, hc2, hc3, hc4⟩ := id Y
  have hN2 : n < 2147483648 := Nat.le_of_ble_eq_true hN
  have e9 : (nI j).toNatClampNeg = j := nI_clamp (Nat.lt_trans hj hN2)
  have hin : vp_in (nI j) n := vp_in_nI hj hN2
  subst hi
  refine W.zast hx hb (hW.one he 0 _ rfl) ((hK.2 t _ (oTy_at hTy ht)).1 n (fun j => .int (f j))) (fun q => by cases q) (by show ¬ (nI j < 0 ∨ (arrV _ _ _).slots.size ≤ _); rw [arrV_size]; exact hin) rfl rfl hd fun H1 e1 z oq => ?_
  refine kk p e R s mid args below meth c H1 _ cells slots mc ms ls X ⟨hl, hW.up he ?_ z oq, oS_put hS hW he z oq, hc1, hc2, hc3, hc4⟩
  show H1[oAd G r]? = some (vp_cell _ _)
  rw [e1]
  show some ((vp_cell _ _).setSlot _ _) = _
  rw [vp_cell_i, vp_cell_i, arrV_store, e9]
  congr 2
  funext q
  by_cases hq : q = j
  · subst hq
    simp [updV, upd, vp_nar]
    try rfl
  · simp [updV, upd, hq]
theorem o_aald {t n r v : Nat} {f : Nat → Option Nat} {i : Int32} {C : String} (j : Nat) (hd : decode (oCd M) pc = .ok (.aaload, 1)) (he : H.2 r = some (.inr (.inl (t, n, f)))) (ht : oTyL[t]? = some (.object C)) (hN : Nat.blt n 2147483648 = true) (hi : i = nI j) (hj : j < n) (hv : f j = some v) (kk : Ok G M (pc + 1) lv (.inr (some v) :: st) H b Q) : Ok G M pc lv (.inl i :: .inr (some r) :: st) H b Q := by
  intro p e R s mid args below meth c hp locs cells slots mc ms ls X Y
  obtain ⟨hx, hb, hml, hrt, hlk, hnm, hown, hts, hK, hNs, hTy, hX, hsb, hbs, hFr, hWd⟩ := id X
  obtain ⟨hl, hW, hS, hc1, hc2, hc3, hc4⟩ := id Y
  have hN2 : n < 2147483648 := Nat.le_of_ble_eq_true hN
  have e9 : (nI j).toNatClampNeg = j := nI_clamp (Nat.lt_trans hj hN2)
  subst hi
  refine va_aldq hx hb hK (hW.one he) 0 t rfl (oTy_at hTy ht) (vp_in_nI hj hN2) hd ?_
  rw [e9]
  show W p (oLa G) e R s mid args below meth c hp locs cells slots (MQ below (oQ G Q) args s mc ms (oA G)) (F0 mid (pc + 1) ls (va_rf (Option.map (oAd G) (f j)) :: List.map (oV G) st))
  rw [hv]
  exact kk p e R s mid args below meth c hp locs cells slots mc ms ls X Y
theorem o_alen {t n r : Nat} {f : Nat → Int32} {ty : FieldType} (hd : decode (oCd M) pc = .ok (.arraylength, 1)) (he : H.2 r = some (.inl (t, n, f))) (ht : oTyL[t]? = some ty) (kk : Ok G M (pc + 1) lv (.inl (nI n) :: st) H b Q) : Ok G M pc lv (.inr (some r) :: st) H b Q := by
  intro p e R s mid args below meth c hp locs cells slots mc ms ls X Y
  obtain ⟨hx, hb, hml, hrt, hlk, hnm, hown, hts, hK, hNs, hTy, hX, hsb, hbs, hFr, hWd⟩ := id X
  obtain ⟨hl, hW, hS, hc1, hc2, hc3, hc4⟩ := id Y
  exact va_alen hx hb hK (hW.one he) 0 t rfl (oTy_at hTy ht) (v := nI n) rfl hd (kk p e R s mid args below meth c hp locs cells slots mc ms ls X Y)
theorem o_sld {i : Int32} (j : Nat) (hd : decode (oCd M) pc = .ok (.iaload, 1)) (hN : oN G < 2147483648) (hi : i = nI j) (hj : j < oN G) (kk : Ok G M (pc + 1) lv (.inl (oX G j) :: st) H b Q) : Ok G M pc lv (.inl i :: .inr (some 0) :: st) H b Q := by
  intro p e R s mid args below meth c hp locs cells slots mc ms ls X Y
  obtain ⟨hx, hb, hml, hrt, hlk, hnm, hown, hts, hK, hNs, hTy, hX, hsb, hbs, hFr, hWd⟩ := id X
  obtain ⟨hl, hW, hS, hc1, hc2, hc3, hc4⟩ := id Y
  have e9 : (nI j).toNatClampNeg = j := nI_clamp (Nat.lt_trans hj hN)
  subst hi
  refine va_sld hx hb hX (Nat.lt_of_lt_of_le hsb hbs) (fun h => Nat.not_le.mpr hsb h) hS (vp_in_nI hj hN) hd ?_
  rw [e9]
  exact kk p e R s mid args below meth c hp locs cells slots mc ms ls X Y
theorem o_slen (hd : decode (oCd M) pc = .ok (.arraylength, 1)) (kk : Ok G M (pc + 1) lv (.inl (nI (oN G)) :: st) H b Q) : Ok G M pc lv (.inr (some 0) :: st) H b Q := by
  intro p e R s mid args below meth c hp locs cells slots mc ms ls X Y
  obtain ⟨hx, hb, hml, hrt, hlk, hnm, hown, hts, hK, hNs, hTy, hX, hsb, hbs, hFr, hWd⟩ := id X
  obtain ⟨hl, hW, hS, hc1, hc2, hc3, hc4⟩ := id Y
  exact va_slen hx hb hX (Nat.lt_of_lt_of_le hsb hbs) (fun h => Nat.not_le.mpr hsb h) hS hd (kk p e R s mid args below meth c hp locs cells slots mc ms ls X Y)
theorem o_aast {t n r v ci : Nat} {f : Nat → Option Nat} {fs : List oU} {i : Int32} {q9 : vw_C} (j : Nat) (hd : decode (oCd M) pc = .ok (.aastore, 1)) (he : H.2 r = some (.inr (.inl (t, n, f)))) (hev : H.2 v = some (.inr (.inr (ci, fs)))) (hcl : vwCl[ci]? = some q9) (ht : oTyL[t]? = some (.object q9.1)) (hN : Nat.blt n 2147483648 = true) (hi : i = nI j) (hj : j < n) (kk : Ok G M (pc + 1) lv st (oUp H r (.inr (.inl (t, n, va_up f j (some v))))) b Q) : Ok G M pc lv (.inr (some v) :: .inl i :: .inr (some r) :: st) H b Q := by
  intro p e R s mid args below meth c hp locs cells slots mc ms ls X Y
  obtain ⟨hx, hb, hml, hrt, hlk, hnm, hown, hts, hK, hNs, hTy, hX, hsb, hbs, hFr, hWd⟩ := id X
  obtain ⟨hl, hW, hS, hc1, hc2, hc3, hc4⟩ := id Y
  have hN2 : n < 2147483648 := Nat.le_of_ble_eq_true hN
  have e9 : (nI j).toNatClampNeg = j := nI_clamp (Nat.lt_trans hj hN2)
  have hin : vp_in (nI j) n := vp_in_nI hj hN2
  subst hi
  obtain ⟨r', hr', cellV, g1, g2, g3, -⟩ := hW.one hev 0 _ rfl
  have hcls := (hK.1 ci q9 hcl).2
  obtain ⟨kA, comp, k1, k2, k3, -⟩ := (hK.2 t _ (oTy_at hTy ht)).2
  have hcomp : comp = (oD G).1 ci := Option.some.inj (k3.symm.trans hcls.1)
  subst hcomp
  obtain ⟨kC, hkC, -⟩ := hcls.2
  refine W.aast hx hb (hW.one he 0 _ rfl) (fun q h => by cases h) (fun h => by cases h) k1 k2 rfl hkC ⟨fun q => hin (Or.inl q), by show _ < (arrV _ _ _).slots.size; rw [arrV_size, e9]; exact hj⟩ g1 (fun q h => by rw [g3] at h; cases h) (by rw [g2]; exact hkC) (by rw [g2]; exact va_assign hcls) rfl rfl hd fun H1 e1 z oq => ?_
  refine kk p e R s mid args below meth c H1 _ cells slots mc ms ls X ⟨hl, hW.up he ?_ z oq, oS_put hS hW he z oq, hc1, hc2, hc3, hc4⟩
  show H1[oAd G r]? = some (vp_cell _ _)
  rw [e1]
  show some ((vp_cell _ _).setSlot _ _) = _
  rw [vp_cell_q, vp_cell_q, arrV_store, e9]
  congr 2
  funext q
  by_cases hq : q = j
  · subst hq
    simp [updV, va_up, va_rf]
  · simp [updV, va_up, hq]
theorem o_new {ci idx : Nat} {q9 : vw_C} (b' : Nat × Nat) (hd : decode (oCd M) pc = .ok (.new idx, 3)) (hcl : vwCl[ci]? = some q9) (hw : Cond.classLink M.1.cls idx q9.1 ∈ oAll) (hi : Cond.instantiable q9.1 q9.2.2 ∈ oAll) (hini : Cond.initialized q9.1 ∈ oAll) (hbb : b = (b'.1 + 1, b'.2 + q9.2.2)) (kk : Ok G M (pc + 3) lv (.inr (some (H.1 + 1)) :: st) (oNw H (.inr (.inr (ci, oDef ci)))) b' Q) : Ok G M pc lv st H b Q := by
  intro p e R s mid args below meth c hp locs cells slots mc ms ls X Y
  obtain ⟨hx, hb, hml, hrt, hlk, hnm, hown, hts, hK, hNs, hTy, hX, hsb, hbs, hFr, hWd⟩ := id X
  obtain ⟨hl, hW, hS, hc1, hc2, hc3, hc4⟩ := id Y
  subst hbb
  obtain ⟨C, T, N⟩ := q9
  have hc1 : cells + (b'.1 + 1) = mc := hc1
  have hc2 : slots + (b'.2 + N) = ms := hc2
  have hKn := hK.1 ci _ hcl
  obtain ⟨ty0, hty, hdf⟩ := oDefs G ci _ hcl
  refine W.newcK hx hb hown (hts _ hw) (hts _ hi) (hts _ hini) rfl hd (by omega) (by show slots + N ≤ R.slots; omega) hKn.2.1 hW.1 fun H1 kC hkC e1 z1 o1 => ?_
  refine kk p e R s mid args below meth c H1 _ (cells + 1) (slots + N) mc ms ls X ⟨hl, hW.new ?_ (by rw [z1, hW.1]) (fun q hq => o1 q (by rw [← hW.1]; exact hq)), ?_, by omega, by omega, hc3, hc4⟩
  · exact ⟨_, hcl, (u_born ty0 hts (oIn ci _ hcl) hKn hkC e1 hty).to hdf⟩
  · have hz := hS.1
    rw [hW.1] at hz
    exact ⟨by rw [z1]; omega, fun x h1 h2 => (o1 x (by omega)).trans (hS.2.1 x h1 h2), hS.2.2⟩
theorem o_newi {t : Nat} {i : Int32} (n : Nat) (b' : Nat × Nat) (hd : decode (oCd M) pc = .ok (.newarray .int, 2)) (ht : oTyL[t]? = some .int) (hw : Cond.arrayClass .int ∈ oAll) (hi : i = nI n) (hN : Nat.ble n 100000 = true) (hbb : b = (b'.1 + 1, b'.2 + n)) (kk : Ok G M (pc + 2) lv (.inr (some (H.1 + 1)) :: st) (oNw H (.inl (t, n, fun _ => 0))) b' Q) : Ok G M pc lv (.inl i :: st) H b Q := by
  intro p e R s mid args below meth c hp locs cells slots mc ms ls X Y
  obtain ⟨hx, hb, hml, hrt, hlk, hnm, hown, hts, hK, hNs, hTy, hX, hsb, hbs, hFr, hWd⟩ := id X
  obtain ⟨hl, hW, hS, hc1, hc2, hc3, hc4⟩ := id Y
  subst hbb
  have hc1 : cells + (b'.1 + 1) = mc := hc1
  have hc2 : slots + (b'.2 + n) = ms := hc2
  have hN2 : n ≤ 100000 := Nat.le_of_ble_eq_true hN
  have e9 : (nI n).toNatClampNeg = n := nI_clamp (by omega)
  subst hi
  refine va_newaK (atype := .int) hx hb (hts _ hw) rfl hd rfl (nI_pos (by omega)) e9 (by simp only [newarray.typeOf, componentBytes]; omega) (by omega) (by omega) hW.1 fun H1 cA e1 z1 o1 hAr hNm => ?_
  have hcA : ((oT G).getD t (0, .int)).1 = cA := Option.some.inj (((hK.2 t _ (oTy_at hTy ht)).2 : s.vm.findClass _ = some _).symm.trans hNm)
  refine kk p e R s mid args below meth c H1 _ (cells + 1) (slots + n) mc ms ls X ⟨hl, hW.new ?_ (by rw [z1, hW.1]) (fun q hq => o1 q (by rw [← hW.1]; exact hq)), ?_, by omega, by omega, hc3, hc4⟩
  · show H1[_]? = some (vp_cell _ _)
    rw [hcA]
    exact e1
  · have hz := hS.1
    rw [hW.1] at hz
    exact ⟨by rw [z1]; omega, fun x h1 h2 => (o1 x (by omega)).trans (hS.2.1 x h1 h2), hS.2.2⟩
theorem o_newz {t : Nat} {i : Int32} (n : Nat) (b' : Nat × Nat) (hd : decode (oCd M) pc = .ok (.newarray .boolean, 2)) (ht : oTyL[t]? = some .boolean) (hw : Cond.arrayClass .boolean ∈ oAll) (hi : i = nI n) (hN : Nat.ble n 100000 = true) (hbb : b = (b'.1 + 1, b'.2 + n)) (kk : Ok G M (pc + 2) lv (.inr (some (H.1 + 1)) :: st) (oNw H (.inl (t, n, fun _ => 0))) b' Q) : Ok G M pc lv (.inl i :: st) H b Q := by
  intro p e R s mid args below meth c hp locs cells slots mc ms ls X Y
  obtain ⟨hx, hb, hml, hrt, hlk, hnm, hown, hts, hK, hNs, hTy, hX, hsb, hbs, hFr, hWd⟩ := id X
  obtain ⟨hl, hW, hS, hc1, hc2, hc3, hc4⟩ := id Y
  subst hbb
  have hc1 : cells + (b'.1 + 1) = mc := hc1
  have hc2 : slots + (b'.2 + n) = ms := hc2
  have hN2 : n ≤ 100000 := Nat.le_of_ble_eq_true hN
  have e9 : (nI n).toNatClampNeg = n := nI_clamp (by omega)
  subst hi
  refine va_newaK (atype := .boolean) hx hb (hts _ hw) rfl hd rfl (nI_pos (by omega)) e9 (by simp only [newarray.typeOf, componentBytes]; omega) (by omega) (by omega) hW.1 fun H1 cA e1 z1 o1 hAr hNm => ?_
  have hcA : ((oT G).getD t (0, .int)).1 = cA := Option.some.inj (((hK.2 t _ (oTy_at hTy ht)).2 : s.vm.findClass _ = some _).symm.trans hNm)
  refine kk p e R s mid args below meth c H1 _ (cells + 1) (slots + n) mc ms ls X ⟨hl, hW.new ?_ (by rw [z1, hW.1]) (fun q hq => o1 q (by rw [← hW.1]; exact hq)), ?_, by omega, by omega, hc3, hc4⟩
  · show H1[_]? = some (vp_cell _ _)
    rw [hcA]
    exact e1
  · have hz := hS.1
    rw [hW.1] at hz
    exact ⟨by rw [z1]; omega, fun x h1 h2 => (o1 x (by omega)).trans (hS.2.1 x h1 h2), hS.2.2⟩
theorem o_anew {t idx : Nat} {i : Int32} {C : String} (n : Nat) (b' : Nat × Nat) (hd : decode (oCd M) pc = .ok (.anewarray idx, 3)) (ht : oTyL[t]? = some (.object C)) (hw : Cond.classLink M.1.cls idx C ∈ oAll) (hao : C ∈ oAO) (hi : i = nI n) (hN : Nat.ble n 100000 = true) (hbb : b = (b'.1 + 1, b'.2 + n)) (kk : Ok G M (pc + 3) lv (.inr (some (H.1 + 1)) :: st) (oNw H (.inr (.inl (t, n, fun _ => none)))) b' Q) : Ok G M pc lv (.inl i :: st) H b Q := by
  intro p e R s mid args below meth c hp locs cells slots mc ms ls X Y
  obtain ⟨hx, hb, hml, hrt, hlk, hnm, hown, hts, hK, hNs, hTy, hX, hsb, hbs, hFr, hWd⟩ := id X
  obtain ⟨hl, hW, hS, hc1, hc2, hc3, hc4⟩ := id Y
  subst hbb
  have hc1 : cells + (b'.1 + 1) = mc := hc1
  have hc2 : slots + (b'.2 + n) = ms := hc2
  have hN2 : n ≤ 100000 := Nat.le_of_ble_eq_true hN
  have e9 : (nI n).toNatClampNeg = n := nI_clamp (by omega)
  subst hi
  refine W.anew hx hb hown (hts _ hw) (va_AO.use (hNs.2.2 _ hao)) rfl hd rfl (nI_pos (by omega)) (by rw [e9]; omega) (by omega) (by rw [e9]; omega) fun cA kA comp f1 f2 f3 f4 => ?_
  rw [e9]
  obtain ⟨kA', comp', k1, k2, k3, k4⟩ := (hK.2 t _ (oTy_at hTy ht)).2
  have hcA : ((oT G).getD t (0, .int)).1 = cA := Option.some.inj (k4.symm.trans f1)
  have ha : oB G + H.1 = hp.size := hW.1.symm
  have hz := hS.1
  refine W.eq (g2 := F0 mid (pc + 3) ls ((.inr (some (H.1 + 1)) :: st).map (oV G))) (by show F0 mid (pc + 3) ls (.ref hp.size :: st.map (oV G)) = F0 mid (pc + 3) ls (.ref (oB G + H.1) :: st.map (oV G)); rw [ha]) ?_
  refine kk p e R s mid args below meth c _ _ (cells + 1) (slots + n) mc ms ls X ⟨hl, hW.new ?_ (by simp) (fun q hq => by rw [Array.getElem?_push, if_neg (Nat.ne_of_lt hq)]), ?_, by omega, by omega, hc3, hc4⟩
  · show (hp.push _)[_]? = some (vp_cell _ _)
    rw [hcA, ha, Array.getElem?_push_size, vp_cell_q, arrV_new]
    rfl
  · exact ⟨by simp; omega, fun x h1 h2 => by rw [Array.getElem?_push, if_neg (Nat.ne_of_lt (Nat.lt_of_lt_of_le h1 hz))]; exact hS.2.1 x h1 h2, hS.2.2⟩
theorem o_objInit {idx r : Nat} (hd : decode (oCd M) pc = .ok (.invokespecial idx, 3)) (hw : Cond.methodLink M.1.cls idx Lib.objectInit ∈ oAll) (hw2 : Cond.instanceMethod Lib.objectInit ∈ oAll) (hw3 : Cond.code Lib.objectInit ⟨#[0xb1]⟩ 1 none ∈ oAll) (hf : Nat.ble 1 (oFr M) = true) (hl9 : Nat.ble (st.length + 12) (oWd M) = true) (kk : Ok G M (pc + 3) lv st H b Q) : Ok G M pc lv (.inr (some r) :: st) H b Q := by
  intro p e R s mid args below meth c hp locs cells slots mc ms ls X Y
  obtain ⟨hx, hb, hml, hrt, hlk, hnm, hown, hts, hK, hNs, hTy, hX, hsb, hbs, hFr, hWd⟩ := id X
  obtain ⟨hl, hW, hS, hc1, hc2, hc3, hc4⟩ := id Y
  refine W.objInit hx hb hown (hts _ hw) (hts _ hw2) (hts _ hw3) rfl (by rw [hml]; exact hl.1) rfl hd (Nat.le_trans (Nat.le_of_ble_eq_true hf) hFr) ?_ (kk p e R s mid args below meth c hp locs cells slots mc ms ls X Y)
  have h1 := Nat.le_of_ble_eq_true hl9
  have h2 : ((st.map (oV G)).map fun v => v.category).sum = st.length := oSum G st
  show 2 * 0 + ((st.map (oV G)).map fun v => v.category).sum + 12 ≤ R.locals
  omega
theorem o_mmax {idx : Nat} {x y : Int32} (hd : decode (oCd M) pc = .ok (.invokestatic idx, 3)) (hw : Cond.methodLink M.1.cls idx Lib.Math.max.name ∈ oAll) (hw2 : Cond.static Lib.Math.max.name ∈ oAll) (hw3 : Cond.initialized "java/lang/Math" ∈ oAll) (hw4 : Cond.code Lib.Math.max.name Lib.Math.max.code 2 (some .int) ∈ oAll) (hf : Nat.ble 1 (oFr M) = true) (hl9 : Nat.ble (st.length + 13) (oWd M) = true) (kk : Ok G M (pc + 3) lv (.inl (if x < y then y else x) :: st) H b Q) : Ok G M pc lv (.inl y :: .inl x :: st) H b Q := by
  intro p e R s mid args below meth c hp locs cells slots mc ms ls X Y
  obtain ⟨hx, hb, hml, hrt, hlk, hnm, hown, hts, hK, hNs, hTy, hX, hsb, hbs, hFr, hWd⟩ := id X
  obtain ⟨hl, hW, hS, hc1, hc2, hc3, hc4⟩ := id Y
  refine va_mmax hx hb (by rw [hml]; exact hl.1.symm) hown (hts _ hw) (hts _ hw2) (hts _ hw3) (hts _ hw4) (Nat.le_trans (Nat.le_of_ble_eq_true hf) hFr) ?_ (by omega) (by omega) hd (kk p e R s mid args below meth c hp locs cells slots mc ms ls X Y)
  have h1 := Nat.le_of_ble_eq_true hl9
  have h2 : ((st.map (oV G)).map fun v => v.category).sum = st.length := oSum G st
  omega
theorem o_copy {t n0 n1 r0 r1 idx : Nat} {f g : Nat → Int32} {isp idp i : Int32} (sp dp n : Nat) (hd : decode (oCd M) pc = .ok (.invokestatic idx, 3)) (hw : Cond.methodLink M.1.cls idx arraycopyName ∈ oAll) (hw2 : Cond.native arraycopyName ∈ oAll) (hw3 : Cond.static arraycopyName ∈ oAll) (hw4 : Cond.initialized "java/lang/System" ∈ oAll) (hf : Nat.ble 1 (oFr M) = true) (hl9 : Nat.ble (st.length + (nativeFrameWords "java/lang/System" "arraycopy" 5 + 11)) (oWd M) = true)
    (he0 : H.2 r0 = some (.inl (t, n0, f))) (he1 : H.2 r1 = some (.inl (t, n1, g))) (ht : oTyL[t]? = some .int) (hN0 : Nat.ble n0 100000 = true) (hN1 : Nat.ble n1 100000 = true) (h1 : isp = nI sp) (h2 : idp = nI dp) (h3 : i = nI n) (h4 : sp + n ≤ n0) (h5 : dp + n ≤ n1)
    (kk : Ok G M (pc + 3) lv st (oUp H r1 (.inl (t, n1, va_cpy f g sp dp n))) b Q) : Ok G M pc lv (.inl i :: .inl idp :: .inr (some r1) :: .inl isp :: .inr (some r0) :: st) H b Q := by
  intro p e R s mid args below meth c hp locs cells slots mc ms ls X Y
  obtain ⟨hx, hb, hml, hrt, hlk, hnm, hown, hts, hK, hNs, hTy, hX, hsb, hbs, hFr, hWd⟩ := id X
  obtain ⟨hl, hW, hS, hc1, hc2, hc3, hc4⟩ := id Y
  have hN2 := Nat.le_of_ble_eq_true hN0
  have hN3 := Nat.le_of_ble_eq_true hN1
  subst h1; subst h2; subst h3
  have e1 : (nI sp).toNatClampNeg = sp := nI_clamp (by omega)
  have e2 : (nI dp).toNatClampNeg = dp := nI_clamp (by omega)
  have e3 : (nI n).toNatClampNeg = n := nI_clamp (by omega)
  have i1 : (nI sp).toInt = (sp : Int) := nI_toInt (by omega)
  have i2 : (nI dp).toInt = (dp : Int) := nI_toInt (by omega)
  have i3 : (nI n).toInt = (n : Int) := nI_toInt (by omega)
  intro T hT XX
  have c0 : hp[oAd G r0]? = some (vp_cell ((oT G).getD t (0, .int)).1 (n0, .inl f)) := hW.one he0 0 _ rfl
  have c1 : hp[oAd G r1]? = some (vp_cell ((oT G).getD t (0, .int)).1 (n1, .inl g)) := hW.one he1 0 _ rfl
  obtain ⟨-, k0, hk0, cm0, hkk0⟩ := (hK.2 t _ (oTy_at hTy ht)).1 n0 (fun j => .int (f j))
  have hlr : 2 * 0 + ((st.map (oV G)).map fun v => v.category).sum + (nativeFrameWords "java/lang/System" "arraycopy" 5 + 11) ≤ R.locals := by
    have h8 := Nat.le_of_ble_eq_true hl9
    have h9 : ((st.map (oV G)).map fun v => v.category).sum = st.length := oSum G st
    omega
  obtain ⟨vm', X', step⟩ := XX.arraycopy hx hown (hts _ hw) (hts _ hw2) (hts _ hw3) (hts _ hw4) (src := oAd G r0) (dst := oAd G r1) (cs := vp_cell ((oT G).getD t (0, .int)).1 (n0, .inl f)) (cd := vp_cell ((oT G).getD t (0, .int)).1 (n1, .inl g)) (srcPos := nI sp) (destPos := nI dp) (n := nI n) (by rw [hT]; exact c0) (by rw [hT]; exact c1)
    (fun _ h => by cases h) (fun _ h => by cases h) (fun h => by cases h) (fun h => by cases h) hk0 hk0 hkk0 hkk0 (by simp [refKind]) (nI_pos (by omega)) (nI_pos (by omega)) (nI_pos (by omega))
    (by rw [i1, i3]; show ¬ _ > ((arrV _ n0 (fun j => .int (f j))).slots.size : Int); rw [arrV_size]; omega)
    (by rw [i2, i3]; show ¬ _ > ((arrV _ n1 (fun j => .int (g j))).slots.size : Int); rw [arrV_size]; omega)
    (fun vm₁ _ j hj => by
      rw [e3] at hj
      have e8 : (vp_cell ((oT G).getD t (0, .int)).1 (n0, .inl f)).slots.getD ((nI sp).toNatClampNeg + j) .null = .int (f (sp + j)) := by
        show (arrV _ n0 (fun j => .int (f j))).slots.getD _ _ = _
        rw [e1, Array.getD_eq_getD_getElem?, arrV_read _ _ (by omega)]
        rfl
      rw [e8]
      exact ⟨rfl, trivial⟩)
    (g := F0 mid pc ls (.int (nI n) :: .int (nI dp) :: .ref (oAd G r1) :: .int (nI sp) :: .ref (oAd G r0) :: st.map (oV G))) rfl (by rw [hml]; exact hl.1) (rest := st.map (oV G)) rfl (by rw [hb]; exact hd) (Nat.le_trans (Nat.le_of_ble_eq_true hf) hFr) hlr
  have ecp : copied (vp_cell ((oT G).getD t (0, .int)).1 (n0, .inl f)) (vp_cell ((oT G).getD t (0, .int)).1 (n1, .inl g)) (nI sp) (nI dp) (nI n) = vp_cell ((oT G).getD t (0, .int)).1 (n1, .inl (va_cpy f g sp dp n)) := by
    have h8 := va_copied (fun z => Value.int z) ((oT G).getD t (0, .int)).1 ((oT G).getD t (0, .int)).1 (n1 := n1) (sp := sp) (dp := dp) (n := n) f g h4
    refine Eq.trans ?_ h8
    show Cell.storeRun _ (nI dp).toNatClampNeg (Cell.stretch _ (nI sp).toNatClampNeg (nI n).toNatClampNeg) = _
    rw [e1, e2, e3]
    rfl
  rw [ecp] at X' step
  have hlt : oAd G r1 < hp.size := (Array.getElem?_eq_some_iff.mp c1).1
  have oq : ∀ q : Nat, q ≠ oAd G r1 → (hp.setIfInBounds (oAd G r1) (vp_cell ((oT G).getD t (0, .int)).1 (n1, .inl (va_cpy f g sp dp n))))[q]? = hp[q]? := fun q hq => by simp [Array.getElem?_setIfInBounds, Ne.symm hq]
  obtain ⟨t9, a1, b1⟩ := kk p e R s mid args below meth c (hp.setIfInBounds (oAd G r1) (vp_cell ((oT G).getD t (0, .int)).1 (n1, .inl (va_cpy f g sp dp n)))) _ cells slots mc ms ls X ⟨hl, hW.up he1 (show (hp.setIfInBounds _ _)[_]? = some _ by simp [Array.getElem?_setIfInBounds, hlt]) (by simp) oq, ⟨by simp; exact hS.1, fun q g1 g2 => by
      rw [oq q (fun e => g2 (by rw [e]; exact hW.own he1))]
      exact hS.2.1 q g1 g2, fun q hq => by
      rcases List.mem_append.mp hq with h | h
      · exact hS.2.2 q h
      · obtain ⟨z, -, hz⟩ := List.mem_map.mp h
        rw [← hz]
        exact hW.own he1⟩, hc1, hc2, hc3, hc4⟩ _ (by rw [← hT]; rfl) X'
  exact ⟨t9, step t9 a1, b1⟩
theorem o_iret {v : Int32} {ty : FieldType} (hd : decode (oCd M) pc = .ok (.ireturn, 1)) (hr : oRt M = some ty) (hn : narrow ty (.int v) = .int v) (hq : Q (some (.inl v)) H) : Ok G M pc lv [.inl v] H b Q := by
  intro p e R s mid args below meth c hp locs cells slots mc ms ls X Y
  obtain ⟨hx, hb, hml, hrt, hlk, hnm, hown, hts, hK, hNs, hTy, hX, hsb, hbs, hFr, hWd⟩ := id X
  obtain ⟨hl, hW, hS, hc1, hc2, hc3, hc4⟩ := id Y
  exact W.widen (k := mc) (n := ms) (by omega) (by omega) (W.zret hx hb (hrt.trans hr) hn (fun t ht _ => ⟨⟨some (.inl v), H, rfl, hq, by rw [ht]; exact hW⟩, hS.F ht⟩) hS.2.2 hd hlk)
theorem o_vret (hd : decode (oCd M) pc = .ok (.return_, 1)) (hr : oRt M = none) (hq : Q none H) : Ok G M pc lv [] H b Q := by
  intro p e R s mid args below meth c hp locs cells slots mc ms ls X Y
  obtain ⟨hx, hb, hml, hrt, hlk, hnm, hown, hts, hK, hNs, hTy, hX, hsb, hbs, hFr, hWd⟩ := id X
  obtain ⟨hl, hW, hS, hc1, hc2, hc3, hc4⟩ := id Y
  exact W.widen (k := mc) (n := ms) (by omega) (by omega) (W.vret hx hb (hrt.trans hr) (fun t ht _ => ⟨⟨none, H, rfl, hq, by rw [ht]; exact hW⟩, hS.F ht⟩) hS.2.2 hd hlk)
theorem o_aret {r : Nat} {ty : FieldType} (hd : decode (oCd M) pc = .ok (.areturn, 1)) (hr : oRt M = some ty) (hrt9 : (∃ n, ty = .object n) ∨ ∃ t, ty = .array t) (hq : Q (some (.inr (some r))) H) : Ok G M pc lv [.inr (some r)] H b Q := by
  intro p e R s mid args below meth c hp locs cells slots mc ms ls X Y
  obtain ⟨hx, hb, hml, hrt, hlk, hnm, hown, hts, hK, hNs, hTy, hX, hsb, hbs, hFr, hWd⟩ := id X
  obtain ⟨hl, hW, hS, hc1, hc2, hc3, hc4⟩ := id Y
  exact W.widen (k := mc) (n := ms) (by omega) (by omega) (W.aret hx hb (hrt.trans hr) hrt9 (Or.inr ⟨_, rfl⟩) (fun t ht _ => ⟨⟨some (.inr (some r)), H, rfl, hq, by rw [ht]; exact hW⟩, hS.F ht⟩) hS.2.2 hd hlk)
end MB
