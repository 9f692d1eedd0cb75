/-! The cells of a store and of a reference, by names (tag, number); a memory mu tag number place; Om: Ok where the heap is that of a memory. -/
abbrev oSh : Type := (Nat × Nat) ⊕ (Nat × List Nat) ⊕ (Nat × List (Option Nat))
abbrev oMu : Type := Nat → Nat → Nat → Int32
def cnt (t : Nat) : Nat := match t with
  | 5 => 40
  | 6 => 40
  | 7 => 3
  | 8 => 3
  | 9 => 3
  | 10 => 3
  | 11 => 3
  | 12 => 6
  | 13 => 6
  | 14 => 6
  | 15 => 6
  | 16 => 6
  | 17 => 6
  | 18 => 9
  | 19 => 9
  | t => bif Nat.blt t 39 then 1 else 0
def ad (t i : Nat) : Nat := match t with
  | 0 => 1
  | 1 => 2
  | 2 => 3
  | 3 => 4
  | 4 => 5
  | 5 => 6 + 2 * i
  | 6 => 7 + 2 * i
  | 7 => 86 + 9 * i
  | 8 => 87 + 9 * i
  | 9 => 88 + 9 * i
  | 10 => 89 + 9 * i
  | 11 => 90 + 9 * i
  | 12 => 91 + 9 * (i / 2) + 2 * (i % 2)
  | 13 => 92 + 9 * (i / 2) + 2 * (i % 2)
  | 14 => 113 + 4 * i
  | 15 => 114 + 4 * i
  | 16 => 115 + 4 * i
  | 17 => 116 + 4 * i
  | 18 => 137 + 2 * i
  | 19 => 138 + 2 * i
  | t => 135 + t
def sh (t i : Nat) : oSh := match t with
  | 0 => .inr (.inr (ciStore, [some (ad 1 0), some (ad 2 0), some (ad 3 0), some (ad 4 0), none]))
  | 1 => .inr (.inl (tyWrite, (List.range 40).map (ad 5)))
  | 2 => .inr (.inl (tyCenter, (List.range 3).map (ad 7)))
  | 3 => .inr (.inl (tyClient, (List.range 6).map (ad 14)))
  | 4 => .inr (.inl (tyRow, (List.range 9).map (ad 18)))
  | 5 => .inr (.inr (ciWrite, [some (ad 6 i), none, none, none, none, none]))
  | 6 => .inl (tyInt, 6)
  | 7 => .inr (.inr (ciCenter, [some (ad 8 i), some (ad 9 i), some (ad 10 i), some (ad 11 i)]))
  | 8 => .inl (tyBool, 40)
  | 9 => .inl (tyInt, 6)
  | 10 => .inl (tyInt, 2)
  | 11 => .inr (.inl (tyRow, [ad 12 (2 * i), ad 12 (2 * i + 1)]))
  | 12 => .inr (.inr (ciRow, [some (ad 13 i), none]))
  | 13 => .inl (tyInt, 40)
  | 14 => .inr (.inr (ciClient, [none, some (ad 15 i), some (ad 16 i), some (ad 17 i), none, none, none]))
  | 15 => .inl (tyInt, 6)
  | 16 => .inl (tyInt, 6)
  | 17 => .inl (tyInt, 6)
  | 18 => .inr (.inr (ciRow, [some (ad 19 i), none]))
  | 19 => .inl (tyInt, 40)
  | 20 => .inr (.inr (ciModel, [none, some (ad 21 0), some (ad 22 0), some (ad 23 0), some (ad 24 0), some (ad 25 0), some (ad 26 0), some (ad 27 0), some (ad 28 0), some (ad 29 0), some (ad 30 0), some (ad 31 0), some (ad 32 0), some (ad 33 0), some (ad 34 0), some (ad 35 0), some (ad 36 0), some (ad 37 0), some (ad 38 0)]))
  | 21 => .inl (tyInt, 40)
  | 22 => .inl (tyInt, 40)
  | 23 => .inl (tyInt, 40)
  | 24 => .inl (tyInt, 240)
  | 25 => .inl (tyInt, 40)
  | 26 => .inl (tyBool, 120)
  | 27 => .inl (tyInt, 6)
  | 28 => .inl (tyInt, 6)
  | 29 => .inl (tyInt, 240)
  | 30 => .inl (tyInt, 9)
  | 31 => .inl (tyInt, 360)
  | 32 => .inl (tyInt, 36)
  | 33 => .inl (tyInt, 6)
  | 34 => .inl (tyInt, 6)
  | 35 => .inl (tyInt, 6)
  | 36 => .inl (tyInt, 6)
  | 37 => .inl (tyInt, 36)
  | 38 => .inl (tyInt, 36)
  | _ => .inl (tyInt, 0)
def nmL : List (Nat × Nat) := (List.range 39).flatMap fun t => (List.range (cnt t)).map fun i => (t, i)
def nm (r : Nat) : Option (Nat × Nat) := nmL.find? fun q => ad q.1 q.2 == r
set_option maxRecDepth 100000 in
theorem nm_ad9 : ∀ t, t < 39 → ∀ i, i < cnt t → nm (ad t i) = some (t, i) := by decide +kernel
theorem cnt_lt {t i : Nat} (h : i < cnt t) : t < 39 := by
  rcases Nat.lt_or_ge t 39 with h1 | h1
  · exact h1
  · exfalso
    have h2 : cnt t = 0 := by
      match t, h1 with
      | t + 39, _ =>
        show (bif Nat.blt (t + 39) 39 then 1 else 0) = 0
        have h3 : Nat.blt (t + 39) 39 = false := by
          cases h4 : Nat.blt (t + 39) 39 with
          | false => rfl
          | true =>
            have h5 : t + 39 < 39 := Nat.le_of_ble_eq_true h4
            omega
        rw [h3]
        rfl
    omega
theorem nm_ad {t i : Nat} (h : i < cnt t) : nm (ad t i) = some (t, i) := nm_ad9 t (cnt_lt h) i h
theorem nm_some {r t i : Nat} (h : nm r = some (t, i)) : i < cnt t ∧ ad t i = r := by
  have h1 := List.find?_some h
  have h2 := List.mem_of_find?_eq_some h
  refine ⟨?_, by simpa using h1⟩
  obtain ⟨t', -, h3⟩ := List.mem_flatMap.mp h2
  obtain ⟨i', h4, h5⟩ := List.mem_map.mp h3
  cases h5
  exact List.mem_range.mp h4
set_option maxRecDepth 100000 in
theorem ad_in9 : ∀ t, t < 39 → ∀ i, i < cnt t → 1 ≤ ad t i ∧ ad t i ≤ 173 := by decide +kernel
def oFld : List (Option Nat) → Nat → (Nat → Int32) → List oU
  | [], _, _ => []
  | some r :: l, k, x => .inr (some r) :: oFld l (k + 1) x
  | none :: l, k, x => .inl (x k) :: oFld l (k + 1) x
theorem oFld_len : ∀ (l : List (Option Nat)) (i : Nat) (x : Nat → Int32), (oFld l i x).length = l.length
  | [], _, _ => rfl
  | some r :: l, k, x => by rw [oFld, List.length_cons, oFld_len l (k + 1) x, List.length_cons]
  | none :: l, k, x => by rw [oFld, List.length_cons, oFld_len l (k + 1) x, List.length_cons]
theorem oFld_i : ∀ (l : List (Option Nat)) (i k : Nat) (x : Nat → Int32), l[k]? = some none → (oFld l i x)[k]? = some (.inl (x (i + k)))
  | [], _, _, _, h => by simp at h
  | some r :: l, i, 0, x, h => by simp at h
  | some r :: l, i, k + 1, x, h => by
    rw [List.getElem?_cons_succ] at h
    rw [oFld, List.getElem?_cons_succ, oFld_i l (i + 1) k x h, show i + 1 + k = i + (k + 1) by omega]
  | none :: l, i, 0, x, h => rfl
  | none :: l, i, k + 1, x, h => by
    rw [List.getElem?_cons_succ] at h
    rw [oFld, List.getElem?_cons_succ, oFld_i l (i + 1) k x h, show i + 1 + k = i + (k + 1) by omega]
theorem oFld_r : ∀ (l : List (Option Nat)) (i k : Nat) (x : Nat → Int32) (r : Nat), l[k]? = some (some r) → (oFld l i x)[k]? = some (.inr (some r))
  | [], _, _, _, _, h => by simp at h
  | some r' :: l, i, 0, x, r, h => by
    have h : some (some r') = some (some r) := h
    cases h
    rfl
  | none :: l, i, 0, x, r, h => by simp at h
  | some r' :: l, i, k + 1, x, r, h => by
    rw [List.getElem?_cons_succ] at h
    rw [oFld, List.getElem?_cons_succ, oFld_r l (i + 1) k x r h]
  | none :: l, i, k + 1, x, r, h => by
    rw [List.getElem?_cons_succ] at h
    rw [oFld, List.getElem?_cons_succ, oFld_r l (i + 1) k x r h]
theorem oFld_lo : ∀ (l : List (Option Nat)) (i j : Nat) (x : Nat → Int32) (v : Int32), j < i → oFld l i (upd x j v) = oFld l i x
  | [], _, _, _, _, _ => rfl
  | some r :: l, i, j, x, v, h => by rw [oFld, oFld, oFld_lo l (i + 1) j x v (by omega)]
  | none :: l, i, j, x, v, h => by
    rw [oFld, oFld, oFld_lo l (i + 1) j x v (by omega)]
    simp [upd, Nat.ne_of_gt h]
theorem oFld_set : ∀ (l : List (Option Nat)) (i k : Nat) (x : Nat → Int32) (v : Int32), l[k]? = some none → (oFld l i x).set k (.inl v) = oFld l i (upd x (i + k) v)
  | [], _, _, _, _, h => by simp at h
  | some r :: l, i, 0, x, v, h => by simp at h
  | some r :: l, i, k + 1, x, v, h => by
    rw [List.getElem?_cons_succ] at h
    rw [oFld, List.set_cons_succ, oFld_set l (i + 1) k x v h, oFld, show i + 1 + k = i + (k + 1) by omega]
  | none :: l, i, 0, x, v, h => by
    rw [oFld, List.set_cons_zero, oFld, oFld_lo l (i + 1) (i + 0) x v (by omega)]
    simp [upd]
  | none :: l, i, k + 1, x, v, h => by
    rw [List.getElem?_cons_succ] at h
    rw [oFld, List.set_cons_succ, oFld_set l (i + 1) k x v h, oFld, show i + 1 + k = i + (k + 1) by omega]
    have h2 : ¬ i = i + (k + 1) := by omega
    simp [upd, h2]
def oCt (s : oSh) (x : Nat → Int32) : oC := match s with
  | .inl a => .inl (a.1, a.2, x)
  | .inr (.inl a) => .inr (.inl (a.1, a.2.length, fun j => a.2[j]?))
  | .inr (.inr a) => .inr (.inr (a.1, oFld a.2 0 x))
def enc (mu : oMu) (r : Nat) : Option oC := (nm r).map fun q => oCt (sh q.1 q.2) (mu q.1 q.2)
def oHm (mu : oMu) : oH := (173, enc mu)
def up2 (mu : oMu) (t i : Nat) (x : Nat → Int32) : oMu := fun t' i' => if t' = t ∧ i' = i then x else mu t' i'
theorem up2_s {mu : oMu} {t i : Nat} {x : Nat → Int32} : up2 mu t i x t i = x := if_pos ⟨rfl, rfl⟩
theorem up2_t {mu : oMu} {t i t' i' : Nat} {x : Nat → Int32} (h : ¬ t' = t) : up2 mu t i x t' i' = mu t' i' := if_neg fun q => h q.1
theorem up2_i {mu : oMu} {t i t' i' : Nat} {x : Nat → Int32} (h : ¬ i' = i) : up2 mu t i x t' i' = mu t' i' := if_neg fun q => h q.2
theorem enc_ad {mu : oMu} {t i : Nat} (h : i < cnt t) : (oHm mu).2 (ad t i) = some (oCt (sh t i) (mu t i)) := by
  show enc mu (ad t i) = _
  rw [enc, nm_ad h]
  rfl
theorem enc_up {mu : oMu} {t i : Nat} {x : Nat → Int32} (h : i < cnt t) : oUp (oHm mu) (ad t i) (oCt (sh t i) x) = oHm (up2 mu t i x) := by
  refine Prod.ext rfl (funext fun r => ?_)
  show va_up (enc mu) (ad t i) (some (oCt (sh t i) x)) r = enc (up2 mu t i x) r
  by_cases hr : r = ad t i
  · subst hr
    rw [enc, nm_ad h]
    simp [va_up, up2]
  · rw [enc]
    have e : va_up (enc mu) (ad t i) (some (oCt (sh t i) x)) r = enc mu r := if_neg hr
    rw [e, enc]
    cases hn : nm r with
    | none => rfl
    | some q =>
      obtain ⟨t', i'⟩ := q
      have h2 := (nm_some hn).2
      have h3 : ¬ (t' = t ∧ i' = i) := fun z => hr (by rw [← h2, z.1, z.2])
      show some (oCt (sh t' i') (mu t' i')) = some (oCt (sh t' i') (up2 mu t i x t' i'))
      rw [up2, if_neg h3]
abbrev oPm : Type := Option oU → oMu → Prop
def oHQ (Q : oPm) : oP := fun r H => ∃ mu : oMu, H = oHm mu ∧ Q r mu
abbrev Om (G : oG) (M : oM) (pc : Nat) (lv : oL) (st : List oU) (mu : oMu) (Q : oPm) : Prop := Ok G M pc lv st (oHm mu) (0, 0) (oHQ Q)
theorem Ok.mono {G : oG} {M : oM} {pc : Nat} {lv : oL} {st : List oU} {H : oH} {b : Nat × Nat} {Q Q' : oP} (h : ∀ r H', Q r H' → Q' r H') (k : Ok G M pc lv st H b Q) : Ok G M pc lv st H b Q' := by
  intro p e R s mid args below meth c hp locs cells slots mc ms ls X Y T hT XX
  obtain ⟨t, a1, o, b1, b2, ⟨⟨r, H', e1, e2, e3⟩, e4⟩, b3⟩ := k p e R s mid args below meth c hp locs cells slots mc ms ls X Y T hT XX
  exact ⟨t, a1, o, b1, b2, ⟨⟨r, H', e1, h r H' e2, e3⟩, e4⟩, b3⟩
section ML
variable {G : oG} {M : oM} {pc : Nat} {lv : oL} {st : List oU} {mu : oMu} {Q : oPm}
theorem m_geti {ci idx k t i : Nat} {l : List (Option Nat)} (hd : decode (oCd M) pc = .ok (.getfield idx, 3)) (hf : oF M.1.cls idx ci k) (hs : sh t i = .inr (.inr (ci, l))) (hk : l[k]? = some none) (hv : i < cnt t) (kk : Om G M (pc + 3) lv (.inl (mu t i k) :: st) mu Q) : Om G M pc lv (.inr (some (ad t i)) :: st) mu Q := by
  refine o_get hd hf (by rw [enc_ad hv, hs]; rfl) (v := .inl (mu t i k)) ?_ kk
  have h := oFld_i l 0 k (mu t i) hk
  rw [Nat.zero_add] at h
  exact h
theorem m_getr {ci idx k t i r : Nat} {l : List (Option Nat)} (hd : decode (oCd M) pc = .ok (.getfield idx, 3)) (hf : oF M.1.cls idx ci k) (hs : sh t i = .inr (.inr (ci, l))) (hk : l[k]? = some (some r)) (hv : i < cnt t) (kk : Om G M (pc + 3) lv (.inr (some r) :: st) mu Q) : Om G M pc lv (.inr (some (ad t i)) :: st) mu Q :=
  o_get hd hf (by rw [enc_ad hv, hs]; rfl) (oFld_r l 0 k (mu t i) r hk) kk
theorem m_puti {ci idx k t i : Nat} {l : List (Option Nat)} {x : Int32} (hd : decode (oCd M) pc = .ok (.putfield idx, 3)) (hf : oFs M.1.cls idx ci k .int) (hs : sh t i = .inr (.inr (ci, l))) (hk : l[k]? = some none) (hv : i < cnt t) (kk : ∀ mu' : oMu, mu' = up2 mu t i (upd (mu t i) k x) → Om G M (pc + 3) lv st mu' Q) : Om G M pc lv (.inl x :: .inr (some (ad t i)) :: st) mu Q := by
  refine o_put hd hf (oFit_i x) (by rw [enc_ad hv, hs]; rfl) (by rw [oFld_len]; exact (List.getElem?_eq_some_iff.mp hk).1) ?_
  rw [oFld_set l 0 k (mu t i) x hk, Nat.zero_add]
  have e : (.inr (.inr (ci, oFld l 0 (upd (mu t i) k x))) : oC) = oCt (sh t i) (upd (mu t i) k x) := by rw [hs]; rfl
  rw [e, enc_up hv]
  exact kk _ rfl
theorem m_iald {ty n t i : Nat} {x : Int32} (j : Nat) (hd : decode (oCd M) pc = .ok (.iaload, 1)) (hs : sh t i = .inl (ty, n)) (ht : oTyL[ty]? = some .int) (hN : Nat.blt n 2147483648 = true) (hv : i < cnt t) (hi : x = nI j) (hj : j < n) (kk : Om G M (pc + 1) lv (.inl (mu t i j) :: st) mu Q) : Om G M pc lv (.inl x :: .inr (some (ad t i)) :: st) mu Q :=
  o_iald j hd (by rw [enc_ad hv, hs]; rfl) ht hN hi hj kk
theorem m_zald {ty n t i : Nat} {x : Int32} (j : Nat) (hd : decode (oCd M) pc = .ok (.baload, 1)) (hs : sh t i = .inl (ty, n)) (ht : oTyL[ty]? = some .boolean) (hN : Nat.blt n 2147483648 = true) (hv : i < cnt t) (hi : x = nI j) (hj : j < n) (kk : Om G M (pc + 1) lv (.inl (mu t i j) :: st) mu Q) : Om G M pc lv (.inl x :: .inr (some (ad t i)) :: st) mu Q :=
  o_zald j hd (by rw [enc_ad hv, hs]; rfl) ht hN hi hj kk
theorem m_iast {ty n t i : Nat} {x y : Int32} (j : Nat) (hd : decode (oCd M) pc = .ok (.iastore, 1)) (hs : sh t i = .inl (ty, n)) (ht : oTyL[ty]? = some .int) (hN : Nat.blt n 2147483648 = true) (hv : i < cnt t) (hi : x = nI j) (hj : j < n) (kk : ∀ mu' : oMu, mu' = up2 mu t i (upd (mu t i) j y) → Om G M (pc + 1) lv st mu' Q) : Om G M pc lv (.inl y :: .inl x :: .inr (some (ad t i)) :: st) mu Q := by
  refine o_iast j hd (by rw [enc_ad hv, hs]; rfl) ht hN hi hj ?_
  have e : (.inl (ty, n, upd (mu t i) j y) : oC) = oCt (sh t i) (upd (mu t i) j y) := by rw [hs]; rfl
  rw [e, enc_up hv]
  exact kk _ rfl
theorem m_zast {ty n t i : Nat} {x y : Int32} (j : Nat) (hd : decode (oCd M) pc = .ok (.bastore, 1)) (hs : sh t i = .inl (ty, n)) (ht : oTyL[ty]? = some .boolean) (hN : Nat.blt n 2147483648 = true) (hv : i < cnt t) (hi : x = nI j) (hj : j < n) (hy : vp_nar .boolean y = y) (kk : ∀ mu' : oMu, mu' = up2 mu t i (upd (mu t i) j y) → Om G M (pc + 1) lv st mu' Q) : Om G M pc lv (.inl y :: .inl x :: .inr (some (ad t i)) :: st) mu Q := by
  refine o_zast j hd (by rw [enc_ad hv, hs]; rfl) ht hN hi hj ?_
  rw [hy]
  have e : (.inl (ty, n, upd (mu t i) j y) : oC) = oCt (sh t i) (upd (mu t i) j y) := by rw [hs]; rfl
  rw [e, enc_up hv]
  exact kk _ rfl
theorem m_aald {ty t i r : Nat} {l : List Nat} {x : Int32} {C : String} (j : Nat) (hd : decode (oCd M) pc = .ok (.aaload, 1)) (hs : sh t i = .inr (.inl (ty, l))) (ht : oTyL[ty]? = some (.object C)) (hN : Nat.blt l.length 2147483648 = true) (hv : i < cnt t) (hi : x = nI j) (hr : l[j]? = some r) (kk : Om G M (pc + 1) lv (.inr (some r) :: st) mu Q) : Om G M pc lv (.inl x :: .inr (some (ad t i)) :: st) mu Q :=
  o_aald j hd (by rw [enc_ad hv, hs]; rfl) ht hN hi (List.getElem?_eq_some_iff.mp hr).1 hr kk
theorem m_alen {ty n t i : Nat} (hd : decode (oCd M) pc = .ok (.arraylength, 1)) (hs : sh t i = .inl (ty, n)) (ht : oTyL[ty]? = some .int) (hv : i < cnt t) (kk : Om G M (pc + 1) lv (.inl (nI n) :: st) mu Q) : Om G M pc lv (.inr (some (ad t i)) :: st) mu Q :=
  o_alen hd (by rw [enc_ad hv, hs]; rfl) ht kk
theorem m_copy {ty n0 n1 t0 i0 t1 i1 idx : Nat} {isp idp x : Int32} (sp dp n : Nat) (hd : decode (oCd M) pc = .ok (.invokestatic idx, 3)) (hw : Cond.methodLink M.1.cls idx arraycopyName ∈ oAll) (hw2 : Cond.native arraycopyName ∈ oAll) (hw3 : Cond.static arraycopyName ∈ oAll) (hw4 : Cond.initialized "java/lang/System" ∈ oAll) (hf : Nat.ble 1 (oFr M) = true) (hl9 : Nat.ble (st.length + (nativeFrameWords "java/lang/System" "arraycopy" 5 + 11)) (oWd M) = true) (hs0 : sh t0 i0 = .inl (ty, n0)) (hs1 : sh t1 i1 = .inl (ty, n1)) (ht : oTyL[ty]? = some .int) (hN0 : Nat.ble n0 100000 = true) (hN1 : Nat.ble n1 100000 = true) (hv0 : i0 < cnt t0) (hv1 : i1 < cnt t1) (h1 : isp = nI sp) (h2 : idp = nI dp) (h3 : x = nI n) (h4 : sp + n ≤ n0) (h5 : dp + n ≤ n1)
    (kk : ∀ mu' : oMu, mu' = up2 mu t1 i1 (va_cpy (mu t0 i0) (mu t1 i1) sp dp n) → Om G M (pc + 3) lv st mu' Q) : Om G M pc lv (.inl x :: .inl idp :: .inr (some (ad t1 i1)) :: .inl isp :: .inr (some (ad t0 i0)) :: st) mu Q := by
  refine o_copy sp dp n hd hw hw2 hw3 hw4 hf hl9 (by rw [enc_ad hv0, hs0]; rfl) (by rw [enc_ad hv1, hs1]; rfl) ht hN0 hN1 h1 h2 h3 h4 h5 ?_
  have e : (.inl (ty, n1, va_cpy (mu t0 i0) (mu t1 i1) sp dp n) : oC) = oCt (sh t1 i1) (va_cpy (mu t0 i0) (mu t1 i1) sp dp n) := by rw [hs1]; rfl
  rw [e, enc_up hv1]
  exact kk _ rfl
theorem m_iret {v : Int32} (hd : decode (oCd M) pc = .ok (.ireturn, 1)) (hr : oRt M = some .int) (hq : Q (some (.inl v)) mu) : Om G M pc lv [.inl v] mu Q := o_iret hd hr rfl ⟨mu, rfl, hq⟩
theorem m_zret {v : Int32} (hd : decode (oCd M) pc = .ok (.ireturn, 1)) (hr : oRt M = some .boolean) (hn : narrow .boolean (.int v) = .int v) (hq : Q (some (.inl v)) mu) : Om G M pc lv [.inl v] mu Q := o_iret hd hr hn ⟨mu, rfl, hq⟩
theorem m_vret (hd : decode (oCd M) pc = .ok (.return_, 1)) (hr : oRt M = none) (hq : Q none mu) : Om G M pc lv [] mu Q := o_vret hd hr ⟨mu, rfl, hq⟩
theorem m_callS {idx n : Nat} {st0 : List oU} (N : oM) (As st : List oU) (hd : decode (oCd M) pc = .ok (.invokestatic idx, 3)) (hm : oMk N n) (hs : Cond.static N.1 ∈ oAll) (hlk9 : oMl M.1.cls idx N) (hfi : oFitsIn N M = true) (hs0 : st0 = As.reverse ++ st) (hn : As.length = n) (hnm9 : As.length ≤ oMx N) (hst : Nat.ble st.length 8 = true) (kk : Om G N 0 (oArgs 0 As) [] mu (fun r mu' => Om G M (pc + 3) lv (r.toList ++ st) mu' Q)) : Om G M pc lv st0 mu Q :=
  o_callS N As st (0, 0) (0, 0) hd hm hs hlk9 hfi hs0 hn hnm9 hst rfl (Ok.mono (fun r H' h => by obtain ⟨mu', rfl, h⟩ := h; exact h) kk)
theorem m_callV {t i ci idx n : Nat} {l : List (Option Nat)} {st0 : List oU} {q9 : vw_C} (N : oM) (As st : List oU) (hd : decode (oCd M) pc = .ok (.invokevirtual idx, 3)) (hm : oMk N n) (hs : Cond.instanceMethod N.1 ∈ oAll) (hs2 : Cond.selects N.1.cls N.1 N.1 ∈ oAll) (hsh : sh t i = .inr (.inr (ci, l))) (hv : i < cnt t) (hcl : vwCl[ci]? = some q9) (hq9 : q9.1 = N.1.cls) (hlk9 : oMl M.1.cls idx N) (hfi : oFitsIn N M = true) (hs0 : st0 = As.reverse ++ .inr (some (ad t i)) :: st) (hn : As.length = n) (hnm9 : As.length + 1 ≤ oMx N) (hst : Nat.ble st.length 8 = true) (kk : Om G N 0 (oArgs 0 (.inr (some (ad t i)) :: As)) [] mu (fun r mu' => Om G M (pc + 3) lv (r.toList ++ st) mu' Q)) : Om G M pc lv st0 mu Q :=
  o_callV N As st (0, 0) (0, 0) hd hm hs hs2 (by rw [enc_ad hv, hsh]; rfl) hcl hq9 hlk9 hfi hs0 hn hnm9 hst rfl (Ok.mono (fun r H' h => by obtain ⟨mu', rfl, h⟩ := h; exact h) kk)
theorem sh_q1 {j : Nat} (h : j < 40) : ((List.range 40).map (ad 5))[j]? = some (ad 5 j) := by rw [List.getElem?_map, List.getElem?_range h]; rfl
theorem sh_q2 {j : Nat} (h : j < 3) : ((List.range 3).map (ad 7))[j]? = some (ad 7 j) := by rw [List.getElem?_map, List.getElem?_range h]; rfl
theorem sh_q3 {j : Nat} (h : j < 6) : ((List.range 6).map (ad 14))[j]? = some (ad 14 j) := by rw [List.getElem?_map, List.getElem?_range h]; rfl
theorem sh_q4 {j : Nat} (h : j < 9) : ((List.range 9).map (ad 18))[j]? = some (ad 18 j) := by rw [List.getElem?_map, List.getElem?_range h]; rfl
theorem sh_wait {i j : Nat} (h : j < 2) : [ad 12 (2 * i), ad 12 (2 * i + 1)][j]? = some (ad 12 (2 * i + j)) := by
  match j, h with
  | 0, _ => rfl
  | 1, _ => rfl
theorem o_top {H : oH} {b : Nat × Nat} {Q : oP} {x : Int32} (y : Int32) (e : x = y) (k : Ok G M pc lv (.inl y :: st) H b Q) : Ok G M pc lv (.inl x :: st) H b Q := e ▸ k
end ML
