/-! Pure rows: the greatest visible write; rows as lists; serving. -/
def isLat (sn ky vr : Nat → Nat) (k n x : Nat) : Prop := (x = 0 ∧ ∀ u, u < n → ¬ sn u = 0 → ¬ ky u = k) ∨ ∃ u, u < n ∧ x = u + 1 ∧ ¬ sn u = 0 ∧ ky u = k ∧ ∀ v, v < n → ¬ sn v = 0 → ky v = k → vr v ≤ vr u
theorem isLat.add {sn ky vr : Nat → Nat} {k n x w : Nat} (h : isLat sn ky vr k n x) (hw : w < n ∨ w = n) {sn' : Nat → Nat} (hs : ∀ u, u < n + 1 → (¬ sn' u = 0 ↔ ((u < n ∧ ¬ sn u = 0) ∨ u = w))) (hk : ky w = k) : isLat sn' ky vr k (n + 1) (gr vr x (w + 1)) := by
  rcases h with ⟨rfl, h⟩ | ⟨u, hu, rfl, h1, h2, h3⟩
  · rw [gr_zz]
    refine Or.inr ⟨w, by omega, rfl, (hs w (by omega)).mpr (Or.inr rfl), hk, fun v hv hsv hkv => ?_⟩
    rcases (hs v hv).mp hsv with ⟨a, b⟩ | e
    · exact absurd hkv (h v a b)
    · rw [e]; exact Nat.le_refl _
  · rcases Nat.lt_or_ge (vr u) (vr w) with hlt | hge
    · rw [gr_lt hlt]
      refine Or.inr ⟨w, by omega, rfl, (hs w (by omega)).mpr (Or.inr rfl), hk, fun v hv hsv hkv => ?_⟩
      rcases (hs v hv).mp hsv with ⟨a, b⟩ | e
      · exact Nat.le_trans (h3 v a b hkv) (Nat.le_of_lt hlt)
      · rw [e]; exact Nat.le_refl _
    · rw [gr_ge hge]
      refine Or.inr ⟨u, by omega, rfl, (hs u (by omega)).mpr (Or.inl ⟨hu, h1⟩), h2, fun v hv hsv hkv => ?_⟩
      rcases (hs v hv).mp hsv with ⟨a, b⟩ | e
      · exact h3 v a b hkv
      · rw [e]; exact hge
theorem isLat.skip {sn ky vr : Nat → Nat} {k n x : Nat} (h : isLat sn ky vr k n x) (hn : sn n = 0 ∨ ¬ ky n = k) : isLat sn ky vr k (n + 1) x := by
  have key : ∀ v, v < n + 1 → ¬ sn v = 0 → ky v = k → v < n := by
    intro v hv h1 h2
    rcases Nat.lt_or_ge v n with h3 | h3
    · exact h3
    · have e : v = n := by omega
      subst e
      rcases hn with z | z
      · exact absurd z h1
      · exact absurd h2 z
  rcases h with ⟨rfl, h⟩ | ⟨u, hu, rfl, h1, h2, h3⟩
  · exact Or.inl ⟨rfl, fun u hu hs hk => h u (key u hu hs hk) hs hk⟩
  · exact Or.inr ⟨u, by omega, rfl, h1, h2, fun v hv hs hk => h3 v (key v hv hs hk) hs hk⟩
theorem latN_is {sn ky vr : Nat → Nat} {k : Nat} : ∀ n, isLat sn ky vr k n (latN sn ky vr k n)
  | 0 => Or.inl ⟨rfl, fun u hu => absurd hu (by omega)⟩
  | n + 1 => by
    have ih := latN_is (sn := sn) (ky := ky) (vr := vr) (k := k) n
    rw [latN]
    by_cases h : ¬ sn n = 0 ∧ ky n = k
    · rw [if_pos h]
      refine ih.add (Or.inr rfl) (fun u hu => ?_) h.2
      constructor
      · intro hs
        rcases Nat.lt_or_ge u n with h3 | h3
        · exact Or.inl ⟨h3, hs⟩
        · exact Or.inr (by omega)
      · rintro (⟨-, b⟩ | e)
        · exact b
        · rw [e]; exact h.1
    · rw [if_neg h]
      refine ih.skip ?_
      by_cases h1 : sn n = 0
      · exact Or.inl h1
      · exact Or.inr fun z => h ⟨h1, z⟩
theorem isLat.uniq {sn ky vr : Nat → Nat} {k n x y : Nat} (hD : ∀ u v, u < n → v < n → ¬ u = v → ky u = ky v → ¬ vr u = vr v) (hx : isLat sn ky vr k n x) (hy : isLat sn ky vr k n y) : x = y := by
  rcases hx with ⟨rfl, h⟩ | ⟨u, hu, rfl, h1, h2, h3⟩ <;> rcases hy with ⟨rfl, g⟩ | ⟨v, hv, rfl, g1, g2, g3⟩
  · rfl
  · exact absurd g2 (h v hv g1)
  · exact absurd h2 (g u hu h1)
  · have a := h3 v hv g1 g2
    have b := g3 u hu h1 h2
    by_cases e : u = v
    · rw [e]
    · exact absurd (by omega) (hD u v hu hv e (h2.trans g2.symm))
theorem isLat.up {sn ky vr : Nat → Nat} {k n x w : Nat} (h : isLat sn ky vr k n x) (hw : w < n) (hk : ky w = k) : isLat (va_up sn w 1) ky vr k n (gr vr x (w + 1)) := by
  have hs : ∀ u, ¬ va_up sn w 1 u = 0 ↔ (¬ sn u = 0 ∨ u = w) := by
    intro u
    by_cases e : u = w
    · subst e; simp [va_s]
    · simp [va_n e, e]
  rcases h with ⟨rfl, h⟩ | ⟨u, hu, rfl, h1, h2, h3⟩
  · rw [gr_zz]
    refine Or.inr ⟨w, hw, rfl, (hs w).mpr (Or.inr rfl), hk, fun v hv hsv hkv => ?_⟩
    rcases (hs v).mp hsv with b | e
    · exact absurd hkv (h v hv b)
    · rw [e]; exact Nat.le_refl _
  · rcases Nat.lt_or_ge (vr u) (vr w) with hlt | hge
    · rw [gr_lt hlt]
      refine Or.inr ⟨w, hw, rfl, (hs w).mpr (Or.inr rfl), hk, fun v hv hsv hkv => ?_⟩
      rcases (hs v).mp hsv with b | e
      · exact Nat.le_trans (h3 v hv b hkv) (Nat.le_of_lt hlt)
      · rw [e]; exact Nat.le_refl _
    · rw [gr_ge hge]
      refine Or.inr ⟨u, hu, rfl, (hs u).mpr (Or.inl h1), h2, fun v hv hsv hkv => ?_⟩
      rcases (hs v).mp hsv with b | e
      · exact h3 v hv b hkv
      · rw [e]; exact hge
theorem isLat.off {sn ky vr : Nat → Nat} {k n x w : Nat} (h : isLat sn ky vr k n x) (hk : ¬ ky w = k) : isLat (va_up sn w 1) ky vr k n x := by
  have hs : ∀ u, ky u = k → (¬ va_up sn w 1 u = 0 ↔ ¬ sn u = 0) := by
    intro u hu
    have e : ¬ u = w := fun z => hk (by rw [← z]; exact hu)
    rw [va_n e]
  rcases h with ⟨rfl, h⟩ | ⟨u, hu, rfl, h1, h2, h3⟩
  · exact Or.inl ⟨rfl, fun u hu hsu hku => h u hu ((hs u hku).mp hsu) hku⟩
  · exact Or.inr ⟨u, hu, rfl, (hs u h2).mpr h1, h2, fun v hv hsv hkv => h3 v hv ((hs v hkv).mp hsv) hkv⟩
theorem latN_show {sn ky vr : Nat → Nat} {k n w : Nat} (hD : ∀ u v, u < n → v < n → ¬ u = v → ky u = ky v → ¬ vr u = vr v) (hw : w < n) : latN (va_up sn w 1) ky vr k n = if k = ky w then gr vr (latN sn ky vr k n) (w + 1) else latN sn ky vr k n := by
  by_cases hk : k = ky w
  · rw [if_pos hk]
    exact (latN_is n).uniq hD ((latN_is n).up hw hk.symm)
  · rw [if_neg hk]
    exact (latN_is n).uniq hD ((latN_is n).off (fun z => hk z.symm))
theorem latN_ext {sn sn' ky ky' vr vr' : Nat → Nat} {k : Nat} : ∀ n, (∀ u, u < n → sn' u = sn u ∧ ky' u = ky u ∧ vr' u = vr u) → latN sn' ky' vr' k n = latN sn ky vr k n
  | 0, _ => rfl
  | n + 1, h => by
    have ih := latN_ext (k := k) n (fun u hu => h u (by omega))
    have h1 := h n (by omega)
    have hle := latN_le (sn := sn) (ky := ky) (vr := vr) (q := k) n
    rw [latN, latN, ih, h1.1, h1.2.1]
    by_cases hc : ¬ sn n = 0 ∧ ky n = k
    · rw [if_pos hc, if_pos hc]
      cases hl : latN sn ky vr k n with
      | zero => rw [gr_zz, gr_zz]
      | succ z =>
        have hz := h z (by omega)
        unfold gr
        simp only [Nat.add_sub_cancel]
        rw [h1.2.2, hz.2.2]
    · rw [if_neg hc, if_neg hc]
-- rows
theorem getD_erase {L : List Nat} {i j : Nat} : (L.eraseIdx i).getD j 0 = if j < i then L.getD j 0 else L.getD (j + 1) 0 := by
  rw [List.getD_eq_getElem?_getD, List.getElem?_eraseIdx, List.getD_eq_getElem?_getD, List.getD_eq_getElem?_getD]
  split <;> rfl
theorem getD_snoc {L : List Nat} {w j : Nat} : (L ++ [w]).getD j 0 = if j < L.length then L.getD j 0 else if j = L.length then w else 0 := by
  rw [List.getD_eq_getElem?_getD, List.getElem?_append, List.getD_eq_getElem?_getD]
  by_cases h : j < L.length
  · rw [if_pos h, if_pos h]
  · rw [if_neg h, if_neg h]
    by_cases e : j = L.length
    · rw [if_pos e, e, Nat.sub_self]; rfl
    · rw [if_neg e]
      have h2 : j - L.length = (j - L.length - 1) + 1 := by omega
      rw [h2]
      rfl
theorem rowOk.app {mu mu' : oMu} {t t' q w : Nat} {L : List Nat} (h : rowOk mu t t' q L) (hl : L.length < 40) (h1 : mu' t' q = upd (mu t' q) L.length (nI w)) (h2 : mu' t q = upd (mu t q) 1 (nI (L.length + 1))) : rowOk mu' t t' q (L ++ [w]) := by
  refine ⟨by rw [h2]; simp [upd], by simp; omega, fun j hj => ?_⟩
  rw [h1, getD_snoc]
  have hj2 : j < L.length + 1 := by simpa using hj
  by_cases e : j = L.length
  · simp [upd, e]
  · have h3 : j < L.length := by omega
    simp only [upd, e, if_false, h3, if_true]
    exact h.2.2 j h3
theorem rowOk.rem {mu mu' : oMu} {t t' q j : Nat} {L : List Nat} (h : rowOk mu t t' q L) (hj : j < L.length) (h1 : mu' t' q = va_cpy (mu t' q) (mu t' q) (j + 1) j (L.length - j - 1)) (h2 : mu' t q = upd (mu t q) 1 (nI (L.length - 1))) : rowOk mu' t t' q (L.eraseIdx j) := by
  have hl : (L.eraseIdx j).length = L.length - 1 := by rw [List.length_eraseIdx, if_pos hj]
  refine ⟨by rw [h2, hl]; simp [upd], by rw [hl]; have := h.2.1; omega, fun z hz => ?_⟩
  rw [hl] at hz
  rw [h1, getD_erase]
  unfold va_cpy
  by_cases hzj : z < j
  · rw [if_neg (by omega), if_pos hzj]
    exact h.2.2 z (by omega)
  · rw [if_pos (by omega), if_neg hzj, show j + 1 + (z - j) = z + 1 by omega]
    exact h.2.2 (z + 1) (by omega)
theorem rowOk.fr {mu mu' : oMu} {t t' q : Nat} {L : List Nat} {K : List (Nat × Nat)} (h : rowOk mu t t' q L) (hf : mfr K mu mu') (h1 : (t, q) ∉ K) (h2 : (t', q) ∉ K) : rowOk mu' t t' q L := by
  unfold rowOk at h ⊢
  rw [hf t q h1, hf t' q h2]
  exact h
-- serving
def svs (nd : Nat → Nat) (dp : Nat → Nat → Nat) (L : List Nat) (sn : Nat → Nat) : Nat → (Nat → Nat) × List Nat
  | 0 => (sn, [])
  | t + 1 => if misN (nd (L.getD t 0)) (dp (L.getD t 0)) (svs nd dp L sn t).1 6 = 0 then (va_up (svs nd dp L sn t).1 (L.getD t 0) 1, (svs nd dp L sn t).2) else ((svs nd dp L sn t).1, (svs nd dp L sn t).2 ++ [L.getD t 0])
theorem svs_len {nd : Nat → Nat} {dp : Nat → Nat → Nat} {L : List Nat} {sn : Nat → Nat} : ∀ t, (svs nd dp L sn t).2.length ≤ t
  | 0 => Nat.le_refl _
  | t + 1 => by
    have ih := svs_len (nd := nd) (dp := dp) (L := L) (sn := sn) t
    rw [svs]
    split
    · exact Nat.le_succ_of_le ih
    · simp; omega
theorem svs_mem {nd : Nat → Nat} {dp : Nat → Nat → Nat} {L : List Nat} {sn : Nat → Nat} {m : Nat} (h : ∀ e ∈ L, e < m) : ∀ t, t ≤ L.length → ∀ e ∈ (svs nd dp L sn t).2, e < m
  | 0, _, e, he => by simp [svs] at he
  | t + 1, ht, e, he => by
    have ih := svs_mem (nd := nd) (dp := dp) (sn := sn) h t (by omega)
    rw [svs] at he
    split at he
    · exact ih e he
    · rcases List.mem_append.mp he with h1 | h1
      · exact ih e h1
      · rw [List.mem_singleton.mp h1, List.getD_eq_getElem?_getD, List.getElem?_eq_getElem (by omega : t < L.length)]
        exact h _ (List.getElem_mem _)
theorem getD_mem {L : List Nat} {j m : Nat} (h : ∀ e ∈ L, e < m) (hj : j < L.length) : L.getD j 0 < m := by
  rw [List.getD_eq_getElem?_getD, List.getElem?_eq_getElem hj]
  exact h _ (List.getElem_mem _)
theorem svs_sn {nd : Nat → Nat} {dp : Nat → Nat → Nat} {L : List Nat} {sn : Nat → Nat} {m : Nat} (h : ∀ e ∈ L, e < m) : ∀ t, t ≤ L.length → ∀ w, ((svs nd dp L sn t).1 w = sn w ∨ ((svs nd dp L sn t).1 w = 1 ∧ w < m))
  | 0, _, w => Or.inl rfl
  | t + 1, ht, w => by
    have ih := svs_sn (nd := nd) (dp := dp) (sn := sn) h t (by omega) w
    rw [svs]
    split
    · by_cases e : w = L.getD t 0
      · exact Or.inr ⟨by rw [e]; exact va_s, by rw [e]; exact getD_mem h (by omega)⟩
      · have e2 : va_up (svs nd dp L sn t).1 (L.getD t 0) 1 w = (svs nd dp L sn t).1 w := va_n e
        show va_up (svs nd dp L sn t).1 (L.getD t 0) 1 w = sn w ∨ (va_up (svs nd dp L sn t).1 (L.getD t 0) 1 w = 1 ∧ w < m)
        rw [e2]
        exact ih
    · exact ih
theorem mid_get {A B : List Nat} {w : Nat} : (A ++ w :: B).getD A.length 0 = w := by
  rw [List.getD_eq_getElem?_getD, List.getElem?_append_right (Nat.le_refl _), Nat.sub_self]
  rfl
theorem mid_erase {A B : List Nat} {w : Nat} : (A ++ w :: B).eraseIdx A.length = A ++ B := by
  rw [List.eraseIdx_append_of_length_le (Nat.le_refl _), Nat.sub_self]
  rfl
theorem drop_at {L : List Nat} {t : Nat} (h : t < L.length) : L.drop t = L.getD t 0 :: L.drop (t + 1) := by
  rw [List.drop_eq_getElem_cons h, List.getD_eq_getElem?_getD, List.getElem?_eq_getElem h]
  rfl
