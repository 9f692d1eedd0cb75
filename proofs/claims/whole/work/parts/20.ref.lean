/-! The reference's inner methods. -/
def vOk (mu : oMu) (m : Nat) (ky vr nd : Nat → Nat) (dp : Nat → Nat → Nat) : Prop := mu 20 0 0 = nI m ∧ m ≤ 40 ∧ ∀ w, w < m → (mu 21 0 w = nI (ky w) ∧ mu 23 0 w = nI (vr w) ∧ mu 25 0 w = nI (nd w)) ∧ (ky w < 6 ∧ vr w < 1000 ∧ nd w < 64) ∧ ∀ k, k < 6 → mu 24 0 (6 * w + k) = nI (dp w k) ∧ dp w k ≤ m
def yOk (mu : oMu) (t i m : Nat) (x : Nat → Nat) : Prop := ∀ k, k < 6 → mu t 0 (6 * i + k) = nI (x k) ∧ x k ≤ m
def mfs (t lo n : Nat) (mu mu' : oMu) : Prop := (∀ t' i', ¬ (t' = t ∧ i' = 0) → mu' t' i' = mu t' i') ∧ ∀ j, ¬ (lo ≤ j ∧ j < lo + n) → mu' t 0 j = mu t 0 j
theorem mfs.tr {t lo n : Nat} {a b c : oMu} (h1 : mfs t lo n a b) (h2 : mfs t lo n b c) : mfs t lo n a c := ⟨fun t' i' h => (h2.1 t' i' h).trans (h1.1 t' i' h), fun j h => (h2.2 j h).trans (h1.2 j h)⟩
theorem mfs_rf {t lo n : Nat} {a : oMu} : mfs t lo n a a := ⟨fun _ _ _ => rfl, fun _ _ => rfl⟩
theorem mfs_up {t lo n j : Nat} {x : Int32} {mu mu' : oMu} (h : mu' = up2 mu t 0 (upd (mu t 0) j x)) (h1 : lo ≤ j) (h2 : j < lo + n) : mfs t lo n mu mu' := by
  refine ⟨fun t' i' hn => by rw [h]; exact if_neg hn, fun q hq => ?_⟩
  rw [h, up2_s]
  have hqj : ¬ q = j := fun e => hq (by rw [e]; exact ⟨h1, h2⟩)
  simp [upd, hqj]
section VK
variable {mu mu' : oMu} {m w : Nat} {ky vr nd : Nat → Nat} {dp : Nat → Nat → Nat}
theorem vOk.mm (h : vOk mu m ky vr nd dp) : mu 20 0 0 = nI m := h.1
theorem vOk.m4 (h : vOk mu m ky vr nd dp) : m ≤ 40 := h.2.1
theorem vOk.key (h : vOk mu m ky vr nd dp) (hw : w < m) : mu 21 0 w = nI (ky w) := (h.2.2 w hw).1.1
theorem vOk.ver (h : vOk mu m ky vr nd dp) (w : Nat) (hw : w < m) : mu 23 0 w = nI (vr w) := (h.2.2 w hw).1.2.1
theorem vOk.need (h : vOk mu m ky vr nd dp) (hw : w < m) : mu 25 0 w = nI (nd w) := (h.2.2 w hw).1.2.2
theorem vOk.key6 (h : vOk mu m ky vr nd dp) (hw : w < m) : ky w < 6 := (h.2.2 w hw).2.1.1
theorem vOk.verK (h : vOk mu m ky vr nd dp) (w : Nat) (hw : w < m) : vr w < 1000 := (h.2.2 w hw).2.1.2.1
theorem vOk.needB (h : vOk mu m ky vr nd dp) (hw : w < m) : nd w < 64 := (h.2.2 w hw).2.1.2.2
theorem vOk.dep (h : vOk mu m ky vr nd dp) (hw : w < m) {k : Nat} (hk : k < 6) : mu 24 0 (6 * w + k) = nI (dp w k) := ((h.2.2 w hw).2.2 k hk).1
theorem vOk.depB (h : vOk mu m ky vr nd dp) (hw : w < m) {k : Nat} (hk : k < 6) : dp w k ≤ m := ((h.2.2 w hw).2.2 k hk).2
theorem vOk.mv (h : vOk mu m ky vr nd dp) (h0 : mu' 20 0 = mu 20 0) (h1 : mu' 21 0 = mu 21 0) (h2 : mu' 23 0 = mu 23 0) (h3 : mu' 24 0 = mu 24 0) (h4 : mu' 25 0 = mu 25 0) : vOk mu' m ky vr nd dp := by
  refine ⟨by rw [h0]; exact h.1, h.2.1, fun w hw => ?_⟩
  rw [h1, h2, h3, h4]
  exact h.2.2 w hw
theorem vOk.fs {t lo n : Nat} (h : vOk mu m ky vr nd dp) (hf : mfs t lo n mu mu') (ht : 25 < t) : vOk mu' m ky vr nd dp := h.mv (hf.1 20 0 (by omega)) (hf.1 21 0 (by omega)) (hf.1 23 0 (by omega)) (hf.1 24 0 (by omega)) (hf.1 25 0 (by omega))
theorem yOk.step {t i j b : Nat} {x y : Nat → Nat} (h : yOk mu t i m x) (e : mu' = up2 mu t 0 (upd (mu t 0) (6 * i + j) (nI b))) (hb : b ≤ m) (hy : ∀ q, q < 6 → y q = if q = j then b else x q) : yOk mu' t i m y := by
  intro q hq
  rw [e, up2_s, hy q hq]
  by_cases hqj : q = j
  · subst hqj
    simp [upd, hb]
  · have h2 : ¬ 6 * i + q = 6 * i + j := by omega
    simp [upd, hqj, h2]
    exact h q hq
theorem yOk.fs {t i t' lo n : Nat} {x : Nat → Nat} (h : yOk mu t i m x) (hf : mfs t' lo n mu mu') (ht : ¬ t = t') : yOk mu' t i m x := fun k hk => by rw [hf.1 t 0 (fun z => ht z.1)]; exact h k hk
end VK
theorem r_out {G : oG} {mu : oMu} {Q : oPm} {x : Int32} {n : Nat} (hn : n < 2147483648) (kt : (∀ j, j < n → ¬ x = nI j) → Q (some (.inl (nI 1))) mu) (kf : ∀ j, j < n → x = nI j → Q (some (.inl (nI 0))) mu) : Om G M_N_out 0 [(0, .inl x), (1, .inl (nI n))] [] mu Q := by
  refine o_iload_n dN_out_0 rfl ?_
  refine o_if_lt 9 dN_out_1 rfl (fun hb1 => ?_) (fun hb1 => ?_)
  · skip
    refine o_iconst (nI 1) dN_out_9 rfl ?_
    refine o_goto 14 dN_out_10 rfl ?_
    refine m_zret dN_out_14 rfl rfl ?_
    exact kt (by first | exact fun j hj e => absurd hb1 (by subst e; exact nI_pos (by omega)) | exact fun j hj e => hb6 (by subst e; exact nI_lt hj (by omega)))
  · skip
    refine o_iload_n dN_out_4 rfl ?_
    refine o_iload_n dN_out_5 rfl ?_
    refine o_icmp_lt 13 dN_out_6 rfl (fun hb6 => ?_) (fun hb6 => ?_)
    · skip
      refine o_iconst (nI 0) dN_out_13 rfl ?_
      refine m_zret dN_out_14 rfl rfl ?_
      obtain ⟨j, hj, e⟩ := nI_of hb1
      exact kf j ((nI_ltI hj hn).mp (by rw [← e]; exact hb6)) e
    · skip
      refine o_iconst (nI 1) dN_out_9 rfl ?_
      refine o_goto 14 dN_out_10 rfl ?_
      refine m_zret dN_out_14 rfl rfl ?_
      exact kt (by first | exact fun j hj e => absurd hb1 (by subst e; exact nI_pos (by omega)) | exact fun j hj e => hb6 (by subst e; exact nI_lt hj (by omega)))
set_option maxRecDepth 100000 in
theorem b_bit : ∀ l, l < 64 → ∀ k, k < 6 → (nI l >>> (nI k &&& 31)) &&& nI 1 = nI (if l.testBit k = true then 1 else 0) := by decide +kernel
def cntN (l : Nat) : Nat → Nat
  | 0 => 0
  | k + 1 => cntN l k + (if l.testBit k = true then 1 else 0)
theorem l_count {G : oG} {mu : oMu} {Q : oPm} {l : Nat} (hl : l < 64) (j : Nat) (hj : j ≤ 6) (k : Q (some (.inl (nI (cntN l 6)))) mu) : Om G M_N_count 4 [(0, .inl (nI l)), (1, .inl (nI (cntN l j))), (2, .inl (nI j))] [] mu Q := by
  refine o_iload_n dN_count_4 rfl ?_
  refine o_bipush (nI 6) dN_count_5 rfl ?_
  refine n_icmp_ge 24 dN_count_7 rfl (by omega) (by omega) (fun hb7 => ?_) (fun hb7 => ?_)
  · skip
    have hj6 : j = 6 := by omega
    refine o_iload_n dN_count_24 rfl ?_
    refine m_iret dN_count_25 rfl ?_
    subst hj6
    exact k
  · skip
    refine o_iload_n dN_count_10 rfl ?_
    refine o_iload_n dN_count_11 rfl ?_
    refine o_iload_n dN_count_12 rfl ?_
    refine o_ishr dN_count_13 ?_
    refine o_iconst (nI 1) dN_count_14 rfl ?_
    refine o_iand dN_count_15 ?_
    refine o_top (nI (if l.testBit j = true then 1 else 0)) (b_bit l hl j hb7) ?_
    refine o_iadd dN_count_16 ?_
    refine o_top _ (nI_add _ _) ?_
    refine o_istore_n [(0, _), (1, _), (2, _)] dN_count_17 rfl rfl ?_
    refine o_iinc (nI (j + 1)) [(0, _), (1, _), (2, _)] dN_count_18 rfl (nInc _) rfl rfl ?_
    refine o_goto 4 dN_count_21 rfl ?_
    exact l_count hl (j + 1) (by omega) k
termination_by 6 - j
theorem r_count {G : oG} {mu : oMu} {Q : oPm} {l : Nat} (hl : l < 64) (k : Q (some (.inl (nI (cntN l 6)))) mu) : Om G M_N_count 0 [(0, .inl (nI l))] [] mu Q := by
  refine o_iconst (nI 0) dN_count_0 rfl ?_
  refine o_istore_n [(0, _), (1, _)] dN_count_1 rfl rfl ?_
  refine o_iconst (nI 0) dN_count_2 rfl ?_
  refine o_istore_n [(0, _), (1, _), (2, _)] dN_count_3 rfl rfl ?_
  exact l_count hl 0 (by omega) k
def lowT (l : Nat) : Nat → Int32
  | 0 => -1
  | d + 1 => if l.testBit (5 - d) = true then nI (5 - d) else lowT l d
theorem lowD : ∀ d, d < 5 → nI (5 - d) + Int32.ofInt (-1) = nI (5 - (d + 1)) := by decide +kernel
set_option maxRecDepth 100000 in
theorem low_is : ∀ l, l < 64 → ¬ l = 0 → ∃ j, j < 6 ∧ l.testBit j = true ∧ (∀ b, b < j → l.testBit b = false) ∧ lowT l 6 = nI j := by decide +kernel
theorem b1_iff (l : Nat) (hl : l < 64) (k : Nat) (hk : k < 6) : (nI l >>> (nI k &&& 31)) &&& nI 1 = nI 1 ↔ l.testBit k = true := by
  rw [b_bit l hl k hk]
  cases l.testBit k <;> decide
theorem l_lowest {G : oG} {mu : oMu} {Q : oPm} {l : Nat} (hl : l < 64) (d : Nat) (hd : d < 6) (k : Q (some (.inl (lowT l 6))) mu) : Om G M_N_lowest 4 [(0, .inl (nI l)), (1, .inl (lowT l d)), (2, .inl (nI (5 - d)))] [] mu Q := by
  refine o_iload_n dN_lowest_4 rfl ?_
  refine n_if_lt 29 dN_lowest_5 rfl (by omega) (fun h => absurd h (by omega)) (fun h => ?_)
  refine o_iload_n dN_lowest_8 rfl ?_
  refine o_iload_n dN_lowest_9 rfl ?_
  refine o_ishr dN_lowest_10 ?_
  refine o_iconst (nI 1) dN_lowest_11 rfl ?_
  refine o_iand dN_lowest_12 ?_
  refine o_iconst (nI 1) dN_lowest_13 rfl ?_
  refine o_icmp_ne 21 dN_lowest_14 rfl (fun hb14 => ?_) (fun hb14 => ?_)
  · skip
    refine o_iload_n dN_lowest_21 rfl ?_
    refine o_istore_n [(0, _), (1, _), (2, _)] dN_lowest_22 rfl rfl ?_
    refine o_iinc (nI (5 - d) + Int32.ofInt (-1)) [(0, _), (1, _), (2, _)] dN_lowest_23 rfl rfl rfl rfl ?_
    refine o_goto 4 dN_lowest_26 rfl ?_
    have e9 : lowT l d = lowT l (d + 1) := by rw [lowT, if_neg (fun z => hb14 ((b1_iff l hl _ (by omega)).mpr z))]
    by_cases hd5 : d < 5
    · rw [lowD d hd5, e9]
      exact l_lowest hl (d + 1) (by omega) k
    · obtain rfl : d = 5 := by omega
      refine o_iload_n dN_lowest_4 rfl ?_
      refine o_if_lt 29 dN_lowest_5 rfl (fun _ => ?_) (fun h => absurd (by decide) h)
      refine o_iload_n dN_lowest_29 rfl ?_
      refine m_iret dN_lowest_30 rfl ?_
      rw [e9]
      exact k
  · skip
    refine o_iload_n dN_lowest_17 rfl ?_
    refine o_goto 22 dN_lowest_18 rfl ?_
    refine o_istore_n [(0, _), (1, _), (2, _)] dN_lowest_22 rfl rfl ?_
    refine o_iinc (nI (5 - d) + Int32.ofInt (-1)) [(0, _), (1, _), (2, _)] dN_lowest_23 rfl rfl rfl rfl ?_
    refine o_goto 4 dN_lowest_26 rfl ?_
    have e9 : nI (5 - d) = lowT l (d + 1) := by rw [lowT, if_pos ((b1_iff l hl _ (by omega)).mp hb14)]
    by_cases hd5 : d < 5
    · rw [lowD d hd5, e9]
      exact l_lowest hl (d + 1) (by omega) k
    · obtain rfl : d = 5 := by omega
      refine o_iload_n dN_lowest_4 rfl ?_
      refine o_if_lt 29 dN_lowest_5 rfl (fun _ => ?_) (fun h => absurd (by decide) h)
      refine o_iload_n dN_lowest_29 rfl ?_
      refine m_iret dN_lowest_30 rfl ?_
      rw [e9]
      exact k
termination_by 6 - d
theorem r_lowest {G : oG} {mu : oMu} {Q : oPm} {l : Nat} (hl : l < 64) (k : Q (some (.inl (lowT l 6))) mu) : Om G M_N_lowest 0 [(0, .inl (nI l))] [] mu Q := by
  refine o_iconst (-1) dN_lowest_0 rfl ?_
  refine o_istore_n [(0, _), (1, _)] dN_lowest_1 rfl rfl ?_
  refine o_iconst (nI 5) dN_lowest_2 rfl ?_
  refine o_istore_n [(0, _), (1, _), (2, _)] dN_lowest_3 rfl rfl ?_
  exact l_lowest hl 0 (by omega) k
theorem r_open {G : oG} {mu : oMu} {Q : oPm} {i p : Nat} (hi : i < 6) (hp : mu 33 0 i = nI p) (hp4 : p < 4) (kt : p = 1 ∨ p = 2 → Q (some (.inl (nI 1))) mu) (kf : ¬ (p = 1 ∨ p = 2) → Q (some (.inl (nI 0))) mu) : Om G M_N_open 0 [(0, .inr (some (ad 20 0))), (1, .inl (nI i))] [] mu Q := by
  refine o_aload_n dN_open_0 rfl ?_
  refine m_getr dN_open_1 fl_N_47 rfl rfl (by decide) ?_
  refine o_iload_n dN_open_4 rfl ?_
  refine m_iald i dN_open_5 rfl rfl rfl (by decide) rfl hi ?_
  refine o_top (nI p) hp ?_
  refine o_iconst (nI 1) dN_open_6 rfl ?_
  refine n_icmp_eq 20 dN_open_7 rfl (by omega) (by omega) (fun hb7 => ?_) (fun hb7 => ?_)
  · skip
    refine o_iconst (nI 1) dN_open_20 rfl ?_
    refine o_goto 25 dN_open_21 rfl ?_
    refine m_zret dN_open_25 rfl rfl ?_
    exact kt (by omega)
  · skip
    refine o_aload_n dN_open_10 rfl ?_
    refine m_getr dN_open_11 fl_N_47 rfl rfl (by decide) ?_
    refine o_iload_n dN_open_14 rfl ?_
    refine m_iald i dN_open_15 rfl rfl rfl (by decide) rfl hi ?_
    refine o_top (nI p) hp ?_
    refine o_iconst (nI 2) dN_open_16 rfl ?_
    refine n_icmp_ne 24 dN_open_17 rfl (by omega) (by omega) (fun hb17 => ?_) (fun hb17 => ?_)
    · skip
      refine o_iconst (nI 0) dN_open_24 rfl ?_
      refine m_zret dN_open_25 rfl rfl ?_
      exact kf (by omega)
    · skip
      refine o_iconst (nI 1) dN_open_20 rfl ?_
      refine o_goto 25 dN_open_21 rfl ?_
      refine m_zret dN_open_25 rfl rfl ?_
      exact kt (by omega)
theorem r_greater {G : oG} {mu : oMu} {Q : oPm} {a c m : Nat} {v : Nat → Nat} (hm4 : m ≤ 40) (hv : ∀ w, w < m → mu 23 0 w = nI (v w)) (hv2 : ∀ w, w < m → v w < 1000) (ha : a ≤ m) (hc : c ≤ m) (k : Q (some (.inl (nI (gr v a c)))) mu) : Om G M_N_greater 0 [(0, .inr (some (ad 20 0))), (1, .inl (nI a)), (2, .inl (nI c))] [] mu Q := by
  refine o_iload_n dN_greater_0 rfl ?_
  refine n_if_eq 8 dN_greater_1 rfl (by omega) (fun hb1 => ?_) (fun hb1 => ?_)
  · skip
    refine o_iload_n dN_greater_8 rfl ?_
    refine o_iload_n dN_greater_9 rfl ?_
    refine o_iadd dN_greater_10 ?_
    refine o_top _ (nI_add _ _) ?_
    refine m_iret dN_greater_11 rfl ?_
    first | (subst hb1; rw [gr_zz] at k; rw [Nat.zero_add]; exact k) | (subst hb5; obtain ⟨z, rfl⟩ : ∃ z, a = z + 1 := ⟨a - 1, by omega⟩; rw [gr_n0] at k; exact k)
  · skip
    refine o_iload_n dN_greater_4 rfl ?_
    refine n_if_ne 12 dN_greater_5 rfl (by omega) (fun hb5 => ?_) (fun hb5 => ?_)
    · skip
      obtain ⟨u, rfl⟩ : ∃ u, a = u + 1 := ⟨a - 1, by omega⟩
      obtain ⟨z, rfl⟩ : ∃ z, c = z + 1 := ⟨c - 1, by omega⟩
      have b1 := hv2 u (by omega)
      have b2 := hv2 z (by omega)
      refine o_aload_n dN_greater_12 rfl ?_
      refine m_getr dN_greater_13 fl_N_16 rfl rfl (by decide) ?_
      refine o_iload_n dN_greater_16 rfl ?_
      refine o_iconst (nI 1) dN_greater_17 rfl ?_
      refine o_isub dN_greater_18 ?_
      refine o_top (nI z) (pk_sub (show 1 ≤ z + 1 by omega)) ?_
      refine m_iald z dN_greater_19 rfl rfl rfl (by decide) rfl (by omega) ?_
      refine o_top (nI (v z)) (hv z (by omega)) ?_
      refine o_aload_n dN_greater_20 rfl ?_
      refine m_getr dN_greater_21 fl_N_16 rfl rfl (by decide) ?_
      refine o_iload_n dN_greater_24 rfl ?_
      refine o_iconst (nI 1) dN_greater_25 rfl ?_
      refine o_isub dN_greater_26 ?_
      refine o_top (nI u) (pk_sub (show 1 ≤ u + 1 by omega)) ?_
      refine m_iald u dN_greater_27 rfl rfl rfl (by decide) rfl (by omega) ?_
      refine o_top (nI (v u)) (hv u (by omega)) ?_
      refine n_icmp_le 35 dN_greater_28 rfl (by omega) (by omega) (fun hb28 => ?_) (fun hb28 => ?_)
      · skip
        refine o_iload_n dN_greater_35 rfl ?_
        refine m_iret dN_greater_36 rfl ?_
        rw [gr_ge hb28] at k
        exact k
      · skip
        refine o_iload_n dN_greater_31 rfl ?_
        refine o_goto 36 dN_greater_32 rfl ?_
        refine m_iret dN_greater_36 rfl ?_
        rw [gr_lt hb28] at k
        exact k
    · skip
      refine o_iload_n dN_greater_8 rfl ?_
      refine o_iload_n dN_greater_9 rfl ?_
      refine o_iadd dN_greater_10 ?_
      refine o_top _ (nI_add _ _) ?_
      refine m_iret dN_greater_11 rfl ?_
      first | (subst hb1; rw [gr_zz] at k; rw [Nat.zero_add]; exact k) | (subst hb5; obtain ⟨z, rfl⟩ : ∃ z, a = z + 1 := ⟨a - 1, by omega⟩; rw [gr_n0] at k; exact k)
def latN (sn ky vr : Nat → Nat) (q : Nat) : Nat → Nat
  | 0 => 0
  | w + 1 => if ¬ sn w = 0 ∧ ky w = q then gr vr (latN sn ky vr q w) (w + 1) else latN sn ky vr q w
theorem latN_le {sn ky vr : Nat → Nat} {q : Nat} : ∀ w, latN sn ky vr q w ≤ w
  | 0 => Nat.le_refl _
  | w + 1 => by
    have ih := latN_le (sn := sn) (ky := ky) (vr := vr) (q := q) w
    rw [latN]
    split
    · exact gr_le (by omega) (Nat.le_refl _)
    · omega
def tOk (mu : oMu) (c : Nat) (sn : Nat → Nat) : Prop := ∀ w, w < 40 → mu 26 0 (40 * c + w) = nI (sn w) ∧ sn w < 2
theorem l_latestOf {G : oG} {mu : oMu} {Q : oPm} {m : Nat} {ky vr nd : Nat → Nat} {dp : Nat → Nat → Nat} (hV : vOk mu m ky vr nd dp) {c q : Nat} {sn : Nat → Nat} (hc : c < 3) (hq : q < 6) (hs : tOk mu c sn) (j : Nat) (hj : j ≤ m) (k : Q (some (.inl (nI (latN sn ky vr q m)))) mu) : Om G M_N_latestOf 5 [(0, .inr (some (ad 20 0))), (1, .inl (nI c)), (2, .inl (nI q)), (3, .inl (nI (latN sn ky vr q j))), (4, .inl (nI j))] [] mu Q := by
  have hm4 := hV.m4
  refine o_iload dN_latestOf_5 rfl ?_
  refine o_aload_n dN_latestOf_7 rfl ?_
  refine m_geti dN_latestOf_8 fl_N_65 rfl rfl (by decide) ?_
  refine o_top (nI m) hV.mm ?_
  refine n_icmp_ge 60 dN_latestOf_11 rfl (by omega) (by omega) (fun hb11 => ?_) (fun hb11 => ?_)
  · skip
    have hj6 : j = m := by omega
    refine o_iload_n dN_latestOf_60 rfl ?_
    refine m_iret dN_latestOf_61 rfl ?_
    subst hj6
    exact k
  · skip
    have hs1 := hs j (by omega)
    have hk6 := hV.key6 hb11
    refine o_aload_n dN_latestOf_14 rfl ?_
    refine m_getr dN_latestOf_15 fl_N_25 rfl rfl (by decide) ?_
    refine o_bipush (nI 40) dN_latestOf_18 rfl ?_
    refine o_iload_n dN_latestOf_20 rfl ?_
    refine o_imul dN_latestOf_21 ?_
    refine o_top _ (pk_mul _ _) ?_
    refine o_iload dN_latestOf_22 rfl ?_
    refine o_iadd dN_latestOf_24 ?_
    refine o_top _ (nI_add _ _) ?_
    refine m_zald (40 * c + j) dN_latestOf_25 rfl rfl rfl (by decide) rfl (by omega) ?_
    refine o_top (nI (sn j)) hs1.1 ?_
    refine n_if_eq 52 dN_latestOf_26 rfl (by omega) (fun hb26 => ?_) (fun hb26 => ?_)
    · skip
      refine o_iload_n dN_latestOf_52 rfl ?_
      refine o_istore_n [(0, _), (1, _), (2, _), (3, _), (4, _)] dN_latestOf_53 rfl rfl ?_
      refine o_iinc (nI (j + 1)) [(0, _), (1, _), (2, _), (3, _), (4, _)] dN_latestOf_54 rfl (nInc _) rfl rfl ?_
      refine o_goto 5 dN_latestOf_57 rfl ?_
      rw [show latN sn ky vr q j = latN sn ky vr q (j + 1) by rw [latN, if_neg (by first | exact fun z => z.1 hb26 | exact fun z => hb37 z.2)]]
      exact l_latestOf hV hc hq hs (j + 1) (by omega) k
    · skip
      refine o_aload_n dN_latestOf_29 rfl ?_
      refine m_getr dN_latestOf_30 fl_N_7 rfl rfl (by decide) ?_
      refine o_iload dN_latestOf_33 rfl ?_
      refine m_iald j dN_latestOf_35 rfl rfl rfl (by decide) rfl (by omega) ?_
      refine o_top (nI (ky j)) (hV.key hb11) ?_
      refine o_iload_n dN_latestOf_36 rfl ?_
      refine n_icmp_ne 52 dN_latestOf_37 rfl (by omega) (by omega) (fun hb37 => ?_) (fun hb37 => ?_)
      · skip
        refine o_iload_n dN_latestOf_52 rfl ?_
        refine o_istore_n [(0, _), (1, _), (2, _), (3, _), (4, _)] dN_latestOf_53 rfl rfl ?_
        refine o_iinc (nI (j + 1)) [(0, _), (1, _), (2, _), (3, _), (4, _)] dN_latestOf_54 rfl (nInc _) rfl rfl ?_
        refine o_goto 5 dN_latestOf_57 rfl ?_
        rw [show latN sn ky vr q j = latN sn ky vr q (j + 1) by rw [latN, if_neg (by first | exact fun z => z.1 hb26 | exact fun z => hb37 z.2)]]
        exact l_latestOf hV hc hq hs (j + 1) (by omega) k
      · skip
        refine o_aload_n dN_latestOf_40 rfl ?_
        refine o_iload_n dN_latestOf_41 rfl ?_
        refine o_iload dN_latestOf_42 rfl ?_
        refine o_iconst (nI 1) dN_latestOf_44 rfl ?_
        refine o_iadd dN_latestOf_45 ?_
        refine o_top _ (nI_add _ _) ?_
        refine m_callV M_N_greater [.inl (nI (latN sn ky vr q j)), .inl (nI (j + 1))] [] dN_latestOf_46 mk_N_greater in_N_greater se_N_greater rfl (by decide) rfl rfl ml_N_69 rfl rfl rfl (Nat.le_of_ble_eq_true rfl) rfl ?_
        refine r_greater (a := latN sn ky vr q j) (c := j + 1) hV.m4 hV.ver hV.verK (Nat.le_trans (latN_le j) hj) hb11 ?_
        show Om G M_N_latestOf 49 [(0, .inr (some (ad 20 0))), (1, .inl (nI c)), (2, .inl (nI q)), (3, .inl (nI (latN sn ky vr q j))), (4, .inl (nI j))] [.inl (nI (gr vr (latN sn ky vr q j) (j + 1)))] mu Q
        refine o_goto 53 dN_latestOf_49 rfl ?_
        refine o_istore_n [(0, _), (1, _), (2, _), (3, _), (4, _)] dN_latestOf_53 rfl rfl ?_
        refine o_iinc (nI (j + 1)) [(0, _), (1, _), (2, _), (3, _), (4, _)] dN_latestOf_54 rfl (nInc _) rfl rfl ?_
        refine o_goto 5 dN_latestOf_57 rfl ?_
        rw [show gr vr (latN sn ky vr q j) (j + 1) = latN sn ky vr q (j + 1) by rw [latN, if_pos ⟨hb26, hb37⟩]]
        exact l_latestOf hV hc hq hs (j + 1) (by omega) k
termination_by m - j
theorem r_latestOf {G : oG} {mu : oMu} {Q : oPm} {m : Nat} {ky vr nd : Nat → Nat} {dp : Nat → Nat → Nat} (hV : vOk mu m ky vr nd dp) {c q : Nat} {sn : Nat → Nat} (hc : c < 3) (hq : q < 6) (hs : tOk mu c sn) (k : Q (some (.inl (nI (latN sn ky vr q m)))) mu) : Om G M_N_latestOf 0 [(0, .inr (some (ad 20 0))), (1, .inl (nI c)), (2, .inl (nI q))] [] mu Q := by
  refine o_iconst (nI 0) dN_latestOf_0 rfl ?_
  refine o_istore_n [(0, _), (1, _), (2, _), (3, _)] dN_latestOf_1 rfl rfl ?_
  refine o_iconst (nI 0) dN_latestOf_2 rfl ?_
  refine o_istore [(0, _), (1, _), (2, _), (3, _), (4, _)] dN_latestOf_3 rfl rfl ?_
  exact l_latestOf hV hc hq hs 0 (by omega) k
def fr (x : Nat → Nat) (dp : Nat → Nat → Nat) (j q : Nat) : Nat := if ¬ x j = 0 ∧ covB x dp j q = false then 1 else 0
theorem fr_z {x : Nat → Nat} {dp : Nat → Nat → Nat} {j q : Nat} (h : fr x dp j q = 0) : fr x dp j (q + 1) = 0 := by
  unfold fr at h ⊢
  rw [if_neg]
  intro z
  rw [if_pos] at h
  · exact absurd h (by decide)
  · refine ⟨z.1, ?_⟩
    have h2 := z.2
    rw [covB, Bool.or_eq_false_iff] at h2
    exact h2.1
theorem fr_o {x : Nat → Nat} {dp : Nat → Nat → Nat} {j q : Nat} (h : ¬ fr x dp j q = 0) : ¬ x j = 0 ∧ covB x dp j q = false := by
  unfold fr at h
  by_cases z : ¬ x j = 0 ∧ covB x dp j q = false
  · exact z
  · rw [if_neg z] at h
    exact absurd rfl h
theorem fr_s1 {x : Nat → Nat} {dp : Nat → Nat → Nat} {j q : Nat} (h : ¬ fr x dp j q = 0) (hc : q = j ∨ x q = 0 ∨ ¬ dp (x q - 1) j = x j) : fr x dp j (q + 1) = 1 := by
  have h1 := fr_o h
  have h2 : covB x dp j (q + 1) = false := by
    rw [covB, h1.2]
    rcases hc with e | e | e <;> simp [e]
  unfold fr
  exact if_pos ⟨h1.1, h2⟩
theorem fr_s0 {x : Nat → Nat} {dp : Nat → Nat → Nat} {j q : Nat} (h1 : ¬ q = j) (h2 : ¬ x q = 0) (h3 : dp (x q - 1) j = x j) : fr x dp j (q + 1) = 0 := by
  unfold fr
  rw [if_neg]
  intro z
  have z2 := z.2
  rw [covB] at z2
  simp [h1, h2, h3] at z2
theorem fr_le {x : Nat → Nat} {dp : Nat → Nat → Nat} {j q : Nat} : fr x dp j q ≤ 1 := by
  unfold fr
  split <;> omega
theorem l_nearI {G : oG} {mu : oMu} {Q : oPm} {m : Nat} {ky vr nd : Nat → Nat} {dp : Nat → Nat → Nat} (hV : vOk mu m ky vr nd dp) {i : Nat} {x : Nat → Nat} (hi : i < 6) (hx : yOk mu 32 i m x) {j z : Nat} (hj6 : j < 6) (q : Nat) (hq : q ≤ 6) (kx : Om G M_N_near 107 [(0, .inr (some (ad 20 0))), (1, .inl (nI i)), (2, .inl (nI z)), (3, .inl (nI j)), (4, .inl (nI (x j))), (5, .inl (nI (fr x dp j 6))), (6, .inl (nI 6))] [] mu Q) : Om G M_N_near 38 [(0, .inr (some (ad 20 0))), (1, .inl (nI i)), (2, .inl (nI z)), (3, .inl (nI j)), (4, .inl (nI (x j))), (5, .inl (nI (fr x dp j q))), (6, .inl (nI q))] [] mu Q := by
  have hm4 := hV.m4
  refine o_iload dN_near_38 rfl ?_
  refine o_bipush (nI 6) dN_near_40 rfl ?_
  refine n_icmp_ge 107 dN_near_42 rfl (by omega) (by omega) (fun hb42 => ?_) (fun hb42 => ?_)
  · skip
    have hj6 : q = 6 := by omega
    subst hj6
    exact kx
  · skip
    have hx1 := hx q hb42
    have hx2 := hx j hj6
    refine o_aload_n dN_near_45 rfl ?_
    refine m_getr dN_near_46 fl_N_44 rfl rfl (by decide) ?_
    refine o_bipush (nI 6) dN_near_49 rfl ?_
    refine o_iload_n dN_near_51 rfl ?_
    refine o_imul dN_near_52 ?_
    refine o_top _ (pk_mul _ _) ?_
    refine o_iload dN_near_53 rfl ?_
    refine o_iadd dN_near_55 ?_
    refine o_top _ (nI_add _ _) ?_
    refine m_iald (6 * i + q) dN_near_56 rfl rfl rfl (by decide) rfl (by omega) ?_
    refine o_top (nI (x q)) hx1.1 ?_
    refine o_istore [(0, _), (1, _), (2, _), (3, _), (4, _), (5, _), (6, _), (7, _)] dN_near_57 rfl rfl ?_
    refine o_iload dN_near_59 rfl ?_
    have hfl := fr_le (x := x) (dp := dp) (j := j) (q := q)
    refine n_if_eq 98 dN_near_61 rfl (by omega) (fun hb61 => ?_) (fun hb61 => ?_)
    · skip
      refine o_iconst (nI 0) dN_near_98 rfl ?_
      refine o_istore [(0, _), (1, _), (2, _), (3, _), (4, _), (5, _), (6, _), (7, _)] dN_near_99 rfl rfl ?_
      refine o_iinc (nI (q + 1)) [(0, _), (1, _), (2, _), (3, _), (4, _), (5, _), (6, _), (7, _)] dN_near_101 rfl (nInc _) rfl rfl ?_
      refine o_goto 38 dN_near_104 rfl ?_
      refine o_lv [(0, _), (1, _), (2, _), (3, _), (4, _), (5, _), (6, _)] [0, 1, 2, 3, 4, 5, 6] rfl ?_
      have e9 : fr x dp j (q + 1) = 0 := by first | exact fr_z hb61 | exact fr_s0 hb67 hb72 (by rw [hw]; exact hb91)
      have z9 := l_nearI hV hi hx hj6 (q + 1) (by omega) kx
      rw [e9] at z9
      exact z9
    · skip
      refine o_iload dN_near_64 rfl ?_
      refine o_iload_n dN_near_66 rfl ?_
      refine n_icmp_eq 94 dN_near_67 rfl (by omega) (by omega) (fun hb67 => ?_) (fun hb67 => ?_)
      · skip
        refine o_iconst (nI 1) dN_near_94 rfl ?_
        refine o_goto 99 dN_near_95 rfl ?_
        refine o_istore [(0, _), (1, _), (2, _), (3, _), (4, _), (5, _), (6, _), (7, _)] dN_near_99 rfl rfl ?_
        refine o_iinc (nI (q + 1)) [(0, _), (1, _), (2, _), (3, _), (4, _), (5, _), (6, _), (7, _)] dN_near_101 rfl (nInc _) rfl rfl ?_
        refine o_goto 38 dN_near_104 rfl ?_
        refine o_lv [(0, _), (1, _), (2, _), (3, _), (4, _), (5, _), (6, _)] [0, 1, 2, 3, 4, 5, 6] rfl ?_
        have e9 : fr x dp j (q + 1) = 1 := fr_s1 hb61 (by first | exact Or.inl hb67 | exact Or.inr (Or.inl hb72) | exact Or.inr (Or.inr (by rw [hw]; exact hb91)))
        have z9 := l_nearI hV hi hx hj6 (q + 1) (by omega) kx
        rw [e9] at z9
        exact z9
      · skip
        refine o_iload dN_near_70 rfl ?_
        refine n_if_eq 94 dN_near_72 rfl (by omega) (fun hb72 => ?_) (fun hb72 => ?_)
        · skip
          refine o_iconst (nI 1) dN_near_94 rfl ?_
          refine o_goto 99 dN_near_95 rfl ?_
          refine o_istore [(0, _), (1, _), (2, _), (3, _), (4, _), (5, _), (6, _), (7, _)] dN_near_99 rfl rfl ?_
          refine o_iinc (nI (q + 1)) [(0, _), (1, _), (2, _), (3, _), (4, _), (5, _), (6, _), (7, _)] dN_near_101 rfl (nInc _) rfl rfl ?_
          refine o_goto 38 dN_near_104 rfl ?_
          refine o_lv [(0, _), (1, _), (2, _), (3, _), (4, _), (5, _), (6, _)] [0, 1, 2, 3, 4, 5, 6] rfl ?_
          have e9 : fr x dp j (q + 1) = 1 := fr_s1 hb61 (by first | exact Or.inl hb67 | exact Or.inr (Or.inl hb72) | exact Or.inr (Or.inr (by rw [hw]; exact hb91)))
          have z9 := l_nearI hV hi hx hj6 (q + 1) (by omega) kx
          rw [e9] at z9
          exact z9
        · skip
          obtain ⟨w, hw⟩ : ∃ w, x q = w + 1 := ⟨x q - 1, by omega⟩
          have hww : w < m := by omega
          rw [hw]
          refine o_aload_n dN_near_75 rfl ?_
          refine m_getr dN_near_76 fl_N_19 rfl rfl (by decide) ?_
          refine o_bipush (nI 6) dN_near_79 rfl ?_
          refine o_iload dN_near_81 rfl ?_
          refine o_iconst (nI 1) dN_near_83 rfl ?_
          refine o_isub dN_near_84 ?_
          refine o_top (nI w) (pk_sub (show 1 ≤ w + 1 by omega)) ?_
          refine o_imul dN_near_85 ?_
          refine o_top _ (pk_mul _ _) ?_
          refine o_iload_n dN_near_86 rfl ?_
          refine o_iadd dN_near_87 ?_
          refine o_top _ (nI_add _ _) ?_
          refine m_iald (6 * w + j) dN_near_88 rfl rfl rfl (by decide) rfl (by omega) ?_
          refine o_top (nI (dp w j)) (hV.dep hww hj6) ?_
          refine o_iload dN_near_89 rfl ?_
          have hd1 := hV.depB hww hj6
          refine n_icmp_eq 98 dN_near_91 rfl (by omega) (by omega) (fun hb91 => ?_) (fun hb91 => ?_)
          · skip
            refine o_iconst (nI 0) dN_near_98 rfl ?_
            refine o_istore [(0, _), (1, _), (2, _), (3, _), (4, _), (5, _), (6, _), (7, _)] dN_near_99 rfl rfl ?_
            refine o_iinc (nI (q + 1)) [(0, _), (1, _), (2, _), (3, _), (4, _), (5, _), (6, _), (7, _)] dN_near_101 rfl (nInc _) rfl rfl ?_
            refine o_goto 38 dN_near_104 rfl ?_
            refine o_lv [(0, _), (1, _), (2, _), (3, _), (4, _), (5, _), (6, _)] [0, 1, 2, 3, 4, 5, 6] rfl ?_
            have e9 : fr x dp j (q + 1) = 0 := by first | exact fr_z hb61 | exact fr_s0 hb67 hb72 (by rw [hw]; exact hb91)
            have z9 := l_nearI hV hi hx hj6 (q + 1) (by omega) kx
            rw [e9] at z9
            exact z9
          · skip
            refine o_iconst (nI 1) dN_near_94 rfl ?_
            refine o_goto 99 dN_near_95 rfl ?_
            refine o_istore [(0, _), (1, _), (2, _), (3, _), (4, _), (5, _), (6, _), (7, _)] dN_near_99 rfl rfl ?_
            refine o_iinc (nI (q + 1)) [(0, _), (1, _), (2, _), (3, _), (4, _), (5, _), (6, _), (7, _)] dN_near_101 rfl (nInc _) rfl rfl ?_
            refine o_goto 38 dN_near_104 rfl ?_
            refine o_lv [(0, _), (1, _), (2, _), (3, _), (4, _), (5, _), (6, _)] [0, 1, 2, 3, 4, 5, 6] rfl ?_
            have e9 : fr x dp j (q + 1) = 1 := fr_s1 hb61 (by first | exact Or.inl hb67 | exact Or.inr (Or.inl hb72) | exact Or.inr (Or.inr (by rw [hw]; exact hb91)))
            have z9 := l_nearI hV hi hx hj6 (q + 1) (by omega) kx
            rw [e9] at z9
            exact z9
termination_by 6 - q
theorem nearTail {G : oG} {mu : oMu} {Q : oPm} {m : Nat} {ky vr nd : Nat → Nat} {dp : Nat → Nat → Nat} (hV : vOk mu m ky vr nd dp) {i : Nat} {x : Nat → Nat} (hi : i < 6) (hx : yOk mu 32 i m x) {j b : Nat} (hj : j < 6) (hb : fr x dp j 0 = b) (k : Om G M_N_near 4 [(0, .inr (some (ad 20 0))), (1, .inl (nI i)), (2, .inl (nI (nearB x dp (j + 1)))), (3, .inl (nI (j + 1)))] [] mu Q) : Om G M_N_near 38 [(0, .inr (some (ad 20 0))), (1, .inl (nI i)), (2, .inl (nI (nearB x dp j))), (3, .inl (nI j)), (4, .inl (nI (x j))), (5, .inl (nI b)), (6, .inl (nI 0))] [] mu Q := by
  subst hb
  refine l_nearI hV hi hx hj 0 (by omega) ?_
  have hfl := fr_le (x := x) (dp := dp) (j := j) (q := 6)
  refine o_iload dN_near_107 rfl ?_
  refine n_if_eq 120 dN_near_109 rfl (by omega) (fun hb109 => ?_) (fun hb109 => ?_)
  · skip
    refine o_iload_n dN_near_120 rfl ?_
    refine o_istore_n [(0, _), (1, _), (2, _), (3, _), (4, _), (5, _), (6, _)] dN_near_121 rfl rfl ?_
    refine o_iinc (nI (j + 1)) [(0, _), (1, _), (2, _), (3, _), (4, _), (5, _), (6, _)] dN_near_122 rfl (nInc _) rfl rfl ?_
    refine o_goto 4 dN_near_125 rfl ?_
    refine o_lv [(0, _), (1, _), (2, _), (3, _)] [0, 1, 2, 3] rfl ?_
    rw [show nearB x dp j = nearB x dp (j + 1) by rw [nearB, if_neg (fun z => by unfold fr at hb109; rw [if_pos z] at hb109; exact absurd hb109 (by decide))]]
    exact k
  · skip
    refine o_iload_n dN_near_112 rfl ?_
    refine o_iconst (nI 1) dN_near_113 rfl ?_
    refine o_iload_n dN_near_114 rfl ?_
    refine o_ishl dN_near_115 ?_
    refine o_ior dN_near_116 ?_
    refine o_top (nI (nearB x dp j ||| 1 <<< j)) (b_or _ (nearB_lt j (by omega)) j hj).1 ?_
    refine o_goto 121 dN_near_117 rfl ?_
    refine o_istore_n [(0, _), (1, _), (2, _), (3, _), (4, _), (5, _), (6, _)] dN_near_121 rfl rfl ?_
    refine o_iinc (nI (j + 1)) [(0, _), (1, _), (2, _), (3, _), (4, _), (5, _), (6, _)] dN_near_122 rfl (nInc _) rfl rfl ?_
    refine o_goto 4 dN_near_125 rfl ?_
    refine o_lv [(0, _), (1, _), (2, _), (3, _)] [0, 1, 2, 3] rfl ?_
    rw [show nearB x dp j ||| 1 <<< j = nearB x dp (j + 1) by rw [nearB, if_pos (fr_o hb109)]]
    exact k
theorem l_near {G : oG} {mu : oMu} {Q : oPm} {m : Nat} {ky vr nd : Nat → Nat} {dp : Nat → Nat → Nat} (hV : vOk mu m ky vr nd dp) {i : Nat} {x : Nat → Nat} (hi : i < 6) (hx : yOk mu 32 i m x) (j : Nat) (hj : j ≤ 6) (k : Q (some (.inl (nI (nearB x dp 6)))) mu) : Om G M_N_near 4 [(0, .inr (some (ad 20 0))), (1, .inl (nI i)), (2, .inl (nI (nearB x dp j))), (3, .inl (nI j))] [] mu Q := by
  have hm4 := hV.m4
  refine o_iload_n dN_near_4 rfl ?_
  refine o_bipush (nI 6) dN_near_5 rfl ?_
  refine n_icmp_ge 128 dN_near_7 rfl (by omega) (by omega) (fun hb7 => ?_) (fun hb7 => ?_)
  · skip
    have hj6 : j = 6 := by omega
    refine o_iload_n dN_near_128 rfl ?_
    refine m_iret dN_near_129 rfl ?_
    subst hj6
    exact k
  · skip
    have hx1 := hx j hb7
    refine o_aload_n dN_near_10 rfl ?_
    refine m_getr dN_near_11 fl_N_44 rfl rfl (by decide) ?_
    refine o_bipush (nI 6) dN_near_14 rfl ?_
    refine o_iload_n dN_near_16 rfl ?_
    refine o_imul dN_near_17 ?_
    refine o_top _ (pk_mul _ _) ?_
    refine o_iload_n dN_near_18 rfl ?_
    refine o_iadd dN_near_19 ?_
    refine o_top _ (nI_add _ _) ?_
    refine m_iald (6 * i + j) dN_near_20 rfl rfl rfl (by decide) rfl (by omega) ?_
    refine o_top (nI (x j)) hx1.1 ?_
    refine o_istore [(0, _), (1, _), (2, _), (3, _), (4, _)] dN_near_21 rfl rfl ?_
    refine o_iload dN_near_23 rfl ?_
    refine n_if_le 32 dN_near_25 rfl (by omega) (fun hb25 => ?_) (fun hb25 => ?_)
    · skip
      refine o_iconst (nI 0) dN_near_32 rfl ?_
      refine o_istore [(0, _), (1, _), (2, _), (3, _), (4, _), (5, _)] dN_near_33 rfl rfl ?_
      refine o_iconst (nI 0) dN_near_35 rfl ?_
      refine o_istore [(0, _), (1, _), (2, _), (3, _), (4, _), (5, _), (6, _)] dN_near_36 rfl rfl ?_
      refine nearTail hV hi hx hb7 (by unfold fr; rw [if_neg (fun z => z.1 (by omega))]) (l_near hV hi hx (j + 1) (by omega) k)
    · skip
      refine o_iconst (nI 1) dN_near_28 rfl ?_
      refine o_goto 33 dN_near_29 rfl ?_
      refine o_istore [(0, _), (1, _), (2, _), (3, _), (4, _), (5, _)] dN_near_33 rfl rfl ?_
      refine o_iconst (nI 0) dN_near_35 rfl ?_
      refine o_istore [(0, _), (1, _), (2, _), (3, _), (4, _), (5, _), (6, _)] dN_near_36 rfl rfl ?_
      refine nearTail hV hi hx hb7 (by unfold fr; rw [if_pos ⟨by omega, rfl⟩]) (l_near hV hi hx (j + 1) (by omega) k)
termination_by 6 - j
theorem r_near {G : oG} {mu : oMu} {Q : oPm} {m : Nat} {ky vr nd : Nat → Nat} {dp : Nat → Nat → Nat} (hV : vOk mu m ky vr nd dp) {i : Nat} {x : Nat → Nat} (hi : i < 6) (hx : yOk mu 32 i m x) (k : Q (some (.inl (nI (nearB x dp 6)))) mu) : Om G M_N_near 0 [(0, .inr (some (ad 20 0))), (1, .inl (nI i))] [] mu Q := by
  refine o_iconst (nI 0) dN_near_0 rfl ?_
  refine o_istore_n [(0, _), (1, _), (2, _)] dN_near_1 rfl rfl ?_
  refine o_iconst (nI 0) dN_near_2 rfl ?_
  refine o_istore_n [(0, _), (1, _), (2, _), (3, _)] dN_near_3 rfl rfl ?_
  exact l_near hV hi hx 0 (by omega) k
theorem l_rsee {G : oG} {mu : oMu} {Q : oPm} {m : Nat} {ky vr nd : Nat → Nat} {dp : Nat → Nat → Nat} (hV : vOk mu m ky vr nd dp) {i w : Nat} {x : Nat → Nat} (hi : i < 6) (hw : w < m) (j : Nat) (hj : j ≤ 6) (hxm : ∀ q, q < 6 → x q ≤ m) (hy : yOk mu 32 i m (sY x (dp w) vr j)) (k : ∀ mu' : oMu, yOk mu' 32 i m (sX x (dp w) vr (ky w) w) → mfs 32 (6 * i) 6 mu mu' → Q none mu') : Om G M_N_see 2 [(0, .inr (some (ad 20 0))), (1, .inl (nI i)), (2, .inl (nI w)), (3, .inl (nI j))] [] mu Q := by
  have hm4 := hV.m4
  have hk6 := hV.key6 hw
  refine o_iload_n dN_see_2 rfl ?_
  refine o_bipush (nI 6) dN_see_3 rfl ?_
  refine n_icmp_ge 51 dN_see_5 rfl (by omega) (by omega) (fun hb5 => ?_) (fun hb5 => ?_)
  · skip
    have hj6 : j = 6 := by omega
    refine o_bipush (nI 6) dN_see_51 rfl ?_
    refine o_iload_n dN_see_53 rfl ?_
    refine o_imul dN_see_54 ?_
    refine o_top _ (pk_mul _ _) ?_
    refine o_aload_n dN_see_55 rfl ?_
    refine m_getr dN_see_56 fl_N_7 rfl rfl (by decide) ?_
    refine o_iload_n dN_see_59 rfl ?_
    refine m_iald w dN_see_60 rfl rfl rfl (by decide) rfl (by omega) ?_
    refine o_top (nI (ky w)) (hV.key hw) ?_
    refine o_iadd dN_see_61 ?_
    refine o_top _ (nI_add _ _) ?_
    refine o_istore_n [(0, _), (1, _), (2, _), (3, _)] dN_see_62 rfl rfl ?_
    refine o_aload_n dN_see_63 rfl ?_
    refine m_getr dN_see_64 fl_N_44 rfl rfl (by decide) ?_
    refine o_iload_n dN_see_67 rfl ?_
    refine o_aload_n dN_see_68 rfl ?_
    refine o_aload_n dN_see_69 rfl ?_
    refine m_getr dN_see_70 fl_N_44 rfl rfl (by decide) ?_
    refine o_iload_n dN_see_73 rfl ?_
    refine m_iald (6 * i + (ky w)) dN_see_74 rfl rfl rfl (by decide) rfl (by omega) ?_
    refine o_top (nI (gr vr (x (ky w)) (dp w (ky w)))) ((hy _ hk6).1.trans (by simp [sY, hk6, hj6])) ?_
    refine o_iload_n dN_see_75 rfl ?_
    refine o_iconst (nI 1) dN_see_76 rfl ?_
    refine o_iadd dN_see_77 ?_
    refine o_top _ (nI_add _ _) ?_
    refine m_callV M_N_greater [.inl (nI (gr vr (x (ky w)) (dp w (ky w)))), .inl (nI (w + 1))] [.inl (nI (6 * i + (ky w))), .inr (some (ad 32 0))] dN_see_78 mk_N_greater in_N_greater se_N_greater rfl (by decide) rfl rfl ml_N_69 rfl rfl rfl (Nat.le_of_ble_eq_true rfl) rfl ?_
    refine r_greater (a := gr vr (x (ky w)) (dp w (ky w))) (c := w + 1) hV.m4 hV.ver hV.verK (gr_le (hxm _ hk6) (hV.depB hw hk6)) hw ?_
    show Om G M_N_see 81 [(0, .inr (some (ad 20 0))), (1, .inl (nI i)), (2, .inl (nI w)), (3, .inl (nI (6 * i + (ky w))))] [.inl (nI (gr vr (gr vr (x (ky w)) (dp w (ky w))) (w + 1))), .inl (nI (6 * i + (ky w))), .inr (some (ad 32 0))] mu Q
    refine m_iast (6 * i + (ky w)) dN_see_81 rfl rfl rfl (by decide) rfl (by omega) (fun mu1 hmu1 => ?_)
    refine m_vret dN_see_82 rfl ?_
    subst hj6
    exact k mu1 (hy.step hmu1 (gr_le (gr_le (hxm _ hk6) (hV.depB hw hk6)) hw) (fun q hq => by
      by_cases hqk : q = ky w
      · subst hqk
        simp [sX]
      · simp [sX, sY, hqk, hq])) (mfs_up hmu1 (by omega) (by omega))
  · skip
    refine o_aload_n dN_see_8 rfl ?_
    refine m_getr dN_see_9 fl_N_44 rfl rfl (by decide) ?_
    refine o_bipush (nI 6) dN_see_12 rfl ?_
    refine o_iload_n dN_see_14 rfl ?_
    refine o_imul dN_see_15 ?_
    refine o_top _ (pk_mul _ _) ?_
    refine o_iload_n dN_see_16 rfl ?_
    refine o_iadd dN_see_17 ?_
    refine o_top _ (nI_add _ _) ?_
    refine o_aload_n dN_see_18 rfl ?_
    refine o_aload_n dN_see_19 rfl ?_
    refine m_getr dN_see_20 fl_N_44 rfl rfl (by decide) ?_
    refine o_bipush (nI 6) dN_see_23 rfl ?_
    refine o_iload_n dN_see_25 rfl ?_
    refine o_imul dN_see_26 ?_
    refine o_top _ (pk_mul _ _) ?_
    refine o_iload_n dN_see_27 rfl ?_
    refine o_iadd dN_see_28 ?_
    refine o_top _ (nI_add _ _) ?_
    refine m_iald (6 * i + j) dN_see_29 rfl rfl rfl (by decide) rfl (by omega) ?_
    refine o_top (nI (x j)) ((hy j hb5).1.trans (by simp [sY])) ?_
    refine o_aload_n dN_see_30 rfl ?_
    refine m_getr dN_see_31 fl_N_19 rfl rfl (by decide) ?_
    refine o_bipush (nI 6) dN_see_34 rfl ?_
    refine o_iload_n dN_see_36 rfl ?_
    refine o_imul dN_see_37 ?_
    refine o_top _ (pk_mul _ _) ?_
    refine o_iload_n dN_see_38 rfl ?_
    refine o_iadd dN_see_39 ?_
    refine o_top _ (nI_add _ _) ?_
    refine m_iald (6 * w + j) dN_see_40 rfl rfl rfl (by decide) rfl (by omega) ?_
    refine o_top (nI (dp w j)) (hV.dep hw hb5) ?_
    refine m_callV M_N_greater [.inl (nI (x j)), .inl (nI (dp w j))] [.inl (nI (6 * i + j)), .inr (some (ad 32 0))] dN_see_41 mk_N_greater in_N_greater se_N_greater rfl (by decide) rfl rfl ml_N_69 rfl rfl rfl (Nat.le_of_ble_eq_true rfl) rfl ?_
    refine r_greater (a := x j) (c := dp w j) hV.m4 hV.ver hV.verK (hxm j hb5) (hV.depB hw hb5) ?_
    show Om G M_N_see 44 [(0, .inr (some (ad 20 0))), (1, .inl (nI i)), (2, .inl (nI w)), (3, .inl (nI j))] [.inl (nI (gr vr (x j) (dp w j))), .inl (nI (6 * i + j)), .inr (some (ad 32 0))] mu Q
    refine m_iast (6 * i + j) dN_see_44 rfl rfl rfl (by decide) rfl (by omega) (fun mu1 hmu1 => ?_)
    refine o_iinc (nI (j + 1)) [(0, _), (1, _), (2, _), (3, _)] dN_see_45 rfl (nInc _) rfl rfl ?_
    refine o_goto 2 dN_see_48 rfl ?_
    have hf1 := mfs_up (lo := 6 * i) (n := 6) hmu1 (by omega) (by omega)
    exact l_rsee (hV.fs hf1 (by decide)) hi hw (j + 1) (by omega) hxm (hy.step hmu1 (gr_le (hxm j hb5) (hV.depB hw hb5)) (fun q hq => by
      by_cases hqj : q = j
      · subst hqj
        simp [sY]
      · by_cases hql : q < j
        · simp [sY, hqj, hql, Nat.lt_succ_of_lt hql]
        · have h3 : ¬ q < j + 1 := by omega
          simp [sY, hqj, hql, h3])) (fun mu' h1 h2 => k mu' h1 (hf1.tr h2))
termination_by 6 - j
theorem r_see {G : oG} {mu : oMu} {Q : oPm} {m : Nat} {ky vr nd : Nat → Nat} {dp : Nat → Nat → Nat} (hV : vOk mu m ky vr nd dp) {i w : Nat} {x : Nat → Nat} (hi : i < 6) (hw : w < m) (hx : yOk mu 32 i m x) (k : ∀ mu' : oMu, yOk mu' 32 i m (sX x (dp w) vr (ky w) w) → mfs 32 (6 * i) 6 mu mu' → Q none mu') : Om G M_N_see 0 [(0, .inr (some (ad 20 0))), (1, .inl (nI i)), (2, .inl (nI w))] [] mu Q := by
  refine o_iconst (nI 0) dN_see_0 rfl ?_
  refine o_istore_n [(0, _), (1, _), (2, _), (3, _)] dN_see_1 rfl rfl ?_
  exact l_rsee hV hi hw 0 (by omega) (fun q hq => (hx q hq).2) (by rw [sY_0]; exact hx) k
theorem r_send {G : oG} {mu : oMu} {Q : oPm} {w f t n : Nat} (hf : f < 3) (ht : t < 3) (hn : mu 30 0 (3 * f + t) = nI n) (hn4 : n < 40) (k : ∀ mu' : oMu, mu' 31 0 = upd (mu 31 0) (40 * (3 * f + t) + n) (nI w) → mu' 30 0 = upd (mu 30 0) (3 * f + t) (nI (n + 1)) → mfr [(30, 0), (31, 0)] mu mu' → Q none mu') : Om G M_N_send 0 [(0, .inr (some (ad 20 0))), (1, .inl (nI w)), (2, .inl (nI f)), (3, .inl (nI t))] [] mu Q := by
  refine o_iconst (nI 3) dN_send_0 rfl ?_
  refine o_iload_n dN_send_1 rfl ?_
  refine o_imul dN_send_2 ?_
  refine o_top _ (pk_mul _ _) ?_
  refine o_iload_n dN_send_3 rfl ?_
  refine o_iadd dN_send_4 ?_
  refine o_top _ (nI_add _ _) ?_
  refine o_istore [(0, _), (1, _), (2, _), (3, _), (4, _)] dN_send_5 rfl rfl ?_
  refine o_aload_n dN_send_7 rfl ?_
  refine m_getr dN_send_8 fl_N_41 rfl rfl (by decide) ?_
  refine o_bipush (nI 40) dN_send_11 rfl ?_
  refine o_iload dN_send_13 rfl ?_
  refine o_imul dN_send_15 ?_
  refine o_top _ (pk_mul _ _) ?_
  refine o_aload_n dN_send_16 rfl ?_
  refine m_getr dN_send_17 fl_N_38 rfl rfl (by decide) ?_
  refine o_iload dN_send_20 rfl ?_
  refine m_iald (3 * f + t) dN_send_22 rfl rfl rfl (by decide) rfl (by omega) ?_
  refine o_top (nI n) hn ?_
  refine o_iadd dN_send_23 ?_
  refine o_top _ (nI_add _ _) ?_
  refine o_iload_n dN_send_24 rfl ?_
  refine m_iast (40 * (3 * f + t) + n) dN_send_25 rfl rfl rfl (by decide) rfl (by omega) (fun mu1 hmu1 => ?_)
  refine o_aload_n dN_send_26 rfl ?_
  refine m_getr dN_send_27 fl_N_38 rfl rfl (by decide) ?_
  refine o_iload dN_send_30 rfl ?_
  refine o_dup2 dN_send_32 ?_
  refine m_iald (3 * f + t) dN_send_33 rfl rfl rfl (by decide) rfl (by omega) ?_
  refine o_top (nI n) (by rw [hmu1, up2_t (by decide)]; exact hn) ?_
  refine o_iconst (nI 1) dN_send_34 rfl ?_
  refine o_iadd dN_send_35 ?_
  refine o_top _ (nI_add _ _) ?_
  refine m_iast (3 * f + t) dN_send_36 rfl rfl rfl (by decide) rfl (by omega) (fun mu2 hmu2 => ?_)
  refine m_vret dN_send_37 rfl ?_
  exact k mu2 (by rw [hmu2, up2_t (by decide), hmu1, up2_s]) (by rw [hmu2, up2_s, hmu1, up2_t (by decide)]) ((mfr_up hmu1 (by simp)).tr (mfr_up hmu2 (by simp)))
