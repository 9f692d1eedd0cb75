/-! The class's leaves. -/
def mfr (L : List (Nat × Nat)) (mu mu' : oMu) : Prop := ∀ t i, (t, i) ∉ L → mu' t i = mu t i
theorem mfr_rf {L : List (Nat × Nat)} {mu : oMu} : mfr L mu mu := fun _ _ _ => rfl
theorem mfr_up {L : List (Nat × Nat)} {mu mu' : oMu} {t i : Nat} {x : Nat → Int32} (h : mu' = up2 mu t i x) (hL : (t, i) ∈ L) : mfr L mu mu' := by
  intro t' i' hn
  rw [h]
  exact if_neg fun q => hn (by rw [q.1, q.2]; exact hL)
theorem mfr.tr {L : List (Nat × Nat)} {a b c : oMu} (h1 : mfr L a b) (h2 : mfr L b c) : mfr L a c := fun t i h => (h2 t i h).trans (h1 t i h)
theorem mfr.wk {L L' : List (Nat × Nat)} {a b : oMu} (h1 : mfr L a b) (h : ∀ q ∈ L, q ∈ L') : mfr L' a b := fun t i hn => h1 t i fun q => hn (h _ q)
set_option maxRecDepth 100000 in
theorem b_has : ∀ s, s < 64 → ∀ k, k < 6 → (nI s &&& (nI 1 <<< (nI k &&& 31)) = 0 ↔ s.testBit k = false) := by decide +kernel
theorem dec_nI {a w m : Nat} (ha : a ≤ m) (hm : m ≤ 40) (hw : w < m) (h : dec a = nI w) : a = w + 1 := by
  cases a with
  | zero =>
    exfalso
    have h2 : (-4 : Int32) = nI w := h
    have h3 : ¬ nI w < 0 := nI_pos (by omega)
    rw [← h2] at h3
    exact h3 (by decide)
  | succ n =>
    have h2 : nI n = nI w := h
    rw [(nI_eq (by omega) (by omega)).mp h2]
theorem dec_no {a m : Nat} (ha : a ≤ m) (h : ∀ w, w < m → ¬ dec a = nI w) : a = 0 := by
  cases a with
  | zero => rfl
  | succ n => exact absurd rfl (h n (by omega))
theorem c_isClient {G : oG} {mu : oMu} {Q : oPm} {x : Int32} (kt : ∀ j, j < 6 → x = nI j → Q (some (.inl (nI 1))) mu) (kf : (∀ j, j < 6 → ¬ x = nI j) → Q (some (.inl (nI 0))) mu) : Om G M_S_isClient 0 [(0, .inl x)] [] mu Q := by
  refine o_iload_n dS_isClient_0 rfl ?_
  refine o_if_lt 14 dS_isClient_1 rfl (fun hb1 => ?_) (fun hb1 => ?_)
  · skip
    refine o_iconst (nI 0) dS_isClient_14 rfl ?_
    refine m_zret dS_isClient_15 rfl rfl ?_
    exact kf (by first | exact fun j hj e => absurd hb1 (by subst e; exact nI_pos (by omega)) | exact fun j hj e => absurd hb7 (by subst e; exact nI_ge hj (by decide)))
  · skip
    refine o_iload_n dS_isClient_4 rfl ?_
    refine o_bipush (nI 6) dS_isClient_5 rfl ?_
    refine o_icmp_ge 14 dS_isClient_7 rfl (fun hb7 => ?_) (fun hb7 => ?_)
    · skip
      refine o_iconst (nI 0) dS_isClient_14 rfl ?_
      refine m_zret dS_isClient_15 rfl rfl ?_
      exact kf (by first | exact fun j hj e => absurd hb1 (by subst e; exact nI_pos (by omega)) | exact fun j hj e => absurd hb7 (by subst e; exact nI_ge hj (by decide)))
    · skip
      refine o_iconst (nI 1) dS_isClient_10 rfl ?_
      refine o_goto 15 dS_isClient_11 rfl ?_
      refine m_zret dS_isClient_15 rfl rfl ?_
      obtain h | h | ⟨j, hj, e⟩ := pk_ix x (n := 6) (by decide)
      · exact absurd h hb1
      · exact absurd h hb7
      · exact kt j hj e
theorem c_isKey {G : oG} {mu : oMu} {Q : oPm} {x : Int32} (kt : ∀ j, j < 6 → x = nI j → Q (some (.inl (nI 1))) mu) (kf : (∀ j, j < 6 → ¬ x = nI j) → Q (some (.inl (nI 0))) mu) : Om G M_S_isKey 0 [(0, .inl x)] [] mu Q := by
  refine o_iload_n dS_isKey_0 rfl ?_
  refine o_if_lt 14 dS_isKey_1 rfl (fun hb1 => ?_) (fun hb1 => ?_)
  · skip
    refine o_iconst (nI 0) dS_isKey_14 rfl ?_
    refine m_zret dS_isKey_15 rfl rfl ?_
    exact kf (by first | exact fun j hj e => absurd hb1 (by subst e; exact nI_pos (by omega)) | exact fun j hj e => absurd hb7 (by subst e; exact nI_ge hj (by decide)))
  · skip
    refine o_iload_n dS_isKey_4 rfl ?_
    refine o_bipush (nI 6) dS_isKey_5 rfl ?_
    refine o_icmp_ge 14 dS_isKey_7 rfl (fun hb7 => ?_) (fun hb7 => ?_)
    · skip
      refine o_iconst (nI 0) dS_isKey_14 rfl ?_
      refine m_zret dS_isKey_15 rfl rfl ?_
      exact kf (by first | exact fun j hj e => absurd hb1 (by subst e; exact nI_pos (by omega)) | exact fun j hj e => absurd hb7 (by subst e; exact nI_ge hj (by decide)))
    · skip
      refine o_iconst (nI 1) dS_isKey_10 rfl ?_
      refine o_goto 15 dS_isKey_11 rfl ?_
      refine m_zret dS_isKey_15 rfl rfl ?_
      obtain h | h | ⟨j, hj, e⟩ := pk_ix x (n := 6) (by decide)
      · exact absurd h hb1
      · exact absurd h hb7
      · exact kt j hj e
theorem c_isCenter {G : oG} {mu : oMu} {Q : oPm} {x : Int32} (kt : ∀ j, j < 3 → x = nI j → Q (some (.inl (nI 1))) mu) (kf : (∀ j, j < 3 → ¬ x = nI j) → Q (some (.inl (nI 0))) mu) : Om G M_S_isCenter 0 [(0, .inl x)] [] mu Q := by
  refine o_iload_n dS_isCenter_0 rfl ?_
  refine o_if_lt 13 dS_isCenter_1 rfl (fun hb1 => ?_) (fun hb1 => ?_)
  · skip
    refine o_iconst (nI 0) dS_isCenter_13 rfl ?_
    refine m_zret dS_isCenter_14 rfl rfl ?_
    exact kf (by first | exact fun j hj e => absurd hb1 (by subst e; exact nI_pos (by omega)) | exact fun j hj e => absurd hb6 (by subst e; exact nI_ge hj (by decide)))
  · skip
    refine o_iload_n dS_isCenter_4 rfl ?_
    refine o_iconst (nI 3) dS_isCenter_5 rfl ?_
    refine o_icmp_ge 13 dS_isCenter_6 rfl (fun hb6 => ?_) (fun hb6 => ?_)
    · skip
      refine o_iconst (nI 0) dS_isCenter_13 rfl ?_
      refine m_zret dS_isCenter_14 rfl rfl ?_
      exact kf (by first | exact fun j hj e => absurd hb1 (by subst e; exact nI_pos (by omega)) | exact fun j hj e => absurd hb6 (by subst e; exact nI_ge hj (by decide)))
    · skip
      refine o_iconst (nI 1) dS_isCenter_9 rfl ?_
      refine o_goto 14 dS_isCenter_10 rfl ?_
      refine m_zret dS_isCenter_14 rfl rfl ?_
      obtain h | h | ⟨j, hj, e⟩ := pk_ix x (n := 3) (by decide)
      · exact absurd h hb1
      · exact absurd h hb6
      · exact kt j hj e
theorem c_isPartition {G : oG} {mu : oMu} {Q : oPm} {x : Int32} (kt : ∀ j, j < 2 → x = nI j → Q (some (.inl (nI 1))) mu) (kf : (∀ j, j < 2 → ¬ x = nI j) → Q (some (.inl (nI 0))) mu) : Om G M_S_isPartition 0 [(0, .inl x)] [] mu Q := by
  refine o_iload_n dS_isPartition_0 rfl ?_
  refine o_if_lt 13 dS_isPartition_1 rfl (fun hb1 => ?_) (fun hb1 => ?_)
  · skip
    refine o_iconst (nI 0) dS_isPartition_13 rfl ?_
    refine m_zret dS_isPartition_14 rfl rfl ?_
    exact kf (by first | exact fun j hj e => absurd hb1 (by subst e; exact nI_pos (by omega)) | exact fun j hj e => absurd hb6 (by subst e; exact nI_ge hj (by decide)))
  · skip
    refine o_iload_n dS_isPartition_4 rfl ?_
    refine o_iconst (nI 2) dS_isPartition_5 rfl ?_
    refine o_icmp_ge 13 dS_isPartition_6 rfl (fun hb6 => ?_) (fun hb6 => ?_)
    · skip
      refine o_iconst (nI 0) dS_isPartition_13 rfl ?_
      refine m_zret dS_isPartition_14 rfl rfl ?_
      exact kf (by first | exact fun j hj e => absurd hb1 (by subst e; exact nI_pos (by omega)) | exact fun j hj e => absurd hb6 (by subst e; exact nI_ge hj (by decide)))
    · skip
      refine o_iconst (nI 1) dS_isPartition_9 rfl ?_
      refine o_goto 14 dS_isPartition_10 rfl ?_
      refine m_zret dS_isPartition_14 rfl rfl ?_
      obtain h | h | ⟨j, hj, e⟩ := pk_ix x (n := 2) (by decide)
      · exact absurd h hb1
      · exact absurd h hb6
      · exact kt j hj e
theorem c_isWrite {G : oG} {mu : oMu} {Q : oPm} {x : Int32} {m : Nat} (hm : mu 0 0 4 = nI m) (hm4 : m ≤ 40) (kt : ∀ j, j < m → x = nI j → Q (some (.inl (nI 1))) mu) (kf : (∀ j, j < m → ¬ x = nI j) → Q (some (.inl (nI 0))) mu) : Om G M_S_isWrite 0 [(0, .inr (some (ad 0 0))), (1, .inl x)] [] mu Q := by
  refine o_iload_n dS_isWrite_0 rfl ?_
  refine o_if_lt 16 dS_isWrite_1 rfl (fun hb1 => ?_) (fun hb1 => ?_)
  · skip
    refine o_iconst (nI 0) dS_isWrite_16 rfl ?_
    refine m_zret dS_isWrite_17 rfl rfl ?_
    exact kf (by first | exact fun j hj e => absurd hb1 (by subst e; exact nI_pos (by omega)) | exact fun j hj e => absurd hb9 (by subst e; exact nI_ge hj (by omega)))
  · skip
    refine o_iload_n dS_isWrite_4 rfl ?_
    refine o_aload_n dS_isWrite_5 rfl ?_
    refine m_geti dS_isWrite_6 fl_S_50 rfl rfl (by decide) ?_
    refine o_top (nI m) hm ?_
    refine o_icmp_ge 16 dS_isWrite_9 rfl (fun hb9 => ?_) (fun hb9 => ?_)
    · skip
      refine o_iconst (nI 0) dS_isWrite_16 rfl ?_
      refine m_zret dS_isWrite_17 rfl rfl ?_
      exact kf (by first | exact fun j hj e => absurd hb1 (by subst e; exact nI_pos (by omega)) | exact fun j hj e => absurd hb9 (by subst e; exact nI_ge hj (by omega)))
    · skip
      refine o_iconst (nI 1) dS_isWrite_12 rfl ?_
      refine o_goto 17 dS_isWrite_13 rfl ?_
      refine m_zret dS_isWrite_17 rfl rfl ?_
      obtain h | h | ⟨j, hj, e⟩ := pk_ix x (n := m) (by omega)
      · exact absurd h hb1
      · exact absurd h hb9
      · exact kt j hj e
theorem c_isWriteD {G : oG} {mu : oMu} {Q : oPm} {a m : Nat} (hm : mu 0 0 4 = nI m) (hm4 : m ≤ 40) (ha : a ≤ m) (kt : ∀ w, w < m → a = w + 1 → Q (some (.inl (nI 1))) mu) (kf : a = 0 → Q (some (.inl (nI 0))) mu) : Om G M_S_isWrite 0 [(0, .inr (some (ad 0 0))), (1, .inl (dec a))] [] mu Q :=
  c_isWrite hm hm4 (fun j hj e => kt j hj (dec_nI ha hm4 hj e)) (fun h => kf (dec_no ha h))
theorem c_hasKey {G : oG} {mu : oMu} {Q : oPm} {s k : Nat} (hs : s < 64) (hk : k < 6) (kt : s.testBit k = true → Q (some (.inl (nI 1))) mu) (kf : s.testBit k = false → Q (some (.inl (nI 0))) mu) : Om G M_S_hasKey 0 [(0, .inl (nI s)), (1, .inl (nI k))] [] mu Q := by
  refine o_iload_n dS_hasKey_0 rfl ?_
  refine o_iconst (nI 1) dS_hasKey_1 rfl ?_
  refine o_iload_n dS_hasKey_2 rfl ?_
  refine o_ishl dS_hasKey_3 ?_
  refine o_iand dS_hasKey_4 ?_
  refine o_if_eq 12 dS_hasKey_5 rfl (fun hb5 => ?_) (fun hb5 => ?_)
  · skip
    refine o_iconst (nI 0) dS_hasKey_12 rfl ?_
    refine m_zret dS_hasKey_13 rfl rfl ?_
    exact kf ((b_has s hs k hk).mp hb5)
  · skip
    refine o_iconst (nI 1) dS_hasKey_8 rfl ?_
    refine o_goto 13 dS_hasKey_9 rfl ?_
    refine m_zret dS_hasKey_13 rfl rfl ?_
    exact kt (by cases h : s.testBit k with
      | true => rfl
      | false => exact absurd ((b_has s hs k hk).mpr h) hb5)
theorem c_at_12 {G : oG} {mu : oMu} {Q : oPm} {i n : Nat} (hi : i < 6) (hn : mu 12 i 1 = nI n) (hn4 : n ≤ 40) {x : Int32} (kt : ∀ j, j < n → x = nI j → Q (some (.inl (mu 13 i j))) mu) (kf : (∀ j, j < n → ¬ x = nI j) → Q (some (.inl (-4))) mu) : Om G M_R_at 0 [(0, .inr (some (ad 12 i))), (1, .inl x)] [] mu Q := by
  refine o_iload_n dR_at_0 rfl ?_
  refine o_if_lt 21 dR_at_1 rfl (fun hb1 => ?_) (fun hb1 => ?_)
  · skip
    refine o_bipush (-4) dR_at_21 rfl ?_
    refine m_iret dR_at_23 rfl ?_
    exact kf (by first | exact fun j hj e => absurd hb1 (by subst e; exact nI_pos (by omega)) | exact fun j hj e => absurd hb9 (by subst e; exact nI_ge hj (by omega)))
  · skip
    refine o_iload_n dR_at_4 rfl ?_
    refine o_aload_n dR_at_5 rfl ?_
    refine m_geti dR_at_6 fl_R_15 rfl rfl hi ?_
    refine o_top (nI n) hn ?_
    refine o_icmp_ge 21 dR_at_9 rfl (fun hb9 => ?_) (fun hb9 => ?_)
    · skip
      refine o_bipush (-4) dR_at_21 rfl ?_
      refine m_iret dR_at_23 rfl ?_
      exact kf (by first | exact fun j hj e => absurd hb1 (by subst e; exact nI_pos (by omega)) | exact fun j hj e => absurd hb9 (by subst e; exact nI_ge hj (by omega)))
    · skip
      obtain h | h | ⟨j, hj, e⟩ := pk_ix x (n := n) (by omega)
      · exact absurd h hb1
      · exact absurd h hb9
      subst e
      refine o_aload_n dR_at_12 rfl ?_
      refine m_getr dR_at_13 fl_R_9 rfl rfl hi ?_
      refine o_iload_n dR_at_16 rfl ?_
      refine m_iald j dR_at_17 rfl rfl rfl hi rfl (by omega) ?_
      refine o_goto 23 dR_at_18 rfl ?_
      refine m_iret dR_at_23 rfl ?_
      exact kt j hj rfl
theorem c_append_12 {G : oG} {mu : oMu} {Q : oPm} {i n : Nat} (hi : i < 6) (hn : mu 12 i 1 = nI n) (hn4 : n ≤ 40) (hn3 : n < 40) {x : Int32} (k : ∀ mu' : oMu, mu' 13 i = upd (mu 13 i) n x → mu' 12 i = upd (mu 12 i) 1 (nI (n + 1)) → mfr [(12, i), (13, i)] mu mu' → Q none mu') : Om G M_R_append 0 [(0, .inr (some (ad 12 i))), (1, .inl x)] [] mu Q := by
  refine o_aload_n dR_append_0 rfl ?_
  refine m_geti dR_append_1 fl_R_15 rfl rfl hi ?_
  refine o_top (nI n) hn ?_
  refine o_bipush (nI 40) dR_append_4 rfl ?_
  refine n_icmp_ge 29 dR_append_6 rfl (by omega) (by omega) (fun h => absurd h (by omega)) (fun h => ?_)
  refine o_aload_n dR_append_9 rfl ?_
  refine m_getr dR_append_10 fl_R_9 rfl rfl hi ?_
  refine o_aload_n dR_append_13 rfl ?_
  refine m_geti dR_append_14 fl_R_15 rfl rfl hi ?_
  refine o_top (nI n) hn ?_
  refine o_iload_n dR_append_17 rfl ?_
  refine m_iast n dR_append_18 rfl rfl rfl hi rfl (by omega) (fun mu1 hmu1 => ?_)
  refine o_aload_n dR_append_19 rfl ?_
  refine o_dup dR_append_20 ?_
  refine m_geti dR_append_21 fl_R_15 rfl rfl hi ?_
  refine o_top (nI n) (by rw [hmu1, up2_t (by decide)]; exact hn) ?_
  refine o_iconst (nI 1) dR_append_24 rfl ?_
  refine o_iadd dR_append_25 ?_
  refine o_top _ (nI_add _ _) ?_
  refine m_puti dR_append_26 fs_R_15 rfl rfl hi (fun mu2 hmu2 => ?_)
  refine m_vret dR_append_29 rfl ?_
  exact k mu2 (by rw [hmu2, up2_t (by decide), hmu1, up2_s]) (by rw [hmu2, up2_s, hmu1, up2_t (by decide)]) ((mfr_up hmu1 (by simp)).tr (mfr_up hmu2 (by simp)))
theorem c_removeAt_12 {G : oG} {mu : oMu} {Q : oPm} {i n : Nat} (hi : i < 6) (hn : mu 12 i 1 = nI n) (hn4 : n ≤ 40) {j : Nat} (hj : j < n) (k : ∀ mu' : oMu, mu' 13 i = va_cpy (mu 13 i) (mu 13 i) (j + 1) j (n - j - 1) → mu' 12 i = upd (mu 12 i) 1 (nI (n - 1)) → mfr [(12, i), (13, i)] mu mu' → Q none mu') : Om G M_R_removeAt 0 [(0, .inr (some (ad 12 i))), (1, .inl (nI j))] [] mu Q := by
  refine o_iload_n dR_removeAt_0 rfl ?_
  refine n_if_lt 45 dR_removeAt_1 rfl (by omega) (fun h => absurd h (by omega)) (fun h => ?_)
  refine o_iload_n dR_removeAt_4 rfl ?_
  refine o_aload_n dR_removeAt_5 rfl ?_
  refine m_geti dR_removeAt_6 fl_R_15 rfl rfl hi ?_
  refine o_top (nI n) hn ?_
  refine n_icmp_ge 45 dR_removeAt_9 rfl (by omega) (by omega) (fun h => absurd h (by omega)) (fun h => ?_)
  refine o_aload_n dR_removeAt_12 rfl ?_
  refine m_getr dR_removeAt_13 fl_R_9 rfl rfl hi ?_
  refine o_iload_n dR_removeAt_16 rfl ?_
  refine o_iconst (nI 1) dR_removeAt_17 rfl ?_
  refine o_iadd dR_removeAt_18 ?_
  refine o_top _ (nI_add _ _) ?_
  refine o_aload_n dR_removeAt_19 rfl ?_
  refine m_getr dR_removeAt_20 fl_R_9 rfl rfl hi ?_
  refine o_iload_n dR_removeAt_23 rfl ?_
  refine o_aload_n dR_removeAt_24 rfl ?_
  refine m_geti dR_removeAt_25 fl_R_15 rfl rfl hi ?_
  refine o_top (nI n) hn ?_
  refine o_iload_n dR_removeAt_28 rfl ?_
  refine o_isub dR_removeAt_29 ?_
  refine o_top _ (pk_sub (by omega)) ?_
  refine o_iconst (nI 1) dR_removeAt_30 rfl ?_
  refine o_isub dR_removeAt_31 ?_
  refine o_top _ (pk_sub (by omega)) ?_
  refine m_copy (j + 1) j (n - j - 1) dR_removeAt_32 cp_R_19 wc_n wc_s wc_i rfl rfl rfl rfl rfl rfl rfl hi hi rfl rfl rfl (by omega) (by omega) (fun mu1 hmu1 => ?_)
  refine o_aload_n dR_removeAt_35 rfl ?_
  refine o_dup dR_removeAt_36 ?_
  refine m_geti dR_removeAt_37 fl_R_15 rfl rfl hi ?_
  refine o_top (nI n) (by rw [hmu1, up2_t (by decide)]; exact hn) ?_
  refine o_iconst (nI 1) dR_removeAt_40 rfl ?_
  refine o_isub dR_removeAt_41 ?_
  refine o_top _ (pk_sub (by omega)) ?_
  refine m_puti dR_removeAt_42 fs_R_15 rfl rfl hi (fun mu2 hmu2 => ?_)
  refine m_vret dR_removeAt_45 rfl ?_
  exact k mu2 (by rw [hmu2, up2_t (by decide), hmu1, up2_s]) (by rw [hmu2, up2_s, hmu1, up2_t (by decide)]) ((mfr_up hmu1 (by simp)).tr (mfr_up hmu2 (by simp)))
theorem c_at_18 {G : oG} {mu : oMu} {Q : oPm} {i n : Nat} (hi : i < 9) (hn : mu 18 i 1 = nI n) (hn4 : n ≤ 40) {x : Int32} (kt : ∀ j, j < n → x = nI j → Q (some (.inl (mu 19 i j))) mu) (kf : (∀ j, j < n → ¬ x = nI j) → Q (some (.inl (-4))) mu) : Om G M_R_at 0 [(0, .inr (some (ad 18 i))), (1, .inl x)] [] mu Q := by
  refine o_iload_n dR_at_0 rfl ?_
  refine o_if_lt 21 dR_at_1 rfl (fun hb1 => ?_) (fun hb1 => ?_)
  · skip
    refine o_bipush (-4) dR_at_21 rfl ?_
    refine m_iret dR_at_23 rfl ?_
    exact kf (by first | exact fun j hj e => absurd hb1 (by subst e; exact nI_pos (by omega)) | exact fun j hj e => absurd hb9 (by subst e; exact nI_ge hj (by omega)))
  · skip
    refine o_iload_n dR_at_4 rfl ?_
    refine o_aload_n dR_at_5 rfl ?_
    refine m_geti dR_at_6 fl_R_15 rfl rfl hi ?_
    refine o_top (nI n) hn ?_
    refine o_icmp_ge 21 dR_at_9 rfl (fun hb9 => ?_) (fun hb9 => ?_)
    · skip
      refine o_bipush (-4) dR_at_21 rfl ?_
      refine m_iret dR_at_23 rfl ?_
      exact kf (by first | exact fun j hj e => absurd hb1 (by subst e; exact nI_pos (by omega)) | exact fun j hj e => absurd hb9 (by subst e; exact nI_ge hj (by omega)))
    · skip
      obtain h | h | ⟨j, hj, e⟩ := pk_ix x (n := n) (by omega)
      · exact absurd h hb1
      · exact absurd h hb9
      subst e
      refine o_aload_n dR_at_12 rfl ?_
      refine m_getr dR_at_13 fl_R_9 rfl rfl hi ?_
      refine o_iload_n dR_at_16 rfl ?_
      refine m_iald j dR_at_17 rfl rfl rfl hi rfl (by omega) ?_
      refine o_goto 23 dR_at_18 rfl ?_
      refine m_iret dR_at_23 rfl ?_
      exact kt j hj rfl
theorem c_append_18 {G : oG} {mu : oMu} {Q : oPm} {i n : Nat} (hi : i < 9) (hn : mu 18 i 1 = nI n) (hn4 : n ≤ 40) (hn3 : n < 40) {x : Int32} (k : ∀ mu' : oMu, mu' 19 i = upd (mu 19 i) n x → mu' 18 i = upd (mu 18 i) 1 (nI (n + 1)) → mfr [(18, i), (19, i)] mu mu' → Q none mu') : Om G M_R_append 0 [(0, .inr (some (ad 18 i))), (1, .inl x)] [] mu Q := by
  refine o_aload_n dR_append_0 rfl ?_
  refine m_geti dR_append_1 fl_R_15 rfl rfl hi ?_
  refine o_top (nI n) hn ?_
  refine o_bipush (nI 40) dR_append_4 rfl ?_
  refine n_icmp_ge 29 dR_append_6 rfl (by omega) (by omega) (fun h => absurd h (by omega)) (fun h => ?_)
  refine o_aload_n dR_append_9 rfl ?_
  refine m_getr dR_append_10 fl_R_9 rfl rfl hi ?_
  refine o_aload_n dR_append_13 rfl ?_
  refine m_geti dR_append_14 fl_R_15 rfl rfl hi ?_
  refine o_top (nI n) hn ?_
  refine o_iload_n dR_append_17 rfl ?_
  refine m_iast n dR_append_18 rfl rfl rfl hi rfl (by omega) (fun mu1 hmu1 => ?_)
  refine o_aload_n dR_append_19 rfl ?_
  refine o_dup dR_append_20 ?_
  refine m_geti dR_append_21 fl_R_15 rfl rfl hi ?_
  refine o_top (nI n) (by rw [hmu1, up2_t (by decide)]; exact hn) ?_
  refine o_iconst (nI 1) dR_append_24 rfl ?_
  refine o_iadd dR_append_25 ?_
  refine o_top _ (nI_add _ _) ?_
  refine m_puti dR_append_26 fs_R_15 rfl rfl hi (fun mu2 hmu2 => ?_)
  refine m_vret dR_append_29 rfl ?_
  exact k mu2 (by rw [hmu2, up2_t (by decide), hmu1, up2_s]) (by rw [hmu2, up2_s, hmu1, up2_t (by decide)]) ((mfr_up hmu1 (by simp)).tr (mfr_up hmu2 (by simp)))
theorem c_removeAt_18 {G : oG} {mu : oMu} {Q : oPm} {i n : Nat} (hi : i < 9) (hn : mu 18 i 1 = nI n) (hn4 : n ≤ 40) {j : Nat} (hj : j < n) (k : ∀ mu' : oMu, mu' 19 i = va_cpy (mu 19 i) (mu 19 i) (j + 1) j (n - j - 1) → mu' 18 i = upd (mu 18 i) 1 (nI (n - 1)) → mfr [(18, i), (19, i)] mu mu' → Q none mu') : Om G M_R_removeAt 0 [(0, .inr (some (ad 18 i))), (1, .inl (nI j))] [] mu Q := by
  refine o_iload_n dR_removeAt_0 rfl ?_
  refine n_if_lt 45 dR_removeAt_1 rfl (by omega) (fun h => absurd h (by omega)) (fun h => ?_)
  refine o_iload_n dR_removeAt_4 rfl ?_
  refine o_aload_n dR_removeAt_5 rfl ?_
  refine m_geti dR_removeAt_6 fl_R_15 rfl rfl hi ?_
  refine o_top (nI n) hn ?_
  refine n_icmp_ge 45 dR_removeAt_9 rfl (by omega) (by omega) (fun h => absurd h (by omega)) (fun h => ?_)
  refine o_aload_n dR_removeAt_12 rfl ?_
  refine m_getr dR_removeAt_13 fl_R_9 rfl rfl hi ?_
  refine o_iload_n dR_removeAt_16 rfl ?_
  refine o_iconst (nI 1) dR_removeAt_17 rfl ?_
  refine o_iadd dR_removeAt_18 ?_
  refine o_top _ (nI_add _ _) ?_
  refine o_aload_n dR_removeAt_19 rfl ?_
  refine m_getr dR_removeAt_20 fl_R_9 rfl rfl hi ?_
  refine o_iload_n dR_removeAt_23 rfl ?_
  refine o_aload_n dR_removeAt_24 rfl ?_
  refine m_geti dR_removeAt_25 fl_R_15 rfl rfl hi ?_
  refine o_top (nI n) hn ?_
  refine o_iload_n dR_removeAt_28 rfl ?_
  refine o_isub dR_removeAt_29 ?_
  refine o_top _ (pk_sub (by omega)) ?_
  refine o_iconst (nI 1) dR_removeAt_30 rfl ?_
  refine o_isub dR_removeAt_31 ?_
  refine o_top _ (pk_sub (by omega)) ?_
  refine m_copy (j + 1) j (n - j - 1) dR_removeAt_32 cp_R_19 wc_n wc_s wc_i rfl rfl rfl rfl rfl rfl rfl hi hi rfl rfl rfl (by omega) (by omega) (fun mu1 hmu1 => ?_)
  refine o_aload_n dR_removeAt_35 rfl ?_
  refine o_dup dR_removeAt_36 ?_
  refine m_geti dR_removeAt_37 fl_R_15 rfl rfl hi ?_
  refine o_top (nI n) (by rw [hmu1, up2_t (by decide)]; exact hn) ?_
  refine o_iconst (nI 1) dR_removeAt_40 rfl ?_
  refine o_isub dR_removeAt_41 ?_
  refine o_top _ (pk_sub (by omega)) ?_
  refine m_puti dR_removeAt_42 fs_R_15 rfl rfl hi (fun mu2 hmu2 => ?_)
  refine m_vret dR_removeAt_45 rfl ?_
  exact k mu2 (by rw [hmu2, up2_t (by decide), hmu1, up2_s]) (by rw [hmu2, up2_s, hmu1, up2_t (by decide)]) ((mfr_up hmu1 (by simp)).tr (mfr_up hmu2 (by simp)))
def gr (v : Nat → Nat) (a c : Nat) : Nat := if a = 0 then c else if c = 0 then a else if v (a - 1) < v (c - 1) then c else a
theorem gr_zz {v : Nat → Nat} {c : Nat} : gr v 0 c = c := if_pos rfl
theorem gr_n0 {v : Nat → Nat} {a : Nat} : gr v (a + 1) 0 = a + 1 := by simp [gr]
theorem gr_lt {v : Nat → Nat} {a c : Nat} (h : v a < v c) : gr v (a + 1) (c + 1) = c + 1 := by simp [gr, h]
theorem gr_ge {v : Nat → Nat} {a c : Nat} (h : v c ≤ v a) : gr v (a + 1) (c + 1) = a + 1 := by simp [gr, Nat.not_lt.mpr h]
theorem gr_le {v : Nat → Nat} {a c m : Nat} (ha : a ≤ m) (hc : c ≤ m) : gr v a c ≤ m := by
  unfold gr
  split
  · exact hc
  · split
    · exact ha
    · split
      · exact hc
      · exact ha
theorem c_greater {G : oG} {mu : oMu} {Q : oPm} {a c m : Nat} {v : Nat → Nat} (hm : mu 0 0 4 = nI m) (hm4 : m ≤ 40) (hv : ∀ w, w < m → mu 5 w 4 = nI (v w)) (hv2 : ∀ w, w < m → v w < 2147483648) (ha : a ≤ m) (hc : c ≤ m) (k : Q (some (.inl (dec (gr v a c)))) mu) : Om G M_S_greater 0 [(0, .inr (some (ad 0 0))), (1, .inl (dec a)), (2, .inl (dec c))] [] mu Q := by
  refine o_aload_n dS_greater_0 rfl ?_
  refine o_iload_n dS_greater_1 rfl ?_
  refine m_callV M_S_isWrite [.inl (dec a)] [] dS_greater_2 mk_S_isWrite in_S_isWrite se_S_isWrite rfl (by decide) rfl rfl ml_S_123 rfl rfl rfl (Nat.le_of_ble_eq_true rfl) rfl ?_
  refine c_isWriteD hm hm4 ha (fun w hw e => ?_) (fun e => ?_)
  · skip
    subst e
    show Om G M_S_greater 5 [(0, .inr (some (ad 0 0))), (1, .inl (nI w)), (2, .inl (dec c))] [.inl (nI 1)] mu Q
    refine n_if_ne 10 dS_greater_5 rfl (by omega) (fun _ => ?_) (fun h => absurd h (by decide))
    refine o_aload_n dS_greater_10 rfl ?_
    refine o_iload_n dS_greater_11 rfl ?_
    refine m_callV M_S_isWrite [.inl (dec c)] [] dS_greater_12 mk_S_isWrite in_S_isWrite se_S_isWrite rfl (by decide) rfl rfl ml_S_123 rfl rfl rfl (Nat.le_of_ble_eq_true rfl) rfl ?_
    refine c_isWriteD hm hm4 hc (fun u hu e => ?_) (fun e => ?_)
    · skip
      subst e
      show Om G M_S_greater 15 [(0, .inr (some (ad 0 0))), (1, .inl (nI w)), (2, .inl (nI u))] [.inl (nI 1)] mu Q
      refine n_if_ne 20 dS_greater_15 rfl (by omega) (fun _ => ?_) (fun h => absurd h (by decide))
      refine o_aload_n dS_greater_20 rfl ?_
      refine m_getr dS_greater_21 fl_S_11 rfl rfl (by decide) ?_
      refine o_iload_n dS_greater_24 rfl ?_
      refine m_aald u dS_greater_25 rfl rfl rfl (by decide) rfl (sh_q1 (by omega)) ?_
      refine m_geti dS_greater_26 fl_S_169 rfl rfl (show u < 40 by omega) ?_
      refine o_top (nI (v u)) (hv u hu) ?_
      refine o_aload_n dS_greater_29 rfl ?_
      refine m_getr dS_greater_30 fl_S_11 rfl rfl (by decide) ?_
      refine o_iload_n dS_greater_33 rfl ?_
      refine m_aald w dS_greater_34 rfl rfl rfl (by decide) rfl (sh_q1 (by omega)) ?_
      refine m_geti dS_greater_35 fl_S_169 rfl rfl (show w < 40 by omega) ?_
      refine o_top (nI (v w)) (hv w hw) ?_
      have b1 := hv2 u hu
      have b2 := hv2 w hw
      refine n_icmp_le 45 dS_greater_38 rfl (by omega) (by omega) (fun hb38 => ?_) (fun hb38 => ?_)
      · skip
        refine o_iload_n dS_greater_45 rfl ?_
        refine m_iret dS_greater_46 rfl ?_
        rw [gr_ge hb38] at k
        exact k
      · skip
        refine o_iload_n dS_greater_41 rfl ?_
        refine o_goto 46 dS_greater_42 rfl ?_
        refine m_iret dS_greater_46 rfl ?_
        rw [gr_lt hb38] at k
        exact k
    · skip
      subst e
      show Om G M_S_greater 15 [(0, .inr (some (ad 0 0))), (1, .inl (nI w)), (2, .inl (dec 0))] [.inl (nI 0)] mu Q
      refine n_if_ne 20 dS_greater_15 rfl (by omega) (fun h => absurd h (by decide)) (fun _ => ?_)
      refine o_iload_n dS_greater_18 rfl ?_
      refine m_iret dS_greater_19 rfl ?_
      rw [gr_n0] at k
      exact k
  · skip
    subst e
    show Om G M_S_greater 5 [(0, .inr (some (ad 0 0))), (1, .inl (dec 0)), (2, .inl (dec c))] [.inl (nI 0)] mu Q
    refine n_if_ne 10 dS_greater_5 rfl (by omega) (fun h => absurd h (by decide)) (fun _ => ?_)
    refine o_iload_n dS_greater_8 rfl ?_
    refine m_iret dS_greater_9 rfl ?_
    rw [gr_zz] at k
    exact k
theorem c_isOpen {G : oG} {mu : oMu} {Q : oPm} {i l : Nat} (hi : i < 6) (hl : mu 14 i 5 = nI l) (hl2 : l < 64) (kt : ¬ l = 0 → Q (some (.inl (nI 1))) mu) (kf : l = 0 → Q (some (.inl (nI 0))) mu) : Om G M_K_isOpen 0 [(0, .inr (some (ad 14 i)))] [] mu Q := by
  refine o_aload_n dK_isOpen_0 rfl ?_
  refine m_geti dK_isOpen_1 fl_K_29 rfl rfl hi ?_
  refine o_top (nI l) hl ?_
  refine n_if_eq 11 dK_isOpen_4 rfl (by omega) (fun hb4 => ?_) (fun hb4 => ?_)
  · skip
    refine o_iconst (nI 0) dK_isOpen_11 rfl ?_
    refine m_zret dK_isOpen_12 rfl rfl ?_
    exact kf hb4
  · skip
    refine o_iconst (nI 1) dK_isOpen_7 rfl ?_
    refine o_goto 12 dK_isOpen_8 rfl ?_
    refine m_zret dK_isOpen_12 rfl rfl ?_
    exact kt hb4
theorem c_fill {G : oG} {mu : oMu} {Q : oPm} {w q t c : Nat} {x : Int32} (hw : w < 40) (k : ∀ mu' : oMu, mu' 5 w = upd (upd (upd (upd (mu 5 w) 1 (nI q)) 2 x) 3 (nI t)) 4 (nI (4 * t + c)) → mfr [(5, w)] mu mu' → Q none mu') : Om G M_W_fill 0 [(0, .inr (some (ad 5 w))), (1, .inl (nI q)), (2, .inl x), (3, .inl (nI t)), (4, .inl (nI c))] [] mu Q := by
  refine o_aload_n dW_fill_0 rfl ?_
  refine o_iload_n dW_fill_1 rfl ?_
  refine m_puti dW_fill_2 fs_W_19 rfl rfl hw (fun mu1 hmu1 => ?_)
  refine o_aload_n dW_fill_5 rfl ?_
  refine o_iload_n dW_fill_6 rfl ?_
  refine m_puti dW_fill_7 fs_W_23 rfl rfl hw (fun mu2 hmu2 => ?_)
  refine o_aload_n dW_fill_10 rfl ?_
  refine o_iload_n dW_fill_11 rfl ?_
  refine m_puti dW_fill_12 fs_W_26 rfl rfl hw (fun mu3 hmu3 => ?_)
  refine o_aload_n dW_fill_15 rfl ?_
  refine o_iconst (nI 4) dW_fill_16 rfl ?_
  refine o_iload_n dW_fill_17 rfl ?_
  refine o_imul dW_fill_18 ?_
  refine o_top _ (pk_mul _ _) ?_
  refine o_iload dW_fill_19 rfl ?_
  refine o_iadd dW_fill_21 ?_
  refine o_top _ (nI_add _ _) ?_
  refine m_puti dW_fill_22 fs_W_29 rfl rfl hw (fun mu4 hmu4 => ?_)
  refine m_vret dW_fill_25 rfl ?_
  refine k mu4 ?_ (((mfr_up hmu1 (by simp)).tr (mfr_up hmu2 (by simp))).tr ((mfr_up hmu3 (by simp)).tr (mfr_up hmu4 (by simp))))
  rw [hmu4, up2_s, hmu3, up2_s, hmu2, up2_s, hmu1, up2_s]
theorem c_dependOn {G : oG} {mu : oMu} {Q : oPm} {w i z : Nat} (hw : w < 40) (hi : i < 6) (k : ∀ mu' : oMu, mu' 6 w = va_cpy (mu 15 i) (mu 6 w) 0 0 6 → mu' 5 w = upd (mu 5 w) 5 (nI z) → mfr [(5, w), (6, w)] mu mu' → Q none mu') : Om G M_W_dependOn 0 [(0, .inr (some (ad 5 w))), (1, .inr (some (ad 15 i))), (2, .inl (nI z))] [] mu Q := by
  refine o_aload_n dW_dependOn_0 rfl ?_
  refine o_iconst (nI 0) dW_dependOn_1 rfl ?_
  refine o_aload_n dW_dependOn_2 rfl ?_
  refine m_getr dW_dependOn_3 fl_W_13 rfl rfl hw ?_
  refine o_iconst (nI 0) dW_dependOn_6 rfl ?_
  refine o_bipush (nI 6) dW_dependOn_7 rfl ?_
  refine m_copy 0 0 6 dW_dependOn_9 cp_W_32 wc_n wc_s wc_i rfl rfl rfl rfl rfl rfl rfl hi hw rfl rfl rfl (by decide) (by decide) (fun mu1 hmu1 => ?_)
  refine o_aload_n dW_dependOn_12 rfl ?_
  refine o_iload_n dW_dependOn_13 rfl ?_
  refine m_puti dW_dependOn_14 fs_W_38 rfl rfl hw (fun mu2 hmu2 => ?_)
  refine m_vret dW_dependOn_17 rfl ?_
  exact k mu2 (by rw [hmu2, up2_t (by decide), hmu1, up2_s]) (by rw [hmu2, up2_s, hmu1, up2_t (by decide)]) ((mfr_up hmu1 (by simp)).tr (mfr_up hmu2 (by simp)))
