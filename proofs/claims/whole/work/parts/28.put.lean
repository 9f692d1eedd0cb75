/-! The class's put. -/
theorem wOk.put {mu mu' : oMu} {m : Nat} {ky vr nd : Nat → Nat} {dp : Nat → Nat → Nat} (h : wOk mu m ky vr nd dp) (h0 : mu' 0 0 4 = nI m) (h5 : ∀ w, w < m → mu' 5 w = mu 5 w) (h6 : ∀ w, w < m → mu' 6 w = mu 6 w) : wOk mu' m ky vr nd dp := by
  refine ⟨h0, h.2.1, fun w hw => ?_⟩
  rw [h5 w hw, h6 w hw]
  exact h.2.2 w hw
theorem wOk.add {mu mu' : oMu} {m q n v : Nat} {ky vr nd y : Nat → Nat} {dp : Nat → Nat → Nat} (h : wOk mu m ky vr nd dp) (hm : m < 40) (h0 : mu' 0 0 4 = nI (m + 1)) (h5 : ∀ w, w < m → mu' 5 w = mu 5 w) (h6 : ∀ w, w < m → mu' 6 w = mu 6 w) (a1 : mu' 5 m 1 = nI q) (a3 : mu' 5 m 3 = nI (v / 4)) (a4 : mu' 5 m 4 = nI v) (a5 : mu' 5 m 5 = nI n) (hq : q < 6) (hv : v < 1000) (hn : n < 64) (hy : ∀ k, k < 6 → mu' 6 m k = dec (y k) ∧ y k ≤ m) : wOk mu' (m + 1) (va_up ky m q) (va_up vr m v) (va_up nd m n) (va_up dp m y) := by
  refine ⟨h0, hm, fun w hw => ?_⟩
  by_cases e : w = m
  · subst e
    simp only [va_s]
    exact ⟨⟨a1, a3, a4, a5⟩, ⟨hq, hv, hn⟩, fun k hk => ⟨(hy k hk).1, Nat.le_succ_of_le (hy k hk).2⟩⟩
  · have hw2 : w < m := by omega
    simp only [va_n e]
    rw [h5 w hw2, h6 w hw2]
    have h9 := h.2.2 w hw2
    exact ⟨h9.1, h9.2.1, fun k hk => ⟨(h9.2.2 k hk).1, Nat.le_succ_of_le (h9.2.2 k hk).2⟩⟩
theorem xOk.gr {mu : oMu} {t i m m' : Nat} {x : Nat → Nat} (h : xOk mu t i m x) (hm : m ≤ m') : xOk mu t i m' x := fun k hk => ⟨(h k hk).1, Nat.le_trans (h k hk).2 hm⟩
def flP (fl : Nat → List Nat) (c m : Nat) : Nat → List Nat := fun z => if z / 3 = c ∧ ¬ z % 3 = c then fl z ++ [m] else fl z
theorem C_put_b1 {G : oG} {mu : oMu} {Q : oPm} {a b v : Int32} (ha : ∀ j, j < 6 → ¬ a = nI j) (k : Q (some (.inl (-1))) mu) : Om G M_S_put 0 [(0, .inr (some (ad 0 0))), (1, .inl a), (2, .inl b), (3, .inl v)] [] mu Q := by
  refine o_iload_n dS_put_0 rfl ?_
  refine m_callS M_S_isClient [.inl a] [] dS_put_1 mk_S_isClient st_S_isClient ml_S_39 rfl rfl rfl (Nat.le_of_ble_eq_true rfl) rfl ?_
  refine c_isClient_n ha ?_
  show Om G M_S_put 4 [(0, .inr (some (ad 0 0))), (1, .inl a), (2, .inl b), (3, .inl v)] [.inl (nI 0)] mu Q
  refine n_if_eq 14 dS_put_4 rfl (by omega) (fun _ => ?_) (fun h => absurd h (by decide))
  refine o_iconst (-1) dS_put_14 rfl ?_
  refine m_iret dS_put_15 rfl ?_
  exact k
theorem C_put_b2 {G : oG} {mu : oMu} {Q : oPm} {i : Nat} {b v : Int32} (hi : i < 6) (hb : ∀ j, j < 6 → ¬ b = nI j) (k : Q (some (.inl (-1))) mu) : Om G M_S_put 0 [(0, .inr (some (ad 0 0))), (1, .inl (nI i)), (2, .inl b), (3, .inl v)] [] mu Q := by
  refine o_iload_n dS_put_0 rfl ?_
  refine m_callS M_S_isClient [.inl (nI i)] [] dS_put_1 mk_S_isClient st_S_isClient ml_S_39 rfl rfl rfl (Nat.le_of_ble_eq_true rfl) rfl ?_
  refine c_isClient_y hi ?_
  show Om G M_S_put 4 [(0, .inr (some (ad 0 0))), (1, .inl (nI i)), (2, .inl b), (3, .inl v)] [.inl (nI 1)] mu Q
  refine n_if_eq 14 dS_put_4 rfl (by omega) (fun h => absurd h (by decide)) (fun _ => ?_)
  refine o_iload_n dS_put_7 rfl ?_
  refine m_callS M_S_isKey [.inl b] [] dS_put_8 mk_S_isKey st_S_isKey ml_S_43 rfl rfl rfl (Nat.le_of_ble_eq_true rfl) rfl ?_
  refine c_isKey_n hb ?_
  show Om G M_S_put 11 [(0, .inr (some (ad 0 0))), (1, .inl (nI i)), (2, .inl b), (3, .inl v)] [.inl (nI 0)] mu Q
  refine n_if_ne 16 dS_put_11 rfl (by omega) (fun h => absurd h (by decide)) (fun _ => ?_)
  refine o_iconst (-1) dS_put_14 rfl ?_
  refine m_iret dS_put_15 rfl ?_
  exact k
theorem C_put_busy {G : oG} {mu : oMu} {Q : oPm} {m : Nat} {ky vr nd : Nat → Nat} {dp : Nat → Nat → Nat} {vl : Nat → Int32} {sn ck : Nat → Nat → Nat} {wt fl : Nat → List Nat} {x h d : Nat → Nat → Nat} {s l r : Nat → Nat} (hC : ReC mu m ky vr nd dp vl sn ck wt fl x h d s l r) {i q : Nat} {v : Int32} (hi : i < 6) (hl6 : l i < 64) (hq : q < 6) (hl0 : ¬ l i = 0) (k : Q (some (.inl (-2))) mu) : Om G M_S_put 0 [(0, .inr (some (ad 0 0))), (1, .inl (nI i)), (2, .inl (nI q)), (3, .inl v)] [] mu Q := by
  refine o_iload_n dS_put_0 rfl ?_
  refine m_callS M_S_isClient [.inl (nI i)] [] dS_put_1 mk_S_isClient st_S_isClient ml_S_39 rfl rfl rfl (Nat.le_of_ble_eq_true rfl) rfl ?_
  refine c_isClient_y hi ?_
  show Om G M_S_put 4 [(0, .inr (some (ad 0 0))), (1, .inl (nI i)), (2, .inl (nI q)), (3, .inl v)] [.inl (nI 1)] mu Q
  refine n_if_eq 14 dS_put_4 rfl (by omega) (fun h => absurd h (by decide)) (fun _ => ?_)
  refine o_iload_n dS_put_7 rfl ?_
  refine m_callS M_S_isKey [.inl (nI q)] [] dS_put_8 mk_S_isKey st_S_isKey ml_S_43 rfl rfl rfl (Nat.le_of_ble_eq_true rfl) rfl ?_
  refine c_isKey_y hq ?_
  show Om G M_S_put 11 [(0, .inr (some (ad 0 0))), (1, .inl (nI i)), (2, .inl (nI q)), (3, .inl v)] [.inl (nI 1)] mu Q
  refine n_if_ne 16 dS_put_11 rfl (by omega) (fun _ => ?_) (fun h => absurd h (by decide))
  refine o_aload_n dS_put_16 rfl ?_
  refine m_getr dS_put_17 fl_S_23 rfl rfl (by decide) ?_
  refine o_iload_n dS_put_20 rfl ?_
  refine m_aald i dS_put_21 rfl rfl rfl (by decide) rfl (sh_q3 hi) ?_
  refine o_astore [(0, _), (1, _), (2, _), (3, _), (4, _)] dS_put_22 rfl rfl ?_
  refine o_aload dS_put_24 rfl ?_
  refine m_callV M_K_isOpen [] [] dS_put_26 mk_K_isOpen in_K_isOpen se_K_isOpen rfl hi rfl rfl ml_S_46 rfl rfl rfl (Nat.le_of_ble_eq_true rfl) rfl ?_
  refine c_isOpen hi (hC.fle hi) hl6 (fun h9 => ?_) (fun h9 => ?_)
  · skip
    show Om G M_S_put 29 [(0, .inr (some (ad 0 0))), (1, .inl (nI i)), (2, .inl (nI q)), (3, .inl v), (4, .inr (some (ad 14 i)))] [.inl (nI 1)] mu Q
    refine n_if_eq 35 dS_put_29 rfl (by omega) (fun h => absurd h (by decide)) (fun _ => ?_)
    refine o_bipush (-2) dS_put_32 rfl ?_
    refine m_iret dS_put_34 rfl ?_
    exact k
  · skip
    exact absurd h9 hl0
theorem C_put_full {G : oG} {mu : oMu} {Q : oPm} {m : Nat} {ky vr nd : Nat → Nat} {dp : Nat → Nat → Nat} {vl : Nat → Int32} {sn ck : Nat → Nat → Nat} {wt fl : Nat → List Nat} {x h d : Nat → Nat → Nat} {s l r : Nat → Nat} (hC : ReC mu m ky vr nd dp vl sn ck wt fl x h d s l r) {i q : Nat} {v : Int32} (hi : i < 6) (hl6 : l i < 64) (hq : q < 6) (hl0 : l i = 0) (hm : m = 40) (k : Q (some (.inl (-3))) mu) : Om G M_S_put 0 [(0, .inr (some (ad 0 0))), (1, .inl (nI i)), (2, .inl (nI q)), (3, .inl v)] [] mu Q := by
  refine o_iload_n dS_put_0 rfl ?_
  refine m_callS M_S_isClient [.inl (nI i)] [] dS_put_1 mk_S_isClient st_S_isClient ml_S_39 rfl rfl rfl (Nat.le_of_ble_eq_true rfl) rfl ?_
  refine c_isClient_y hi ?_
  show Om G M_S_put 4 [(0, .inr (some (ad 0 0))), (1, .inl (nI i)), (2, .inl (nI q)), (3, .inl v)] [.inl (nI 1)] mu Q
  refine n_if_eq 14 dS_put_4 rfl (by omega) (fun h => absurd h (by decide)) (fun _ => ?_)
  refine o_iload_n dS_put_7 rfl ?_
  refine m_callS M_S_isKey [.inl (nI q)] [] dS_put_8 mk_S_isKey st_S_isKey ml_S_43 rfl rfl rfl (Nat.le_of_ble_eq_true rfl) rfl ?_
  refine c_isKey_y hq ?_
  show Om G M_S_put 11 [(0, .inr (some (ad 0 0))), (1, .inl (nI i)), (2, .inl (nI q)), (3, .inl v)] [.inl (nI 1)] mu Q
  refine n_if_ne 16 dS_put_11 rfl (by omega) (fun _ => ?_) (fun h => absurd h (by decide))
  refine o_aload_n dS_put_16 rfl ?_
  refine m_getr dS_put_17 fl_S_23 rfl rfl (by decide) ?_
  refine o_iload_n dS_put_20 rfl ?_
  refine m_aald i dS_put_21 rfl rfl rfl (by decide) rfl (sh_q3 hi) ?_
  refine o_astore [(0, _), (1, _), (2, _), (3, _), (4, _)] dS_put_22 rfl rfl ?_
  refine o_aload dS_put_24 rfl ?_
  refine m_callV M_K_isOpen [] [] dS_put_26 mk_K_isOpen in_K_isOpen se_K_isOpen rfl hi rfl rfl ml_S_46 rfl rfl rfl (Nat.le_of_ble_eq_true rfl) rfl ?_
  refine c_isOpen hi (hC.fle hi) hl6 (fun h9 => ?_) (fun h9 => ?_)
  · skip
    exact absurd hl0 h9
  · skip
    show Om G M_S_put 29 [(0, .inr (some (ad 0 0))), (1, .inl (nI i)), (2, .inl (nI q)), (3, .inl v), (4, .inr (some (ad 14 i)))] [.inl (nI 0)] mu Q
    refine n_if_eq 35 dS_put_29 rfl (by omega) (fun _ => ?_) (fun h => absurd h (by decide))
    refine o_aload_n dS_put_35 rfl ?_
    refine m_geti dS_put_36 fl_S_50 rfl rfl (by decide) ?_
    refine o_top (nI m) hC.fw.mm ?_
    refine o_bipush (nI 40) dS_put_39 rfl ?_
    refine n_icmp_lt 47 dS_put_41 rfl (by omega) (by omega) (fun h => absurd h (by omega)) (fun hb41 => ?_)
    refine o_bipush (-3) dS_put_44 rfl ?_
    refine m_iret dS_put_46 rfl ?_
    exact k
theorem C_put {G : oG} {mu : oMu} {Q : oPm} {m : Nat} {ky vr nd : Nat → Nat} {dp : Nat → Nat → Nat} {vl : Nat → Int32} {sn ck : Nat → Nat → Nat} {wt fl : Nat → List Nat} {x h d : Nat → Nat → Nat} {s l r : Nat → Nat} (hC : ReC mu m ky vr nd dp vl sn ck wt fl x h d s l r) {i q : Nat} {v : Int32} (hi : i < 6) (hl6 : l i < 64) (hq : q < 6) (hl0 : l i = 0) (hm : m < 40) (hck : ck (i % 3) (q % 2) < 1000) (hT : tmx (ck (i % 3) (q % 2)) (x i) vr 6 ≤ 40) (hz : ∀ c, c < 3 → ∀ w, m ≤ w → w < 40 → sn c w = 0) (hfl : ∀ z, z < 9 → (fl z).length < 40) (k : ∀ mu' : oMu, ReC mu' (m + 1) (va_up ky m q) (va_up vr m (4 * (tmx (ck (i % 3) (q % 2)) (x i) vr 6 + 1) + i % 3)) (va_up nd m (nearB (x i) dp 6)) (va_up dp m (x i)) (va_up vl m v) (va_up sn (i % 3) (va_up (sn (i % 3)) m 1)) (va_up ck (i % 3) (va_up (ck (i % 3)) (q % 2) (tmx (ck (i % 3) (q % 2)) (x i) vr 6 + 1))) wt (flP fl (i % 3) m) (va_up x i (sX (x i) (x i) (va_up vr m (4 * (tmx (ck (i % 3) (q % 2)) (x i) vr 6 + 1) + i % 3)) q m)) h d s l r → mgt mu mu' → Q (some (.inl (nI m))) mu') : Om G M_S_put 0 [(0, .inr (some (ad 0 0))), (1, .inl (nI i)), (2, .inl (nI q)), (3, .inl v)] [] mu Q := by
  have hm4 := hC.fw.m4
  refine o_iload_n dS_put_0 rfl ?_
  refine m_callS M_S_isClient [.inl (nI i)] [] dS_put_1 mk_S_isClient st_S_isClient ml_S_39 rfl rfl rfl (Nat.le_of_ble_eq_true rfl) rfl ?_
  refine c_isClient_y hi ?_
  show Om G M_S_put 4 [(0, .inr (some (ad 0 0))), (1, .inl (nI i)), (2, .inl (nI q)), (3, .inl v)] [.inl (nI 1)] mu Q
  refine n_if_eq 14 dS_put_4 rfl (by omega) (fun h => absurd h (by decide)) (fun _ => ?_)
  refine o_iload_n dS_put_7 rfl ?_
  refine m_callS M_S_isKey [.inl (nI q)] [] dS_put_8 mk_S_isKey st_S_isKey ml_S_43 rfl rfl rfl (Nat.le_of_ble_eq_true rfl) rfl ?_
  refine c_isKey_y hq ?_
  show Om G M_S_put 11 [(0, .inr (some (ad 0 0))), (1, .inl (nI i)), (2, .inl (nI q)), (3, .inl v)] [.inl (nI 1)] mu Q
  refine n_if_ne 16 dS_put_11 rfl (by omega) (fun _ => ?_) (fun h => absurd h (by decide))
  refine o_aload_n dS_put_16 rfl ?_
  refine m_getr dS_put_17 fl_S_23 rfl rfl (by decide) ?_
  refine o_iload_n dS_put_20 rfl ?_
  refine m_aald i dS_put_21 rfl rfl rfl (by decide) rfl (sh_q3 hi) ?_
  refine o_astore [(0, _), (1, _), (2, _), (3, _), (4, _)] dS_put_22 rfl rfl ?_
  refine o_aload dS_put_24 rfl ?_
  refine m_callV M_K_isOpen [] [] dS_put_26 mk_K_isOpen in_K_isOpen se_K_isOpen rfl hi rfl rfl ml_S_46 rfl rfl rfl (Nat.le_of_ble_eq_true rfl) rfl ?_
  refine c_isOpen hi (hC.fle hi) hl6 (fun h9 => ?_) (fun h9 => ?_)
  · skip
    exact absurd hl0 h9
  · skip
    show Om G M_S_put 29 [(0, .inr (some (ad 0 0))), (1, .inl (nI i)), (2, .inl (nI q)), (3, .inl v), (4, .inr (some (ad 14 i)))] [.inl (nI 0)] mu Q
    refine n_if_eq 35 dS_put_29 rfl (by omega) (fun _ => ?_) (fun h => absurd h (by decide))
    refine o_aload_n dS_put_35 rfl ?_
    refine m_geti dS_put_36 fl_S_50 rfl rfl (by decide) ?_
    refine o_top (nI m) hC.fw.mm ?_
    refine o_bipush (nI 40) dS_put_39 rfl ?_
    refine n_icmp_lt 47 dS_put_41 rfl (by omega) (by omega) (fun hb41 => ?_) (fun h => absurd h (by omega))
    refine o_aload_n dS_put_47 rfl ?_
    refine o_aload dS_put_48 rfl ?_
    refine o_iload_n dS_put_50 rfl ?_
    refine o_iconst (nI 2) dS_put_51 rfl ?_
    refine o_irem dS_put_52 (by decide) ?_
    refine o_top _ (pk_rem (by omega) (by decide) (by decide)) ?_
    refine m_callV M_S_tick [.inr (some (ad 14 i)), .inl (nI (q % 2))] [] dS_put_53 mk_S_tick in_S_tick se_S_tick rfl (by decide) rfl rfl ml_S_54 rfl rfl rfl (Nat.le_of_ble_eq_true rfl) rfl ?_
    refine c_tick hC.fw hi (show i % 3 < 3 by omega) (show q % 2 < 2 by omega) hck (hC.fx hi) (hC.fce hi) (hC.fck (by omega) (by omega)) (fun mu1 hmu1 => ?_)
    have hf1 := mfr_up (L := [(10, i % 3)]) hmu1 (by simp)
    have hW1 := hC.fw.fr hf1 rfl
    show Om G M_S_put 56 [(0, .inr (some (ad 0 0))), (1, .inl (nI i)), (2, .inl (nI q)), (3, .inl v), (4, .inr (some (ad 14 i)))] [.inl (nI (tmx (ck (i % 3) (q % 2)) (x i) vr 6 + 1))] mu1 Q
    refine o_istore [(0, _), (1, _), (2, _), (3, _), (4, _), (5, _)] dS_put_56 rfl rfl ?_
    refine o_aload_n dS_put_58 rfl ?_
    refine m_geti dS_put_59 fl_S_50 rfl rfl (by decide) ?_
    refine o_top (nI m) hW1.mm ?_
    refine o_istore [(0, _), (1, _), (2, _), (3, _), (4, _), (5, _), (6, _)] dS_put_62 rfl rfl ?_
    refine o_aload_n dS_put_64 rfl ?_
    refine m_getr dS_put_65 fl_S_11 rfl rfl (by decide) ?_
    refine o_iload dS_put_68 rfl ?_
    refine m_aald m dS_put_70 rfl rfl rfl (by decide) rfl (sh_q1 hm) ?_
    refine o_iload_n dS_put_71 rfl ?_
    refine o_iload_n dS_put_72 rfl ?_
    refine o_iload dS_put_73 rfl ?_
    refine o_aload dS_put_75 rfl ?_
    refine m_geti dS_put_77 fl_S_58 rfl rfl hi ?_
    refine o_top (nI (i % 3)) (by rw [hf1 14 i (by simp)]; exact hC.fce hi) ?_
    refine m_callV M_W_fill [.inl (nI q), .inl v, .inl (nI (tmx (ck (i % 3) (q % 2)) (x i) vr 6 + 1)), .inl (nI (i % 3))] [] dS_put_80 mk_W_fill in_W_fill se_W_fill rfl hm rfl rfl ml_S_61 rfl rfl rfl (Nat.le_of_ble_eq_true rfl) rfl ?_
    refine c_fill hm (fun mu2 h5a hf2 => ?_)
    have hW2 : wOk mu2 m ky vr nd dp := hW1.put (by rw [hf2 0 0 (by simp)]; exact hW1.mm) (fun w hw => hf2 5 w (by simp; omega)) (fun w hw => hf2 6 w (by simp))
    have hX2 : xOk mu2 15 i m (x i) := ((hC.fx hi).fr hf1 (by simp)).fr hf2 (by simp)
    show Om G M_S_put 83 [(0, .inr (some (ad 0 0))), (1, .inl (nI i)), (2, .inl (nI q)), (3, .inl v), (4, .inr (some (ad 14 i))), (5, .inl (nI (tmx (ck (i % 3) (q % 2)) (x i) vr 6 + 1))), (6, .inl (nI m))] [] mu2 Q
    refine o_aload_n dS_put_83 rfl ?_
    refine m_getr dS_put_84 fl_S_11 rfl rfl (by decide) ?_
    refine o_iload dS_put_87 rfl ?_
    refine m_aald m dS_put_89 rfl rfl rfl (by decide) rfl (sh_q1 hm) ?_
    refine o_aload dS_put_90 rfl ?_
    refine m_getr dS_put_92 fl_S_65 rfl rfl hi ?_
    refine o_aload_n dS_put_95 rfl ?_
    refine o_aload dS_put_96 rfl ?_
    refine m_getr dS_put_98 fl_S_65 rfl rfl hi ?_
    refine m_callV M_S_nearestKeys [.inr (some (ad 15 i))] [.inr (some (ad 15 i)), .inr (some (ad 5 m))] dS_put_101 mk_S_nearestKeys in_S_nearestKeys se_S_nearestKeys rfl (by decide) rfl rfl ml_S_69 rfl rfl rfl (Nat.le_of_ble_eq_true rfl) rfl ?_
    refine c_nearestKeys hW2 hi hX2 ?_
    show Om G M_S_put 104 [(0, .inr (some (ad 0 0))), (1, .inl (nI i)), (2, .inl (nI q)), (3, .inl v), (4, .inr (some (ad 14 i))), (5, .inl (nI (tmx (ck (i % 3) (q % 2)) (x i) vr 6 + 1))), (6, .inl (nI m))] [.inl (nI (nearB (x i) dp 6)), .inr (some (ad 15 i)), .inr (some (ad 5 m))] mu2 Q
    refine m_callV M_W_dependOn [.inr (some (ad 15 i)), .inl (nI (nearB (x i) dp 6))] [] dS_put_104 mk_W_dependOn in_W_dependOn se_W_dependOn rfl hm rfl rfl ml_S_73 rfl rfl rfl (Nat.le_of_ble_eq_true rfl) rfl ?_
    refine c_dependOn hm hi (fun mu3 h6a h5b hf3 => ?_)
    show Om G M_S_put 107 [(0, .inr (some (ad 0 0))), (1, .inl (nI i)), (2, .inl (nI q)), (3, .inl v), (4, .inr (some (ad 14 i))), (5, .inl (nI (tmx (ck (i % 3) (q % 2)) (x i) vr 6 + 1))), (6, .inl (nI m))] [] mu3 Q
    refine o_aload_n dS_put_107 rfl ?_
    refine o_dup dS_put_108 ?_
    refine m_geti dS_put_109 fl_S_50 rfl rfl (by decide) ?_
    refine o_top (nI m) (by rw [hf3 0 0 (by simp)]; exact hW2.mm) ?_
    refine o_iconst (nI 1) dS_put_112 rfl ?_
    refine o_iadd dS_put_113 ?_
    refine o_top _ (nI_add _ _) ?_
    refine m_puti dS_put_114 fs_S_50 rfl rfl (by decide) (fun mu4 hmu4 => ?_)
    have hf4 := mfr_up (L := [(0, 0)]) hmu4 (by simp)
    have h5m : mu4 5 m = upd (upd (upd (upd (upd (mu1 5 m) 1 (nI q)) 2 v) 3 (nI (tmx (ck (i % 3) (q % 2)) (x i) vr 6 + 1))) 4 (nI (4 * (tmx (ck (i % 3) (q % 2)) (x i) vr 6 + 1) + i % 3))) 5 (nI (nearB (x i) dp 6)) := by rw [hf4 5 m (by simp), h5b, h5a]
    have hW4 : wOk mu4 (m + 1) (va_up ky m q) (va_up vr m (4 * (tmx (ck (i % 3) (q % 2)) (x i) vr 6 + 1) + i % 3)) (va_up nd m (nearB (x i) dp 6)) (va_up dp m (x i)) := by
      refine hW2.add hm (by rw [hmu4, up2_s]; simp [upd]) (fun w hw => ?_) (fun w hw => ?_) (by rw [h5m]; simp [upd]) (by rw [h5m, show (4 * (tmx (ck (i % 3) (q % 2)) (x i) vr 6 + 1) + i % 3) / 4 = tmx (ck (i % 3) (q % 2)) (x i) vr 6 + 1 by omega]; simp [upd]) (by rw [h5m]; simp [upd]) (by rw [h5m]; simp [upd]) hq (by omega) (nearB_lt 6 (Nat.le_refl _)) (fun z hz9 => ?_)
      · rw [hf4 5 w (by simp), hf3 5 w (by simp; omega)]
      · rw [hf4 6 w (by simp), hf3 6 w (by simp; omega)]
      · rw [hf4 6 m (by simp), h6a]
        have e9 : va_cpy (mu2 15 i) (mu2 6 m) 0 0 6 z = mu2 15 i z := by
          unfold va_cpy
          rw [if_pos (by omega), show 0 + (z - 0) = z by omega]
        rw [e9]
        exact hX2 z hz9
    have hn4 : mu4 9 (i % 3) ((va_up ky m q) m) = dec (latN (sn (i % 3)) ky vr ((va_up ky m q) m) m) := by
      rw [hf4 9 _ (by simp), hf3 9 _ (by simp), hf2 9 _ (by simp), hf1 9 _ (by simp)]
      exact (hC.fnw (show i % 3 < 3 by omega) _ (by rw [va_s]; exact hq)).1
    have hlm : latN (sn (i % 3)) ky vr ((va_up ky m q) m) m ≤ m + 1 := Nat.le_succ_of_le (latN_le m)
    refine o_aload_n dS_put_117 rfl ?_
    refine o_aload dS_put_118 rfl ?_
    refine m_geti dS_put_120 fl_S_58 rfl rfl hi ?_
    refine o_top (nI (i % 3)) (by rw [hf4 14 i (by simp), hf3 14 i (by simp), hf2 14 i (by simp), hf1 14 i (by simp)]; exact hC.fce hi) ?_
    refine o_iload dS_put_123 rfl ?_
    refine m_callV M_S_show [.inl (nI (i % 3)), .inl (nI m)] [] dS_put_125 mk_S_show in_S_show se_S_show rfl (by decide) rfl rfl ml_S_77 rfl rfl rfl (Nat.le_of_ble_eq_true rfl) rfl ?_
    refine c_show hW4 (show i % 3 < 3 by omega) (Nat.lt_succ_self m) hn4 hlm (fun mu5 h8 h9b hf5 => ?_)
    show Om G M_S_put 128 [(0, .inr (some (ad 0 0))), (1, .inl (nI i)), (2, .inl (nI q)), (3, .inl v), (4, .inr (some (ad 14 i))), (5, .inl (nI (tmx (ck (i % 3) (q % 2)) (x i) vr 6 + 1))), (6, .inl (nI m))] [] mu5 Q
    refine o_aload_n dS_put_128 rfl ?_
    refine o_aload dS_put_129 rfl ?_
    refine m_geti dS_put_131 fl_S_58 rfl rfl hi ?_
    refine o_top (nI (i % 3)) (by rw [hf5 14 i (by simp), hf4 14 i (by simp), hf3 14 i (by simp), hf2 14 i (by simp), hf1 14 i (by simp)]; exact hC.fce hi) ?_
    refine o_iload dS_put_134 rfl ?_
    refine m_callV M_S_send [.inl (nI (i % 3)), .inl (nI m)] [] dS_put_136 mk_S_send in_S_send se_S_send rfl (by decide) rfl rfl ml_S_81 rfl rfl rfl (Nat.le_of_ble_eq_true rfl) rfl ?_
    refine c_send (w := m) (sz := fun z => (fl z).length) (show i % 3 < 3 by omega) (fun z hz9 => ⟨by rw [hf5 18 z (by simp), hf4 18 z (by simp), hf3 18 z (by simp), hf2 18 z (by simp), hf1 18 z (by simp)]; exact (hC.ffl hz9).1, hfl z hz9⟩) (fun mu6 hr6 => ?_)
    have hf45 : mfr [(10, i % 3), (5, m), (6, m), (0, 0), (8, i % 3), (9, i % 3)] mu mu5 := ((((hf1.wk (by simp)).tr (hf2.wk (by simp))).tr (hf3.wk (by simp))).tr (hf4.wk (by simp))).tr (hf5.wk (by simp))
    have hW6 : wOk mu6 (m + 1) (va_up ky m q) (va_up vr m (4 * (tmx (ck (i % 3) (q % 2)) (x i) vr 6 + 1) + i % 3)) (va_up nd m (nearB (x i) dp 6)) (va_up dp m (x i)) := by
      have h7 := hW4.fr hf5 rfl
      refine ⟨by rw [hr6.2 0 0 (by decide) (by decide)]; exact h7.1, h7.2.1, fun w hw => ?_⟩
      rw [hr6.2 5 w (by decide) (by decide), hr6.2 6 w (by decide) (by decide)]
      exact h7.2.2 w hw
    have hX6 : xOk mu6 15 i (m + 1) (x i) := fun z hz9 => by
      rw [hr6.2 15 i (by decide) (by decide), hf45 15 i (by simp)]
      exact ⟨(hC.fx hi z hz9).1, Nat.le_succ_of_le (hC.fx hi z hz9).2⟩
    show Om G M_S_put 139 [(0, .inr (some (ad 0 0))), (1, .inl (nI i)), (2, .inl (nI q)), (3, .inl v), (4, .inr (some (ad 14 i))), (5, .inl (nI (tmx (ck (i % 3) (q % 2)) (x i) vr 6 + 1))), (6, .inl (nI m))] [] mu6 Q
    refine o_aload_n dS_put_139 rfl ?_
    refine o_aload dS_put_140 rfl ?_
    refine o_iload dS_put_142 rfl ?_
    refine m_callV M_S_see [.inr (some (ad 14 i)), .inl (nI m)] [] dS_put_144 mk_S_see in_S_see se_S_see rfl (by decide) rfl rfl ml_S_84 rfl rfl rfl (Nat.le_of_ble_eq_true rfl) rfl ?_
    refine c_see hW6 hi (a := m + 1) (Nat.le_refl _) hX6 (fun e => ?_) (fun w hw e mu7 hx7 hf7 => ?_)
    · skip
      exact absurd e (by omega)
    · skip
      obtain rfl : m = w := by omega
      show Om G M_S_put 147 [(0, .inr (some (ad 0 0))), (1, .inl (nI i)), (2, .inl (nI q)), (3, .inl v), (4, .inr (some (ad 14 i))), (5, .inl (nI (tmx (ck (i % 3) (q % 2)) (x i) vr 6 + 1))), (6, .inl (nI m))] [] mu7 Q
      refine o_iload dS_put_147 rfl ?_
      refine m_iret dS_put_149 rfl ?_
      rw [va_s, va_s] at hx7
      have g7 : ∀ t j, ¬ t = 15 → ¬ t = 18 → ¬ t = 19 → mu7 t j = mu5 t j := fun t j a b c => by rw [hf7 t j (by simp [a]), hr6.2 t j b c]
      refine k mu7 ?_ (fun t j ht => ?_)
      · refine ⟨?_, fun w hw => ?_, fun c hc => ⟨fun w hw => ?_, fun z hz9 => ?_, fun p hp => ?_⟩, fun z hz9 => ?_, fun z hz9 => ?_, fun j hj => ?_⟩
        · have h7 := hW6.fr hf7 rfl
          exact h7
        · rw [g7 5 w (by decide) (by decide) (by decide), hf5 5 w (by simp)]
          by_cases e9 : w = m
          · subst e9
            rw [h5m, va_s]
            simp [upd]
          · rw [va_n e9, hf4 5 w (by simp), hf3 5 w (by simp [e9]), hf2 5 w (by simp [e9]), hf1 5 w (by simp)]
            exact hC.fv (by omega)
        · rw [g7 8 c (by decide) (by decide) (by decide)]
          by_cases ec : c = i % 3
          · subst ec
            rw [va_s, h8]
            by_cases ew : w = m
            · subst ew
              rw [va_s]
              simp [upd]
            · rw [va_n ew]
              simp only [upd, ew, if_false]
              rw [hf4 8 _ (by simp), hf3 8 _ (by simp), hf2 8 _ (by simp), hf1 8 _ (by simp)]
              exact hC.fsn hc w hw
          · rw [va_n ec, hf45 8 c (by simp [ec])]
            exact hC.fsn hc w hw
        · show mu7 9 c z = dec (latN (va_up sn (i % 3) (va_up (sn (i % 3)) m 1) c) (va_up ky m q) (va_up vr m (4 * (tmx (ck (i % 3) (q % 2)) (x i) vr 6 + 1) + i % 3)) z (m + 1)) ∧ latN (va_up sn (i % 3) (va_up (sn (i % 3)) m 1) c) (va_up ky m q) (va_up vr m (4 * (tmx (ck (i % 3) (q % 2)) (x i) vr 6 + 1) + i % 3)) z (m + 1) ≤ m + 1
          refine ⟨?_, latN_le (m + 1)⟩
          rw [g7 9 c (by decide) (by decide) (by decide)]
          by_cases ec : c = i % 3
          · subst ec
            rw [va_s, h9b, latN, latN_ext (sn := sn (i % 3)) (ky := ky) (vr := vr) m (fun u hu => ⟨va_n (Nat.ne_of_lt hu), va_n (Nat.ne_of_lt hu), va_n (Nat.ne_of_lt hu)⟩)]
            by_cases ez : z = (va_up ky m q) m
            · rw [if_pos ⟨by rw [va_s]; decide, ez.symm⟩, ez]
              simp [upd]
            · rw [if_neg (fun y => ez y.2.symm)]
              simp only [upd, ez, if_false]
              rw [hf4 9 _ (by simp), hf3 9 _ (by simp), hf2 9 _ (by simp), hf1 9 _ (by simp)]
              exact (hC.fnw hc z hz9).1
          · rw [va_n ec, hf45 9 c (by simp [ec]), latN, latN_ext (sn := sn c) (ky := ky) (vr := vr) m (fun u hu => ⟨rfl, va_n (Nat.ne_of_lt hu), va_n (Nat.ne_of_lt hu)⟩), if_neg (fun y => y.1 (hz c hc m (Nat.le_refl _) hm))]
            exact (hC.fnw hc z hz9).1
        · rw [g7 10 c (by decide) (by decide) (by decide), hf5 10 c (by simp), hf4 10 c (by simp), hf3 10 c (by simp), hf2 10 c (by simp)]
          by_cases ec : c = i % 3
          · subst ec
            rw [va_s, hmu1, up2_s]
            by_cases ep : p = q % 2
            · subst ep
              rw [va_s]
              simp [upd]
            · rw [va_n ep]
              simp only [upd, ep, if_false]
              exact hC.fck hc hp
          · rw [va_n ec, hf1 10 c (by simp [ec])]
            exact hC.fck hc hp
        · have h8r := hC.fwt hz9
          unfold rowOk at h8r ⊢
          rw [g7 12 z (by decide) (by decide) (by decide), g7 13 z (by decide) (by decide) (by decide), hf45 12 z (by simp), hf45 13 z (by simp)]
          exact h8r
        · have h5r : rowOk mu5 18 19 z (fl z) := (hC.ffl hz9).fr hf45 (by simp) (by simp)
          have h6r := hr6.1 z hz9
          have h6s : rowOk mu6 18 19 z (flP fl (i % 3) m z) := by
            unfold flP
            by_cases es : z / 3 = i % 3 ∧ ¬ z % 3 = i % 3
            · rw [if_pos es]
              have h7r := h6r.1 ⟨es.1, es.2, by omega⟩
              exact h5r.app (hfl z hz9) h7r.2 h7r.1
            · rw [if_neg es]
              have h7r := h6r.2 (fun y => es ⟨y.1, y.2.1⟩)
              unfold rowOk at h5r ⊢
              rw [h7r.1, h7r.2]
              exact h5r
          exact h6s.fr hf7 (by simp) (by simp)
        · rw [g7 14 j (by decide) (by decide) (by decide), hf45 14 j (by simp)]
          have hcj := hC.2.2.2.2.2 j hj
          refine ⟨hcj.1, ?_, fun z hz9 => ?_, fun z hz9 => ?_⟩
          · by_cases ej : j = i
            · subst ej
              rw [va_s]
              exact hx7
            · rw [va_n ej]
              intro z hz9
              rw [hf7 15 j (by simp [ej]), hr6.2 15 j (by decide) (by decide), hf45 15 j (by simp)]
              exact ⟨(hcj.2.1 z hz9).1, Nat.le_succ_of_le (hcj.2.1 z hz9).2⟩
          · rw [g7 16 j (by decide) (by decide) (by decide), hf45 16 j (by simp)]
            exact ⟨(hcj.2.2.1 z hz9).1, Nat.le_succ_of_le (hcj.2.2.1 z hz9).2⟩
          · rw [g7 17 j (by decide) (by decide) (by decide), hf45 17 j (by simp)]
            exact ⟨(hcj.2.2.2 z hz9).1, Nat.le_succ_of_le (hcj.2.2.2 z hz9).2⟩
      · rw [g7 t j (by omega) (by omega) (by omega)]
        exact mgt_of hf45 rfl t j ht
