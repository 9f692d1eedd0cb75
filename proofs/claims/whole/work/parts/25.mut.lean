/-! The class's get, begin, read. -/
def mgt (mu mu' : oMu) : Prop := ∀ t i, 20 ≤ t → mu' t i = mu t i
def mlt (mu mu' : oMu) : Prop := ∀ t i, t < 20 → mu' t i = mu t i
theorem mgt_of {L : List (Nat × Nat)} {mu mu' : oMu} (h : mfr L mu mu') (hL : L.all (fun q => Nat.blt q.1 20) = true) : mgt mu mu' := fun t i ht => h t i fun hq => by
  have h1 : Nat.blt t 20 = true := List.all_eq_true.mp hL _ hq
  have h2 : t < 20 := Nat.le_of_ble_eq_true h1
  omega
theorem mgt.tr {a b c : oMu} (h1 : mgt a b) (h2 : mgt b c) : mgt a c := fun t i h => (h2 t i h).trans (h1 t i h)
theorem va_self {α : Type} {f : Nat → α} {i : Nat} {v : α} (e : f i = v) : va_up f i v = f := by
  funext j
  by_cases hj : j = i
  · subst hj; simp [va_up, e]
  · simp [va_up, hj]
theorem va_s {α : Type} {f : Nat → α} {i : Nat} {v : α} : va_up f i v i = v := by simp [va_up]
theorem va_n {α : Type} {f : Nat → α} {i j : Nat} {v : α} (h : ¬ j = i) : va_up f i v j = f j := by simp [va_up, h]
theorem ReC.cli {mu mu' : oMu} {m : Nat} {ky vr nd : Nat → Nat} {dp : Nat → Nat → Nat} {vl : Nat → Int32} {sn ck : Nat → Nat → Nat} {wt fl : Nat → List Nat} {x h d : Nat → Nat → Nat} {s l r : Nat → Nat} {i : Nat} {X Hh D : Nat → Nat} {S' L' R' : Nat} (hC : ReC mu m ky vr nd dp vl sn ck wt fl x h d s l r) (hi : i < 6) (hf : mfr [(14, i), (15, i), (16, i), (17, i)] mu mu') (h0 : mu' 14 i 0 = nI (i % 3)) (h4 : mu' 14 i 4 = nI S') (h5 : mu' 14 i 5 = nI L') (h6 : mu' 14 i 6 = nI R') (hX : xOk mu' 15 i m X) (hH : xOk mu' 16 i m Hh) (hD : xOk mu' 17 i m D) : ReC mu' m ky vr nd dp vl sn ck wt fl (va_up x i X) (va_up h i Hh) (va_up d i D) (va_up s i S') (va_up l i L') (va_up r i R') := by
  have f : ∀ t j, ¬ (t = 14 ∨ t = 15 ∨ t = 16 ∨ t = 17) → mu' t j = mu t j := fun t j ht => hf t j (by simp; omega)
  refine ⟨hC.fw.fr hf rfl, fun w hw => by rw [f 5 w (by decide)]; exact hC.fv hw, fun c hc => ⟨fun w hw => by rw [f 8 c (by decide)]; exact hC.fsn hc w hw, fun k hk => by rw [f 9 c (by decide)]; exact hC.fnw hc k hk, fun p hp => by rw [f 10 c (by decide)]; exact hC.fck hc hp⟩, fun q hq => ?_, fun q hq => ?_, fun j hj => ?_⟩
  · have h9 := hC.fwt hq
    unfold rowOk at h9 ⊢
    rw [f 12 q (by decide), f 13 q (by decide)]
    exact h9
  · have h9 := hC.ffl hq
    unfold rowOk at h9 ⊢
    rw [f 18 q (by decide), f 19 q (by decide)]
    exact h9
  · by_cases e : j = i
    · subst e
      simp only [va_s]
      exact ⟨⟨h0, h4, h5, h6⟩, hX, hH, hD⟩
    · simp only [va_n e]
      rw [hf 14 j (by simp [e])]
      exact ⟨(hC.2.2.2.2.2 j hj).1, (hC.fx hj).fr hf (by simp [e]), (hC.fh hj).fr hf (by simp [e]), (hC.fd hj).fr hf (by simp [e])⟩
theorem C_get_b1 {G : oG} {mu : oMu} {Q : oPm} {a b : Int32} (ha : ∀ j, j < 6 → ¬ a = nI j) (k : Q (some (.inl (-1))) mu) : Om G M_S_get 0 [(0, .inr (some (ad 0 0))), (1, .inl a), (2, .inl b)] [] mu Q := by
  refine o_iload_n dS_get_0 rfl ?_
  refine m_callS M_S_isClient [.inl a] [] dS_get_1 mk_S_isClient st_S_isClient ml_S_39 rfl rfl rfl (Nat.le_of_ble_eq_true rfl) rfl ?_
  refine c_isClient_n ha ?_
  show Om G M_S_get 4 [(0, .inr (some (ad 0 0))), (1, .inl a), (2, .inl b)] [.inl (nI 0)] mu Q
  refine n_if_eq 14 dS_get_4 rfl (by omega) (fun _ => ?_) (fun h => absurd h (by decide))
  refine o_iconst (-1) dS_get_14 rfl ?_
  refine m_iret dS_get_15 rfl ?_
  exact k
theorem C_get_b2 {G : oG} {mu : oMu} {Q : oPm} {i : Nat} {b : Int32} (hi : i < 6) (hb : ∀ j, j < 6 → ¬ b = nI j) (k : Q (some (.inl (-1))) mu) : Om G M_S_get 0 [(0, .inr (some (ad 0 0))), (1, .inl (nI i)), (2, .inl b)] [] mu Q := by
  refine o_iload_n dS_get_0 rfl ?_
  refine m_callS M_S_isClient [.inl (nI i)] [] dS_get_1 mk_S_isClient st_S_isClient ml_S_39 rfl rfl rfl (Nat.le_of_ble_eq_true rfl) rfl ?_
  refine c_isClient_y hi ?_
  show Om G M_S_get 4 [(0, .inr (some (ad 0 0))), (1, .inl (nI i)), (2, .inl b)] [.inl (nI 1)] mu Q
  refine n_if_eq 14 dS_get_4 rfl (by omega) (fun h => absurd h (by decide)) (fun _ => ?_)
  refine o_iload_n dS_get_7 rfl ?_
  refine m_callS M_S_isKey [.inl b] [] dS_get_8 mk_S_isKey st_S_isKey ml_S_43 rfl rfl rfl (Nat.le_of_ble_eq_true rfl) rfl ?_
  refine c_isKey_n hb ?_
  show Om G M_S_get 11 [(0, .inr (some (ad 0 0))), (1, .inl (nI i)), (2, .inl b)] [.inl (nI 0)] mu Q
  refine n_if_ne 16 dS_get_11 rfl (by omega) (fun h => absurd h (by decide)) (fun _ => ?_)
  refine o_iconst (-1) dS_get_14 rfl ?_
  refine m_iret dS_get_15 rfl ?_
  exact k
theorem C_get_busy {G : oG} {mu : oMu} {Q : oPm} {m : Nat} {ky vr nd : Nat → Nat} {dp : Nat → Nat → Nat} {vl : Nat → Int32} {sn ck : Nat → Nat → Nat} {wt fl : Nat → List Nat} {x h d : Nat → Nat → Nat} {s l r : Nat → Nat} (hC : ReC mu m ky vr nd dp vl sn ck wt fl x h d s l r) {i q : Nat} (hi : i < 6) (hl6 : l i < 64) (hq : q < 6) (hl0 : ¬ l i = 0) (k : Q (some (.inl (-2))) mu) : Om G M_S_get 0 [(0, .inr (some (ad 0 0))), (1, .inl (nI i)), (2, .inl (nI q))] [] mu Q := by
  refine o_iload_n dS_get_0 rfl ?_
  refine m_callS M_S_isClient [.inl (nI i)] [] dS_get_1 mk_S_isClient st_S_isClient ml_S_39 rfl rfl rfl (Nat.le_of_ble_eq_true rfl) rfl ?_
  refine c_isClient_y hi ?_
  show Om G M_S_get 4 [(0, .inr (some (ad 0 0))), (1, .inl (nI i)), (2, .inl (nI q))] [.inl (nI 1)] mu Q
  refine n_if_eq 14 dS_get_4 rfl (by omega) (fun h => absurd h (by decide)) (fun _ => ?_)
  refine o_iload_n dS_get_7 rfl ?_
  refine m_callS M_S_isKey [.inl (nI q)] [] dS_get_8 mk_S_isKey st_S_isKey ml_S_43 rfl rfl rfl (Nat.le_of_ble_eq_true rfl) rfl ?_
  refine c_isKey_y hq ?_
  show Om G M_S_get 11 [(0, .inr (some (ad 0 0))), (1, .inl (nI i)), (2, .inl (nI q))] [.inl (nI 1)] mu Q
  refine n_if_ne 16 dS_get_11 rfl (by omega) (fun _ => ?_) (fun h => absurd h (by decide))
  refine o_aload_n dS_get_16 rfl ?_
  refine m_getr dS_get_17 fl_S_23 rfl rfl (by decide) ?_
  refine o_iload_n dS_get_20 rfl ?_
  refine m_aald i dS_get_21 rfl rfl rfl (by decide) rfl (sh_q3 hi) ?_
  refine o_astore_n [(0, _), (1, _), (2, _), (3, _)] dS_get_22 rfl rfl ?_
  refine o_aload_n dS_get_23 rfl ?_
  refine m_callV M_K_isOpen [] [] dS_get_24 mk_K_isOpen in_K_isOpen se_K_isOpen rfl hi rfl rfl ml_S_46 rfl rfl rfl (Nat.le_of_ble_eq_true rfl) rfl ?_
  refine c_isOpen hi (hC.fle hi) hl6 (fun h9 => ?_) (fun h9 => ?_)
  · skip
    show Om G M_S_get 27 [(0, .inr (some (ad 0 0))), (1, .inl (nI i)), (2, .inl (nI q)), (3, .inr (some (ad 14 i)))] [.inl (nI 1)] mu Q
    refine n_if_eq 33 dS_get_27 rfl (by omega) (fun h => absurd h (by decide)) (fun _ => ?_)
    refine o_bipush (-2) dS_get_30 rfl ?_
    refine m_iret dS_get_32 rfl ?_
    exact k
  · skip
    exact absurd h9 hl0
theorem C_get {G : oG} {mu : oMu} {Q : oPm} {m : Nat} {ky vr nd : Nat → Nat} {dp : Nat → Nat → Nat} {vl : Nat → Int32} {sn ck : Nat → Nat → Nat} {wt fl : Nat → List Nat} {x h d : Nat → Nat → Nat} {s l r : Nat → Nat} (hC : ReC mu m ky vr nd dp vl sn ck wt fl x h d s l r) {i q : Nat} (hi : i < 6) (hl6 : l i < 64) (hq : q < 6) (hl0 : l i = 0) (k0 : latN (sn (i % 3)) ky vr q m = 0 → Q (some (.inl (-4))) mu) (k1 : ∀ w, w < m → latN (sn (i % 3)) ky vr q m = w + 1 → ∀ mu' : oMu, ReC mu' m ky vr nd dp vl sn ck wt fl (va_up x i (sX (x i) (dp w) vr (ky w) w)) h d s l r → mgt mu mu' → Q (some (.inl (nI w))) mu') : Om G M_S_get 0 [(0, .inr (some (ad 0 0))), (1, .inl (nI i)), (2, .inl (nI q))] [] mu Q := by
  refine o_iload_n dS_get_0 rfl ?_
  refine m_callS M_S_isClient [.inl (nI i)] [] dS_get_1 mk_S_isClient st_S_isClient ml_S_39 rfl rfl rfl (Nat.le_of_ble_eq_true rfl) rfl ?_
  refine c_isClient_y hi ?_
  show Om G M_S_get 4 [(0, .inr (some (ad 0 0))), (1, .inl (nI i)), (2, .inl (nI q))] [.inl (nI 1)] mu Q
  refine n_if_eq 14 dS_get_4 rfl (by omega) (fun h => absurd h (by decide)) (fun _ => ?_)
  refine o_iload_n dS_get_7 rfl ?_
  refine m_callS M_S_isKey [.inl (nI q)] [] dS_get_8 mk_S_isKey st_S_isKey ml_S_43 rfl rfl rfl (Nat.le_of_ble_eq_true rfl) rfl ?_
  refine c_isKey_y hq ?_
  show Om G M_S_get 11 [(0, .inr (some (ad 0 0))), (1, .inl (nI i)), (2, .inl (nI q))] [.inl (nI 1)] mu Q
  refine n_if_ne 16 dS_get_11 rfl (by omega) (fun _ => ?_) (fun h => absurd h (by decide))
  refine o_aload_n dS_get_16 rfl ?_
  refine m_getr dS_get_17 fl_S_23 rfl rfl (by decide) ?_
  refine o_iload_n dS_get_20 rfl ?_
  refine m_aald i dS_get_21 rfl rfl rfl (by decide) rfl (sh_q3 hi) ?_
  refine o_astore_n [(0, _), (1, _), (2, _), (3, _)] dS_get_22 rfl rfl ?_
  refine o_aload_n dS_get_23 rfl ?_
  refine m_callV M_K_isOpen [] [] dS_get_24 mk_K_isOpen in_K_isOpen se_K_isOpen rfl hi rfl rfl ml_S_46 rfl rfl rfl (Nat.le_of_ble_eq_true rfl) rfl ?_
  refine c_isOpen hi (hC.fle hi) hl6 (fun h9 => ?_) (fun h9 => ?_)
  · skip
    exact absurd hl0 h9
  · skip
    show Om G M_S_get 27 [(0, .inr (some (ad 0 0))), (1, .inl (nI i)), (2, .inl (nI q)), (3, .inr (some (ad 14 i)))] [.inl (nI 0)] mu Q
    refine n_if_eq 33 dS_get_27 rfl (by omega) (fun _ => ?_) (fun h => absurd h (by decide))
    refine o_aload_n dS_get_33 rfl ?_
    refine m_getr dS_get_34 fl_S_17 rfl rfl (by decide) ?_
    refine o_aload_n dS_get_37 rfl ?_
    refine m_geti dS_get_38 fl_S_58 rfl rfl hi ?_
    refine o_top (nI (i % 3)) (hC.fce hi) ?_
    refine m_aald (i % 3) dS_get_41 rfl rfl rfl (by decide) rfl (sh_q2 (by omega)) ?_
    refine m_getr dS_get_42 fl_S_88 rfl rfl (show i % 3 < 3 by omega) ?_
    refine o_iload_n dS_get_45 rfl ?_
    refine m_iald q dS_get_46 rfl rfl rfl (show i % 3 < 3 by omega) rfl hq ?_
    refine o_top (dec (latN (sn (i % 3)) ky vr q m)) (hC.fnw (by omega) q hq).1 ?_
    refine o_istore [(0, _), (1, _), (2, _), (3, _), (4, _)] dS_get_47 rfl rfl ?_
    refine o_aload_n dS_get_49 rfl ?_
    refine o_aload_n dS_get_50 rfl ?_
    refine o_iload dS_get_51 rfl ?_
    refine m_callV M_S_see [.inr (some (ad 14 i)), .inl (dec (latN (sn (i % 3)) ky vr q m))] [] dS_get_53 mk_S_see in_S_see se_S_see rfl (by decide) rfl rfl ml_S_84 rfl rfl rfl (Nat.le_of_ble_eq_true rfl) rfl ?_
    refine c_see hC.fw hi (hC.fnw (show i % 3 < 3 by omega) q hq).2 (hC.fx hi) (fun e => ?_) (fun w hw e mu1 hx1 hf1 => ?_)
    · skip
      show Om G M_S_get 56 [(0, .inr (some (ad 0 0))), (1, .inl (nI i)), (2, .inl (nI q)), (3, .inr (some (ad 14 i))), (4, .inl (dec (latN (sn (i % 3)) ky vr q m)))] [] mu Q
      refine o_iload dS_get_56 rfl ?_
      refine m_iret dS_get_58 rfl ?_
      rw [e]
      exact k0 e
    · skip
      show Om G M_S_get 56 [(0, .inr (some (ad 0 0))), (1, .inl (nI i)), (2, .inl (nI q)), (3, .inr (some (ad 14 i))), (4, .inl (dec (latN (sn (i % 3)) ky vr q m)))] [] mu1 Q
      refine o_iload dS_get_56 rfl ?_
      refine m_iret dS_get_58 rfl ?_
      rw [e]
      refine k1 w hw e mu1 ?_ (mgt_of hf1 rfl)
      have hz := hC.cli (i := i) (X := sX (x i) (dp w) vr (ky w) w) (Hh := h i) (D := d i) (S' := s i) (L' := l i) (R' := r i) hi (hf1.wk (by simp)) (by rw [hf1 14 i (by simp)]; exact hC.fce hi) (by rw [hf1 14 i (by simp)]; exact hC.fse hi) (by rw [hf1 14 i (by simp)]; exact hC.fle hi) (by rw [hf1 14 i (by simp)]; exact hC.fro hi) hx1 ((hC.fh hi).fr hf1 (by simp)) ((hC.fd hi).fr hf1 (by simp))
      rw [va_self rfl, va_self rfl, va_self rfl, va_self rfl, va_self rfl] at hz
      exact hz
theorem set_in {b : Int32} (h1 : ¬ b < nI 1) (h2 : ¬ nI 63 < b) : ∃ j, 1 ≤ j ∧ j < 64 ∧ b = nI j := by
  rcases pk_ix b (n := 64) (by decide) with h | h | ⟨j, hj, e⟩
  · exact absurd (Int32.lt_trans h (by decide)) h1
  · exact absurd (Int32.lt_of_lt_of_le (by decide) h) h2
  · refine ⟨j, ?_, hj, e⟩
    rcases Nat.eq_zero_or_pos j with z | z
    · subst z; subst e; exact absurd (by decide) h1
    · exact z
theorem C_begin_b1 {G : oG} {mu : oMu} {Q : oPm} {a b : Int32} (ha : ∀ j, j < 6 → ¬ a = nI j) (k : Q (some (.inl (nI 0))) mu) : Om G M_S_begin 0 [(0, .inr (some (ad 0 0))), (1, .inl a), (2, .inl b)] [] mu Q := by
  refine o_iload_n dS_begin_0 rfl ?_
  refine m_callS M_S_isClient [.inl a] [] dS_begin_1 mk_S_isClient st_S_isClient ml_S_39 rfl rfl rfl (Nat.le_of_ble_eq_true rfl) rfl ?_
  refine c_isClient_n ha ?_
  show Om G M_S_begin 4 [(0, .inr (some (ad 0 0))), (1, .inl a), (2, .inl b)] [.inl (nI 0)] mu Q
  refine n_if_eq 30 dS_begin_4 rfl (by omega) (fun _ => ?_) (fun h => absurd h (by decide))
  refine o_iconst (nI 0) dS_begin_30 rfl ?_
  refine m_zret dS_begin_31 rfl rfl ?_
  exact k
theorem C_begin_b2 {G : oG} {mu : oMu} {Q : oPm} {i : Nat} {b : Int32} (hi : i < 6) (hb : ∀ j, 1 ≤ j → j < 64 → ¬ b = nI j) (k : Q (some (.inl (nI 0))) mu) : Om G M_S_begin 0 [(0, .inr (some (ad 0 0))), (1, .inl (nI i)), (2, .inl b)] [] mu Q := by
  refine o_iload_n dS_begin_0 rfl ?_
  refine m_callS M_S_isClient [.inl (nI i)] [] dS_begin_1 mk_S_isClient st_S_isClient ml_S_39 rfl rfl rfl (Nat.le_of_ble_eq_true rfl) rfl ?_
  refine c_isClient_y hi ?_
  show Om G M_S_begin 4 [(0, .inr (some (ad 0 0))), (1, .inl (nI i)), (2, .inl b)] [.inl (nI 1)] mu Q
  refine n_if_eq 30 dS_begin_4 rfl (by omega) (fun h => absurd h (by decide)) (fun _ => ?_)
  refine o_iload_n dS_begin_7 rfl ?_
  refine o_iconst (nI 1) dS_begin_8 rfl ?_
  refine o_icmp_lt 30 dS_begin_9 rfl (fun hb9 => ?_) (fun hb9 => ?_)
  · skip
    refine o_iconst (nI 0) dS_begin_30 rfl ?_
    refine m_zret dS_begin_31 rfl rfl ?_
    exact k
  · skip
    refine o_iload_n dS_begin_12 rfl ?_
    refine o_bipush (nI 63) dS_begin_13 rfl ?_
    refine o_icmp_gt 30 dS_begin_15 rfl (fun hb15 => ?_) (fun h => by obtain ⟨j, h1, h2, e⟩ := set_in hb9 h; exact absurd e (hb j h1 h2))
    refine o_iconst (nI 0) dS_begin_30 rfl ?_
    refine m_zret dS_begin_31 rfl rfl ?_
    exact k
theorem C_begin_busy {G : oG} {mu : oMu} {Q : oPm} {m : Nat} {ky vr nd : Nat → Nat} {dp : Nat → Nat → Nat} {vl : Nat → Int32} {sn ck : Nat → Nat → Nat} {wt fl : Nat → List Nat} {x h d : Nat → Nat → Nat} {s l r : Nat → Nat} (hC : ReC mu m ky vr nd dp vl sn ck wt fl x h d s l r) {i q : Nat} (hi : i < 6) (hl6 : l i < 64) (hq : 1 ≤ q) (hq2 : q < 64) (hl0 : ¬ l i = 0) (k : Q (some (.inl (nI 0))) mu) : Om G M_S_begin 0 [(0, .inr (some (ad 0 0))), (1, .inl (nI i)), (2, .inl (nI q))] [] mu Q := by
  refine o_iload_n dS_begin_0 rfl ?_
  refine m_callS M_S_isClient [.inl (nI i)] [] dS_begin_1 mk_S_isClient st_S_isClient ml_S_39 rfl rfl rfl (Nat.le_of_ble_eq_true rfl) rfl ?_
  refine c_isClient_y hi ?_
  show Om G M_S_begin 4 [(0, .inr (some (ad 0 0))), (1, .inl (nI i)), (2, .inl (nI q))] [.inl (nI 1)] mu Q
  refine n_if_eq 30 dS_begin_4 rfl (by omega) (fun h => absurd h (by decide)) (fun _ => ?_)
  refine o_iload_n dS_begin_7 rfl ?_
  refine o_iconst (nI 1) dS_begin_8 rfl ?_
  refine n_icmp_lt 30 dS_begin_9 rfl (by omega) (by omega) (fun h => absurd h (by omega)) (fun hb9 => ?_)
  refine o_iload_n dS_begin_12 rfl ?_
  refine o_bipush (nI 63) dS_begin_13 rfl ?_
  refine n_icmp_gt 30 dS_begin_15 rfl (by omega) (by omega) (fun h => absurd h (by omega)) (fun hb15 => ?_)
  refine o_aload_n dS_begin_18 rfl ?_
  refine m_getr dS_begin_19 fl_S_23 rfl rfl (by decide) ?_
  refine o_iload_n dS_begin_22 rfl ?_
  refine m_aald i dS_begin_23 rfl rfl rfl (by decide) rfl (sh_q3 hi) ?_
  refine m_callV M_K_isOpen [] [] dS_begin_24 mk_K_isOpen in_K_isOpen se_K_isOpen rfl hi rfl rfl ml_S_46 rfl rfl rfl (Nat.le_of_ble_eq_true rfl) rfl ?_
  refine c_isOpen hi (hC.fle hi) hl6 (fun h9 => ?_) (fun h9 => ?_)
  · skip
    show Om G M_S_begin 27 [(0, .inr (some (ad 0 0))), (1, .inl (nI i)), (2, .inl (nI q))] [.inl (nI 1)] mu Q
    refine n_if_eq 32 dS_begin_27 rfl (by omega) (fun h => absurd h (by decide)) (fun _ => ?_)
    refine o_iconst (nI 0) dS_begin_30 rfl ?_
    refine m_zret dS_begin_31 rfl rfl ?_
    exact k
  · skip
    exact absurd h9 hl0
theorem C_begin {G : oG} {mu : oMu} {Q : oPm} {m : Nat} {ky vr nd : Nat → Nat} {dp : Nat → Nat → Nat} {vl : Nat → Int32} {sn ck : Nat → Nat → Nat} {wt fl : Nat → List Nat} {x h d : Nat → Nat → Nat} {s l r : Nat → Nat} (hC : ReC mu m ky vr nd dp vl sn ck wt fl x h d s l r) {i q : Nat} (hi : i < 6) (hl6 : l i < 64) (hq : 1 ≤ q) (hq2 : q < 64) (hl0 : l i = 0) (k : ∀ mu' : oMu, ReC mu' m ky vr nd dp vl sn ck wt fl x (va_up h i (fun _ => 0)) d (va_up s i q) (va_up l i q) (va_up r i 1) → mgt mu mu' → Q (some (.inl (nI 1))) mu') : Om G M_S_begin 0 [(0, .inr (some (ad 0 0))), (1, .inl (nI i)), (2, .inl (nI q))] [] mu Q := by
  refine o_iload_n dS_begin_0 rfl ?_
  refine m_callS M_S_isClient [.inl (nI i)] [] dS_begin_1 mk_S_isClient st_S_isClient ml_S_39 rfl rfl rfl (Nat.le_of_ble_eq_true rfl) rfl ?_
  refine c_isClient_y hi ?_
  show Om G M_S_begin 4 [(0, .inr (some (ad 0 0))), (1, .inl (nI i)), (2, .inl (nI q))] [.inl (nI 1)] mu Q
  refine n_if_eq 30 dS_begin_4 rfl (by omega) (fun h => absurd h (by decide)) (fun _ => ?_)
  refine o_iload_n dS_begin_7 rfl ?_
  refine o_iconst (nI 1) dS_begin_8 rfl ?_
  refine n_icmp_lt 30 dS_begin_9 rfl (by omega) (by omega) (fun h => absurd h (by omega)) (fun hb9 => ?_)
  refine o_iload_n dS_begin_12 rfl ?_
  refine o_bipush (nI 63) dS_begin_13 rfl ?_
  refine n_icmp_gt 30 dS_begin_15 rfl (by omega) (by omega) (fun h => absurd h (by omega)) (fun hb15 => ?_)
  refine o_aload_n dS_begin_18 rfl ?_
  refine m_getr dS_begin_19 fl_S_23 rfl rfl (by decide) ?_
  refine o_iload_n dS_begin_22 rfl ?_
  refine m_aald i dS_begin_23 rfl rfl rfl (by decide) rfl (sh_q3 hi) ?_
  refine m_callV M_K_isOpen [] [] dS_begin_24 mk_K_isOpen in_K_isOpen se_K_isOpen rfl hi rfl rfl ml_S_46 rfl rfl rfl (Nat.le_of_ble_eq_true rfl) rfl ?_
  refine c_isOpen hi (hC.fle hi) hl6 (fun h9 => ?_) (fun h9 => ?_)
  · skip
    exact absurd hl0 h9
  · skip
    show Om G M_S_begin 27 [(0, .inr (some (ad 0 0))), (1, .inl (nI i)), (2, .inl (nI q))] [.inl (nI 0)] mu Q
    refine n_if_eq 32 dS_begin_27 rfl (by omega) (fun _ => ?_) (fun h => absurd h (by decide))
    refine o_aload_n dS_begin_32 rfl ?_
    refine m_getr dS_begin_33 fl_S_23 rfl rfl (by decide) ?_
    refine o_iload_n dS_begin_36 rfl ?_
    refine m_aald i dS_begin_37 rfl rfl rfl (by decide) rfl (sh_q3 hi) ?_
    refine o_iload_n dS_begin_38 rfl ?_
    refine m_callV M_K_open [.inl (nI q)] [] dS_begin_39 mk_K_open in_K_open se_K_open rfl hi rfl rfl ml_S_91 rfl rfl rfl (Nat.le_of_ble_eq_true rfl) rfl ?_
    refine c_open hi (fun mu1 h16 h14 hf1 => ?_)
    show Om G M_S_begin 42 [(0, .inr (some (ad 0 0))), (1, .inl (nI i)), (2, .inl (nI q))] [] mu1 Q
    refine o_iconst (nI 1) dS_begin_42 rfl ?_
    refine m_zret dS_begin_43 rfl rfl ?_
    refine k mu1 ?_ (mgt_of hf1 rfl)
    have hz := hC.cli (i := i) (X := x i) (Hh := fun _ => 0) (D := d i) (S' := q) (L' := q) (R' := 1) hi (hf1.wk (by simp)) (by rw [h14]; simp [upd]; exact hC.fce hi) (by rw [h14]; simp [upd]) (by rw [h14]; simp [upd]) (by rw [h14]; simp [upd]) ((hC.fx hi).fr hf1 (by simp)) (fun z hz => ⟨h16 z hz, Nat.zero_le _⟩) ((hC.fd hi).fr hf1 (by simp))
    rw [va_self (f := x) rfl, va_self (f := d) rfl] at hz
    exact hz
theorem C_read_b1 {G : oG} {mu : oMu} {Q : oPm} {a : Int32} (ha : ∀ j, j < 6 → ¬ a = nI j) (k : Q (some (.inl (-1))) mu) : Om G M_S_read 0 [(0, .inr (some (ad 0 0))), (1, .inl a)] [] mu Q := by
  refine o_iload_n dS_read_0 rfl ?_
  refine m_callS M_S_isClient [.inl a] [] dS_read_1 mk_S_isClient st_S_isClient ml_S_39 rfl rfl rfl (Nat.le_of_ble_eq_true rfl) rfl ?_
  refine c_isClient_n ha ?_
  show Om G M_S_read 4 [(0, .inr (some (ad 0 0))), (1, .inl a)] [.inl (nI 0)] mu Q
  refine n_if_ne 9 dS_read_4 rfl (by omega) (fun h => absurd h (by decide)) (fun _ => ?_)
  refine o_iconst (-1) dS_read_7 rfl ?_
  refine m_iret dS_read_8 rfl ?_
  exact k
theorem C_read_closed {G : oG} {mu : oMu} {Q : oPm} {m : Nat} {ky vr nd : Nat → Nat} {dp : Nat → Nat → Nat} {vl : Nat → Int32} {sn ck : Nat → Nat → Nat} {wt fl : Nat → List Nat} {x h d : Nat → Nat → Nat} {s l r : Nat → Nat} (hC : ReC mu m ky vr nd dp vl sn ck wt fl x h d s l r) {i : Nat} (hi : i < 6) (hl6 : l i < 64) (hl0 : l i = 0) (k : Q (some (.inl (-4))) mu) : Om G M_S_read 0 [(0, .inr (some (ad 0 0))), (1, .inl (nI i))] [] mu Q := by
  refine o_iload_n dS_read_0 rfl ?_
  refine m_callS M_S_isClient [.inl (nI i)] [] dS_read_1 mk_S_isClient st_S_isClient ml_S_39 rfl rfl rfl (Nat.le_of_ble_eq_true rfl) rfl ?_
  refine c_isClient_y hi ?_
  show Om G M_S_read 4 [(0, .inr (some (ad 0 0))), (1, .inl (nI i))] [.inl (nI 1)] mu Q
  refine n_if_ne 9 dS_read_4 rfl (by omega) (fun _ => ?_) (fun h => absurd h (by decide))
  refine o_aload_n dS_read_9 rfl ?_
  refine m_getr dS_read_10 fl_S_23 rfl rfl (by decide) ?_
  refine o_iload_n dS_read_13 rfl ?_
  refine m_aald i dS_read_14 rfl rfl rfl (by decide) rfl (sh_q3 hi) ?_
  refine o_astore_n [(0, _), (1, _), (2, _)] dS_read_15 rfl rfl ?_
  refine o_aload_n dS_read_16 rfl ?_
  refine m_callV M_K_isOpen [] [] dS_read_17 mk_K_isOpen in_K_isOpen se_K_isOpen rfl hi rfl rfl ml_S_46 rfl rfl rfl (Nat.le_of_ble_eq_true rfl) rfl ?_
  refine c_isOpen hi (hC.fle hi) hl6 (fun h9 => ?_) (fun h9 => ?_)
  · skip
    exact absurd hl0 h9
  · skip
    show Om G M_S_read 20 [(0, .inr (some (ad 0 0))), (1, .inl (nI i)), (2, .inr (some (ad 14 i)))] [.inl (nI 0)] mu Q
    refine n_if_ne 26 dS_read_20 rfl (by omega) (fun h => absurd h (by decide)) (fun _ => ?_)
    refine o_bipush (-4) dS_read_23 rfl ?_
    refine m_iret dS_read_25 rfl ?_
    exact k
def rdV (m : Nat) (ky vr : Nat → Nat) (sn d : Nat → Nat → Nat) (r : Nat → Nat) (i j : Nat) : Nat := if r i = 1 then latN (sn (i % 3)) ky vr j m else d i j
def rdH (m : Nat) (ky vr : Nat → Nat) (sn h d : Nat → Nat → Nat) (r : Nat → Nat) (i j : Nat) : Nat → Nat := va_up (h i) j (rdV m ky vr sn d r i j)
def lowB (l j : Nat) : Prop := j < 6 ∧ l.testBit j = true ∧ ∀ b, b < j → l.testBit b = false
def clr (l j : Nat) : Nat := l &&& (63 - 2 ^ j)
theorem clr_lt {l j : Nat} (hl : l < 64) (hj : j < 6) : clr l j < 64 := (b_clr l hl j hj).2
theorem cnt0 : cntN 0 6 = 0 := by decide
theorem C_read {G : oG} {mu : oMu} {Q : oPm} {m : Nat} {ky vr nd : Nat → Nat} {dp : Nat → Nat → Nat} {vl : Nat → Int32} {sn ck : Nat → Nat → Nat} {wt fl : Nat → List Nat} {x h d : Nat → Nat → Nat} {s l r : Nat → Nat} (hC : ReC mu m ky vr nd dp vl sn ck wt fl x h d s l r) {i : Nat} (hi : i < 6) (hl6 : l i < 64) (hl0 : ¬ l i = 0) (hr3 : r i < 3) (hs6 : s i < 64) (kA : ∀ j, lowB (l i) j → ¬ clr (l i) j = 0 → ∀ mu' : oMu, ReC mu' m ky vr nd dp vl sn ck wt fl x (va_up h i (rdH m ky vr sn h d r i j)) d s (va_up l i (clr (l i) j)) r → mgt mu mu' → Q (some (.inl (nI (cntN (clr (l i) j) 6)))) mu') (kB0 : ∀ j, lowB (l i) j → clr (l i) j = 0 → r i = 1 → (secN (rdH m ky vr sn h d r i j) dp vr (s i) 6) = 0 → ∀ mu' : oMu, ReC mu' m ky vr nd dp vl sn ck wt fl (va_up x i (sF (x i) (rdH m ky vr sn h d r i j) ky vr dp 6)) (va_up h i (rdH m ky vr sn h d r i j)) (va_up d i (fun q => dueN (rdH m ky vr sn h d r i j) dp vr q 6)) s (va_up l i 0) r → mgt mu mu' → Q (some (.inl (nI 0))) mu') (kB1 : ∀ j, lowB (l i) j → clr (l i) j = 0 → r i = 1 → ¬ (secN (rdH m ky vr sn h d r i j) dp vr (s i) 6) = 0 → ∀ mu' : oMu, ReC mu' m ky vr nd dp vl sn ck wt fl x (va_up h i (rdH m ky vr sn h d r i j)) (va_up d i (fun q => dueN (rdH m ky vr sn h d r i j) dp vr q 6)) s (va_up l i (secN (rdH m ky vr sn h d r i j) dp vr (s i) 6)) (va_up r i 2) → mgt mu mu' → Q (some (.inl (nI (cntN (secN (rdH m ky vr sn h d r i j) dp vr (s i) 6) 6)))) mu') (kC : ∀ j, lowB (l i) j → clr (l i) j = 0 → ¬ r i = 1 → ∀ mu' : oMu, ReC mu' m ky vr nd dp vl sn ck wt fl (va_up x i (sF (x i) (rdH m ky vr sn h d r i j) ky vr dp 6)) (va_up h i (rdH m ky vr sn h d r i j)) d s (va_up l i 0) r → mgt mu mu' → Q (some (.inl (nI 0))) mu') : Om G M_S_read 0 [(0, .inr (some (ad 0 0))), (1, .inl (nI i))] [] mu Q := by
  refine o_iload_n dS_read_0 rfl ?_
  refine m_callS M_S_isClient [.inl (nI i)] [] dS_read_1 mk_S_isClient st_S_isClient ml_S_39 rfl rfl rfl (Nat.le_of_ble_eq_true rfl) rfl ?_
  refine c_isClient_y hi ?_
  show Om G M_S_read 4 [(0, .inr (some (ad 0 0))), (1, .inl (nI i))] [.inl (nI 1)] mu Q
  refine n_if_ne 9 dS_read_4 rfl (by omega) (fun _ => ?_) (fun h => absurd h (by decide))
  refine o_aload_n dS_read_9 rfl ?_
  refine m_getr dS_read_10 fl_S_23 rfl rfl (by decide) ?_
  refine o_iload_n dS_read_13 rfl ?_
  refine m_aald i dS_read_14 rfl rfl rfl (by decide) rfl (sh_q3 hi) ?_
  refine o_astore_n [(0, _), (1, _), (2, _)] dS_read_15 rfl rfl ?_
  refine o_aload_n dS_read_16 rfl ?_
  refine m_callV M_K_isOpen [] [] dS_read_17 mk_K_isOpen in_K_isOpen se_K_isOpen rfl hi rfl rfl ml_S_46 rfl rfl rfl (Nat.le_of_ble_eq_true rfl) rfl ?_
  refine c_isOpen hi (hC.fle hi) hl6 (fun h9 => ?_) (fun h9 => ?_)
  · skip
    show Om G M_S_read 20 [(0, .inr (some (ad 0 0))), (1, .inl (nI i)), (2, .inr (some (ad 14 i)))] [.inl (nI 1)] mu Q
    refine n_if_ne 26 dS_read_20 rfl (by omega) (fun _ => ?_) (fun h => absurd h (by decide))
    refine o_aload_n dS_read_26 rfl ?_
    refine o_aload_n dS_read_27 rfl ?_
    refine m_callV M_S_readLowestKey [.inr (some (ad 14 i))] [] dS_read_28 mk_S_readLowestKey in_S_readLowestKey se_S_readLowestKey rfl (by decide) rfl rfl ml_S_94 rfl rfl rfl (Nat.le_of_ble_eq_true rfl) rfl ?_
    refine c_readLowestKey hC.fw hi (show i % 3 < 3 by omega) (hC.fce hi) (hC.fle hi) hl6 hl0 (hC.fro hi) hr3 (hC.fnw (by omega)) (hC.fd hi) (fun j hj hbt hlo mu1 h16 h14 hf1 => ?_)
    have hlow : lowB (l i) j := ⟨hj, hbt, hlo⟩
    have hcl := clr_lt hl6 hj
    have hf1w : mfr [(14, i), (15, i), (16, i), (17, i)] mu mu1 := hf1.wk (by simp)
    have hW1 := hC.fw.fr hf1 rfl
    have hvm : rdV m ky vr sn d r i j ≤ m := by
      unfold rdV
      split
      · exact (hC.fnw (show i % 3 < 3 by omega) j hj).2
      · exact (hC.fd hi j hj).2
    have hH1 : xOk mu1 16 i m (rdH m ky vr sn h d r i j) := by
      intro q hq
      rw [h16]
      by_cases e : q = j
      · subst e
        simp only [upd, if_true, rdH, va_s]
        exact ⟨rfl, hvm⟩
      · simp only [upd, e, if_false, rdH, va_n e]
        exact hC.fh hi q hq
    have hX1 : xOk mu1 15 i m (x i) := (hC.fx hi).fr hf1 (by simp)
    have hD1 : xOk mu1 17 i m (d i) := (hC.fd hi).fr hf1 (by simp)
    have h140 : mu1 14 i 0 = nI (i % 3) := by rw [h14]; exact hC.fce hi
    have h144 : mu1 14 i 4 = nI (s i) := by rw [h14]; exact hC.fse hi
    have h145 : mu1 14 i 5 = nI (clr (l i) j) := by rw [h14]; rfl
    have h146 : mu1 14 i 6 = nI (r i) := by rw [h14]; exact hC.fro hi
    show Om G M_S_read 31 [(0, .inr (some (ad 0 0))), (1, .inl (nI i)), (2, .inr (some (ad 14 i)))] [] mu1 Q
    refine o_aload_n dS_read_31 rfl ?_
    refine m_geti dS_read_32 fl_S_98 rfl rfl hi ?_
    refine o_top (nI (clr (l i) j)) h145 ?_
    refine n_if_ne 51 dS_read_35 rfl (by omega) (fun hb35 => ?_) (fun hb35 => ?_)
    · skip
      refine o_aload_n dS_read_51 rfl ?_
      refine m_geti dS_read_52 fl_S_98 rfl rfl hi ?_
      refine o_top (nI (clr (l i) j)) h145 ?_
      refine n_if_ne 63 dS_read_55 rfl (by omega) (fun hb55 => ?_) (fun h => absurd h hb35)
      refine o_aload_n dS_read_63 rfl ?_
      refine m_geti dS_read_64 fl_S_98 rfl rfl hi ?_
      refine o_top (nI (clr (l i) j)) h145 ?_
      refine m_callS M_JI_bitCount [.inl (nI (clr (l i) j))] [] dS_read_67 mk_JI_bitCount st_JI_bitCount ml_S_110 rfl rfl rfl (Nat.le_of_ble_eq_true rfl) rfl ?_
      refine j_bitCount hcl ?_
      show Om G M_S_read 70 [(0, .inr (some (ad 0 0))), (1, .inl (nI i)), (2, .inr (some (ad 14 i)))] [.inl (nI (cntN (clr (l i) j) 6))] mu1 Q
      refine m_iret dS_read_70 rfl ?_
      have hz := hC.cli (i := i) (X := x i) (Hh := (rdH m ky vr sn h d r i j)) (D := d i) (S' := s i) (L' := clr (l i) j) (R' := r i) hi hf1w h140 h144 h145 h146 hX1 hH1 hD1
      rw [va_self (f := x) rfl, va_self (f := s) rfl, va_self (f := d) rfl, va_self (f := r) rfl] at hz
      exact kA j hlow hb35 mu1 hz (mgt_of hf1w rfl)
    · skip
      refine o_aload_n dS_read_38 rfl ?_
      refine m_geti dS_read_39 fl_S_101 rfl rfl hi ?_
      refine o_top (nI (r i)) h146 ?_
      refine o_iconst (nI 1) dS_read_42 rfl ?_
      refine n_icmp_ne 51 dS_read_43 rfl (by omega) (by omega) (fun hb43 => ?_) (fun hb43 => ?_)
      · skip
        refine o_aload_n dS_read_51 rfl ?_
        refine m_geti dS_read_52 fl_S_98 rfl rfl hi ?_
        refine o_top (nI (clr (l i) j)) h145 ?_
        refine n_if_ne 63 dS_read_55 rfl (by omega) (fun h => absurd hb35 h) (fun hb55 => ?_)
        refine o_aload_n dS_read_58 rfl ?_
        refine o_aload_n dS_read_59 rfl ?_
        refine m_callV M_S_seeFetched [.inr (some (ad 14 i))] [] dS_read_60 mk_S_seeFetched in_S_seeFetched se_S_seeFetched rfl (by decide) rfl rfl ml_S_107 rfl rfl rfl (Nat.le_of_ble_eq_true rfl) rfl ?_
        refine c_seeFetched hW1 hi hH1 hX1 (fun mu2 hX9 hf9 => ?_)
        have hz9 := hf9 14 i (by simp)
        show Om G M_S_read 63 [(0, .inr (some (ad 0 0))), (1, .inl (nI i)), (2, .inr (some (ad 14 i)))] [] mu2 Q
        refine o_aload_n dS_read_63 rfl ?_
        refine m_geti dS_read_64 fl_S_98 rfl rfl hi ?_
        refine o_top (nI (clr (l i) j)) (by rw [hz9]; exact h145) ?_
        refine m_callS M_JI_bitCount [.inl (nI (clr (l i) j))] [] dS_read_67 mk_JI_bitCount st_JI_bitCount ml_S_110 rfl rfl rfl (Nat.le_of_ble_eq_true rfl) rfl ?_
        refine j_bitCount hcl ?_
        show Om G M_S_read 70 [(0, .inr (some (ad 0 0))), (1, .inl (nI i)), (2, .inr (some (ad 14 i)))] [.inl (nI (cntN (clr (l i) j) 6))] mu2 Q
        refine m_iret dS_read_70 rfl ?_
        have hz := hC.cli (i := i) (X := (sF (x i) (rdH m ky vr sn h d r i j) ky vr dp 6)) (Hh := (rdH m ky vr sn h d r i j)) (D := d i) (S' := s i) (L' := 0) (R' := r i) hi (hf1w.tr (hf9.wk (by simp))) (by rw [hz9]; exact h140) (by rw [hz9]; exact h144) (by rw [hz9, h145, hb35]) (by rw [hz9]; exact h146) hX9 (hH1.fr hf9 (by simp)) (hD1.fr hf9 (by simp))
        rw [va_self (f := s) rfl, va_self (f := d) rfl, va_self (f := r) rfl] at hz
        rw [hb35, cnt0]
        exact kC j hlow hb35 hb43 mu2 hz (mgt_of (hf1w.tr (hf9.wk (by simp))) rfl)
      · skip
        refine o_aload_n dS_read_46 rfl ?_
        refine o_aload_n dS_read_47 rfl ?_
        refine m_callV M_S_prepareSecondRound [.inr (some (ad 14 i))] [] dS_read_48 mk_S_prepareSecondRound in_S_prepareSecondRound se_S_prepareSecondRound rfl (by decide) rfl rfl ml_S_104 rfl rfl rfl (Nat.le_of_ble_eq_true rfl) rfl ?_
        refine c_prepareSecondRound (g := mu1 14 i) hW1 hi hH1 hs6 h144 (h145.trans (by rw [hb35])) rfl hD1 (fun hS0 mu2 hD2 h142 hf2 => ?_) (fun hS1 mu2 hD2 h142 hf2 => ?_)
        · skip
          have hf12 := hf1w.tr (hf2.wk (by simp))
          have hW2 := hW1.fr hf2 rfl
          have hX2 := hX1.fr hf2 (by simp)
          have hH2 := hH1.fr hf2 (by simp)
          have h145b : mu2 14 i 5 = nI 0 := by rw [h142]; simp [upd]
          show Om G M_S_read 51 [(0, .inr (some (ad 0 0))), (1, .inl (nI i)), (2, .inr (some (ad 14 i)))] [] mu2 Q
          refine o_aload_n dS_read_51 rfl ?_
          refine m_geti dS_read_52 fl_S_98 rfl rfl hi ?_
          refine o_top (nI 0) h145b ?_
          refine n_if_ne 63 dS_read_55 rfl (by omega) (fun h => absurd h (by decide)) (fun _ => ?_)
          refine o_aload_n dS_read_58 rfl ?_
          refine o_aload_n dS_read_59 rfl ?_
          refine m_callV M_S_seeFetched [.inr (some (ad 14 i))] [] dS_read_60 mk_S_seeFetched in_S_seeFetched se_S_seeFetched rfl (by decide) rfl rfl ml_S_107 rfl rfl rfl (Nat.le_of_ble_eq_true rfl) rfl ?_
          refine c_seeFetched hW2 hi hH2 hX2 (fun mu3 hX9 hf9 => ?_)
          have hz9 := hf9 14 i (by simp)
          show Om G M_S_read 63 [(0, .inr (some (ad 0 0))), (1, .inl (nI i)), (2, .inr (some (ad 14 i)))] [] mu3 Q
          refine o_aload_n dS_read_63 rfl ?_
          refine m_geti dS_read_64 fl_S_98 rfl rfl hi ?_
          refine o_top (nI 0) (by rw [hz9]; exact h145b) ?_
          refine m_callS M_JI_bitCount [.inl (nI 0)] [] dS_read_67 mk_JI_bitCount st_JI_bitCount ml_S_110 rfl rfl rfl (Nat.le_of_ble_eq_true rfl) rfl ?_
          refine j_bitCount (by decide) ?_
          show Om G M_S_read 70 [(0, .inr (some (ad 0 0))), (1, .inl (nI i)), (2, .inr (some (ad 14 i)))] [.inl (nI (cntN (0) 6))] mu3 Q
          refine m_iret dS_read_70 rfl ?_
          have hz := hC.cli (i := i) (X := (sF (x i) (rdH m ky vr sn h d r i j) ky vr dp 6)) (Hh := (rdH m ky vr sn h d r i j)) (D := fun q => dueN (rdH m ky vr sn h d r i j) dp vr q 6) (S' := s i) (L' := 0) (R' := r i) hi (hf12.tr (hf9.wk (by simp))) (by rw [hz9, h142]; simp [upd]; exact h140) (by rw [hz9, h142]; simp [upd]; exact h144) (by rw [hz9]; exact h145b) (by rw [hz9, h142]; simp [upd]; exact h146) hX9 (hH2.fr hf9 (by simp)) (hD2.fr hf9 (by simp))
          rw [va_self (f := s) rfl, va_self (f := r) rfl] at hz
          rw [cnt0]
          exact kB0 j hlow hb35 hb43 hS0 mu3 hz (mgt_of (hf12.tr (hf9.wk (by simp))) rfl)
        · skip
          have hf12 := hf1w.tr (hf2.wk (by simp))
          have hX2 := hX1.fr hf2 (by simp)
          have hH2 := hH1.fr hf2 (by simp)
          have hsl := secN_lt (h := (rdH m ky vr sn h d r i j)) (vr := vr) (dp := dp) (s := s i) 6 (Nat.le_refl _)
          have h145b : mu2 14 i 5 = nI (secN (rdH m ky vr sn h d r i j) dp vr (s i) 6) := by rw [h142]; simp [upd]
          show Om G M_S_read 51 [(0, .inr (some (ad 0 0))), (1, .inl (nI i)), (2, .inr (some (ad 14 i)))] [] mu2 Q
          refine o_aload_n dS_read_51 rfl ?_
          refine m_geti dS_read_52 fl_S_98 rfl rfl hi ?_
          refine o_top (nI (secN (rdH m ky vr sn h d r i j) dp vr (s i) 6)) h145b ?_
          refine n_if_ne 63 dS_read_55 rfl (by omega) (fun hb55 => ?_) (fun h => absurd h hS1)
          refine o_aload_n dS_read_63 rfl ?_
          refine m_geti dS_read_64 fl_S_98 rfl rfl hi ?_
          refine o_top (nI (secN (rdH m ky vr sn h d r i j) dp vr (s i) 6)) h145b ?_
          refine m_callS M_JI_bitCount [.inl (nI (secN (rdH m ky vr sn h d r i j) dp vr (s i) 6))] [] dS_read_67 mk_JI_bitCount st_JI_bitCount ml_S_110 rfl rfl rfl (Nat.le_of_ble_eq_true rfl) rfl ?_
          refine j_bitCount hsl ?_
          show Om G M_S_read 70 [(0, .inr (some (ad 0 0))), (1, .inl (nI i)), (2, .inr (some (ad 14 i)))] [.inl (nI (cntN (secN (rdH m ky vr sn h d r i j) dp vr (s i) 6) 6))] mu2 Q
          refine m_iret dS_read_70 rfl ?_
          have hz := hC.cli (i := i) (X := x i) (Hh := (rdH m ky vr sn h d r i j)) (D := fun q => dueN (rdH m ky vr sn h d r i j) dp vr q 6) (S' := s i) (L' := secN (rdH m ky vr sn h d r i j) dp vr (s i) 6) (R' := 2) hi hf12 (by rw [h142]; simp [upd]; exact h140) (by rw [h142]; simp [upd]; exact h144) h145b (by rw [h142]; simp [upd]) hX2 hH2 hD2
          rw [va_self (f := x) rfl, va_self (f := s) rfl] at hz
          exact kB1 j hlow hb35 hb43 hS1 mu2 hz (mgt_of hf12 rfl)
  · skip
    exact absurd h9 hl0
