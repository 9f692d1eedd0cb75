/-! The reference's read. -/
theorem lowB_eq {l j : Nat} (hl : l < 64) (h : lowB l j) : lowT l 6 = nI j := by
  have hl0 : ¬ l = 0 := fun z => by
    have h1 := h.2.1
    rw [z] at h1
    simp at h1
  obtain ⟨j', h1, h2, h3, h4⟩ := low_is l hl hl0
  have e : j' = j := by
    rcases Nat.lt_trichotomy j' j with a | a | a
    · have h5 := h.2.2 j' a
      rw [h2] at h5
      cases h5
    · exact a
    · have h5 := h3 j a
      rw [h.2.1] at h5
      cases h5
  rw [h4, e]
theorem R_read_b1 {G : oG} {mu : oMu} {Q : oPm} {a : Int32} (ha : ∀ j, j < 6 → ¬ a = nI j) (k : Q (some (.inl (-1))) mu) : Om G M_N_read 0 [(0, .inr (some (ad 20 0))), (1, .inl a)] [] mu Q := by
  refine o_iload_n dN_read_0 rfl ?_
  refine o_bipush (nI 6) dN_read_1 rfl ?_
  refine m_callS M_N_out [.inl a, .inl (nI 6)] [] dN_read_3 mk_N_out st_N_out ml_N_73 rfl rfl rfl (Nat.le_of_ble_eq_true rfl) rfl ?_
  refine r_out_n (by decide) ha ?_
  show Om G M_N_read 6 [(0, .inr (some (ad 20 0))), (1, .inl a)] [.inl (nI 1)] mu Q
  refine n_if_eq 11 dN_read_6 rfl (by omega) (fun h => absurd h (by decide)) (fun _ => ?_)
  refine o_iconst (-1) dN_read_9 rfl ?_
  refine m_iret dN_read_10 rfl ?_
  exact k
theorem R_read_closed {G : oG} {mu : oMu} {Q : oPm} {m : Nat} {ky vr nd : Nat → Nat} {dp : Nat → Nat → Nat} {vl : Nat → Int32} {sn ck : Nat → Nat → Nat} {wt fl : Nat → List Nat} {x h d : Nat → Nat → Nat} {s l r ph : Nat → Nat} (hC : ReR mu m ky vr nd dp vl sn ck wt fl x h d s l r ph) {i : Nat} (hi : i < 6) (hp4 : ph i < 4) (hop : ¬ (ph i = 1 ∨ ph i = 2)) (k : Q (some (.inl (-4))) mu) : Om G M_N_read 0 [(0, .inr (some (ad 20 0))), (1, .inl (nI i))] [] mu Q := by
  refine o_iload_n dN_read_0 rfl ?_
  refine o_bipush (nI 6) dN_read_1 rfl ?_
  refine m_callS M_N_out [.inl (nI i), .inl (nI 6)] [] dN_read_3 mk_N_out st_N_out ml_N_73 rfl rfl rfl (Nat.le_of_ble_eq_true rfl) rfl ?_
  refine r_out_y (by decide) hi ?_
  show Om G M_N_read 6 [(0, .inr (some (ad 20 0))), (1, .inl (nI i))] [.inl (nI 0)] mu Q
  refine n_if_eq 11 dN_read_6 rfl (by omega) (fun _ => ?_) (fun h => absurd h (by decide))
  refine o_aload_n dN_read_11 rfl ?_
  refine o_iload_n dN_read_12 rfl ?_
  refine m_callV M_N_open [.inl (nI i)] [] dN_read_13 mk_N_open in_N_open se_N_open rfl (by decide) rfl rfl ml_N_77 rfl rfl rfl (Nat.le_of_ble_eq_true rfl) rfl ?_
  refine r_open_n hi (hC.fph hi) hp4 hop ?_
  show Om G M_N_read 16 [(0, .inr (some (ad 20 0))), (1, .inl (nI i))] [.inl (nI 0)] mu Q
  refine n_if_ne 22 dN_read_16 rfl (by omega) (fun h => absurd h (by decide)) (fun _ => ?_)
  refine o_bipush (-4) dN_read_19 rfl ?_
  refine m_iret dN_read_21 rfl ?_
  exact k
theorem R_read {G : oG} {mu : oMu} {Q : oPm} {m : Nat} {ky vr nd : Nat → Nat} {dp : Nat → Nat → Nat} {vl : Nat → Int32} {sn ck : Nat → Nat → Nat} {wt fl : Nat → List Nat} {x h d : Nat → Nat → Nat} {s l r ph : Nat → Nat} (hC : ReR mu m ky vr nd dp vl sn ck wt fl x h d s l r ph) {i j : Nat} (hi : i < 6) (hp4 : ph i < 4) (hop : ph i = 1 ∨ ph i = 2) (hlow : lowB (l i) j) (hl6 : l i < 64) (hs6 : s i < 64) (hr : r i = 1 ↔ ph i = 1) (hin : ∀ z, z < 6 → ¬ (rdH m ky vr sn h d r i j) z = 0 → (s i).testBit z = true) (kA : ¬ clr (l i) j = 0 → ∀ mu' : oMu, ReR mu' m ky vr nd dp vl sn ck wt fl x (va_up h i (rdH m ky vr sn h d r i j)) d s (va_up l i (clr (l i) j)) r ph → mlt mu mu' → Q (some (.inl (nI (cntN (clr (l i) j) 6)))) mu') (kB0 : clr (l i) j = 0 → r i = 1 → (secN (rdH m ky vr sn h d r i j) dp vr (s i) 6) = 0 → ∀ mu' : oMu, ReR mu' m ky vr nd dp vl sn ck wt fl (va_up x i (sF (x i) (rdH m ky vr sn h d r i j) ky vr dp 6)) (va_up h i (rdH m ky vr sn h d r i j)) (va_up d i (fun q => dueN (rdH m ky vr sn h d r i j) dp vr q 6)) s (va_up l i 0) r (va_up ph i 3) → mlt mu mu' → Q (some (.inl (nI 0))) mu') (kB1 : clr (l i) j = 0 → r i = 1 → ¬ (secN (rdH m ky vr sn h d r i j) dp vr (s i) 6) = 0 → ∀ mu' : oMu, ReR mu' m ky vr nd dp vl sn ck wt fl x (va_up h i (rdH m ky vr sn h d r i j)) (va_up d i (fun q => dueN (rdH m ky vr sn h d r i j) dp vr q 6)) s (va_up l i (secN (rdH m ky vr sn h d r i j) dp vr (s i) 6)) (va_up r i 2) (va_up ph i 2) → mlt mu mu' → Q (some (.inl (nI (cntN (secN (rdH m ky vr sn h d r i j) dp vr (s i) 6) 6)))) mu') (kC : clr (l i) j = 0 → ¬ r i = 1 → ∀ mu' : oMu, ReR mu' m ky vr nd dp vl sn ck wt fl (va_up x i (sF (x i) (rdH m ky vr sn h d r i j) ky vr dp 6)) (va_up h i (rdH m ky vr sn h d r i j)) d s (va_up l i 0) r (va_up ph i 3) → mlt mu mu' → Q (some (.inl (nI 0))) mu') : Om G M_N_read 0 [(0, .inr (some (ad 20 0))), (1, .inl (nI i))] [] mu Q := by
  have hj := hlow.1
  have hcl := clr_lt hl6 hj
  have hm4 := hC.fw.m4
  refine o_iload_n dN_read_0 rfl ?_
  refine o_bipush (nI 6) dN_read_1 rfl ?_
  refine m_callS M_N_out [.inl (nI i), .inl (nI 6)] [] dN_read_3 mk_N_out st_N_out ml_N_73 rfl rfl rfl (Nat.le_of_ble_eq_true rfl) rfl ?_
  refine r_out_y (by decide) hi ?_
  show Om G M_N_read 6 [(0, .inr (some (ad 20 0))), (1, .inl (nI i))] [.inl (nI 0)] mu Q
  refine n_if_eq 11 dN_read_6 rfl (by omega) (fun _ => ?_) (fun h => absurd h (by decide))
  refine o_aload_n dN_read_11 rfl ?_
  refine o_iload_n dN_read_12 rfl ?_
  refine m_callV M_N_open [.inl (nI i)] [] dN_read_13 mk_N_open in_N_open se_N_open rfl (by decide) rfl rfl ml_N_77 rfl rfl rfl (Nat.le_of_ble_eq_true rfl) rfl ?_
  refine r_open_y hi (hC.fph hi) hp4 hop ?_
  show Om G M_N_read 16 [(0, .inr (some (ad 20 0))), (1, .inl (nI i))] [.inl (nI 1)] mu Q
  refine n_if_ne 22 dN_read_16 rfl (by omega) (fun _ => ?_) (fun h => absurd h (by decide))
  refine o_aload_n dN_read_22 rfl ?_
  refine m_getr dN_read_23 fl_N_56 rfl rfl (by decide) ?_
  refine o_iload_n dN_read_26 rfl ?_
  refine m_iald i dN_read_27 rfl rfl rfl (by decide) rfl hi ?_
  refine o_top (nI (l i)) (hC.fle hi) ?_
  refine m_callS M_N_lowest [.inl (nI (l i))] [] dN_read_28 mk_N_lowest st_N_lowest ml_N_103 rfl rfl rfl (Nat.le_of_ble_eq_true rfl) rfl ?_
  refine r_lowest hl6 ?_
  rw [lowB_eq hl6 hlow]
  show Om G M_N_read 31 [(0, .inr (some (ad 20 0))), (1, .inl (nI i))] [.inl (nI j)] mu Q
  refine o_istore_n [(0, _), (1, _), (2, _)] dN_read_31 rfl rfl ?_
  refine o_aload_n dN_read_32 rfl ?_
  refine m_getr dN_read_33 fl_N_56 rfl rfl (by decide) ?_
  refine o_iload_n dN_read_36 rfl ?_
  refine o_aload_n dN_read_37 rfl ?_
  refine m_getr dN_read_38 fl_N_56 rfl rfl (by decide) ?_
  refine o_iload_n dN_read_41 rfl ?_
  refine m_iald i dN_read_42 rfl rfl rfl (by decide) rfl hi ?_
  refine o_top (nI (l i)) (hC.fle hi) ?_
  refine o_iconst (nI 1) dN_read_43 rfl ?_
  refine o_iload_n dN_read_44 rfl ?_
  refine o_ishl dN_read_45 ?_
  refine o_iconst (-1) dN_read_46 rfl ?_
  refine o_ixor dN_read_47 ?_
  refine o_iand dN_read_48 ?_
  refine o_top (nI (clr (l i) j)) (b_clr (l i) hl6 j hj).1 ?_
  refine m_iast i dN_read_49 rfl rfl rfl (by decide) rfl hi (fun mu1 hmu1 => ?_)
  have hs1 := cseg_1 (i := i) hmu1 (by decide) (by decide)
  have hW1 := hs1.v hC.fw
  refine o_aload_n dN_read_50 rfl ?_
  refine m_getr dN_read_51 fl_N_47 rfl rfl (by decide) ?_
  refine o_iload_n dN_read_54 rfl ?_
  refine m_iald i dN_read_55 rfl rfl rfl (by decide) rfl hi ?_
  refine o_top (nI (ph i)) (by rw [hmu1, up2_t (by decide)]; exact hC.fph hi) ?_
  refine o_iconst (nI 1) dN_read_56 rfl ?_
  refine n_icmp_ne 96 dN_read_57 rfl (by omega) (by omega) (fun hb57 => ?_) (fun hb57 => ?_)
  · skip
    have hrn : ¬ r i = 1 := fun z => hb57 (hr.mp z)
    have hvm : rdV m ky vr sn d r i j ≤ m := by unfold rdV; rw [if_neg hrn]; exact (hC.fd hi j hj).2
    refine o_aload_n dN_read_96 rfl ?_
    refine m_getr dN_read_97 fl_N_59 rfl rfl (by decide) ?_
    refine o_bipush (nI 6) dN_read_100 rfl ?_
    refine o_iload_n dN_read_102 rfl ?_
    refine o_imul dN_read_103 ?_
    refine o_top _ (pk_mul _ _) ?_
    refine o_iload_n dN_read_104 rfl ?_
    refine o_iadd dN_read_105 ?_
    refine o_top _ (nI_add _ _) ?_
    refine o_aload_n dN_read_106 rfl ?_
    refine m_getr dN_read_107 fl_N_62 rfl rfl (by decide) ?_
    refine o_bipush (nI 6) dN_read_110 rfl ?_
    refine o_iload_n dN_read_112 rfl ?_
    refine o_imul dN_read_113 ?_
    refine o_top _ (pk_mul _ _) ?_
    refine o_iload_n dN_read_114 rfl ?_
    refine o_iadd dN_read_115 ?_
    refine o_top _ (nI_add _ _) ?_
    refine m_iald (6 * i + j) dN_read_116 rfl rfl rfl (by decide) rfl (by omega) ?_
    refine o_top (nI (d i j)) (by rw [hmu1, up2_t (by decide)]; exact (hC.fd hi j hj).1) ?_
    refine m_iast (6 * i + j) dN_read_117 rfl rfl rfl (by decide) rfl (by omega) (fun mu2 hmu2 => ?_)
    have hs2 := hs1.tr (cseg_6 (i := i) (k := j) hmu2 (by simp) hj)
    have hW2 := hs2.v hC.fw
    have g2 : ∀ t, ¬ t = 36 → ¬ t = 37 → mu2 t 0 = mu t 0 := fun t a b => by rw [hmu2, up2_t b, hmu1, up2_t a]
    have hH2 : yOk mu2 37 i m (rdH m ky vr sn h d r i j) := by
      intro q hq
      rw [hmu2, up2_s]
      by_cases e : q = j
      · subst e
        simp only [upd, if_true, rdH, va_s]
        exact ⟨(by unfold rdV; rw [if_neg hrn]), hvm⟩
      · have e2 : ¬ 6 * i + q = 6 * i + j := by omega
        simp only [upd, e2, if_false, rdH, va_n e]
        rw [hmu1, up2_t (by decide)]
        exact hC.fh hi q hq
    have h36 : mu2 36 0 i = nI (clr (l i) j) := by rw [hmu2, up2_t (by decide), hmu1, up2_s]; simp [upd]
    refine o_aload_n dN_read_118 rfl ?_
    refine m_getr dN_read_119 fl_N_56 rfl rfl (by decide) ?_
    refine o_iload_n dN_read_122 rfl ?_
    refine m_iald i dN_read_123 rfl rfl rfl (by decide) rfl hi ?_
    refine o_top (nI (clr (l i) j)) h36 ?_
    refine n_if_ne 132 dN_read_124 rfl (by omega) (fun hb124 => ?_) (fun hb124 => ?_)
    · skip
      refine o_aload_n dN_read_132 rfl ?_
      refine m_getr dN_read_133 fl_N_56 rfl rfl (by decide) ?_
      refine o_iload_n dN_read_136 rfl ?_
      refine m_iald i dN_read_137 rfl rfl rfl (by decide) rfl hi ?_
      refine o_top (nI (clr (l i) j)) h36 ?_
      refine m_callS M_N_count [.inl (nI (clr (l i) j))] [] dN_read_138 mk_N_count st_N_count ml_N_109 rfl rfl rfl (Nat.le_of_ble_eq_true rfl) rfl ?_
      refine r_count hcl ?_
      show Om G M_N_read 141 [(0, .inr (some (ad 20 0))), (1, .inl (nI i)), (2, .inl (nI j))] [.inl (nI (cntN (clr (l i) j) 6))] mu2 Q
      refine m_iret dN_read_141 rfl ?_
      have hz := hC.cli (i := i) (X := x i) (Hh := (rdH m ky vr sn h d r i j)) (D := d i) (S' := s i) (L' := clr (l i) j) (R' := r i) (P' := ph i) hi hs2 (by rw [g2 33 (by decide) (by decide)]; exact hC.fph hi) (by rw [g2 34 (by decide) (by decide)]; exact hC.fse hi) h36 (by rw [g2 35 (by decide) (by decide)]; exact hC.fro hi) ((hC.fx hi).ne (g2 32 (by decide) (by decide))) hH2 ((hC.fd hi).ne (g2 38 (by decide) (by decide)))
      rw [va_self (f := x) rfl, va_self (f := s) rfl, va_self (f := d) rfl, va_self (f := r) rfl, va_self (f := ph) rfl] at hz
      exact kA (by first | exact hb85 | exact hb124) mu2 hz (cseg.lt hs2)
    · skip
      refine o_aload_n dN_read_127 rfl ?_
      refine o_iload_n dN_read_128 rfl ?_
      refine m_callV M_N_finish [.inl (nI i)] [] dN_read_129 mk_N_finish in_N_finish se_N_finish rfl (by decide) rfl rfl ml_N_99 rfl rfl rfl (Nat.le_of_ble_eq_true rfl) rfl ?_
      refine r_finish hW2 hi hH2 ((hC.fx hi).ne (g2 32 (by decide) (by decide))) (fun mu3 hx3 hq3 h33 hf3 => ?_)
      have hs3 : cseg i mu2 mu3 := ⟨fun t z hz => hf3 t z (by simp; omega), fun t z a b c => by
        by_cases e : t = 33
        · subst e; rw [h33]; simp [upd, c]
        · rw [hf3 t 0 (by simp; omega)], fun t z a b => by
        rcases a with rfl | rfl | rfl
        · exact hq3 z b
        · rw [hf3 37 0 (by simp)]
        · rw [hf3 38 0 (by simp)]⟩
      show Om G M_N_read 132 [(0, .inr (some (ad 20 0))), (1, .inl (nI i)), (2, .inl (nI j))] [] mu3 Q
      refine o_aload_n dN_read_132 rfl ?_
      refine m_getr dN_read_133 fl_N_56 rfl rfl (by decide) ?_
      refine o_iload_n dN_read_136 rfl ?_
      refine m_iald i dN_read_137 rfl rfl rfl (by decide) rfl hi ?_
      refine o_top (nI 0) (by rw [hf3 36 0 (by simp), h36, hb124]) ?_
      refine m_callS M_N_count [.inl (nI 0)] [] dN_read_138 mk_N_count st_N_count ml_N_109 rfl rfl rfl (Nat.le_of_ble_eq_true rfl) rfl ?_
      refine r_count (by decide) ?_
      show Om G M_N_read 141 [(0, .inr (some (ad 20 0))), (1, .inl (nI i)), (2, .inl (nI j))] [.inl (nI (cntN (0) 6))] mu3 Q
      refine m_iret dN_read_141 rfl ?_
      have hz := hC.cli (i := i) (X := (sF (x i) (rdH m ky vr sn h d r i j) ky vr dp 6)) (Hh := (rdH m ky vr sn h d r i j)) (D := d i) (S' := s i) (L' := 0) (R' := r i) (P' := 3) hi (hs2.tr hs3) (by rw [h33]; simp [upd]) (by rw [hf3 34 0 (by simp), g2 34 (by decide) (by decide)]; exact hC.fse hi) (by rw [hf3 36 0 (by simp), h36, hb124]) (by rw [hf3 35 0 (by simp), g2 35 (by decide) (by decide)]; exact hC.fro hi) hx3 (hH2.ne (hf3 37 0 (by simp))) ((hC.fd hi).ne ((hf3 38 0 (by simp)).trans (g2 38 (by decide) (by decide))))
      rw [va_self (f := s) rfl, va_self (f := d) rfl, va_self (f := r) rfl] at hz
      rw [cnt0]
      exact kC hb124 hrn mu3 hz (cseg.lt (hs2.tr hs3))
  · skip
    have hr1 := hr.mpr hb57
    have hvm : rdV m ky vr sn d r i j ≤ m := by unfold rdV; rw [if_pos hr1]; exact latN_le m
    refine o_aload_n dN_read_60 rfl ?_
    refine m_getr dN_read_61 fl_N_59 rfl rfl (by decide) ?_
    refine o_bipush (nI 6) dN_read_64 rfl ?_
    refine o_iload_n dN_read_66 rfl ?_
    refine o_imul dN_read_67 ?_
    refine o_top _ (pk_mul _ _) ?_
    refine o_iload_n dN_read_68 rfl ?_
    refine o_iadd dN_read_69 ?_
    refine o_top _ (nI_add _ _) ?_
    refine o_aload_n dN_read_70 rfl ?_
    refine o_iload_n dN_read_71 rfl ?_
    refine o_iconst (nI 3) dN_read_72 rfl ?_
    refine o_irem dN_read_73 (by decide) ?_
    refine o_top _ (pk_rem (by omega) (by decide) (by decide)) ?_
    refine o_iload_n dN_read_74 rfl ?_
    refine m_callV M_N_latestOf [.inl (nI (i % 3)), .inl (nI j)] [.inl (nI (6 * i + j)), .inr (some (ad 37 0))] dN_read_75 mk_N_latestOf in_N_latestOf se_N_latestOf rfl (by decide) rfl rfl ml_N_93 rfl rfl rfl (Nat.le_of_ble_eq_true rfl) rfl ?_
    refine r_latestOf hW1 (show i % 3 < 3 by omega) hj (fun w hw => by rw [hs1.1 26 0 (by omega)]; exact hC.fsn (by omega) w hw) ?_
    show Om G M_N_read 78 [(0, .inr (some (ad 20 0))), (1, .inl (nI i)), (2, .inl (nI j))] [.inl (nI (latN (sn (i % 3)) ky vr j m)), .inl (nI (6 * i + j)), .inr (some (ad 37 0))] mu1 Q
    refine m_iast (6 * i + j) dN_read_78 rfl rfl rfl (by decide) rfl (by omega) (fun mu2 hmu2 => ?_)
    have hs2 := hs1.tr (cseg_6 (i := i) (k := j) hmu2 (by simp) hj)
    have hW2 := hs2.v hC.fw
    have g2 : ∀ t, ¬ t = 36 → ¬ t = 37 → mu2 t 0 = mu t 0 := fun t a b => by rw [hmu2, up2_t b, hmu1, up2_t a]
    have hH2 : yOk mu2 37 i m (rdH m ky vr sn h d r i j) := by
      intro q hq
      rw [hmu2, up2_s]
      by_cases e : q = j
      · subst e
        simp only [upd, if_true, rdH, va_s]
        exact ⟨(by unfold rdV; rw [if_pos hr1]), hvm⟩
      · have e2 : ¬ 6 * i + q = 6 * i + j := by omega
        simp only [upd, e2, if_false, rdH, va_n e]
        rw [hmu1, up2_t (by decide)]
        exact hC.fh hi q hq
    have h36 : mu2 36 0 i = nI (clr (l i) j) := by rw [hmu2, up2_t (by decide), hmu1, up2_s]; simp [upd]
    refine o_aload_n dN_read_79 rfl ?_
    refine m_getr dN_read_80 fl_N_56 rfl rfl (by decide) ?_
    refine o_iload_n dN_read_83 rfl ?_
    refine m_iald i dN_read_84 rfl rfl rfl (by decide) rfl hi ?_
    refine o_top (nI (clr (l i) j)) h36 ?_
    refine n_if_ne 132 dN_read_85 rfl (by omega) (fun hb85 => ?_) (fun hb85 => ?_)
    · skip
      refine o_aload_n dN_read_132 rfl ?_
      refine m_getr dN_read_133 fl_N_56 rfl rfl (by decide) ?_
      refine o_iload_n dN_read_136 rfl ?_
      refine m_iald i dN_read_137 rfl rfl rfl (by decide) rfl hi ?_
      refine o_top (nI (clr (l i) j)) h36 ?_
      refine m_callS M_N_count [.inl (nI (clr (l i) j))] [] dN_read_138 mk_N_count st_N_count ml_N_109 rfl rfl rfl (Nat.le_of_ble_eq_true rfl) rfl ?_
      refine r_count hcl ?_
      show Om G M_N_read 141 [(0, .inr (some (ad 20 0))), (1, .inl (nI i)), (2, .inl (nI j))] [.inl (nI (cntN (clr (l i) j) 6))] mu2 Q
      refine m_iret dN_read_141 rfl ?_
      have hz := hC.cli (i := i) (X := x i) (Hh := (rdH m ky vr sn h d r i j)) (D := d i) (S' := s i) (L' := clr (l i) j) (R' := r i) (P' := ph i) hi hs2 (by rw [g2 33 (by decide) (by decide)]; exact hC.fph hi) (by rw [g2 34 (by decide) (by decide)]; exact hC.fse hi) h36 (by rw [g2 35 (by decide) (by decide)]; exact hC.fro hi) ((hC.fx hi).ne (g2 32 (by decide) (by decide))) hH2 ((hC.fd hi).ne (g2 38 (by decide) (by decide)))
      rw [va_self (f := x) rfl, va_self (f := s) rfl, va_self (f := d) rfl, va_self (f := r) rfl, va_self (f := ph) rfl] at hz
      exact kA (by first | exact hb85 | exact hb124) mu2 hz (cseg.lt hs2)
    · skip
      refine o_aload_n dN_read_88 rfl ?_
      refine o_iload_n dN_read_89 rfl ?_
      refine m_callV M_N_second [.inl (nI i)] [] dN_read_90 mk_N_second in_N_second se_N_second rfl (by decide) rfl rfl ml_N_106 rfl rfl rfl (Nat.le_of_ble_eq_true rfl) rfl ?_
      refine r_second hW2 hi hH2 (by rw [g2 34 (by decide) (by decide)]; exact hC.fse hi) hs6 hin ((hC.fx hi).ne (g2 32 (by decide) (by decide))) ((hC.fd hi).ne (g2 38 (by decide) (by decide))) (fun hS0 mu3 hd3 hx3 h33 h36b h35 g3 hs3 => ?_) (fun hS1 mu3 hd3 h33 h36b h35 g3 hs3 => ?_)
      · skip
        show Om G M_N_read 93 [(0, .inr (some (ad 20 0))), (1, .inl (nI i)), (2, .inl (nI j))] [] mu3 Q
        refine o_goto 132 dN_read_93 rfl ?_
        refine o_aload_n dN_read_132 rfl ?_
        refine m_getr dN_read_133 fl_N_56 rfl rfl (by decide) ?_
        refine o_iload_n dN_read_136 rfl ?_
        refine m_iald i dN_read_137 rfl rfl rfl (by decide) rfl hi ?_
        refine o_top (nI 0) h36b ?_
        refine m_callS M_N_count [.inl (nI 0)] [] dN_read_138 mk_N_count st_N_count ml_N_109 rfl rfl rfl (Nat.le_of_ble_eq_true rfl) rfl ?_
        refine r_count (by decide) ?_
        show Om G M_N_read 141 [(0, .inr (some (ad 20 0))), (1, .inl (nI i)), (2, .inl (nI j))] [.inl (nI (cntN (0) 6))] mu3 Q
        refine m_iret dN_read_141 rfl ?_
        have hz := hC.cli (i := i) (X := (sF (x i) (rdH m ky vr sn h d r i j) ky vr dp 6)) (Hh := (rdH m ky vr sn h d r i j)) (D := fun q => dueN (rdH m ky vr sn h d r i j) dp vr q 6) (S' := s i) (L' := 0) (R' := r i) (P' := 3) hi (hs2.tr hs3) h33 (by rw [g3 34 (by simp), g2 34 (by decide) (by decide)]; exact hC.fse hi) h36b (by rw [h35]; rw [hr1]) hx3 (hH2.ne (g3 37 (by simp))) hd3
        rw [va_self (f := s) rfl, va_self (f := r) rfl] at hz
        rw [cnt0]
        exact kB0 hb85 hr1 hS0 mu3 hz (cseg.lt (hs2.tr hs3))
      · skip
        have hsl := secN_lt (h := (rdH m ky vr sn h d r i j)) (vr := vr) (dp := dp) (s := s i) 6 (Nat.le_refl _)
        show Om G M_N_read 93 [(0, .inr (some (ad 20 0))), (1, .inl (nI i)), (2, .inl (nI j))] [] mu3 Q
        refine o_goto 132 dN_read_93 rfl ?_
        refine o_aload_n dN_read_132 rfl ?_
        refine m_getr dN_read_133 fl_N_56 rfl rfl (by decide) ?_
        refine o_iload_n dN_read_136 rfl ?_
        refine m_iald i dN_read_137 rfl rfl rfl (by decide) rfl hi ?_
        refine o_top (nI (secN (rdH m ky vr sn h d r i j) dp vr (s i) 6)) h36b ?_
        refine m_callS M_N_count [.inl (nI (secN (rdH m ky vr sn h d r i j) dp vr (s i) 6))] [] dN_read_138 mk_N_count st_N_count ml_N_109 rfl rfl rfl (Nat.le_of_ble_eq_true rfl) rfl ?_
        refine r_count hsl ?_
        show Om G M_N_read 141 [(0, .inr (some (ad 20 0))), (1, .inl (nI i)), (2, .inl (nI j))] [.inl (nI (cntN (secN (rdH m ky vr sn h d r i j) dp vr (s i) 6) 6))] mu3 Q
        refine m_iret dN_read_141 rfl ?_
        have hz := hC.cli (i := i) (X := x i) (Hh := (rdH m ky vr sn h d r i j)) (D := fun q => dueN (rdH m ky vr sn h d r i j) dp vr q 6) (S' := s i) (L' := secN (rdH m ky vr sn h d r i j) dp vr (s i) 6) (R' := 2) (P' := 2) hi (hs2.tr hs3) h33 (by rw [g3 34 (by simp), g2 34 (by decide) (by decide)]; exact hC.fse hi) h36b h35 ((hC.fx hi).ne ((g3 32 (by simp)).trans (g2 32 (by decide) (by decide)))) (hH2.ne (g3 37 (by simp))) hd3
        rw [va_self (f := x) rfl, va_self (f := s) rfl] at hz
        exact kB1 hb85 hr1 hS1 mu3 hz (cseg.lt (hs2.tr hs3))
