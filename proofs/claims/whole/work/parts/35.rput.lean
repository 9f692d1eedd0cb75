/-! The reference's put. -/
theorem vOk.lo {mu mu' : oMu} {m : Nat} {ky vr nd : Nat → Nat} {dp : Nat → Nat → Nat} (h : vOk mu m ky vr nd dp) (h20 : mu' 20 0 0 = nI m) (h21 : ∀ w, w < m → mu' 21 0 w = mu 21 0 w) (h23 : ∀ w, w < m → mu' 23 0 w = mu 23 0 w) (h25 : ∀ w, w < m → mu' 25 0 w = mu 25 0 w) (h24 : ∀ y, y < 6 * m → mu' 24 0 y = mu 24 0 y) : vOk mu' m ky vr nd dp := by
  refine ⟨h20, h.2.1, fun w hw => ?_⟩
  have h9 := h.2.2 w hw
  rw [h21 w hw, h23 w hw, h25 w hw]
  exact ⟨h9.1, h9.2.1, fun k hk => by rw [h24 _ (by omega)]; exact h9.2.2 k hk⟩
theorem vOk.add {mu mu' : oMu} {m q n v : Nat} {ky vr nd y : Nat → Nat} {dp : Nat → Nat → Nat} (h : vOk mu m ky vr nd dp) (hm : m < 40) (h20 : mu' 20 0 0 = nI (m + 1)) (h21 : ∀ w, w < m → mu' 21 0 w = mu 21 0 w) (h23 : ∀ w, w < m → mu' 23 0 w = mu 23 0 w) (h25 : ∀ w, w < m → mu' 25 0 w = mu 25 0 w) (h24 : ∀ z, z < 6 * m → mu' 24 0 z = mu 24 0 z) (a1 : mu' 21 0 m = nI q) (a3 : mu' 23 0 m = nI v) (a5 : mu' 25 0 m = nI n) (hq : q < 6) (hv : v < 1000) (hn : n < 64) (hy : ∀ k, k < 6 → mu' 24 0 (6 * m + k) = nI (y k) ∧ y k ≤ m) : vOk mu' (m + 1) (va_up ky m q) (va_up vr m v) (va_up nd m n) (va_up dp m y) := by
  refine ⟨h20, hm, fun w hw => ?_⟩
  by_cases e : w = m
  · subst e
    simp only [va_s]
    exact ⟨⟨a1, a3, a5⟩, ⟨hq, hv, hn⟩, fun k hk => ⟨(hy k hk).1, Nat.le_succ_of_le (hy k hk).2⟩⟩
  · have hw2 : w < m := by omega
    simp only [va_n e]
    have h9 := h.2.2 w hw2
    rw [h21 w hw2, h23 w hw2, h25 w hw2]
    exact ⟨h9.1, h9.2.1, fun k hk => by rw [h24 _ (by omega)]; exact ⟨(h9.2.2 k hk).1, Nat.le_succ_of_le (h9.2.2 k hk).2⟩⟩
def rlOk (g mu : oMu) (c j w : Nat) (sz : Nat → Nat) : Prop := (∀ q, q < 9 → (snd c j q → mu 30 0 q = nI (sz q + 1) ∧ mu 31 0 (40 * q + sz q) = nI w ∧ ∀ y, y < 40 → ¬ y = sz q → mu 31 0 (40 * q + y) = g 31 0 (40 * q + y)) ∧ (¬ snd c j q → mu 30 0 q = g 30 0 q ∧ ∀ y, y < 40 → mu 31 0 (40 * q + y) = g 31 0 (40 * q + y))) ∧ ∀ t i, ¬ (t = 30 ∧ i = 0) → ¬ (t = 31 ∧ i = 0) → mu t i = g t i
theorem rlOk_eq {g mu : oMu} {c j w : Nat} {sz : Nat → Nat} (hc : c < 3) (h : j = c) (hr : rlOk g mu c j w sz) : rlOk g mu c (j + 1) w sz := by
  refine ⟨fun q hq => ⟨fun z => (hr.1 q hq).1 ⟨z.1, z.2.1, by have := z.2; omega⟩, fun z => (hr.1 q hq).2 fun y => z ⟨y.1, y.2.1, by have := y.2; omega⟩⟩, hr.2⟩
theorem rlOk_ap {g mu mu1 : oMu} {c j w : Nat} {sz : Nat → Nat} (hc : c < 3) (hj : j < 3) (h : ¬ j = c) (hs : ∀ q, q < 9 → sz q < 40) (hr : rlOk g mu c j w sz) (h31 : mu1 31 0 = upd (mu 31 0) (40 * (3 * c + j) + sz (3 * c + j)) (nI w)) (h30 : mu1 30 0 = upd (mu 30 0) (3 * c + j) (nI (sz (3 * c + j) + 1))) (hf : mfr [(30, 0), (31, 0)] mu mu1) : rlOk g mu1 c (j + 1) w sz := by
  refine ⟨fun q hq => ?_, fun t i h1 h2 => (hf t i (by simp; omega)).trans (hr.2 t i h1 h2)⟩
  have hsq := hs q hq
  have hsj := hs (3 * c + j) (by omega)
  rw [h30, h31]
  by_cases hqj : q = 3 * c + j
  · subst hqj
    have h3 := (hr.1 (3 * c + j) hq).2 (fun z => by have := z.2.2; omega)
    refine ⟨fun _ => ⟨by simp [upd], by simp [upd], fun y hy hy2 => ?_⟩, fun z => absurd ⟨by omega, by omega, by omega⟩ z⟩
    have e2 : ¬ 40 * (3 * c + j) + y = 40 * (3 * c + j) + sz (3 * c + j) := by omega
    simp only [upd, e2, if_false]
    exact h3.2 y hy
  · have e30 : ∀ v : Int32, upd (mu 30 0) (3 * c + j) v q = mu 30 0 q := fun v => by simp [upd, hqj]
    have e31 : ∀ y, y < 40 → upd (mu 31 0) (40 * (3 * c + j) + sz (3 * c + j)) (nI w) (40 * q + y) = mu 31 0 (40 * q + y) := fun y hy => by
      have e2 : ¬ 40 * q + y = 40 * (3 * c + j) + sz (3 * c + j) := by omega
      simp only [upd, e2, if_false]
    rw [e30, e31 _ hsq]
    refine ⟨fun z => ?_, fun z => ?_⟩
    · have h3 := (hr.1 q hq).1 ⟨z.1, z.2.1, by have := z.1; have := z.2.2; omega⟩
      exact ⟨h3.1, h3.2.1, fun y hy hy2 => by rw [e31 y hy]; exact h3.2.2 y hy hy2⟩
    · have h3 := (hr.1 q hq).2 (fun y => z ⟨y.1, y.2.1, by have := y.2.2; omega⟩)
      exact ⟨h3.1, fun y hy => by rw [e31 y hy]; exact h3.2 y hy⟩
theorem R_put_b1 {G : oG} {mu : oMu} {Q : oPm} {a b v : Int32} (ha : ∀ j, j < 6 → ¬ a = nI j) (k : Q (some (.inl (-1))) mu) : Om G M_N_put 0 [(0, .inr (some (ad 20 0))), (1, .inl a), (2, .inl b), (3, .inl v)] [] mu Q := by
  refine o_iload_n dN_put_0 rfl ?_
  refine o_bipush (nI 6) dN_put_1 rfl ?_
  refine m_callS M_N_out [.inl a, .inl (nI 6)] [] dN_put_3 mk_N_out st_N_out ml_N_73 rfl rfl rfl (Nat.le_of_ble_eq_true rfl) rfl ?_
  refine r_out_n (by decide) ha ?_
  show Om G M_N_put 6 [(0, .inr (some (ad 20 0))), (1, .inl a), (2, .inl b), (3, .inl v)] [.inl (nI 1)] mu Q
  refine n_if_ne 18 dN_put_6 rfl (by omega) (fun _ => ?_) (fun h => absurd h (by decide))
  refine o_iconst (-1) dN_put_18 rfl ?_
  refine m_iret dN_put_19 rfl ?_
  exact k
theorem R_put_b2 {G : oG} {mu : oMu} {Q : oPm} {i : Nat} {b v : Int32} (hi : i < 6) (hb : ∀ j, j < 6 → ¬ b = nI j) (k : Q (some (.inl (-1))) mu) : Om G M_N_put 0 [(0, .inr (some (ad 20 0))), (1, .inl (nI i)), (2, .inl b), (3, .inl v)] [] mu Q := by
  refine o_iload_n dN_put_0 rfl ?_
  refine o_bipush (nI 6) dN_put_1 rfl ?_
  refine m_callS M_N_out [.inl (nI i), .inl (nI 6)] [] dN_put_3 mk_N_out st_N_out ml_N_73 rfl rfl rfl (Nat.le_of_ble_eq_true rfl) rfl ?_
  refine r_out_y (by decide) hi ?_
  show Om G M_N_put 6 [(0, .inr (some (ad 20 0))), (1, .inl (nI i)), (2, .inl b), (3, .inl v)] [.inl (nI 0)] mu Q
  refine n_if_ne 18 dN_put_6 rfl (by omega) (fun h => absurd h (by decide)) (fun _ => ?_)
  refine o_iload_n dN_put_9 rfl ?_
  refine o_bipush (nI 6) dN_put_10 rfl ?_
  refine m_callS M_N_out [.inl b, .inl (nI 6)] [] dN_put_12 mk_N_out st_N_out ml_N_73 rfl rfl rfl (Nat.le_of_ble_eq_true rfl) rfl ?_
  refine r_out_n (by decide) hb ?_
  show Om G M_N_put 15 [(0, .inr (some (ad 20 0))), (1, .inl (nI i)), (2, .inl b), (3, .inl v)] [.inl (nI 1)] mu Q
  refine n_if_eq 20 dN_put_15 rfl (by omega) (fun h => absurd h (by decide)) (fun _ => ?_)
  refine o_iconst (-1) dN_put_18 rfl ?_
  refine m_iret dN_put_19 rfl ?_
  exact k
theorem R_put_busy {G : oG} {mu : oMu} {Q : oPm} {m : Nat} {ky vr nd : Nat → Nat} {dp : Nat → Nat → Nat} {vl : Nat → Int32} {sn ck : Nat → Nat → Nat} {wt fl : Nat → List Nat} {x h d : Nat → Nat → Nat} {s l r ph : Nat → Nat} (hC : ReR mu m ky vr nd dp vl sn ck wt fl x h d s l r ph) {i q : Nat} {v : Int32} (hi : i < 6) (hp4 : ph i < 4) (hq : q < 6) (hop : ph i = 1 ∨ ph i = 2) (k : Q (some (.inl (-2))) mu) : Om G M_N_put 0 [(0, .inr (some (ad 20 0))), (1, .inl (nI i)), (2, .inl (nI q)), (3, .inl v)] [] mu Q := by
  refine o_iload_n dN_put_0 rfl ?_
  refine o_bipush (nI 6) dN_put_1 rfl ?_
  refine m_callS M_N_out [.inl (nI i), .inl (nI 6)] [] dN_put_3 mk_N_out st_N_out ml_N_73 rfl rfl rfl (Nat.le_of_ble_eq_true rfl) rfl ?_
  refine r_out_y (by decide) hi ?_
  show Om G M_N_put 6 [(0, .inr (some (ad 20 0))), (1, .inl (nI i)), (2, .inl (nI q)), (3, .inl v)] [.inl (nI 0)] mu Q
  refine n_if_ne 18 dN_put_6 rfl (by omega) (fun h => absurd h (by decide)) (fun _ => ?_)
  refine o_iload_n dN_put_9 rfl ?_
  refine o_bipush (nI 6) dN_put_10 rfl ?_
  refine m_callS M_N_out [.inl (nI q), .inl (nI 6)] [] dN_put_12 mk_N_out st_N_out ml_N_73 rfl rfl rfl (Nat.le_of_ble_eq_true rfl) rfl ?_
  refine r_out_y (by decide) hq ?_
  show Om G M_N_put 15 [(0, .inr (some (ad 20 0))), (1, .inl (nI i)), (2, .inl (nI q)), (3, .inl v)] [.inl (nI 0)] mu Q
  refine n_if_eq 20 dN_put_15 rfl (by omega) (fun _ => ?_) (fun h => absurd h (by decide))
  refine o_aload_n dN_put_20 rfl ?_
  refine o_iload_n dN_put_21 rfl ?_
  refine m_callV M_N_open [.inl (nI i)] [] dN_put_22 mk_N_open in_N_open se_N_open rfl (by decide) rfl rfl ml_N_77 rfl rfl rfl (Nat.le_of_ble_eq_true rfl) rfl ?_
  refine r_open_y hi (hC.fph hi) hp4 hop ?_
  show Om G M_N_put 25 [(0, .inr (some (ad 20 0))), (1, .inl (nI i)), (2, .inl (nI q)), (3, .inl v)] [.inl (nI 1)] mu Q
  refine n_if_eq 31 dN_put_25 rfl (by omega) (fun h => absurd h (by decide)) (fun _ => ?_)
  refine o_bipush (-2) dN_put_28 rfl ?_
  refine m_iret dN_put_30 rfl ?_
  exact k
theorem R_put_full {G : oG} {mu : oMu} {Q : oPm} {m : Nat} {ky vr nd : Nat → Nat} {dp : Nat → Nat → Nat} {vl : Nat → Int32} {sn ck : Nat → Nat → Nat} {wt fl : Nat → List Nat} {x h d : Nat → Nat → Nat} {s l r ph : Nat → Nat} (hC : ReR mu m ky vr nd dp vl sn ck wt fl x h d s l r ph) {i q : Nat} {v : Int32} (hi : i < 6) (hp4 : ph i < 4) (hq : q < 6) (hop : ¬ (ph i = 1 ∨ ph i = 2)) (hm : m = 40) (k : Q (some (.inl (-3))) mu) : Om G M_N_put 0 [(0, .inr (some (ad 20 0))), (1, .inl (nI i)), (2, .inl (nI q)), (3, .inl v)] [] mu Q := by
  refine o_iload_n dN_put_0 rfl ?_
  refine o_bipush (nI 6) dN_put_1 rfl ?_
  refine m_callS M_N_out [.inl (nI i), .inl (nI 6)] [] dN_put_3 mk_N_out st_N_out ml_N_73 rfl rfl rfl (Nat.le_of_ble_eq_true rfl) rfl ?_
  refine r_out_y (by decide) hi ?_
  show Om G M_N_put 6 [(0, .inr (some (ad 20 0))), (1, .inl (nI i)), (2, .inl (nI q)), (3, .inl v)] [.inl (nI 0)] mu Q
  refine n_if_ne 18 dN_put_6 rfl (by omega) (fun h => absurd h (by decide)) (fun _ => ?_)
  refine o_iload_n dN_put_9 rfl ?_
  refine o_bipush (nI 6) dN_put_10 rfl ?_
  refine m_callS M_N_out [.inl (nI q), .inl (nI 6)] [] dN_put_12 mk_N_out st_N_out ml_N_73 rfl rfl rfl (Nat.le_of_ble_eq_true rfl) rfl ?_
  refine r_out_y (by decide) hq ?_
  show Om G M_N_put 15 [(0, .inr (some (ad 20 0))), (1, .inl (nI i)), (2, .inl (nI q)), (3, .inl v)] [.inl (nI 0)] mu Q
  refine n_if_eq 20 dN_put_15 rfl (by omega) (fun _ => ?_) (fun h => absurd h (by decide))
  refine o_aload_n dN_put_20 rfl ?_
  refine o_iload_n dN_put_21 rfl ?_
  refine m_callV M_N_open [.inl (nI i)] [] dN_put_22 mk_N_open in_N_open se_N_open rfl (by decide) rfl rfl ml_N_77 rfl rfl rfl (Nat.le_of_ble_eq_true rfl) rfl ?_
  refine r_open_n hi (hC.fph hi) hp4 hop ?_
  show Om G M_N_put 25 [(0, .inr (some (ad 20 0))), (1, .inl (nI i)), (2, .inl (nI q)), (3, .inl v)] [.inl (nI 0)] mu Q
  refine n_if_eq 31 dN_put_25 rfl (by omega) (fun _ => ?_) (fun h => absurd h (by decide))
  refine o_aload_n dN_put_31 rfl ?_
  refine m_geti dN_put_32 fl_N_65 rfl rfl (by decide) ?_
  refine o_top (nI m) hC.fw.mm ?_
  refine o_bipush (nI 40) dN_put_35 rfl ?_
  refine n_icmp_ne 43 dN_put_37 rfl (by omega) (by omega) (fun h => absurd hm h) (fun hb37 => ?_)
  refine o_bipush (-3) dN_put_40 rfl ?_
  refine m_iret dN_put_42 rfl ?_
  exact k
theorem l_rtime {G : oG} {mu : oMu} {Q : oPm} {m : Nat} {ky vr nd : Nat → Nat} {dp : Nat → Nat → Nat} (hV : vOk mu m ky vr nd dp) {i q t0 : Nat} {v : Int32} {x : Nat → Nat} (hi : i < 6) (ht0 : t0 < 1000) (hx : yOk mu 32 i m x) (j : Nat) (hj : j ≤ 6) (k : Om G M_N_put 136 [(0, .inr (some (ad 20 0))), (1, .inl (nI i)), (2, .inl (nI q)), (3, .inl v), (4, .inl (nI (i % 3))), (5, .inl (nI (2 * (i % 3) + (q % 2)))), (6, .inl (nI (tmx t0 x vr 6))), (7, .inl (nI 6))] [] mu Q) : Om G M_N_put 70 [(0, .inr (some (ad 20 0))), (1, .inl (nI i)), (2, .inl (nI q)), (3, .inl v), (4, .inl (nI (i % 3))), (5, .inl (nI (2 * (i % 3) + (q % 2)))), (6, .inl (nI (tmx t0 x vr j))), (7, .inl (nI j))] [] mu Q := by
  have hm4 := hV.m4
  refine o_iload dN_put_70 rfl ?_
  refine o_bipush (nI 6) dN_put_72 rfl ?_
  refine n_icmp_ge 136 dN_put_74 rfl (by omega) (by omega) (fun hb74 => ?_) (fun hb74 => ?_)
  · skip
    obtain rfl : j = 6 := by omega
    exact k
  · skip
    have hx1 := hx j hb74
    have htm := tmx_lt (vr := vr) ht0 (fun q hq => (hx q hq).2) (fun u hu => hV.verK u hu) j hj
    refine o_aload_n dN_put_77 rfl ?_
    refine m_getr dN_put_78 fl_N_44 rfl rfl (by decide) ?_
    refine o_bipush (nI 6) dN_put_81 rfl ?_
    refine o_iload_n dN_put_83 rfl ?_
    refine o_imul dN_put_84 ?_
    refine o_top _ (pk_mul _ _) ?_
    refine o_iload dN_put_85 rfl ?_
    refine o_iadd dN_put_87 ?_
    refine o_top _ (nI_add _ _) ?_
    refine m_iald (6 * i + j) dN_put_88 rfl rfl rfl (by decide) rfl (by omega) ?_
    refine o_top (nI (x j)) hx1.1 ?_
    refine o_istore [(0, _), (1, _), (2, _), (3, _), (4, _), (5, _), (6, _), (7, _), (8, _)] dN_put_89 rfl rfl ?_
    refine o_iload dN_put_91 rfl ?_
    refine n_if_le 126 dN_put_93 rfl (by omega) (fun hb93 => ?_) (fun hb93 => ?_)
    · skip
      refine o_iload dN_put_126 rfl ?_
      refine o_istore [(0, _), (1, _), (2, _), (3, _), (4, _), (5, _), (6, _), (7, _), (8, _)] dN_put_128 rfl rfl ?_
      refine o_iinc (nI (j + 1)) [(0, _), (1, _), (2, _), (3, _), (4, _), (5, _), (6, _), (7, _), (8, _)] dN_put_130 rfl (nInc _) rfl rfl ?_
      refine o_goto 70 dN_put_133 rfl ?_
      refine o_lv [(0, _), (1, _), (2, _), (3, _), (4, _), (5, _), (6, _), (7, _)] [0, 1, 2, 3, 4, 5, 6, 7] rfl ?_
      rw [show tmx t0 x vr j = tmx t0 x vr (j + 1) by first | (rw [tmx, if_pos (by omega)]; done) | (rw [tmx, if_neg (by omega), hw, show w + 1 - 1 = w from rfl, if_neg (by omega)])]
      exact l_rtime hV hi ht0 hx (j + 1) (by omega) k
    · skip
      obtain ⟨w, hw⟩ : ∃ w, x j = w + 1 := ⟨x j - 1, by omega⟩
      have hww : w < m := by omega
      have hvk := hV.verK w hww
      rw [hw]
      refine o_aload_n dN_put_96 rfl ?_
      refine m_getr dN_put_97 fl_N_16 rfl rfl (by decide) ?_
      refine o_iload dN_put_100 rfl ?_
      refine o_iconst (nI 1) dN_put_102 rfl ?_
      refine o_isub dN_put_103 ?_
      refine o_top (nI w) (pk_sub (show 1 ≤ w + 1 by omega)) ?_
      refine m_iald w dN_put_104 rfl rfl rfl (by decide) rfl (by omega) ?_
      refine o_top (nI (vr w)) (hV.ver w hww) ?_
      refine o_iconst (nI 4) dN_put_105 rfl ?_
      refine o_idiv dN_put_106 (by decide) ?_
      refine o_top _ (pk_div (by omega) (by decide) (by decide)) ?_
      refine o_iload dN_put_107 rfl ?_
      refine n_icmp_le 126 dN_put_109 rfl (by omega) (by omega) (fun hb109 => ?_) (fun hb109 => ?_)
      · skip
        refine o_iload dN_put_126 rfl ?_
        refine o_istore [(0, _), (1, _), (2, _), (3, _), (4, _), (5, _), (6, _), (7, _), (8, _)] dN_put_128 rfl rfl ?_
        refine o_iinc (nI (j + 1)) [(0, _), (1, _), (2, _), (3, _), (4, _), (5, _), (6, _), (7, _), (8, _)] dN_put_130 rfl (nInc _) rfl rfl ?_
        refine o_goto 70 dN_put_133 rfl ?_
        refine o_lv [(0, _), (1, _), (2, _), (3, _), (4, _), (5, _), (6, _), (7, _)] [0, 1, 2, 3, 4, 5, 6, 7] rfl ?_
        rw [show tmx t0 x vr j = tmx t0 x vr (j + 1) by first | (rw [tmx, if_pos (by omega)]; done) | (rw [tmx, if_neg (by omega), hw, show w + 1 - 1 = w from rfl, if_neg (by omega)])]
        exact l_rtime hV hi ht0 hx (j + 1) (by omega) k
      · skip
        refine o_aload_n dN_put_112 rfl ?_
        refine m_getr dN_put_113 fl_N_16 rfl rfl (by decide) ?_
        refine o_iload dN_put_116 rfl ?_
        refine o_iconst (nI 1) dN_put_118 rfl ?_
        refine o_isub dN_put_119 ?_
        refine o_top (nI w) (pk_sub (show 1 ≤ w + 1 by omega)) ?_
        refine m_iald w dN_put_120 rfl rfl rfl (by decide) rfl (by omega) ?_
        refine o_top (nI (vr w)) (hV.ver w hww) ?_
        refine o_iconst (nI 4) dN_put_121 rfl ?_
        refine o_idiv dN_put_122 (by decide) ?_
        refine o_top _ (pk_div (by omega) (by decide) (by decide)) ?_
        refine o_goto 128 dN_put_123 rfl ?_
        refine o_istore [(0, _), (1, _), (2, _), (3, _), (4, _), (5, _), (6, _), (7, _), (8, _)] dN_put_128 rfl rfl ?_
        refine o_iinc (nI (j + 1)) [(0, _), (1, _), (2, _), (3, _), (4, _), (5, _), (6, _), (7, _), (8, _)] dN_put_130 rfl (nInc _) rfl rfl ?_
        refine o_goto 70 dN_put_133 rfl ?_
        refine o_lv [(0, _), (1, _), (2, _), (3, _), (4, _), (5, _), (6, _), (7, _)] [0, 1, 2, 3, 4, 5, 6, 7] rfl ?_
        rw [show (vr w) / 4 = tmx t0 x vr (j + 1) by rw [tmx, if_neg (by omega), hw, show w + 1 - 1 = w from rfl, if_pos hb109]]
        exact l_rtime hV hi ht0 hx (j + 1) (by omega) k
termination_by 6 - j
theorem l_rdep {G : oG} {mu : oMu} {Q : oPm} {i q t w : Nat} {v : Int32} {x : Nat → Nat} (hi : i < 6) (hw : w < 40) (j : Nat) (hj : j ≤ 6) (hx : ∀ z, z < 6 → mu 32 0 (6 * i + z) = nI (x z)) (hd : ∀ z, z < j → mu 24 0 (6 * w + z) = nI (x z)) (k : ∀ mu' : oMu, (∀ z, z < 6 → mu' 24 0 (6 * w + z) = nI (x z)) → (∀ y, y < 6 * w → mu' 24 0 y = mu 24 0 y) → mfr [(24, 0)] mu mu' → Om G M_N_put 238 [(0, .inr (some (ad 20 0))), (1, .inl (nI i)), (2, .inl (nI q)), (3, .inl v), (4, .inl (nI (i % 3))), (5, .inl (nI (2 * (i % 3) + (q % 2)))), (6, .inl (nI t)), (7, .inl (nI w)), (8, .inl (nI 6))] [] mu' Q) : Om G M_N_put 200 [(0, .inr (some (ad 20 0))), (1, .inl (nI i)), (2, .inl (nI q)), (3, .inl v), (4, .inl (nI (i % 3))), (5, .inl (nI (2 * (i % 3) + (q % 2)))), (6, .inl (nI t)), (7, .inl (nI w)), (8, .inl (nI j))] [] mu Q := by
  refine o_iload dN_put_200 rfl ?_
  refine o_bipush (nI 6) dN_put_202 rfl ?_
  refine n_icmp_ge 238 dN_put_204 rfl (by omega) (by omega) (fun hb204 => ?_) (fun hb204 => ?_)
  · skip
    obtain rfl : j = 6 := by omega
    exact k mu hd (fun _ _ => rfl) mfr_rf
  · skip
    refine o_aload_n dN_put_207 rfl ?_
    refine m_getr dN_put_208 fl_N_19 rfl rfl (by decide) ?_
    refine o_bipush (nI 6) dN_put_211 rfl ?_
    refine o_iload dN_put_213 rfl ?_
    refine o_imul dN_put_215 ?_
    refine o_top _ (pk_mul _ _) ?_
    refine o_iload dN_put_216 rfl ?_
    refine o_iadd dN_put_218 ?_
    refine o_top _ (nI_add _ _) ?_
    refine o_aload_n dN_put_219 rfl ?_
    refine m_getr dN_put_220 fl_N_44 rfl rfl (by decide) ?_
    refine o_bipush (nI 6) dN_put_223 rfl ?_
    refine o_iload_n dN_put_225 rfl ?_
    refine o_imul dN_put_226 ?_
    refine o_top _ (pk_mul _ _) ?_
    refine o_iload dN_put_227 rfl ?_
    refine o_iadd dN_put_229 ?_
    refine o_top _ (nI_add _ _) ?_
    refine m_iald (6 * i + j) dN_put_230 rfl rfl rfl (by decide) rfl (by omega) ?_
    refine o_top (nI (x j)) (hx j hb204) ?_
    refine m_iast (6 * w + j) dN_put_231 rfl rfl rfl (by decide) rfl (by omega) (fun mu1 hmu1 => ?_)
    refine o_iinc (nI (j + 1)) [(0, _), (1, _), (2, _), (3, _), (4, _), (5, _), (6, _), (7, _), (8, _)] dN_put_232 rfl (nInc _) rfl rfl ?_
    refine o_goto 200 dN_put_235 rfl ?_
    have hf1 := mfr_up (L := [(24, 0)]) hmu1 (by simp)
    exact l_rdep hi hw (j + 1) (by omega) (fun z hz => by rw [hf1 32 0 (by simp)]; exact hx z hz) (fun z hz => by
      rw [hmu1, up2_s]
      by_cases e : z = j
      · simp [upd, e]
      · have e2 : ¬ 6 * w + z = 6 * w + j := by omega
        simp only [upd, e2, if_false]
        exact hd z (by omega)) (fun mu' a b c => k mu' a (fun y hy => (b y hy).trans (by
      rw [hmu1, up2_s]
      have e2 : ¬ y = 6 * w + j := by omega
      simp only [upd, e2, if_false])) (hf1.tr c))
termination_by 6 - j
theorem l_rsend {G : oG} {mu : oMu} {Q : oPm} {i q t w : Nat} {v : Int32} {g : oMu} {sz : Nat → Nat} (hw : w < 40) (hsz : ∀ z, z < 9 → g 30 0 z = nI (sz z) ∧ sz z < 40) (j : Nat) (hj : j ≤ 3) (hr : rlOk g mu (i % 3) j w sz) (k : ∀ mu' : oMu, rlOk g mu' (i % 3) 3 w sz → Om G M_N_put 294 [(0, .inr (some (ad 20 0))), (1, .inl (nI i)), (2, .inl (nI q)), (3, .inl v), (4, .inl (nI (i % 3))), (5, .inl (nI (2 * (i % 3) + (q % 2)))), (6, .inl (nI t)), (7, .inl (nI w)), (8, .inl (nI 3))] [] mu' Q) : Om G M_N_put 265 [(0, .inr (some (ad 20 0))), (1, .inl (nI i)), (2, .inl (nI q)), (3, .inl v), (4, .inl (nI (i % 3))), (5, .inl (nI (2 * (i % 3) + (q % 2)))), (6, .inl (nI t)), (7, .inl (nI w)), (8, .inl (nI j))] [] mu Q := by
  refine o_iload dN_put_265 rfl ?_
  refine o_iconst (nI 3) dN_put_267 rfl ?_
  refine n_icmp_ge 294 dN_put_268 rfl (by omega) (by omega) (fun hb268 => ?_) (fun hb268 => ?_)
  · skip
    obtain rfl : j = 3 := by omega
    exact k mu hr
  · skip
    refine o_iload dN_put_271 rfl ?_
    refine o_iload dN_put_273 rfl ?_
    refine n_icmp_eq 288 dN_put_275 rfl (by omega) (by omega) (fun hb275 => ?_) (fun hb275 => ?_)
    · skip
      refine o_iinc (nI (j + 1)) [(0, _), (1, _), (2, _), (3, _), (4, _), (5, _), (6, _), (7, _), (8, _)] dN_put_288 rfl (nInc _) rfl rfl ?_
      refine o_goto 265 dN_put_291 rfl ?_
      exact l_rsend hw hsz (j + 1) (by omega) (rlOk_eq (by omega) hb275 hr) k
    · skip
      refine o_aload_n dN_put_278 rfl ?_
      refine o_iload dN_put_279 rfl ?_
      refine o_iload dN_put_281 rfl ?_
      refine o_iload dN_put_283 rfl ?_
      refine m_callV M_N_send [.inl (nI w), .inl (nI (i % 3)), .inl (nI j)] [] dN_put_285 mk_N_send in_N_send se_N_send rfl (by decide) rfl rfl ml_N_85 rfl rfl rfl (Nat.le_of_ble_eq_true rfl) rfl ?_
      refine r_send (f := i % 3) (t := j) (n := sz (3 * (i % 3) + j)) (by omega) hb268 (by rw [((hr.1 (3 * (i % 3) + j) (by omega)).2 (fun z => by have := z.2.2; omega)).1]; exact (hsz _ (by omega)).1) (hsz _ (by omega)).2 (fun mu1 h31 h30 hf1 => ?_)
      show Om G M_N_put 288 [(0, .inr (some (ad 20 0))), (1, .inl (nI i)), (2, .inl (nI q)), (3, .inl v), (4, .inl (nI (i % 3))), (5, .inl (nI (2 * (i % 3) + (q % 2)))), (6, .inl (nI t)), (7, .inl (nI w)), (8, .inl (nI j))] [] mu1 Q
      refine o_iinc (nI (j + 1)) [(0, _), (1, _), (2, _), (3, _), (4, _), (5, _), (6, _), (7, _), (8, _)] dN_put_288 rfl (nInc _) rfl rfl ?_
      refine o_goto 265 dN_put_291 rfl ?_
      exact l_rsend hw hsz (j + 1) (by omega) (rlOk_ap (by omega) hb268 hb275 (fun z hz => (hsz z hz).2) hr h31 h30 hf1) k
termination_by 3 - j
theorem R_put {G : oG} {mu : oMu} {Q : oPm} {m : Nat} {ky vr nd : Nat → Nat} {dp : Nat → Nat → Nat} {vl : Nat → Int32} {sn ck : Nat → Nat → Nat} {wt fl : Nat → List Nat} {x h d : Nat → Nat → Nat} {s l r ph : Nat → Nat} (hC : ReR mu m ky vr nd dp vl sn ck wt fl x h d s l r ph) {i q : Nat} {v : Int32} (hi : i < 6) (hp4 : ph i < 4) (hq : q < 6) (hop : ¬ (ph i = 1 ∨ ph i = 2)) (hm : m < 40) (hck : ck (i % 3) (q % 2) < 1000) (hT : tmx (ck (i % 3) (q % 2)) (x i) vr 6 ≤ 40) (hfl : ∀ z, z < 9 → (fl z).length < 40) (k : ∀ mu' : oMu, ReR mu' (m + 1) (va_up ky m q) (va_up vr m (4 * (tmx (ck (i % 3) (q % 2)) (x i) vr 6 + 1) + i % 3)) (va_up nd m (nearB (x i) dp 6)) (va_up dp m (x i)) (va_up vl m v) (va_up sn (i % 3) (va_up (sn (i % 3)) m 1)) (va_up ck (i % 3) (va_up (ck (i % 3)) (q % 2) (tmx (ck (i % 3) (q % 2)) (x i) vr 6 + 1))) wt (flP fl (i % 3) m) (va_up x i (sX (x i) (x i) (va_up vr m (4 * (tmx (ck (i % 3) (q % 2)) (x i) vr 6 + 1) + i % 3)) q m)) h d s l r ph → mlt mu mu' → Q (some (.inl (nI m))) mu') : Om G M_N_put 0 [(0, .inr (some (ad 20 0))), (1, .inl (nI i)), (2, .inl (nI q)), (3, .inl v)] [] mu Q := by
  have hm4 := hC.fw.m4
  refine o_iload_n dN_put_0 rfl ?_
  refine o_bipush (nI 6) dN_put_1 rfl ?_
  refine m_callS M_N_out [.inl (nI i), .inl (nI 6)] [] dN_put_3 mk_N_out st_N_out ml_N_73 rfl rfl rfl (Nat.le_of_ble_eq_true rfl) rfl ?_
  refine r_out_y (by decide) hi ?_
  show Om G M_N_put 6 [(0, .inr (some (ad 20 0))), (1, .inl (nI i)), (2, .inl (nI q)), (3, .inl v)] [.inl (nI 0)] mu Q
  refine n_if_ne 18 dN_put_6 rfl (by omega) (fun h => absurd h (by decide)) (fun _ => ?_)
  refine o_iload_n dN_put_9 rfl ?_
  refine o_bipush (nI 6) dN_put_10 rfl ?_
  refine m_callS M_N_out [.inl (nI q), .inl (nI 6)] [] dN_put_12 mk_N_out st_N_out ml_N_73 rfl rfl rfl (Nat.le_of_ble_eq_true rfl) rfl ?_
  refine r_out_y (by decide) hq ?_
  show Om G M_N_put 15 [(0, .inr (some (ad 20 0))), (1, .inl (nI i)), (2, .inl (nI q)), (3, .inl v)] [.inl (nI 0)] mu Q
  refine n_if_eq 20 dN_put_15 rfl (by omega) (fun _ => ?_) (fun h => absurd h (by decide))
  refine o_aload_n dN_put_20 rfl ?_
  refine o_iload_n dN_put_21 rfl ?_
  refine m_callV M_N_open [.inl (nI i)] [] dN_put_22 mk_N_open in_N_open se_N_open rfl (by decide) rfl rfl ml_N_77 rfl rfl rfl (Nat.le_of_ble_eq_true rfl) rfl ?_
  refine r_open_n hi (hC.fph hi) hp4 hop ?_
  show Om G M_N_put 25 [(0, .inr (some (ad 20 0))), (1, .inl (nI i)), (2, .inl (nI q)), (3, .inl v)] [.inl (nI 0)] mu Q
  refine n_if_eq 31 dN_put_25 rfl (by omega) (fun _ => ?_) (fun h => absurd h (by decide))
  refine o_aload_n dN_put_31 rfl ?_
  refine m_geti dN_put_32 fl_N_65 rfl rfl (by decide) ?_
  refine o_top (nI m) hC.fw.mm ?_
  refine o_bipush (nI 40) dN_put_35 rfl ?_
  refine n_icmp_ne 43 dN_put_37 rfl (by omega) (by omega) (fun hb37 => ?_) (fun h => absurd h (by omega))
  refine o_iload_n dN_put_43 rfl ?_
  refine o_iconst (nI 3) dN_put_44 rfl ?_
  refine o_irem dN_put_45 (by decide) ?_
  refine o_top _ (pk_rem (by omega) (by decide) (by decide)) ?_
  refine o_istore [(0, _), (1, _), (2, _), (3, _), (4, _)] dN_put_46 rfl rfl ?_
  refine o_iconst (nI 2) dN_put_48 rfl ?_
  refine o_iload dN_put_49 rfl ?_
  refine o_imul dN_put_51 ?_
  refine o_top _ (pk_mul _ _) ?_
  refine o_iload_n dN_put_52 rfl ?_
  refine o_iconst (nI 2) dN_put_53 rfl ?_
  refine o_irem dN_put_54 (by decide) ?_
  refine o_top _ (pk_rem (by omega) (by decide) (by decide)) ?_
  refine o_iadd dN_put_55 ?_
  refine o_top _ (nI_add _ _) ?_
  refine o_istore [(0, _), (1, _), (2, _), (3, _), (4, _), (5, _)] dN_put_56 rfl rfl ?_
  refine o_aload_n dN_put_58 rfl ?_
  refine m_getr dN_put_59 fl_N_29 rfl rfl (by decide) ?_
  refine o_iload dN_put_62 rfl ?_
  refine m_iald (2 * (i % 3) + (q % 2)) dN_put_64 rfl rfl rfl (by decide) rfl (by omega) ?_
  refine o_top (nI (ck (i % 3) (q % 2))) (hC.fck (by omega) (by omega)) ?_
  refine o_istore [(0, _), (1, _), (2, _), (3, _), (4, _), (5, _), (6, _)] dN_put_65 rfl rfl ?_
  refine o_iconst (nI 0) dN_put_67 rfl ?_
  refine o_istore [(0, _), (1, _), (2, _), (3, _), (4, _), (5, _), (6, _), (7, _)] dN_put_68 rfl rfl ?_
  refine l_rtime hC.fw hi hck (hC.fx hi) 0 (by omega) ?_
  show Om G M_N_put 136 [(0, .inr (some (ad 20 0))), (1, .inl (nI i)), (2, .inl (nI q)), (3, .inl v), (4, .inl (nI (i % 3))), (5, .inl (nI (2 * (i % 3) + (q % 2)))), (6, .inl (nI (tmx (ck (i % 3) (q % 2)) (x i) vr 6))), (7, .inl (nI 6))] [] mu Q
  refine o_aload_n dN_put_136 rfl ?_
  refine m_getr dN_put_137 fl_N_29 rfl rfl (by decide) ?_
  refine o_iload dN_put_140 rfl ?_
  refine o_iload dN_put_142 rfl ?_
  refine o_iconst (nI 1) dN_put_144 rfl ?_
  refine o_iadd dN_put_145 ?_
  refine o_top _ (nI_add _ _) ?_
  refine m_iast (2 * (i % 3) + (q % 2)) dN_put_146 rfl rfl rfl (by decide) rfl (by omega) (fun mu1 hmu1 => ?_)
  refine o_aload_n dN_put_147 rfl ?_
  refine m_geti dN_put_148 fl_N_65 rfl rfl (by decide) ?_
  refine o_top (nI m) (by rw [hmu1, up2_t (by decide)]; exact hC.fw.mm) ?_
  refine o_istore [(0, _), (1, _), (2, _), (3, _), (4, _), (5, _), (6, _), (7, _)] dN_put_151 rfl rfl ?_
  refine o_aload_n dN_put_153 rfl ?_
  refine m_getr dN_put_154 fl_N_7 rfl rfl (by decide) ?_
  refine o_iload dN_put_157 rfl ?_
  refine o_iload_n dN_put_159 rfl ?_
  refine m_iast m dN_put_160 rfl rfl rfl (by decide) rfl (by omega) (fun mu2 hmu2 => ?_)
  refine o_aload_n dN_put_161 rfl ?_
  refine m_getr dN_put_162 fl_N_13 rfl rfl (by decide) ?_
  refine o_iload dN_put_165 rfl ?_
  refine o_iload_n dN_put_167 rfl ?_
  refine m_iast m dN_put_168 rfl rfl rfl (by decide) rfl (by omega) (fun mu3 hmu3 => ?_)
  refine o_aload_n dN_put_169 rfl ?_
  refine m_getr dN_put_170 fl_N_16 rfl rfl (by decide) ?_
  refine o_iload dN_put_173 rfl ?_
  refine o_iconst (nI 4) dN_put_175 rfl ?_
  refine o_iload dN_put_176 rfl ?_
  refine o_iconst (nI 1) dN_put_178 rfl ?_
  refine o_iadd dN_put_179 ?_
  refine o_top _ (nI_add _ _) ?_
  refine o_imul dN_put_180 ?_
  refine o_top _ (pk_mul _ _) ?_
  refine o_iload dN_put_181 rfl ?_
  refine o_iadd dN_put_183 ?_
  refine o_top _ (nI_add _ _) ?_
  refine m_iast m dN_put_184 rfl rfl rfl (by decide) rfl (by omega) (fun mu4 hmu4 => ?_)
  have hV4 : vOk mu4 m ky vr nd dp := hC.fw.lo (by rw [hmu4, up2_t (by decide), hmu3, up2_t (by decide), hmu2, up2_t (by decide), hmu1, up2_t (by decide)]; exact hC.fw.mm) (fun w hw => by rw [hmu4, up2_t (by decide), hmu3, up2_t (by decide), hmu2, up2_s, hmu1, up2_t (by decide)]; simp [upd, Nat.ne_of_lt hw]) (fun w hw => by rw [hmu4, up2_s, hmu3, up2_t (by decide), hmu2, up2_t (by decide), hmu1, up2_t (by decide)]; simp [upd, Nat.ne_of_lt hw]) (fun w hw => by rw [hmu4, up2_t (by decide), hmu3, up2_t (by decide), hmu2, up2_t (by decide), hmu1, up2_t (by decide)]) (fun y hy => by rw [hmu4, up2_t (by decide), hmu3, up2_t (by decide), hmu2, up2_t (by decide), hmu1, up2_t (by decide)])
  have hX4 : yOk mu4 32 i m (x i) := (hC.fx hi).ne (by rw [hmu4, up2_t (by decide), hmu3, up2_t (by decide), hmu2, up2_t (by decide), hmu1, up2_t (by decide)])
  refine o_aload_n dN_put_185 rfl ?_
  refine m_getr dN_put_186 fl_N_22 rfl rfl (by decide) ?_
  refine o_iload dN_put_189 rfl ?_
  refine o_aload_n dN_put_191 rfl ?_
  refine o_iload_n dN_put_192 rfl ?_
  refine m_callV M_N_near [.inl (nI i)] [.inl (nI m), .inr (some (ad 25 0))] dN_put_193 mk_N_near in_N_near se_N_near rfl (by decide) rfl rfl ml_N_81 rfl rfl rfl (Nat.le_of_ble_eq_true rfl) rfl ?_
  refine r_near hV4 hi hX4 ?_
  show Om G M_N_put 196 [(0, .inr (some (ad 20 0))), (1, .inl (nI i)), (2, .inl (nI q)), (3, .inl v), (4, .inl (nI (i % 3))), (5, .inl (nI (2 * (i % 3) + (q % 2)))), (6, .inl (nI (tmx (ck (i % 3) (q % 2)) (x i) vr 6))), (7, .inl (nI m))] [.inl (nI (nearB (x i) dp 6)), .inl (nI m), .inr (some (ad 25 0))] mu4 Q
  refine m_iast m dN_put_196 rfl rfl rfl (by decide) rfl (by omega) (fun mu5 hmu5 => ?_)
  refine o_iconst (nI 0) dN_put_197 rfl ?_
  refine o_istore [(0, _), (1, _), (2, _), (3, _), (4, _), (5, _), (6, _), (7, _), (8, _)] dN_put_198 rfl rfl ?_
  refine l_rdep (x := x i) hi hm 0 (by omega) (fun z hz => by rw [hmu5, up2_t (by decide)]; exact (hX4 z hz).1) (fun z hz => absurd hz (by omega)) (fun mu6 h24 h24o hf6 => ?_)
  show Om G M_N_put 238 [(0, .inr (some (ad 20 0))), (1, .inl (nI i)), (2, .inl (nI q)), (3, .inl v), (4, .inl (nI (i % 3))), (5, .inl (nI (2 * (i % 3) + (q % 2)))), (6, .inl (nI (tmx (ck (i % 3) (q % 2)) (x i) vr 6))), (7, .inl (nI m)), (8, .inl (nI 6))] [] mu6 Q
  refine o_aload_n dN_put_238 rfl ?_
  refine o_dup dN_put_239 ?_
  refine m_geti dN_put_240 fl_N_65 rfl rfl (by decide) ?_
  refine o_top (nI m) (by rw [hf6 20 0 (by simp), hmu5, up2_t (by decide)]; exact hV4.mm) ?_
  refine o_iconst (nI 1) dN_put_243 rfl ?_
  refine o_iadd dN_put_244 ?_
  refine o_top _ (nI_add _ _) ?_
  refine m_puti dN_put_245 fs_N_65 rfl rfl (by decide) (fun mu7 hmu7 => ?_)
  refine o_aload_n dN_put_248 rfl ?_
  refine m_getr dN_put_249 fl_N_25 rfl rfl (by decide) ?_
  refine o_bipush (nI 40) dN_put_252 rfl ?_
  refine o_iload dN_put_254 rfl ?_
  refine o_imul dN_put_256 ?_
  refine o_top _ (pk_mul _ _) ?_
  refine o_iload dN_put_257 rfl ?_
  refine o_iadd dN_put_259 ?_
  refine o_top _ (nI_add _ _) ?_
  refine o_iconst (nI 1) dN_put_260 rfl ?_
  refine m_zast (40 * (i % 3) + m) dN_put_261 rfl rfl rfl (by decide) rfl (by omega) rfl (fun mu8 hmu8 => ?_)
  have q5 : ∀ t, ¬ t = 24 → ¬ t = 20 → ¬ t = 26 → mu8 t 0 = mu5 t 0 := fun t a b c => by rw [hmu8, up2_t c, hmu7, up2_t b, hf6 t 0 (by simp [a])]
  have q0 : ∀ t, ¬ t = 24 → ¬ t = 20 → ¬ t = 26 → ¬ t = 27 → ¬ t = 21 → ¬ t = 22 → ¬ t = 23 → ¬ t = 25 → mu8 t 0 = mu t 0 := fun t a b c d e f g h => by rw [q5 t a b c, hmu5, up2_t h, hmu4, up2_t g, hmu3, up2_t f, hmu2, up2_t e, hmu1, up2_t d]
  have w21 : mu8 21 0 = upd (mu 21 0) m (nI q) := by rw [q5 21 (by decide) (by decide) (by decide), hmu5, up2_t (by decide), hmu4, up2_t (by decide), hmu3, up2_t (by decide), hmu2, up2_s, hmu1, up2_t (by decide)]
  have w22 : mu8 22 0 = upd (mu 22 0) m v := by rw [q5 22 (by decide) (by decide) (by decide), hmu5, up2_t (by decide), hmu4, up2_t (by decide), hmu3, up2_s, hmu2, up2_t (by decide), hmu1, up2_t (by decide)]
  have w23 : mu8 23 0 = upd (mu 23 0) m (nI (4 * (tmx (ck (i % 3) (q % 2)) (x i) vr 6 + 1) + i % 3)) := by rw [q5 23 (by decide) (by decide) (by decide), hmu5, up2_t (by decide), hmu4, up2_s, hmu3, up2_t (by decide), hmu2, up2_t (by decide), hmu1, up2_t (by decide)]
  have w25 : mu8 25 0 = upd (mu 25 0) m (nI (nearB (x i) dp 6)) := by rw [q5 25 (by decide) (by decide) (by decide), hmu5, up2_s, hmu4, up2_t (by decide), hmu3, up2_t (by decide), hmu2, up2_t (by decide), hmu1, up2_t (by decide)]
  have w27 : mu8 27 0 = upd (mu 27 0) (2 * (i % 3) + (q % 2)) (nI (tmx (ck (i % 3) (q % 2)) (x i) vr 6 + 1)) := by rw [q5 27 (by decide) (by decide) (by decide), hmu5, up2_t (by decide), hmu4, up2_t (by decide), hmu3, up2_t (by decide), hmu2, up2_t (by decide), hmu1, up2_s]
  have w26 : mu8 26 0 = upd (mu 26 0) (40 * (i % 3) + m) (nI 1) := by rw [hmu8, up2_s, hmu7, up2_t (by decide), hf6 26 0 (by simp), hmu5, up2_t (by decide), hmu4, up2_t (by decide), hmu3, up2_t (by decide), hmu2, up2_t (by decide), hmu1, up2_t (by decide)]
  have w24 : ∀ y, mu8 24 0 y = mu6 24 0 y := fun y => by rw [hmu8, up2_t (by decide), hmu7, up2_t (by decide)]
  have w24b : ∀ y, mu5 24 0 y = mu 24 0 y := fun y => by rw [hmu5, up2_t (by decide), hmu4, up2_t (by decide), hmu3, up2_t (by decide), hmu2, up2_t (by decide), hmu1, up2_t (by decide)]
  have hV8 : vOk mu8 (m + 1) (va_up ky m q) (va_up vr m (4 * (tmx (ck (i % 3) (q % 2)) (x i) vr 6 + 1) + i % 3)) (va_up nd m (nearB (x i) dp 6)) (va_up dp m (x i)) := hC.fw.add hm (by rw [hmu8, up2_t (by decide), hmu7, up2_s]; simp [upd]) (fun w hw => by rw [w21]; simp [upd, Nat.ne_of_lt hw]) (fun w hw => by rw [w23]; simp [upd, Nat.ne_of_lt hw]) (fun w hw => by rw [w25]; simp [upd, Nat.ne_of_lt hw]) (fun z hz => by rw [w24, h24o z hz, w24b]) (by rw [w21]; simp [upd]) (by rw [w23]; simp [upd]) (by rw [w25]; simp [upd]) hq (by omega) (nearB_lt 6 (Nat.le_refl _)) (fun z hz => ⟨by rw [w24]; exact h24 z hz, (hC.fx hi z hz).2⟩)
  refine o_iconst (nI 0) dN_put_262 rfl ?_
  refine o_istore [(0, _), (1, _), (2, _), (3, _), (4, _), (5, _), (6, _), (7, _), (8, _)] dN_put_263 rfl rfl ?_
  refine l_rsend (g := mu8) (sz := fun z => (fl z).length) hm (fun z hz => ⟨by rw [q0 30 (by decide) (by decide) (by decide) (by decide) (by decide) (by decide) (by decide) (by decide)]; exact (hC.ffl hz).1, hfl z hz⟩) 0 (by omega) ⟨fun z hz => ⟨fun y => by have := y.2.2; omega, fun _ => ⟨rfl, fun _ _ => rfl⟩⟩, fun _ _ _ _ => rfl⟩ (fun mu9 hr9 => ?_)
  show Om G M_N_put 294 [(0, .inr (some (ad 20 0))), (1, .inl (nI i)), (2, .inl (nI q)), (3, .inl v), (4, .inl (nI (i % 3))), (5, .inl (nI (2 * (i % 3) + (q % 2)))), (6, .inl (nI (tmx (ck (i % 3) (q % 2)) (x i) vr 6))), (7, .inl (nI m)), (8, .inl (nI 3))] [] mu9 Q
  have p8 : ∀ t, ¬ t = 30 → ¬ t = 31 → mu9 t 0 = mu8 t 0 := fun t a b => hr9.2 t 0 (fun z => a z.1) (fun z => b z.1)
  have hV9 : vOk mu9 (m + 1) (va_up ky m q) (va_up vr m (4 * (tmx (ck (i % 3) (q % 2)) (x i) vr 6 + 1) + i % 3)) (va_up nd m (nearB (x i) dp 6)) (va_up dp m (x i)) := hV8.mv (p8 20 (by decide) (by decide)) (p8 21 (by decide) (by decide)) (p8 23 (by decide) (by decide)) (p8 24 (by decide) (by decide)) (p8 25 (by decide) (by decide))
  have hX9 : yOk mu9 32 i (m + 1) (x i) := fun z hz => by
    rw [p8 32 (by decide) (by decide), q0 32 (by decide) (by decide) (by decide) (by decide) (by decide) (by decide) (by decide) (by decide)]
    exact ⟨(hC.fx hi z hz).1, Nat.le_succ_of_le (hC.fx hi z hz).2⟩
  refine o_aload_n dN_put_294 rfl ?_
  refine o_iload_n dN_put_295 rfl ?_
  refine o_iload dN_put_296 rfl ?_
  refine m_callV M_N_see [.inl (nI i), .inl (nI m)] [] dN_put_298 mk_N_see in_N_see se_N_see rfl (by decide) rfl rfl ml_N_89 rfl rfl rfl (Nat.le_of_ble_eq_true rfl) rfl ?_
  refine r_see hV9 hi (Nat.lt_succ_self m) hX9 (fun mu10 hx10 hf10 => ?_)
  show Om G M_N_put 301 [(0, .inr (some (ad 20 0))), (1, .inl (nI i)), (2, .inl (nI q)), (3, .inl v), (4, .inl (nI (i % 3))), (5, .inl (nI (2 * (i % 3) + (q % 2)))), (6, .inl (nI (tmx (ck (i % 3) (q % 2)) (x i) vr 6))), (7, .inl (nI m)), (8, .inl (nI 3))] [] mu10 Q
  refine o_iload dN_put_301 rfl ?_
  refine m_iret dN_put_303 rfl ?_
  rw [va_s, va_s] at hx10
  have p9 : ∀ t, ¬ t = 32 → mu10 t 0 = mu9 t 0 := fun t a => hf10.1 t 0 (fun z => a z.1)
  have pq : ∀ t, ¬ t = 32 → ¬ t = 30 → ¬ t = 31 → ¬ t = 24 → ¬ t = 20 → ¬ t = 26 → ¬ t = 27 → ¬ t = 21 → ¬ t = 22 → ¬ t = 23 → ¬ t = 25 → mu10 t 0 = mu t 0 := fun t a b c d e f g h i' j' k' => by rw [p9 t a, p8 t b c, q0 t d e f g h i' j' k']
  refine k mu10 ⟨hV9.mv (p9 20 (by decide)) (p9 21 (by decide)) (p9 23 (by decide)) (p9 24 (by decide)) (p9 25 (by decide)), fun w hw => ?_, fun c hc => ⟨fun w hw => ?_, fun p hp => ?_⟩, fun z hz => (hC.fwt hz).mv (pq 28 (by decide) (by decide) (by decide) (by decide) (by decide) (by decide) (by decide) (by decide) (by decide) (by decide) (by decide)) (pq 29 (by decide) (by decide) (by decide) (by decide) (by decide) (by decide) (by decide) (by decide) (by decide) (by decide) (by decide)), fun z hz => ?_, fun j hj => ?_⟩ (fun t z ht => ?_)
  · rw [p9 22 (by decide), p8 22 (by decide) (by decide), w22]
    by_cases e : w = m
    · subst e
      rw [va_s]
      simp [upd]
    · rw [va_n e]
      simp only [upd, e, if_false]
      exact hC.fv (by omega)
  · rw [p9 26 (by decide), p8 26 (by decide) (by decide), w26]
    by_cases ec : c = i % 3
    · subst ec
      rw [va_s]
      by_cases e : w = m
      · subst e
        rw [va_s]
        simp [upd]
      · have e2 : ¬ 40 * (i % 3) + w = 40 * (i % 3) + m := by omega
        rw [va_n e]
        simp only [upd, e2, if_false]
        exact hC.fsn hc w hw
    · have e2 : ¬ 40 * c + w = 40 * (i % 3) + m := by omega
      rw [va_n ec]
      simp only [upd, e2, if_false]
      exact hC.fsn hc w hw
  · rw [p9 27 (by decide), p8 27 (by decide) (by decide), w27]
    by_cases ec : c = i % 3
    · subst ec
      rw [va_s]
      by_cases ep : p = q % 2
      · subst ep
        rw [va_s]
        simp [upd]
      · have e2 : ¬ 2 * (i % 3) + p = 2 * (i % 3) + q % 2 := by omega
        rw [va_n ep]
        simp only [upd, e2, if_false]
        exact hC.fck hc hp
    · have e2 : ¬ 2 * c + p = 2 * (i % 3) + q % 2 := by omega
      rw [va_n ec]
      simp only [upd, e2, if_false]
      exact hC.fck hc hp
  · have hz9 := hC.ffl hz
    have hr := hr9.1 z hz
    have q30 := q0 30 (by decide) (by decide) (by decide) (by decide) (by decide) (by decide) (by decide) (by decide)
    have q31 := q0 31 (by decide) (by decide) (by decide) (by decide) (by decide) (by decide) (by decide) (by decide)
    rw [q30, q31] at hr
    have hfz := hfl z hz
    unfold flP lineOk
    rw [p9 30 (by decide), p9 31 (by decide)]
    by_cases es : z / 3 = i % 3 ∧ ¬ z % 3 = i % 3
    · rw [if_pos es]
      have h7 := hr.1 ⟨es.1, es.2, by omega⟩
      refine ⟨by rw [h7.1]; simp, by simp; omega, fun y hy => ?_⟩
      have hy2 : y < (fl z).length + 1 := by simpa using hy
      rw [getD_snoc]
      by_cases e : y = (fl z).length
      · rw [e, if_neg (by omega), if_pos rfl]
        exact h7.2.1
      · rw [if_pos (by omega), h7.2.2 y (by omega) e]
        exact hz9.2.2 y (by omega)
    · rw [if_neg es]
      have h7 := hr.2 (fun y => es ⟨y.1, y.2.1⟩)
      exact ⟨by rw [h7.1]; exact hz9.1, hz9.2.1, fun y hy => by rw [h7.2 y (by omega)]; exact hz9.2.2 y hy⟩
  · have D := fun t a b c d e f g h i' j' k' => pq t a b c d e f g h i' j' k'
    rw [pq 33 (by decide) (by decide) (by decide) (by decide) (by decide) (by decide) (by decide) (by decide) (by decide) (by decide) (by decide), pq 34 (by decide) (by decide) (by decide) (by decide) (by decide) (by decide) (by decide) (by decide) (by decide) (by decide) (by decide), pq 35 (by decide) (by decide) (by decide) (by decide) (by decide) (by decide) (by decide) (by decide) (by decide) (by decide) (by decide), pq 36 (by decide) (by decide) (by decide) (by decide) (by decide) (by decide) (by decide) (by decide) (by decide) (by decide) (by decide)]
    have hcj := hC.2.2.2.2.2 j hj
    refine ⟨hcj.1, ?_, fun z hz => ?_, fun z hz => ?_⟩
    · by_cases e : j = i
      · subst e
        rw [va_s]
        exact hx10
      · rw [va_n e]
        intro z hz
        rw [hf10.2 _ (by omega), p8 32 (by decide) (by decide), q0 32 (by decide) (by decide) (by decide) (by decide) (by decide) (by decide) (by decide) (by decide)]
        exact ⟨(hcj.2.1 z hz).1, Nat.le_succ_of_le (hcj.2.1 z hz).2⟩
    · rw [pq 37 (by decide) (by decide) (by decide) (by decide) (by decide) (by decide) (by decide) (by decide) (by decide) (by decide) (by decide)]
      exact ⟨(hcj.2.2.1 z hz).1, Nat.le_succ_of_le (hcj.2.2.1 z hz).2⟩
    · rw [pq 38 (by decide) (by decide) (by decide) (by decide) (by decide) (by decide) (by decide) (by decide) (by decide) (by decide) (by decide)]
      exact ⟨(hcj.2.2.2 z hz).1, Nat.le_succ_of_le (hcj.2.2.2 z hz).2⟩
  · rw [hf10.1 t z (by omega), hr9.2 t z (by omega) (by omega), hmu8, up2_t (by omega), hmu7, up2_t (by omega), hf6 t z (by simp; omega), hmu5, up2_t (by omega), hmu4, up2_t (by omega), hmu3, up2_t (by omega), hmu2, up2_t (by omega), hmu1, up2_t (by omega)]
