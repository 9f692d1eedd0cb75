/-! The class's deliver, serve, put. -/
theorem neg4 {m : Nat} (hm : m ≤ 40) : ∀ j, j < m → ¬ (-4 : Int32) = nI j := by
  intro j hj e
  have h9 := nI_pos (show j < 2 ^ 31 by omega)
  rw [← e] at h9
  exact h9 (by decide)
def mx (a b : Nat) : Nat := if a < b then b else a
theorem ReC.dlv {mu mu' : oMu} {m : Nat} {ky vr nd : Nat → Nat} {dp : Nat → Nat → Nat} {vl : Nat → Int32} {sn ck : Nat → Nat → Nat} {wt fl : Nat → List Nat} {x h d : Nat → Nat → Nat} {s l r : Nat → Nat} {q z c : Nat} {A B : List Nat} {ck' : Nat → Nat} (hC : ReC mu m ky vr nd dp vl sn ck wt fl x h d s l r) (hf : mfr [(18, q), (19, q), (10, c), (12, z), (13, z)] mu mu') (hA : rowOk mu' 18 19 q A) (hB : rowOk mu' 12 13 z B) (hc : ∀ p, p < 2 → mu' 10 c p = nI (ck' p)) : ReC mu' m ky vr nd dp vl sn (va_up ck c ck') (va_up wt z B) (va_up fl q A) x h d s l r := by
  have f : ∀ t j, ¬ (t = 18 ∨ t = 19 ∨ t = 10 ∨ t = 12 ∨ t = 13) → mu' t j = mu t j := fun t j ht => hf t j (by simp; omega)
  refine ⟨hC.fw.fr hf rfl, fun w hw => by rw [f 5 w (by decide)]; exact hC.fv hw, fun c2 hc2 => ⟨fun w hw => by rw [f 8 c2 (by decide)]; exact hC.fsn hc2 w hw, fun k hk => by rw [f 9 c2 (by decide)]; exact hC.fnw hc2 k hk, fun p hp => ?_⟩, fun q2 hq2 => ?_, fun q2 hq2 => ?_, fun j hj => ?_⟩
  · by_cases e : c2 = c
    · subst e
      rw [va_s]
      exact hc p hp
    · rw [va_n e, hf 10 c2 (by simp [e])]
      exact hC.fck hc2 hp
  · by_cases e : q2 = z
    · subst e
      rw [va_s]
      exact hB
    · rw [va_n e]
      exact (hC.fwt hq2).fr hf (by simp [e]) (by simp [e])
  · by_cases e : q2 = q
    · subst e
      rw [va_s]
      exact hA
    · rw [va_n e]
      exact (hC.ffl hq2).fr hf (by simp [e]) (by simp [e])
  · rw [f 14 j (by decide)]
    exact ⟨(hC.2.2.2.2.2 j hj).1, (hC.fx hj).fr hf (by simp), (hC.fh hj).fr hf (by simp), (hC.fd hj).fr hf (by simp)⟩
theorem C_deliver_b1 {G : oG} {mu : oMu} {Q : oPm} {m : Nat} {ky vr nd : Nat → Nat} {dp : Nat → Nat → Nat} {vl : Nat → Int32} {sn ck : Nat → Nat → Nat} {wt fl : Nat → List Nat} {x h d : Nat → Nat → Nat} {s l r : Nat → Nat} (hC : ReC mu m ky vr nd dp vl sn ck wt fl x h d s l r) {a b z : Int32} (ha : ∀ j, j < 3 → ¬ a = nI j) (k : Q (some (.inl (nI 0))) mu) : Om G M_S_deliver 0 [(0, .inr (some (ad 0 0))), (1, .inl a), (2, .inl b), (3, .inl z)] [] mu Q := by
  refine o_aload_n dS_deliver_0 rfl ?_
  refine o_iload_n dS_deliver_1 rfl ?_
  refine o_iload_n dS_deliver_2 rfl ?_
  refine o_iload_n dS_deliver_3 rfl ?_
  refine m_callV M_S_sent [.inl a, .inl b, .inl z] [] dS_deliver_4 mk_S_sent in_S_sent se_S_sent rfl (by decide) rfl rfl ml_S_119 rfl rfl rfl (Nat.le_of_ble_eq_true rfl) rfl ?_
  refine C_sent_b1 ha ?_
  show Om G M_S_deliver 7 [(0, .inr (some (ad 0 0))), (1, .inl a), (2, .inl b), (3, .inl z)] [.inl (-4)] mu Q
  refine o_istore [(0, _), (1, _), (2, _), (3, _), (4, _)] dS_deliver_7 rfl rfl ?_
  refine o_aload_n dS_deliver_9 rfl ?_
  refine o_iload dS_deliver_10 rfl ?_
  refine m_callV M_S_isWrite [.inl (-4)] [] dS_deliver_12 mk_S_isWrite in_S_isWrite se_S_isWrite rfl (by decide) rfl rfl ml_S_123 rfl rfl rfl (Nat.le_of_ble_eq_true rfl) rfl ?_
  refine c_isWrite_n hC.fw.mm hC.fw.m4 (neg4 hC.fw.m4) ?_
  show Om G M_S_deliver 15 [(0, .inr (some (ad 0 0))), (1, .inl a), (2, .inl b), (3, .inl z), (4, .inl (-4))] [.inl (nI 0)] mu Q
  refine n_if_ne 20 dS_deliver_15 rfl (by omega) (fun h => absurd h (by decide)) (fun _ => ?_)
  refine o_iconst (nI 0) dS_deliver_18 rfl ?_
  refine m_zret dS_deliver_19 rfl rfl ?_
  exact k
theorem C_deliver_b2 {G : oG} {mu : oMu} {Q : oPm} {m : Nat} {ky vr nd : Nat → Nat} {dp : Nat → Nat → Nat} {vl : Nat → Int32} {sn ck : Nat → Nat → Nat} {wt fl : Nat → List Nat} {x h d : Nat → Nat → Nat} {s l r : Nat → Nat} (hC : ReC mu m ky vr nd dp vl sn ck wt fl x h d s l r) {i : Nat} {b z : Int32} (hi : i < 3) (hb : ∀ j, j < 3 → ¬ b = nI j) (k : Q (some (.inl (nI 0))) mu) : Om G M_S_deliver 0 [(0, .inr (some (ad 0 0))), (1, .inl (nI i)), (2, .inl b), (3, .inl z)] [] mu Q := by
  refine o_aload_n dS_deliver_0 rfl ?_
  refine o_iload_n dS_deliver_1 rfl ?_
  refine o_iload_n dS_deliver_2 rfl ?_
  refine o_iload_n dS_deliver_3 rfl ?_
  refine m_callV M_S_sent [.inl (nI i), .inl b, .inl z] [] dS_deliver_4 mk_S_sent in_S_sent se_S_sent rfl (by decide) rfl rfl ml_S_119 rfl rfl rfl (Nat.le_of_ble_eq_true rfl) rfl ?_
  refine C_sent_b2 hi hb ?_
  show Om G M_S_deliver 7 [(0, .inr (some (ad 0 0))), (1, .inl (nI i)), (2, .inl b), (3, .inl z)] [.inl (-4)] mu Q
  refine o_istore [(0, _), (1, _), (2, _), (3, _), (4, _)] dS_deliver_7 rfl rfl ?_
  refine o_aload_n dS_deliver_9 rfl ?_
  refine o_iload dS_deliver_10 rfl ?_
  refine m_callV M_S_isWrite [.inl (-4)] [] dS_deliver_12 mk_S_isWrite in_S_isWrite se_S_isWrite rfl (by decide) rfl rfl ml_S_123 rfl rfl rfl (Nat.le_of_ble_eq_true rfl) rfl ?_
  refine c_isWrite_n hC.fw.mm hC.fw.m4 (neg4 hC.fw.m4) ?_
  show Om G M_S_deliver 15 [(0, .inr (some (ad 0 0))), (1, .inl (nI i)), (2, .inl b), (3, .inl z), (4, .inl (-4))] [.inl (nI 0)] mu Q
  refine n_if_ne 20 dS_deliver_15 rfl (by omega) (fun h => absurd h (by decide)) (fun _ => ?_)
  refine o_iconst (nI 0) dS_deliver_18 rfl ?_
  refine m_zret dS_deliver_19 rfl rfl ?_
  exact k
theorem C_deliver_n {G : oG} {mu : oMu} {Q : oPm} {m : Nat} {ky vr nd : Nat → Nat} {dp : Nat → Nat → Nat} {vl : Nat → Int32} {sn ck : Nat → Nat → Nat} {wt fl : Nat → List Nat} {x h d : Nat → Nat → Nat} {s l r : Nat → Nat} (hC : ReC mu m ky vr nd dp vl sn ck wt fl x h d s l r) {i q : Nat} {z : Int32} (hi : i < 3) (hq : q < 3) (hj : ∀ j, j < (fl (i * 3 + q)).length → ¬ z = nI j) (k : Q (some (.inl (nI 0))) mu) : Om G M_S_deliver 0 [(0, .inr (some (ad 0 0))), (1, .inl (nI i)), (2, .inl (nI q)), (3, .inl z)] [] mu Q := by
  refine o_aload_n dS_deliver_0 rfl ?_
  refine o_iload_n dS_deliver_1 rfl ?_
  refine o_iload_n dS_deliver_2 rfl ?_
  refine o_iload_n dS_deliver_3 rfl ?_
  refine m_callV M_S_sent [.inl (nI i), .inl (nI q), .inl z] [] dS_deliver_4 mk_S_sent in_S_sent se_S_sent rfl (by decide) rfl rfl ml_S_119 rfl rfl rfl (Nat.le_of_ble_eq_true rfl) rfl ?_
  refine C_sent_n hC hi hq hj ?_
  show Om G M_S_deliver 7 [(0, .inr (some (ad 0 0))), (1, .inl (nI i)), (2, .inl (nI q)), (3, .inl z)] [.inl (-4)] mu Q
  refine o_istore [(0, _), (1, _), (2, _), (3, _), (4, _)] dS_deliver_7 rfl rfl ?_
  refine o_aload_n dS_deliver_9 rfl ?_
  refine o_iload dS_deliver_10 rfl ?_
  refine m_callV M_S_isWrite [.inl (-4)] [] dS_deliver_12 mk_S_isWrite in_S_isWrite se_S_isWrite rfl (by decide) rfl rfl ml_S_123 rfl rfl rfl (Nat.le_of_ble_eq_true rfl) rfl ?_
  refine c_isWrite_n hC.fw.mm hC.fw.m4 (neg4 hC.fw.m4) ?_
  show Om G M_S_deliver 15 [(0, .inr (some (ad 0 0))), (1, .inl (nI i)), (2, .inl (nI q)), (3, .inl z), (4, .inl (-4))] [.inl (nI 0)] mu Q
  refine n_if_ne 20 dS_deliver_15 rfl (by omega) (fun h => absurd h (by decide)) (fun _ => ?_)
  refine o_iconst (nI 0) dS_deliver_18 rfl ?_
  refine m_zret dS_deliver_19 rfl rfl ?_
  exact k
theorem C_deliver {G : oG} {mu : oMu} {Q : oPm} {m : Nat} {ky vr nd : Nat → Nat} {dp : Nat → Nat → Nat} {vl : Nat → Int32} {sn ck : Nat → Nat → Nat} {wt fl : Nat → List Nat} {x h d : Nat → Nat → Nat} {s l r : Nat → Nat} (hC : ReC mu m ky vr nd dp vl sn ck wt fl x h d s l r) {i q j w : Nat} (hi : i < 3) (hq : q < 3) (hj : j < (fl (i * 3 + q)).length) (hw : (fl (i * 3 + q)).getD j 0 = w) (hwm : w < m) (hck : ∀ p, p < 2 → ck q p < 1000) (hwl : (wt (2 * q + ky w % 2)).length < 40) (k : ∀ mu' : oMu, ReC mu' m ky vr nd dp vl sn (va_up ck q (va_up (ck q) (ky w % 2) (mx (ck q (ky w % 2)) (vr w / 4)))) (va_up wt (2 * q + ky w % 2) (wt (2 * q + ky w % 2) ++ [w])) (va_up fl (i * 3 + q) ((fl (i * 3 + q)).eraseIdx j)) x h d s l r → mgt mu mu' → Q (some (.inl (nI 1))) mu') : Om G M_S_deliver 0 [(0, .inr (some (ad 0 0))), (1, .inl (nI i)), (2, .inl (nI q)), (3, .inl (nI j))] [] mu Q := by
  have hm4 := hC.fw.m4
  have hkb := hC.fw.key6 hwm
  have hvb := hC.fw.verK hwm
  have hc1 := hck (ky w % 2) (by omega)
  refine o_aload_n dS_deliver_0 rfl ?_
  refine o_iload_n dS_deliver_1 rfl ?_
  refine o_iload_n dS_deliver_2 rfl ?_
  refine o_iload_n dS_deliver_3 rfl ?_
  refine m_callV M_S_sent [.inl (nI i), .inl (nI q), .inl (nI j)] [] dS_deliver_4 mk_S_sent in_S_sent se_S_sent rfl (by decide) rfl rfl ml_S_119 rfl rfl rfl (Nat.le_of_ble_eq_true rfl) rfl ?_
  refine C_sent_y hC hi hq hj ?_
  show Om G M_S_deliver 7 [(0, .inr (some (ad 0 0))), (1, .inl (nI i)), (2, .inl (nI q)), (3, .inl (nI j))] [.inl (nI ((fl (i * 3 + q)).getD j 0))] mu Q
  rw [hw]
  show Om G M_S_deliver 7 [(0, .inr (some (ad 0 0))), (1, .inl (nI i)), (2, .inl (nI q)), (3, .inl (nI j))] [.inl (nI w)] mu Q
  refine o_istore [(0, _), (1, _), (2, _), (3, _), (4, _)] dS_deliver_7 rfl rfl ?_
  refine o_aload_n dS_deliver_9 rfl ?_
  refine o_iload dS_deliver_10 rfl ?_
  refine m_callV M_S_isWrite [.inl (nI w)] [] dS_deliver_12 mk_S_isWrite in_S_isWrite se_S_isWrite rfl (by decide) rfl rfl ml_S_123 rfl rfl rfl (Nat.le_of_ble_eq_true rfl) rfl ?_
  refine c_isWrite_y hC.fw.mm hC.fw.m4 hwm ?_
  show Om G M_S_deliver 15 [(0, .inr (some (ad 0 0))), (1, .inl (nI i)), (2, .inl (nI q)), (3, .inl (nI j)), (4, .inl (nI w))] [.inl (nI 1)] mu Q
  refine n_if_ne 20 dS_deliver_15 rfl (by omega) (fun _ => ?_) (fun h => absurd h (by decide))
  refine o_aload_n dS_deliver_20 rfl ?_
  refine m_getr dS_deliver_21 fl_S_29 rfl rfl (by decide) ?_
  refine o_iload_n dS_deliver_24 rfl ?_
  refine o_iconst (nI 3) dS_deliver_25 rfl ?_
  refine o_imul dS_deliver_26 ?_
  refine o_top _ (pk_mul _ _) ?_
  refine o_iload_n dS_deliver_27 rfl ?_
  refine o_iadd dS_deliver_28 ?_
  refine o_top _ (nI_add _ _) ?_
  refine m_aald (i * 3 + q) dS_deliver_29 rfl rfl rfl (by decide) rfl (sh_q4 (by omega)) ?_
  refine o_iload_n dS_deliver_30 rfl ?_
  refine m_callV M_R_removeAt [.inl (nI j)] [] dS_deliver_31 mk_R_removeAt in_R_removeAt se_R_removeAt rfl (show i * 3 + q < 9 by omega) rfl rfl ml_S_126 rfl rfl rfl (Nat.le_of_ble_eq_true rfl) rfl ?_
  refine c_removeAt_18 (i := i * 3 + q) (by omega) (hC.ffl (by omega)).1 (hC.ffl (by omega)).2.1 hj (fun mu1 h19 h18 hf1 => ?_)
  have hW1 := hC.fw.fr hf1 rfl
  show Om G M_S_deliver 34 [(0, .inr (some (ad 0 0))), (1, .inl (nI i)), (2, .inl (nI q)), (3, .inl (nI j)), (4, .inl (nI w))] [] mu1 Q
  refine o_aload_n dS_deliver_34 rfl ?_
  refine m_getr dS_deliver_35 fl_S_17 rfl rfl (by decide) ?_
  refine o_iload_n dS_deliver_38 rfl ?_
  refine m_aald q dS_deliver_39 rfl rfl rfl (by decide) rfl (sh_q2 hq) ?_
  refine o_astore [(0, _), (1, _), (2, _), (3, _), (4, _), (5, _)] dS_deliver_40 rfl rfl ?_
  refine o_aload_n dS_deliver_42 rfl ?_
  refine m_getr dS_deliver_43 fl_S_11 rfl rfl (by decide) ?_
  refine o_iload dS_deliver_46 rfl ?_
  refine m_aald w dS_deliver_48 rfl rfl rfl (by decide) rfl (sh_q1 (by omega)) ?_
  refine m_geti dS_deliver_49 fl_S_129 rfl rfl (show w < 40 by omega) ?_
  refine o_top (nI (ky w)) (hW1.key hwm) ?_
  refine o_iconst (nI 2) dS_deliver_52 rfl ?_
  refine o_irem dS_deliver_53 (by decide) ?_
  refine o_top _ (pk_rem (by omega) (by decide) (by decide)) ?_
  refine o_istore [(0, _), (1, _), (2, _), (3, _), (4, _), (5, _), (6, _)] dS_deliver_54 rfl rfl ?_
  refine o_aload dS_deliver_56 rfl ?_
  refine m_getr dS_deliver_58 fl_S_132 rfl rfl hq ?_
  refine o_iload dS_deliver_61 rfl ?_
  refine o_aload dS_deliver_63 rfl ?_
  refine m_getr dS_deliver_65 fl_S_132 rfl rfl hq ?_
  refine o_iload dS_deliver_68 rfl ?_
  refine m_iald ((ky w) % 2) dS_deliver_70 rfl rfl rfl hq rfl (by omega) ?_
  refine o_top (nI (ck q (ky w % 2))) (by rw [hf1 10 q (by simp)]; exact hC.fck hq (by omega)) ?_
  refine o_aload_n dS_deliver_71 rfl ?_
  refine m_getr dS_deliver_72 fl_S_11 rfl rfl (by decide) ?_
  refine o_iload dS_deliver_75 rfl ?_
  refine m_aald w dS_deliver_77 rfl rfl rfl (by decide) rfl (sh_q1 (by omega)) ?_
  refine m_geti dS_deliver_78 fl_S_135 rfl rfl (show w < 40 by omega) ?_
  refine o_top (nI (vr w / 4)) (hW1.time hwm) ?_
  refine o_mmax dS_deliver_81 mx_S_138 wm_s wm_i wm_c rfl rfl ?_
  refine o_top (nI (mx (ck q (ky w % 2)) (vr w / 4))) (nI_max (by omega) (by omega)) ?_
  refine m_iast ((ky w) % 2) dS_deliver_84 rfl rfl rfl hq rfl (by omega) (fun mu2 hmu2 => ?_)
  have hf2 := mfr_up (L := [(10, q)]) hmu2 (by simp)
  refine o_aload dS_deliver_85 rfl ?_
  refine m_getr dS_deliver_87 fl_S_144 rfl rfl hq ?_
  refine o_iload dS_deliver_90 rfl ?_
  refine m_aald ((ky w) % 2) dS_deliver_92 rfl rfl rfl hq rfl (sh_wait (by omega)) ?_
  refine o_iload dS_deliver_93 rfl ?_
  refine m_callV M_R_append [.inl (nI w)] [] dS_deliver_95 mk_R_append in_R_append se_R_append rfl (show 2 * q + ((ky w) % 2) < 6 by omega) rfl rfl ml_S_147 rfl rfl rfl (Nat.le_of_ble_eq_true rfl) rfl ?_
  refine c_append_12 (i := 2 * q + ky w % 2) (n := (wt (2 * q + ky w % 2)).length) (by omega) (by rw [hf2 12 _ (by simp), hf1 12 _ (by simp)]; exact (hC.fwt (by omega)).1) (Nat.le_of_lt hwl) hwl (fun mu3 h13 h12 hf3 => ?_)
  show Om G M_S_deliver 98 [(0, .inr (some (ad 0 0))), (1, .inl (nI i)), (2, .inl (nI q)), (3, .inl (nI j)), (4, .inl (nI w)), (5, .inr (some (ad 7 q))), (6, .inl (nI ((ky w) % 2)))] [] mu3 Q
  refine o_iconst (nI 1) dS_deliver_98 rfl ?_
  refine m_zret dS_deliver_99 rfl rfl ?_
  have hrA : rowOk mu1 18 19 (i * 3 + q) ((fl (i * 3 + q)).eraseIdx j) := (hC.ffl (by omega)).rem hj h19 h18
  have hrA3 := (hrA.fr hf2 (by simp) (by simp)).fr hf3 (by simp) (by simp)
  have hrB2 := ((hC.fwt (show 2 * q + ky w % 2 < 6 by omega)).fr hf1 (by simp) (by simp)).fr hf2 (by simp) (by simp)
  have hrB3 := hrB2.app hwl h13 h12
  have hff : mfr [(18, i * 3 + q), (19, i * 3 + q), (10, q), (12, 2 * q + ky w % 2), (13, 2 * q + ky w % 2)] mu mu3 := ((hf1.wk (by simp)).tr (hf2.wk (by simp))).tr (hf3.wk (by simp))
  refine k mu3 (hC.dlv hff hrA3 hrB3 (fun p hp => ?_)) (mgt_of hff rfl)
  rw [hf3 10 q (by simp), hmu2, up2_s]
  by_cases e : p = ky w % 2
  · subst e
    simp [upd, va_s]
  · rw [va_n e]
    simp only [upd, e, if_false]
    rw [hf1 10 q (by simp)]
    exact hC.fck hq hp
theorem ReC.srv {mu mu' : oMu} {m : Nat} {ky vr nd : Nat → Nat} {dp : Nat → Nat → Nat} {vl : Nat → Int32} {sn ck : Nat → Nat → Nat} {wt fl : Nat → List Nat} {x h d : Nat → Nat → Nat} {s l r : Nat → Nat} {z c : Nat} {B : List Nat} {sn' : Nat → Nat} (hC : ReC mu m ky vr nd dp vl sn ck wt fl x h d s l r) (hf : mfr [(8, c), (9, c), (12, z), (13, z)] mu mu') (hB : rowOk mu' 12 13 z B) (hs : sOk mu' c sn') (hn : xOk mu' 9 c m (fun k => latN sn' ky vr k m)) : ReC mu' m ky vr nd dp vl (va_up sn c sn') ck (va_up wt z B) fl x h d s l r := by
  have f : ∀ t j, ¬ (t = 8 ∨ t = 9 ∨ t = 12 ∨ t = 13) → mu' t j = mu t j := fun t j ht => hf t j (by simp; omega)
  refine ⟨hC.fw.fr hf rfl, fun w hw => by rw [f 5 w (by decide)]; exact hC.fv hw, fun c2 hc2 => ⟨?_, ?_, fun p hp => by rw [f 10 c2 (by decide)]; exact hC.fck hc2 hp⟩, fun q2 hq2 => ?_, fun q2 hq2 => (hC.ffl hq2).fr hf (by simp) (by simp), fun j hj => ?_⟩
  · by_cases e : c2 = c
    · subst e
      rw [va_s]
      exact hs
    · rw [va_n e]
      intro w hw
      rw [hf 8 c2 (by simp [e])]
      exact hC.fsn hc2 w hw
  · by_cases e : c2 = c
    · subst e
      rw [va_s]
      exact hn
    · rw [va_n e]
      exact (hC.fnw hc2).fr hf (by simp [e])
  · by_cases e : q2 = z
    · subst e
      rw [va_s]
      exact hB
    · rw [va_n e]
      exact (hC.fwt hq2).fr hf (by simp [e]) (by simp [e])
  · rw [f 14 j (by decide)]
    exact ⟨(hC.2.2.2.2.2 j hj).1, (hC.fx hj).fr hf (by simp), (hC.fh hj).fr hf (by simp), (hC.fd hj).fr hf (by simp)⟩
theorem latN_up {sn ky vr : Nat → Nat} {m w : Nat} {mu' : oMu} {f : Nat → Int32} {c : Nat} (hD : ∀ u v, u < m → v < m → ¬ u = v → ky u = ky v → ¬ vr u = vr v) (hw : w < m) (h0 : ∀ k, k < 6 → f k = dec (latN sn ky vr k m)) (hk6 : ky w < 6) (h9 : mu' 9 c = upd f (ky w) (dec (gr vr (latN sn ky vr (ky w) m) (w + 1)))) : xOk mu' 9 c m (fun k => latN (va_up sn w 1) ky vr k m) := by
  intro k hk
  refine ⟨?_, latN_le m⟩
  show mu' 9 c k = dec (latN (va_up sn w 1) ky vr k m)
  rw [h9, latN_show hD hw]
  by_cases e : k = ky w
  · subst e
    simp [upd]
  · simp only [upd, e, if_false]
    exact h0 k hk
theorem C_serve_b1 {G : oG} {mu : oMu} {Q : oPm} {a b : Int32} (ha : ∀ j, j < 3 → ¬ a = nI j) (k : Q (some (.inl (-1))) mu) : Om G M_S_serve 0 [(0, .inr (some (ad 0 0))), (1, .inl a), (2, .inl b)] [] mu Q := by
  refine o_iload_n dS_serve_0 rfl ?_
  refine m_callS M_S_isCenter [.inl a] [] dS_serve_1 mk_S_isCenter st_S_isCenter ml_S_150 rfl rfl rfl (Nat.le_of_ble_eq_true rfl) rfl ?_
  refine c_isCenter_n ha ?_
  show Om G M_S_serve 4 [(0, .inr (some (ad 0 0))), (1, .inl a), (2, .inl b)] [.inl (nI 0)] mu Q
  refine n_if_eq 14 dS_serve_4 rfl (by omega) (fun _ => ?_) (fun h => absurd h (by decide))
  refine o_iconst (-1) dS_serve_14 rfl ?_
  refine m_iret dS_serve_15 rfl ?_
  exact k
theorem C_serve_b2 {G : oG} {mu : oMu} {Q : oPm} {i : Nat} {b : Int32} (hi : i < 3) (hb : ∀ j, j < 2 → ¬ b = nI j) (k : Q (some (.inl (-1))) mu) : Om G M_S_serve 0 [(0, .inr (some (ad 0 0))), (1, .inl (nI i)), (2, .inl b)] [] mu Q := by
  refine o_iload_n dS_serve_0 rfl ?_
  refine m_callS M_S_isCenter [.inl (nI i)] [] dS_serve_1 mk_S_isCenter st_S_isCenter ml_S_150 rfl rfl rfl (Nat.le_of_ble_eq_true rfl) rfl ?_
  refine c_isCenter_y hi ?_
  show Om G M_S_serve 4 [(0, .inr (some (ad 0 0))), (1, .inl (nI i)), (2, .inl b)] [.inl (nI 1)] mu Q
  refine n_if_eq 14 dS_serve_4 rfl (by omega) (fun h => absurd h (by decide)) (fun _ => ?_)
  refine o_iload_n dS_serve_7 rfl ?_
  refine m_callS M_S_isPartition [.inl b] [] dS_serve_8 mk_S_isPartition st_S_isPartition ml_S_153 rfl rfl rfl (Nat.le_of_ble_eq_true rfl) rfl ?_
  refine c_isPartition_n hb ?_
  show Om G M_S_serve 11 [(0, .inr (some (ad 0 0))), (1, .inl (nI i)), (2, .inl b)] [.inl (nI 0)] mu Q
  refine n_if_ne 16 dS_serve_11 rfl (by omega) (fun h => absurd h (by decide)) (fun _ => ?_)
  refine o_iconst (-1) dS_serve_14 rfl ?_
  refine m_iret dS_serve_15 rfl ?_
  exact k
theorem misN_le {n : Nat} {d sn : Nat → Nat} : ∀ k, misN n d sn k ≤ k
  | 0 => Nat.le_refl _
  | k + 1 => by
    have ih := misN_le (n := n) (d := d) (sn := sn) k
    rw [misN]
    split <;> omega
theorem l_serve {G : oG} {mu : oMu} {Q : oPm} {m : Nat} {ky vr nd : Nat → Nat} {dp : Nat → Nat → Nat} {L : List Nat} {sn0 : Nat → Nat} {c p : Nat} (hW : wOk mu m ky vr nd dp) (hc : c < 3) (hp : p < 2) (hD : ∀ u v, u < m → v < m → ¬ u = v → ky u = ky v → ¬ vr u = vr v) (hL : ∀ e ∈ L, e < m) (hL4 : L.length ≤ 40) (j : Nat) (hj : j ≤ L.length) (hr : rowOk mu 12 13 (2 * c + p) ((svs nd dp L sn0 j).2 ++ L.drop j)) (hs : sOk mu c (svs nd dp L sn0 j).1) (hn : xOk mu 9 c m (fun k => latN (svs nd dp L sn0 j).1 ky vr k m)) (k : ∀ mu' : oMu, rowOk mu' 12 13 (2 * c + p) (svs nd dp L sn0 L.length).2 → sOk mu' c (svs nd dp L sn0 L.length).1 → xOk mu' 9 c m (fun k => latN (svs nd dp L sn0 L.length).1 ky vr k m) → mfr [(8, c), (9, c), (12, 2 * c + p), (13, 2 * c + p)] mu mu' → Q (some (.inl (nI (L.length - (svs nd dp L sn0 L.length).2.length)))) mu') : Om G M_S_serve 40 [(0, .inr (some (ad 0 0))), (1, .inl (nI c)), (2, .inl (nI p)), (3, .inr (some (ad 12 (2 * c + p)))), (4, .inl (nI L.length)), (5, .inl (nI (j - (svs nd dp L sn0 j).2.length))), (6, .inl (nI j))] [] mu Q := by
  have hm4 := hW.m4
  refine o_iload dS_serve_40 rfl ?_
  refine o_iload dS_serve_42 rfl ?_
  refine n_icmp_ge 103 dS_serve_44 rfl (by omega) (by omega) (fun hb44 => ?_) (fun hb44 => ?_)
  · skip
    have hj6 : j = L.length := by omega
    refine o_iload dS_serve_103 rfl ?_
    refine m_iret dS_serve_105 rfl ?_
    subst hj6
    exact k mu (by simpa using hr) hs hn mfr_rf
  · skip
    have hln := svs_len (nd := nd) (dp := dp) (L := L) (sn := sn0) j
    have hwm := getD_mem hL hb44
    have hk6 := hW.key6 hwm
    have hrl : ((svs nd dp L sn0 j).2 ++ L.drop j).length = (svs nd dp L sn0 j).2.length + (L.length - j) := by simp
    have hrg : ((svs nd dp L sn0 j).2 ++ L.drop j).getD (svs nd dp L sn0 j).2.length 0 = L.getD j 0 := by rw [drop_at hb44]; exact mid_get
    refine o_iload dS_serve_47 rfl ?_
    refine o_iload dS_serve_49 rfl ?_
    refine o_isub dS_serve_51 ?_
    refine o_top (nI ((svs nd dp L sn0 j).2.length)) ((pk_sub (Nat.sub_le _ _)).trans (by rw [Nat.sub_sub_self hln])) ?_
    refine o_istore [(0, _), (1, _), (2, _), (3, _), (4, _), (5, _), (6, _), (7, _)] dS_serve_52 rfl rfl ?_
    refine o_aload_n dS_serve_54 rfl ?_
    refine o_iload dS_serve_55 rfl ?_
    refine m_callV M_R_at [.inl (nI ((svs nd dp L sn0 j).2.length))] [] dS_serve_57 mk_R_at in_R_at se_R_at rfl (show 2 * c + p < 6 by omega) rfl rfl ml_S_159 rfl rfl rfl (Nat.le_of_ble_eq_true rfl) rfl ?_
    refine c_wat_y (by omega) hr (j := (svs nd dp L sn0 j).2.length) (by omega) ?_
    show Om G M_S_serve 60 [(0, .inr (some (ad 0 0))), (1, .inl (nI c)), (2, .inl (nI p)), (3, .inr (some (ad 12 (2 * c + p)))), (4, .inl (nI L.length)), (5, .inl (nI (j - (svs nd dp L sn0 j).2.length))), (6, .inl (nI j)), (7, .inl (nI ((svs nd dp L sn0 j).2.length)))] [.inl (nI (((svs nd dp L sn0 j).2 ++ L.drop j).getD (svs nd dp L sn0 j).2.length 0))] mu Q
    rw [hrg]
    show Om G M_S_serve 60 [(0, .inr (some (ad 0 0))), (1, .inl (nI c)), (2, .inl (nI p)), (3, .inr (some (ad 12 (2 * c + p)))), (4, .inl (nI L.length)), (5, .inl (nI (j - (svs nd dp L sn0 j).2.length))), (6, .inl (nI j)), (7, .inl (nI (svs nd dp L sn0 j).2.length))] [.inl (nI (L.getD j 0))] mu Q
    refine o_istore [(0, _), (1, _), (2, _), (3, _), (4, _), (5, _), (6, _), (7, _), (8, _)] dS_serve_60 rfl rfl ?_
    refine o_aload_n dS_serve_62 rfl ?_
    refine o_iload dS_serve_63 rfl ?_
    refine m_callV M_S_isWrite [.inl (nI (L.getD j 0))] [] dS_serve_65 mk_S_isWrite in_S_isWrite se_S_isWrite rfl (by decide) rfl rfl ml_S_123 rfl rfl rfl (Nat.le_of_ble_eq_true rfl) rfl ?_
    refine c_isWrite_y hW.mm hW.m4 hwm ?_
    show Om G M_S_serve 68 [(0, .inr (some (ad 0 0))), (1, .inl (nI c)), (2, .inl (nI p)), (3, .inr (some (ad 12 (2 * c + p)))), (4, .inl (nI L.length)), (5, .inl (nI (j - (svs nd dp L sn0 j).2.length))), (6, .inl (nI j)), (7, .inl (nI ((svs nd dp L sn0 j).2.length))), (8, .inl (nI (L.getD j 0)))] [.inl (nI 1)] mu Q
    refine n_if_eq 97 dS_serve_68 rfl (by omega) (fun h => absurd h (by decide)) (fun _ => ?_)
    refine o_aload_n dS_serve_71 rfl ?_
    refine o_iload_n dS_serve_72 rfl ?_
    refine o_iload dS_serve_73 rfl ?_
    refine m_callV M_S_missingNeeds [.inl (nI c), .inl (nI (L.getD j 0))] [] dS_serve_75 mk_S_missingNeeds in_S_missingNeeds se_S_missingNeeds rfl (by decide) rfl rfl ml_S_162 rfl rfl rfl (Nat.le_of_ble_eq_true rfl) rfl ?_
    refine c_missingNeeds hW hc hwm hs ?_
    show Om G M_S_serve 78 [(0, .inr (some (ad 0 0))), (1, .inl (nI c)), (2, .inl (nI p)), (3, .inr (some (ad 12 (2 * c + p)))), (4, .inl (nI L.length)), (5, .inl (nI (j - (svs nd dp L sn0 j).2.length))), (6, .inl (nI j)), (7, .inl (nI ((svs nd dp L sn0 j).2.length))), (8, .inl (nI (L.getD j 0)))] [.inl (nI (misN (nd (L.getD j 0)) (dp (L.getD j 0)) (svs nd dp L sn0 j).1 6))] mu Q
    have hmi : misN (nd (L.getD j 0)) (dp (L.getD j 0)) (svs nd dp L sn0 j).1 6 ≤ 6 := misN_le 6
    refine n_if_ne 97 dS_serve_78 rfl (by omega) (fun hb78 => ?_) (fun hb78 => ?_)
    · skip
      refine o_iinc (nI (j + 1)) [(0, _), (1, _), (2, _), (3, _), (4, _), (5, _), (6, _), (7, _), (8, _)] dS_serve_97 rfl (nInc _) rfl rfl ?_
      refine o_goto 40 dS_serve_100 rfl ?_
      refine o_lv [(0, _), (1, _), (2, _), (3, _), (4, _), (5, _), (6, _)] [0, 1, 2, 3, 4, 5, 6] rfl ?_
      have e9 : svs nd dp L sn0 (j + 1) = ((svs nd dp L sn0 j).1, (svs nd dp L sn0 j).2 ++ [L.getD j 0]) := by rw [svs, if_neg hb78]
      rw [show j - (svs nd dp L sn0 j).2.length = j + 1 - (svs nd dp L sn0 (j + 1)).2.length by rw [e9]; simp]
      exact l_serve hW hc hp hD hL hL4 (j + 1) (by omega) (by rw [e9]; simpa [drop_at hb44] using hr) (by rw [e9]; exact hs) (by rw [e9]; exact hn) k
    · skip
      refine o_aload_n dS_serve_81 rfl ?_
      refine o_iload dS_serve_82 rfl ?_
      refine m_callV M_R_removeAt [.inl (nI ((svs nd dp L sn0 j).2.length))] [] dS_serve_84 mk_R_removeAt in_R_removeAt se_R_removeAt rfl (show 2 * c + p < 6 by omega) rfl rfl ml_S_126 rfl rfl rfl (Nat.le_of_ble_eq_true rfl) rfl ?_
      refine c_removeAt_12 (i := 2 * c + p) (n := ((svs nd dp L sn0 j).2 ++ L.drop j).length) (j := (svs nd dp L sn0 j).2.length) (by omega) hr.1 hr.2.1 (by omega) (fun mu1 h13 h12 hf1 => ?_)
      have hW1 := hW.fr hf1 rfl
      have hr1 : rowOk mu1 12 13 (2 * c + p) ((svs nd dp L sn0 j).2 ++ L.drop (j + 1)) := by
        have h7 := hr.rem (j := (svs nd dp L sn0 j).2.length) (by omega) h13 h12
        rw [drop_at hb44, mid_erase] at h7
        exact h7
      show Om G M_S_serve 87 [(0, .inr (some (ad 0 0))), (1, .inl (nI c)), (2, .inl (nI p)), (3, .inr (some (ad 12 (2 * c + p)))), (4, .inl (nI L.length)), (5, .inl (nI (j - (svs nd dp L sn0 j).2.length))), (6, .inl (nI j)), (7, .inl (nI ((svs nd dp L sn0 j).2.length))), (8, .inl (nI (L.getD j 0)))] [] mu1 Q
      refine o_aload_n dS_serve_87 rfl ?_
      refine o_iload_n dS_serve_88 rfl ?_
      refine o_iload dS_serve_89 rfl ?_
      refine m_callV M_S_show [.inl (nI c), .inl (nI (L.getD j 0))] [] dS_serve_91 mk_S_show in_S_show se_S_show rfl (by decide) rfl rfl ml_S_77 rfl rfl rfl (Nat.le_of_ble_eq_true rfl) rfl ?_
      refine c_show hW1 hc hwm (a := latN (svs nd dp L sn0 j).1 ky vr (ky (L.getD j 0)) m) (by rw [hf1 9 c (by simp)]; exact (hn _ hk6).1) (latN_le m) (fun mu2 h8 h9 hf2 => ?_)
      show Om G M_S_serve 94 [(0, .inr (some (ad 0 0))), (1, .inl (nI c)), (2, .inl (nI p)), (3, .inr (some (ad 12 (2 * c + p)))), (4, .inl (nI L.length)), (5, .inl (nI (j - (svs nd dp L sn0 j).2.length))), (6, .inl (nI j)), (7, .inl (nI ((svs nd dp L sn0 j).2.length))), (8, .inl (nI (L.getD j 0)))] [] mu2 Q
      refine o_iinc (nI (j - (svs nd dp L sn0 j).2.length + 1)) [(0, _), (1, _), (2, _), (3, _), (4, _), (5, _), (6, _), (7, _), (8, _)] dS_serve_94 rfl (nInc _) rfl rfl ?_
      refine o_iinc (nI (j + 1)) [(0, _), (1, _), (2, _), (3, _), (4, _), (5, _), (6, _), (7, _), (8, _)] dS_serve_97 rfl (nInc _) rfl rfl ?_
      refine o_goto 40 dS_serve_100 rfl ?_
      refine o_lv [(0, _), (1, _), (2, _), (3, _), (4, _), (5, _), (6, _)] [0, 1, 2, 3, 4, 5, 6] rfl ?_
      have e9 : svs nd dp L sn0 (j + 1) = (va_up (svs nd dp L sn0 j).1 (L.getD j 0) 1, (svs nd dp L sn0 j).2) := by rw [svs, if_pos hb78]
      have hff : mfr [(8, c), (9, c), (12, 2 * c + p), (13, 2 * c + p)] mu mu2 := (hf1.wk (by simp)).tr (hf2.wk (by simp))
      rw [show j - (svs nd dp L sn0 j).2.length + 1 = j + 1 - (svs nd dp L sn0 (j + 1)).2.length by rw [e9]; show _ = j + 1 - (svs nd dp L sn0 j).2.length; omega]
      exact l_serve (hW1.fr hf2 rfl) hc hp hD hL hL4 (j + 1) (by omega) (by rw [e9]; exact hr1.fr hf2 (by simp) (by simp)) (by
        rw [e9]
        intro u hu
        show mu2 8 c u = nI (va_up (svs nd dp L sn0 j).1 (L.getD j 0) 1 u) ∧ va_up (svs nd dp L sn0 j).1 (L.getD j 0) 1 u < 2
        rw [h8]
        by_cases e : u = L.getD j 0
        · rw [e, va_s]; simp [upd]
        · rw [va_n e]
          simp only [upd, e, if_false]
          rw [hf1 8 c (by simp)]
          exact hs u hu) (by
        rw [e9]
        exact latN_up hD hwm (fun q hq => by rw [hf1 9 c (by simp)]; exact (hn q hq).1) hk6 h9) (fun mu' a b c d => k mu' a b c (hff.tr d))
termination_by L.length - j
theorem C_serve {G : oG} {mu : oMu} {Q : oPm} {m : Nat} {ky vr nd : Nat → Nat} {dp : Nat → Nat → Nat} {vl : Nat → Int32} {sn ck : Nat → Nat → Nat} {wt fl : Nat → List Nat} {x h d : Nat → Nat → Nat} {s l r : Nat → Nat} (hC : ReC mu m ky vr nd dp vl sn ck wt fl x h d s l r) {i q : Nat} (hi : i < 3) (hq : q < 2) (hD : ∀ u v, u < m → v < m → ¬ u = v → ky u = ky v → ¬ vr u = vr v) (hL : ∀ e ∈ wt (2 * i + q), e < m) (k : ∀ mu' : oMu, ReC mu' m ky vr nd dp vl (va_up sn i (svs nd dp (wt (2 * i + q)) (sn i) (wt (2 * i + q)).length).1) ck (va_up wt (2 * i + q) (svs nd dp (wt (2 * i + q)) (sn i) (wt (2 * i + q)).length).2) fl x h d s l r → mgt mu mu' → Q (some (.inl (nI ((wt (2 * i + q)).length - (svs nd dp (wt (2 * i + q)) (sn i) (wt (2 * i + q)).length).2.length)))) mu') : Om G M_S_serve 0 [(0, .inr (some (ad 0 0))), (1, .inl (nI i)), (2, .inl (nI q))] [] mu Q := by
  refine o_iload_n dS_serve_0 rfl ?_
  refine m_callS M_S_isCenter [.inl (nI i)] [] dS_serve_1 mk_S_isCenter st_S_isCenter ml_S_150 rfl rfl rfl (Nat.le_of_ble_eq_true rfl) rfl ?_
  refine c_isCenter_y hi ?_
  show Om G M_S_serve 4 [(0, .inr (some (ad 0 0))), (1, .inl (nI i)), (2, .inl (nI q))] [.inl (nI 1)] mu Q
  refine n_if_eq 14 dS_serve_4 rfl (by omega) (fun h => absurd h (by decide)) (fun _ => ?_)
  refine o_iload_n dS_serve_7 rfl ?_
  refine m_callS M_S_isPartition [.inl (nI q)] [] dS_serve_8 mk_S_isPartition st_S_isPartition ml_S_153 rfl rfl rfl (Nat.le_of_ble_eq_true rfl) rfl ?_
  refine c_isPartition_y hq ?_
  show Om G M_S_serve 11 [(0, .inr (some (ad 0 0))), (1, .inl (nI i)), (2, .inl (nI q))] [.inl (nI 1)] mu Q
  refine n_if_ne 16 dS_serve_11 rfl (by omega) (fun _ => ?_) (fun h => absurd h (by decide))
  refine o_aload_n dS_serve_16 rfl ?_
  refine m_getr dS_serve_17 fl_S_17 rfl rfl (by decide) ?_
  refine o_iload_n dS_serve_20 rfl ?_
  refine m_aald i dS_serve_21 rfl rfl rfl (by decide) rfl (sh_q2 hi) ?_
  refine m_getr dS_serve_22 fl_S_144 rfl rfl hi ?_
  refine o_iload_n dS_serve_25 rfl ?_
  refine m_aald q dS_serve_26 rfl rfl rfl hi rfl (sh_wait hq) ?_
  refine o_astore_n [(0, _), (1, _), (2, _), (3, _)] dS_serve_27 rfl rfl ?_
  refine o_aload_n dS_serve_28 rfl ?_
  refine m_geti dS_serve_29 fl_S_156 rfl rfl (show 2 * i + q < 6 by omega) ?_
  refine o_top (nI ((wt (2 * i + q)).length)) (hC.fwt (by omega)).1 ?_
  refine o_istore [(0, _), (1, _), (2, _), (3, _), (4, _)] dS_serve_32 rfl rfl ?_
  refine o_iconst (nI 0) dS_serve_34 rfl ?_
  refine o_istore [(0, _), (1, _), (2, _), (3, _), (4, _), (5, _)] dS_serve_35 rfl rfl ?_
  refine o_iconst (nI 0) dS_serve_37 rfl ?_
  refine o_istore [(0, _), (1, _), (2, _), (3, _), (4, _), (5, _), (6, _)] dS_serve_38 rfl rfl ?_
  exact l_serve hC.fw hi hq hD hL (hC.fwt (by omega)).2.1 0 (Nat.zero_le _) (hC.fwt (by omega)) (hC.fsn hi) (hC.fnw hi) (fun mu' a b c e => k mu' (hC.srv e a b c) (mgt_of e rfl))
