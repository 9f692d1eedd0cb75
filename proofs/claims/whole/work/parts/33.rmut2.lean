/-! The reference's deliver, serve. -/
def shf (g : Nat → Int32) (a b : Nat) : Nat → Int32 := fun y => if a ≤ y ∧ y < b then g (y + 1) else g y
theorem shf_0 {g : Nat → Int32} {a : Nat} : shf g a a = g := by
  funext y
  unfold shf
  rw [if_neg (by omega)]
theorem shf_s {g : Nat → Int32} {a z : Nat} (h : a ≤ z) : upd (shf g a z) z (shf g a z (z + 1)) = shf g a (z + 1) := by
  funext y
  unfold shf
  by_cases e : y = z
  · subst e
    simp only [upd, if_true]
    rw [if_neg (by omega), if_pos (by omega)]
  · simp only [upd, e, if_false]
    by_cases e2 : a ≤ y ∧ y < z
    · rw [if_pos e2, if_pos (by omega)]
    · rw [if_neg e2, if_neg (by omega)]
theorem lineOk.app {mu mu' : oMu} {t t' q w : Nat} {L : List Nat} (h : lineOk mu t t' q L) (hl : L.length < 40) (h1 : mu' t' 0 = upd (mu t' 0) (40 * q + L.length) (nI w)) (h2 : mu' t 0 = upd (mu t 0) q (nI (L.length + 1))) : lineOk mu' t t' q (L ++ [w]) := by
  refine ⟨by rw [h2]; simp [upd], by simp; omega, fun j hj => ?_⟩
  rw [h1, getD_snoc]
  have hj2 : j < L.length + 1 := by simpa using hj
  by_cases e : j = L.length
  · simp [upd, e]
  · have h3 : j < L.length := by omega
    have e2 : ¬ 40 * q + j = 40 * q + L.length := by omega
    simp only [upd, e, e2, if_false, h3, if_true]
    exact h.2.2 j h3
theorem lineOk.app_o {mu mu' : oMu} {t t' q q2 w n n' : Nat} {L : List Nat} (h : lineOk mu t t' q2 L) (hq : ¬ q2 = q) (hl : n < 40) (h1 : mu' t' 0 = upd (mu t' 0) (40 * q + n) (nI w)) (h2 : mu' t 0 = upd (mu t 0) q (nI n')) : lineOk mu' t t' q2 L := by
  refine ⟨by rw [h2]; simp only [upd, hq, if_false]; exact h.1, h.2.1, fun j hj => ?_⟩
  have h3 := h.2.1
  have e2 : ¬ 40 * q2 + j = 40 * q + n := by omega
  rw [h1]
  simp only [upd, e2, if_false]
  exact h.2.2 j hj
theorem lineOk.rem {mu mu' : oMu} {t t' q j : Nat} {L : List Nat} (h : lineOk mu t t' q L) (hj : j < L.length) (h1 : mu' t' 0 = shf (mu t' 0) (40 * q + j) (40 * q + (L.length - 1))) (h2 : mu' t 0 = upd (mu t 0) q (nI (L.length - 1))) : lineOk mu' t t' q (L.eraseIdx j) := by
  have hl : (L.eraseIdx j).length = L.length - 1 := by rw [List.length_eraseIdx, if_pos hj]
  refine ⟨by rw [h2, hl]; simp [upd], by rw [hl]; have := h.2.1; omega, fun z hz => ?_⟩
  rw [hl] at hz
  rw [h1, getD_erase]
  unfold shf
  by_cases hzj : z < j
  · rw [if_neg (by omega), if_pos hzj]
    exact h.2.2 z (by omega)
  · rw [if_pos (by omega), if_neg hzj, show 40 * q + z + 1 = 40 * q + (z + 1) by omega]
    exact h.2.2 (z + 1) (by omega)
theorem lineOk.rem_o {mu mu' : oMu} {t t' q q2 j n n' : Nat} {L : List Nat} (h : lineOk mu t t' q2 L) (hq : ¬ q2 = q) (hn : n < 40) (h1 : mu' t' 0 = shf (mu t' 0) (40 * q + j) (40 * q + n)) (h2 : mu' t 0 = upd (mu t 0) q (nI n')) : lineOk mu' t t' q2 L := by
  refine ⟨by rw [h2]; simp only [upd, hq, if_false]; exact h.1, h.2.1, fun z hz => ?_⟩
  have h3 := h.2.1
  rw [h1]
  unfold shf
  rw [if_neg (by omega)]
  exact h.2.2 z hz
theorem lineOk.mv {mu mu' : oMu} {t t' q : Nat} {L : List Nat} (h : lineOk mu t t' q L) (h1 : mu' t 0 = mu t 0) (h2 : mu' t' 0 = mu t' 0) : lineOk mu' t t' q L := by
  unfold lineOk at h ⊢
  rw [h1, h2]
  exact h
theorem R_deliver_b1 {G : oG} {mu : oMu} {Q : oPm} {a b z : Int32} (ha : ∀ j, j < 3 → ¬ a = nI j) (k : Q (some (.inl (nI 0))) mu) : Om G M_N_deliver 0 [(0, .inr (some (ad 20 0))), (1, .inl a), (2, .inl b), (3, .inl z)] [] mu Q := by
  refine o_aload_n dN_deliver_0 rfl ?_
  refine o_iload_n dN_deliver_1 rfl ?_
  refine o_iload_n dN_deliver_2 rfl ?_
  refine m_callV M_N_link [.inl a, .inl b] [] dN_deliver_3 mk_N_link in_N_link se_N_link rfl (by decide) rfl rfl ml_N_112 rfl rfl rfl (Nat.le_of_ble_eq_true rfl) rfl ?_
  refine r_link_b1 ha ?_
  show Om G M_N_deliver 6 [(0, .inr (some (ad 20 0))), (1, .inl a), (2, .inl b), (3, .inl z)] [.inl (nI 0)] mu Q
  refine n_if_ne 11 dN_deliver_6 rfl (by omega) (fun h => absurd h (by decide)) (fun _ => ?_)
  refine o_iconst (nI 0) dN_deliver_9 rfl ?_
  refine m_zret dN_deliver_10 rfl rfl ?_
  exact k
theorem R_deliver_b2 {G : oG} {mu : oMu} {Q : oPm} {i : Nat} {b z : Int32} (hi : i < 3) (hb : ∀ j, j < 3 → ¬ b = nI j) (k : Q (some (.inl (nI 0))) mu) : Om G M_N_deliver 0 [(0, .inr (some (ad 20 0))), (1, .inl (nI i)), (2, .inl b), (3, .inl z)] [] mu Q := by
  refine o_aload_n dN_deliver_0 rfl ?_
  refine o_iload_n dN_deliver_1 rfl ?_
  refine o_iload_n dN_deliver_2 rfl ?_
  refine m_callV M_N_link [.inl (nI i), .inl b] [] dN_deliver_3 mk_N_link in_N_link se_N_link rfl (by decide) rfl rfl ml_N_112 rfl rfl rfl (Nat.le_of_ble_eq_true rfl) rfl ?_
  refine r_link_b2 hi hb ?_
  show Om G M_N_deliver 6 [(0, .inr (some (ad 20 0))), (1, .inl (nI i)), (2, .inl b), (3, .inl z)] [.inl (nI 0)] mu Q
  refine n_if_ne 11 dN_deliver_6 rfl (by omega) (fun h => absurd h (by decide)) (fun _ => ?_)
  refine o_iconst (nI 0) dN_deliver_9 rfl ?_
  refine m_zret dN_deliver_10 rfl rfl ?_
  exact k
theorem R_deliver_e {G : oG} {mu : oMu} {Q : oPm} {i : Nat} {z : Int32} (hi : i < 3) (k : Q (some (.inl (nI 0))) mu) : Om G M_N_deliver 0 [(0, .inr (some (ad 20 0))), (1, .inl (nI i)), (2, .inl (nI i)), (3, .inl z)] [] mu Q := by
  refine o_aload_n dN_deliver_0 rfl ?_
  refine o_iload_n dN_deliver_1 rfl ?_
  refine o_iload_n dN_deliver_2 rfl ?_
  refine m_callV M_N_link [.inl (nI i), .inl (nI i)] [] dN_deliver_3 mk_N_link in_N_link se_N_link rfl (by decide) rfl rfl ml_N_112 rfl rfl rfl (Nat.le_of_ble_eq_true rfl) rfl ?_
  refine r_link_e hi ?_
  show Om G M_N_deliver 6 [(0, .inr (some (ad 20 0))), (1, .inl (nI i)), (2, .inl (nI i)), (3, .inl z)] [.inl (nI 0)] mu Q
  refine n_if_ne 11 dN_deliver_6 rfl (by omega) (fun h => absurd h (by decide)) (fun _ => ?_)
  refine o_iconst (nI 0) dN_deliver_9 rfl ?_
  refine m_zret dN_deliver_10 rfl rfl ?_
  exact k
theorem R_deliver_n {G : oG} {mu : oMu} {Q : oPm} {m : Nat} {ky vr nd : Nat → Nat} {dp : Nat → Nat → Nat} {vl : Nat → Int32} {sn ck : Nat → Nat → Nat} {wt fl : Nat → List Nat} {x h d : Nat → Nat → Nat} {s l r ph : Nat → Nat} (hC : ReR mu m ky vr nd dp vl sn ck wt fl x h d s l r ph) {i q : Nat} {z : Int32} (hi : i < 3) (hq : q < 3) (hne : ¬ i = q) (hj : ∀ j, j < (fl (3 * i + q)).length → ¬ z = nI j) (k : Q (some (.inl (nI 0))) mu) : Om G M_N_deliver 0 [(0, .inr (some (ad 20 0))), (1, .inl (nI i)), (2, .inl (nI q)), (3, .inl z)] [] mu Q := by
  have hl4 := (hC.ffl (show 3 * i + q < 9 by omega)).2.1
  refine o_aload_n dN_deliver_0 rfl ?_
  refine o_iload_n dN_deliver_1 rfl ?_
  refine o_iload_n dN_deliver_2 rfl ?_
  refine m_callV M_N_link [.inl (nI i), .inl (nI q)] [] dN_deliver_3 mk_N_link in_N_link se_N_link rfl (by decide) rfl rfl ml_N_112 rfl rfl rfl (Nat.le_of_ble_eq_true rfl) rfl ?_
  refine r_link hi hq hne ?_
  show Om G M_N_deliver 6 [(0, .inr (some (ad 20 0))), (1, .inl (nI i)), (2, .inl (nI q)), (3, .inl z)] [.inl (nI 1)] mu Q
  refine n_if_ne 11 dN_deliver_6 rfl (by omega) (fun _ => ?_) (fun h => absurd h (by decide))
  refine o_iconst (nI 3) dN_deliver_11 rfl ?_
  refine o_iload_n dN_deliver_12 rfl ?_
  refine o_imul dN_deliver_13 ?_
  refine o_top _ (pk_mul _ _) ?_
  refine o_iload_n dN_deliver_14 rfl ?_
  refine o_iadd dN_deliver_15 ?_
  refine o_top _ (nI_add _ _) ?_
  refine o_istore [(0, _), (1, _), (2, _), (3, _), (4, _)] dN_deliver_16 rfl rfl ?_
  refine o_iload_n dN_deliver_18 rfl ?_
  refine o_aload_n dN_deliver_19 rfl ?_
  refine m_getr dN_deliver_20 fl_N_38 rfl rfl (by decide) ?_
  refine o_iload dN_deliver_23 rfl ?_
  refine m_iald (3 * i + q) dN_deliver_25 rfl rfl rfl (by decide) rfl (by omega) ?_
  refine o_top (nI ((fl (3 * i + q)).length)) (hC.ffl (by omega)).1 ?_
  refine m_callS M_N_out [.inl z, .inl (nI ((fl (3 * i + q)).length))] [] dN_deliver_26 mk_N_out st_N_out ml_N_73 rfl rfl rfl (Nat.le_of_ble_eq_true rfl) rfl ?_
  refine r_out_n (by omega) hj ?_
  show Om G M_N_deliver 29 [(0, .inr (some (ad 20 0))), (1, .inl (nI i)), (2, .inl (nI q)), (3, .inl z), (4, .inl (nI (3 * i + q)))] [.inl (nI 1)] mu Q
  refine n_if_eq 34 dN_deliver_29 rfl (by omega) (fun h => absurd h (by decide)) (fun _ => ?_)
  refine o_iconst (nI 0) dN_deliver_32 rfl ?_
  refine m_zret dN_deliver_33 rfl rfl ?_
  exact k
theorem l_shift {G : oG} {mu : oMu} {Q : oPm} {i q j w n : Nat} {g : Nat → Int32} (hi : i < 3) (hq : q < 3) (hn : n < 40) (hf : mu 30 0 (3 * i + q) = nI n) (z : Nat) (hz : j ≤ z) (hz2 : z ≤ n) (hg : mu 31 0 = shf g (40 * (3 * i + q) + j) (40 * (3 * i + q) + z)) (k : ∀ mu' : oMu, mu' 31 0 = shf g (40 * (3 * i + q) + j) (40 * (3 * i + q) + n) → mfr [(31, 0)] mu mu' → Om G M_N_deliver 108 [(0, .inr (some (ad 20 0))), (1, .inl (nI i)), (2, .inl (nI q)), (3, .inl (nI j)), (4, .inl (nI (3 * i + q))), (5, .inl (nI w)), (6, .inl (nI n))] [] mu' Q) : Om G M_N_deliver 62 [(0, .inr (some (ad 20 0))), (1, .inl (nI i)), (2, .inl (nI q)), (3, .inl (nI j)), (4, .inl (nI (3 * i + q))), (5, .inl (nI w)), (6, .inl (nI z))] [] mu Q := by
  refine o_iload dN_deliver_62 rfl ?_
  refine o_aload_n dN_deliver_64 rfl ?_
  refine m_getr dN_deliver_65 fl_N_38 rfl rfl (by decide) ?_
  refine o_iload dN_deliver_68 rfl ?_
  refine m_iald (3 * i + q) dN_deliver_70 rfl rfl rfl (by decide) rfl (by omega) ?_
  refine o_top (nI n) hf ?_
  refine n_icmp_ge 108 dN_deliver_71 rfl (by omega) (by omega) (fun hb71 => ?_) (fun hb71 => ?_)
  · skip
    obtain rfl : z = n := by omega
    exact k mu hg mfr_rf
  · skip
    refine o_aload_n dN_deliver_74 rfl ?_
    refine m_getr dN_deliver_75 fl_N_41 rfl rfl (by decide) ?_
    refine o_bipush (nI 40) dN_deliver_78 rfl ?_
    refine o_iload dN_deliver_80 rfl ?_
    refine o_imul dN_deliver_82 ?_
    refine o_top _ (pk_mul _ _) ?_
    refine o_iload dN_deliver_83 rfl ?_
    refine o_iadd dN_deliver_85 ?_
    refine o_top _ (nI_add _ _) ?_
    refine o_aload_n dN_deliver_86 rfl ?_
    refine m_getr dN_deliver_87 fl_N_41 rfl rfl (by decide) ?_
    refine o_bipush (nI 40) dN_deliver_90 rfl ?_
    refine o_iload dN_deliver_92 rfl ?_
    refine o_imul dN_deliver_94 ?_
    refine o_top _ (pk_mul _ _) ?_
    refine o_iload dN_deliver_95 rfl ?_
    refine o_iadd dN_deliver_97 ?_
    refine o_top _ (nI_add _ _) ?_
    refine o_iconst (nI 1) dN_deliver_98 rfl ?_
    refine o_iadd dN_deliver_99 ?_
    refine o_top _ (nI_add _ _) ?_
    refine m_iald (40 * (3 * i + q) + z + 1) dN_deliver_100 rfl rfl rfl (by decide) rfl (by omega) ?_
    refine m_iast (40 * (3 * i + q) + z) dN_deliver_101 rfl rfl rfl (by decide) rfl (by omega) (fun mu1 hmu1 => ?_)
    refine o_iinc (nI (z + 1)) [(0, _), (1, _), (2, _), (3, _), (4, _), (5, _), (6, _)] dN_deliver_102 rfl (nInc _) rfl rfl ?_
    refine o_goto 62 dN_deliver_105 rfl ?_
    have hf1 := mfr_up (L := [(31, 0)]) hmu1 (by simp)
    exact l_shift hi hq hn (by rw [hf1 30 0 (by simp)]; exact hf) (z + 1) (by omega) (by omega) (by
      rw [hmu1, up2_s, hg, show 40 * (3 * i + q) + z + 1 = 40 * (3 * i + q) + (z + 1) by omega]
      exact shf_s (show 40 * (3 * i + q) + j ≤ 40 * (3 * i + q) + z by omega)) (fun mu' a b => k mu' a (hf1.tr b))
termination_by n - z
theorem R_deliver {G : oG} {mu : oMu} {Q : oPm} {m : Nat} {ky vr nd : Nat → Nat} {dp : Nat → Nat → Nat} {vl : Nat → Int32} {sn ck : Nat → Nat → Nat} {wt fl : Nat → List Nat} {x h d : Nat → Nat → Nat} {s l r ph : Nat → Nat} (hC : ReR mu m ky vr nd dp vl sn ck wt fl x h d s l r ph) {i q j w : Nat} (hi : i < 3) (hq : q < 3) (hne : ¬ i = q) (hj : j < (fl (3 * i + q)).length) (hw : (fl (3 * i + q)).getD j 0 = w) (hwm : w < m) (hck : ∀ p, p < 2 → ck q p < 1000) (hwl : (wt (2 * q + ky w % 2)).length < 40) (k : ∀ mu' : oMu, ReR mu' m ky vr nd dp vl sn (va_up ck q (va_up (ck q) (ky w % 2) (mx (ck q (ky w % 2)) (vr w / 4)))) (va_up wt (2 * q + ky w % 2) (wt (2 * q + ky w % 2) ++ [w])) (va_up fl (3 * i + q) ((fl (3 * i + q)).eraseIdx j)) x h d s l r ph → mlt mu mu' → Q (some (.inl (nI 1))) mu') : Om G M_N_deliver 0 [(0, .inr (some (ad 20 0))), (1, .inl (nI i)), (2, .inl (nI q)), (3, .inl (nI j))] [] mu Q := by
  have hl4 := (hC.ffl (show 3 * i + q < 9 by omega)).2.1
  have hm4 := hC.fw.m4
  have hkb := hC.fw.key6 hwm
  have hvb := hC.fw.verK w hwm
  have hc1 := hck (ky w % 2) (by omega)
  refine o_aload_n dN_deliver_0 rfl ?_
  refine o_iload_n dN_deliver_1 rfl ?_
  refine o_iload_n dN_deliver_2 rfl ?_
  refine m_callV M_N_link [.inl (nI i), .inl (nI q)] [] dN_deliver_3 mk_N_link in_N_link se_N_link rfl (by decide) rfl rfl ml_N_112 rfl rfl rfl (Nat.le_of_ble_eq_true rfl) rfl ?_
  refine r_link hi hq hne ?_
  show Om G M_N_deliver 6 [(0, .inr (some (ad 20 0))), (1, .inl (nI i)), (2, .inl (nI q)), (3, .inl (nI j))] [.inl (nI 1)] mu Q
  refine n_if_ne 11 dN_deliver_6 rfl (by omega) (fun _ => ?_) (fun h => absurd h (by decide))
  refine o_iconst (nI 3) dN_deliver_11 rfl ?_
  refine o_iload_n dN_deliver_12 rfl ?_
  refine o_imul dN_deliver_13 ?_
  refine o_top _ (pk_mul _ _) ?_
  refine o_iload_n dN_deliver_14 rfl ?_
  refine o_iadd dN_deliver_15 ?_
  refine o_top _ (nI_add _ _) ?_
  refine o_istore [(0, _), (1, _), (2, _), (3, _), (4, _)] dN_deliver_16 rfl rfl ?_
  refine o_iload_n dN_deliver_18 rfl ?_
  refine o_aload_n dN_deliver_19 rfl ?_
  refine m_getr dN_deliver_20 fl_N_38 rfl rfl (by decide) ?_
  refine o_iload dN_deliver_23 rfl ?_
  refine m_iald (3 * i + q) dN_deliver_25 rfl rfl rfl (by decide) rfl (by omega) ?_
  refine o_top (nI ((fl (3 * i + q)).length)) (hC.ffl (by omega)).1 ?_
  refine m_callS M_N_out [.inl (nI j), .inl (nI ((fl (3 * i + q)).length))] [] dN_deliver_26 mk_N_out st_N_out ml_N_73 rfl rfl rfl (Nat.le_of_ble_eq_true rfl) rfl ?_
  refine r_out_y (by omega) hj ?_
  show Om G M_N_deliver 29 [(0, .inr (some (ad 20 0))), (1, .inl (nI i)), (2, .inl (nI q)), (3, .inl (nI j)), (4, .inl (nI (3 * i + q)))] [.inl (nI 0)] mu Q
  refine n_if_eq 34 dN_deliver_29 rfl (by omega) (fun _ => ?_) (fun h => absurd h (by decide))
  refine o_aload_n dN_deliver_34 rfl ?_
  refine m_getr dN_deliver_35 fl_N_41 rfl rfl (by decide) ?_
  refine o_bipush (nI 40) dN_deliver_38 rfl ?_
  refine o_iload dN_deliver_40 rfl ?_
  refine o_imul dN_deliver_42 ?_
  refine o_top _ (pk_mul _ _) ?_
  refine o_iload_n dN_deliver_43 rfl ?_
  refine o_iadd dN_deliver_44 ?_
  refine o_top _ (nI_add _ _) ?_
  refine m_iald (40 * (3 * i + q) + j) dN_deliver_45 rfl rfl rfl (by decide) rfl (by omega) ?_
  refine o_top (nI w) (((hC.ffl (show 3 * i + q < 9 by omega)).2.2 j hj).trans (by rw [hw])) ?_
  refine o_istore [(0, _), (1, _), (2, _), (3, _), (4, _), (5, _)] dN_deliver_46 rfl rfl ?_
  refine o_aload_n dN_deliver_48 rfl ?_
  refine m_getr dN_deliver_49 fl_N_38 rfl rfl (by decide) ?_
  refine o_iload dN_deliver_52 rfl ?_
  refine o_dup2 dN_deliver_54 ?_
  refine m_iald (3 * i + q) dN_deliver_55 rfl rfl rfl (by decide) rfl (by omega) ?_
  refine o_top (nI ((fl (3 * i + q)).length)) (hC.ffl (by omega)).1 ?_
  refine o_iconst (nI 1) dN_deliver_56 rfl ?_
  refine o_isub dN_deliver_57 ?_
  refine o_top _ (pk_sub (by omega)) ?_
  refine m_iast (3 * i + q) dN_deliver_58 rfl rfl rfl (by decide) rfl (by omega) (fun mu1 hmu1 => ?_)
  refine o_iload_n dN_deliver_59 rfl ?_
  refine o_istore [(0, _), (1, _), (2, _), (3, _), (4, _), (5, _), (6, _)] dN_deliver_60 rfl rfl ?_
  refine l_shift (n := (fl (3 * i + q)).length - 1) (g := mu 31 0) hi hq (by omega) (by rw [hmu1, up2_s]; simp [upd]) j (Nat.le_refl _) (by omega) (by rw [hmu1, up2_t (by decide), shf_0]) (fun mu2 h31 hf2 => ?_)
  show Om G M_N_deliver 108 [(0, .inr (some (ad 20 0))), (1, .inl (nI i)), (2, .inl (nI q)), (3, .inl (nI j)), (4, .inl (nI (3 * i + q))), (5, .inl (nI w)), (6, .inl (nI ((fl (3 * i + q)).length - 1)))] [] mu2 Q
  have hW2 : vOk mu2 m ky vr nd dp := hC.fw.mv (by rw [hf2 20 0 (by simp), hmu1, up2_t (by decide)]) (by rw [hf2 21 0 (by simp), hmu1, up2_t (by decide)]) (by rw [hf2 23 0 (by simp), hmu1, up2_t (by decide)]) (by rw [hf2 24 0 (by simp), hmu1, up2_t (by decide)]) (by rw [hf2 25 0 (by simp), hmu1, up2_t (by decide)])
  refine o_iconst (nI 2) dN_deliver_108 rfl ?_
  refine o_iload_n dN_deliver_109 rfl ?_
  refine o_imul dN_deliver_110 ?_
  refine o_top _ (pk_mul _ _) ?_
  refine o_aload_n dN_deliver_111 rfl ?_
  refine m_getr dN_deliver_112 fl_N_7 rfl rfl (by decide) ?_
  refine o_iload dN_deliver_115 rfl ?_
  refine m_iald w dN_deliver_117 rfl rfl rfl (by decide) rfl (by omega) ?_
  refine o_top (nI (ky w)) (hW2.key hwm) ?_
  refine o_iconst (nI 2) dN_deliver_118 rfl ?_
  refine o_irem dN_deliver_119 (by decide) ?_
  refine o_top _ (pk_rem (by omega) (by decide) (by decide)) ?_
  refine o_iadd dN_deliver_120 ?_
  refine o_top _ (nI_add _ _) ?_
  refine o_istore [(0, _), (1, _), (2, _), (3, _), (4, _), (5, _), (6, _)] dN_deliver_121 rfl rfl ?_
  refine o_aload_n dN_deliver_123 rfl ?_
  refine m_getr dN_deliver_124 fl_N_29 rfl rfl (by decide) ?_
  refine o_iload dN_deliver_127 rfl ?_
  refine o_aload_n dN_deliver_129 rfl ?_
  refine m_getr dN_deliver_130 fl_N_16 rfl rfl (by decide) ?_
  refine o_iload dN_deliver_133 rfl ?_
  refine m_iald w dN_deliver_135 rfl rfl rfl (by decide) rfl (by omega) ?_
  refine o_top (nI (vr w)) (hW2.ver w hwm) ?_
  refine o_iconst (nI 4) dN_deliver_136 rfl ?_
  refine o_idiv dN_deliver_137 (by decide) ?_
  refine o_top _ (pk_div (by omega) (by decide) (by decide)) ?_
  refine o_aload_n dN_deliver_138 rfl ?_
  refine m_getr dN_deliver_139 fl_N_29 rfl rfl (by decide) ?_
  refine o_iload dN_deliver_142 rfl ?_
  refine m_iald (2 * q + ((ky w) % 2)) dN_deliver_144 rfl rfl rfl (by decide) rfl (by omega) ?_
  refine o_top (nI (ck q (ky w % 2))) (by rw [hf2 27 0 (by simp), hmu1, up2_t (by decide)]; exact hC.fck hq (by omega)) ?_
  refine n_icmp_le 160 dN_deliver_145 rfl (by omega) (by omega) (fun hb145 => ?_) (fun hb145 => ?_)
  · skip
    refine o_aload_n dN_deliver_160 rfl ?_
    refine m_getr dN_deliver_161 fl_N_29 rfl rfl (by decide) ?_
    refine o_iload dN_deliver_164 rfl ?_
    refine m_iald (2 * q + ((ky w) % 2)) dN_deliver_166 rfl rfl rfl (by decide) rfl (by omega) ?_
    refine o_top (nI (ck q (ky w % 2))) (by rw [hf2 27 0 (by simp), hmu1, up2_t (by decide)]; exact hC.fck hq (by omega)) ?_
    refine m_iast (2 * q + ((ky w) % 2)) dN_deliver_167 rfl rfl rfl (by decide) rfl (by omega) (fun mu3 hmu3 => ?_)
    refine o_aload_n dN_deliver_168 rfl ?_
    refine m_getr dN_deliver_169 fl_N_35 rfl rfl (by decide) ?_
    refine o_bipush (nI 40) dN_deliver_172 rfl ?_
    refine o_iload dN_deliver_174 rfl ?_
    refine o_imul dN_deliver_176 ?_
    refine o_top _ (pk_mul _ _) ?_
    refine o_aload_n dN_deliver_177 rfl ?_
    refine m_getr dN_deliver_178 fl_N_32 rfl rfl (by decide) ?_
    refine o_iload dN_deliver_181 rfl ?_
    refine m_iald (2 * q + ((ky w) % 2)) dN_deliver_183 rfl rfl rfl (by decide) rfl (by omega) ?_
    refine o_top (nI ((wt (2 * q + ky w % 2)).length)) (by rw [hmu3, up2_t (by decide), hf2 28 0 (by simp), hmu1, up2_t (by decide)]; exact (hC.fwt (by omega)).1) ?_
    refine o_iadd dN_deliver_184 ?_
    refine o_top _ (nI_add _ _) ?_
    refine o_iload dN_deliver_185 rfl ?_
    refine m_iast (40 * (2 * q + ((ky w) % 2)) + ((wt (2 * q + ky w % 2)).length)) dN_deliver_187 rfl rfl rfl (by decide) rfl (by omega) (fun mu4 hmu4 => ?_)
    refine o_aload_n dN_deliver_188 rfl ?_
    refine m_getr dN_deliver_189 fl_N_32 rfl rfl (by decide) ?_
    refine o_iload dN_deliver_192 rfl ?_
    refine o_dup2 dN_deliver_194 ?_
    refine m_iald (2 * q + ((ky w) % 2)) dN_deliver_195 rfl rfl rfl (by decide) rfl (by omega) ?_
    refine o_top (nI ((wt (2 * q + ky w % 2)).length)) (by rw [hmu4, up2_t (by decide), hmu3, up2_t (by decide), hf2 28 0 (by simp), hmu1, up2_t (by decide)]; exact (hC.fwt (by omega)).1) ?_
    refine o_iconst (nI 1) dN_deliver_196 rfl ?_
    refine o_iadd dN_deliver_197 ?_
    refine o_top _ (nI_add _ _) ?_
    refine m_iast (2 * q + ((ky w) % 2)) dN_deliver_198 rfl rfl rfl (by decide) rfl (by omega) (fun mu5 hmu5 => ?_)
    refine o_iconst (nI 1) dN_deliver_199 rfl ?_
    refine m_zret dN_deliver_200 rfl rfl ?_
    have g5 : ∀ t z, ¬ (t = 30 ∧ z = 0) → ¬ (t = 31 ∧ z = 0) → ¬ (t = 27 ∧ z = 0) → ¬ (t = 29 ∧ z = 0) → ¬ (t = 28 ∧ z = 0) → mu5 t z = mu t z := fun t z a b c d e => by
      rw [hmu5, up2, if_neg e, hmu4, up2, if_neg d, hmu3, up2, if_neg c, hf2 t z (by simpa using b), hmu1, up2, if_neg a]
    have e30 : mu5 30 0 = upd (mu 30 0) (3 * i + q) (nI ((fl (3 * i + q)).length - 1)) := by rw [hmu5, up2_t (by decide), hmu4, up2_t (by decide), hmu3, up2_t (by decide), hf2 30 0 (by simp), hmu1, up2_s]
    have e31 : mu5 31 0 = shf (mu 31 0) (40 * (3 * i + q) + j) (40 * (3 * i + q) + ((fl (3 * i + q)).length - 1)) := by rw [hmu5, up2_t (by decide), hmu4, up2_t (by decide), hmu3, up2_t (by decide), h31]
    have e27 : ∀ y, mu5 27 0 y = if y = 2 * q + ky w % 2 then nI (mx (ck q (ky w % 2)) (vr w / 4)) else mu 27 0 y := fun y => by
      rw [hmu5, up2_t (by decide), hmu4, up2_t (by decide), hmu3, up2_s]
      by_cases ey : y = 2 * q + ky w % 2
      · simp only [upd, ey, if_true]
        unfold mx
        first | rw [if_neg (Nat.not_lt.mpr hb145)] | rw [if_pos hb145]
      · simp only [upd, ey, if_false]
        rw [hf2 27 0 (by simp), hmu1, up2_t (by decide)]
    have e29 : mu5 29 0 = upd (mu 29 0) (40 * (2 * q + ky w % 2) + (wt (2 * q + ky w % 2)).length) (nI w) := by rw [hmu5, up2_t (by decide), hmu4, up2_s, hmu3, up2_t (by decide), hf2 29 0 (by simp), hmu1, up2_t (by decide)]
    have e28 : mu5 28 0 = upd (mu 28 0) (2 * q + ky w % 2) (nI ((wt (2 * q + ky w % 2)).length + 1)) := by rw [hmu5, up2_s, hmu4, up2_t (by decide), hmu3, up2_t (by decide), hf2 28 0 (by simp), hmu1, up2_t (by decide)]
    have hA := hC.ffl (show 3 * i + q < 9 by omega)
    have hB := hC.fwt (show 2 * q + ky w % 2 < 6 by omega)
    refine k mu5 ⟨hC.fw.mv (g5 _ _ (by decide) (by decide) (by decide) (by decide) (by decide)) (g5 _ _ (by decide) (by decide) (by decide) (by decide) (by decide)) (g5 _ _ (by decide) (by decide) (by decide) (by decide) (by decide)) (g5 _ _ (by decide) (by decide) (by decide) (by decide) (by decide)) (g5 _ _ (by decide) (by decide) (by decide) (by decide) (by decide)), fun u hu => by rw [g5 22 0 (by decide) (by decide) (by decide) (by decide) (by decide)]; exact hC.fv hu, fun c hc => ⟨fun u hu => by rw [g5 26 0 (by decide) (by decide) (by decide) (by decide) (by decide)]; exact hC.fsn hc u hu, fun p hp => ?_⟩, fun z hz => ?_, fun z hz => ?_, fun y hy => ?_⟩ (fun t z ht => g5 t z (by omega) (by omega) (by omega) (by omega) (by omega))
    · rw [e27]
      by_cases ec : c = q
      · subst ec
        rw [va_s]
        by_cases ep : p = ky w % 2
        · rw [if_pos (by omega), ep, va_s]
        · rw [if_neg (by omega), va_n ep]
          exact hC.fck hc hp
      · rw [if_neg (by omega), va_n ec]
        exact hC.fck hc hp
    · by_cases ez : z = 2 * q + ky w % 2
      · rw [ez, va_s]
        exact hB.app hwl e29 e28
      · rw [va_n ez]
        exact (hC.fwt hz).app_o ez hwl e29 e28
    · by_cases ez : z = 3 * i + q
      · rw [ez, va_s]
        exact hA.rem hj e31 e30
      · rw [va_n ez]
        exact (hC.ffl hz).rem_o ez (by omega) e31 e30
    · rw [g5 33 0 (by decide) (by decide) (by decide) (by decide) (by decide), g5 34 0 (by decide) (by decide) (by decide) (by decide) (by decide), g5 35 0 (by decide) (by decide) (by decide) (by decide) (by decide), g5 36 0 (by decide) (by decide) (by decide) (by decide) (by decide)]
      have hcy := hC.2.2.2.2.2 y hy
      exact ⟨hcy.1, hcy.2.1.ne (g5 32 0 (by decide) (by decide) (by decide) (by decide) (by decide)), hcy.2.2.1.ne (g5 37 0 (by decide) (by decide) (by decide) (by decide) (by decide)), hcy.2.2.2.ne (g5 38 0 (by decide) (by decide) (by decide) (by decide) (by decide))⟩
  · skip
    refine o_aload_n dN_deliver_148 rfl ?_
    refine m_getr dN_deliver_149 fl_N_16 rfl rfl (by decide) ?_
    refine o_iload dN_deliver_152 rfl ?_
    refine m_iald w dN_deliver_154 rfl rfl rfl (by decide) rfl (by omega) ?_
    refine o_top (nI (vr w)) (hW2.ver w hwm) ?_
    refine o_iconst (nI 4) dN_deliver_155 rfl ?_
    refine o_idiv dN_deliver_156 (by decide) ?_
    refine o_top _ (pk_div (by omega) (by decide) (by decide)) ?_
    refine o_goto 167 dN_deliver_157 rfl ?_
    refine m_iast (2 * q + ((ky w) % 2)) dN_deliver_167 rfl rfl rfl (by decide) rfl (by omega) (fun mu3 hmu3 => ?_)
    refine o_aload_n dN_deliver_168 rfl ?_
    refine m_getr dN_deliver_169 fl_N_35 rfl rfl (by decide) ?_
    refine o_bipush (nI 40) dN_deliver_172 rfl ?_
    refine o_iload dN_deliver_174 rfl ?_
    refine o_imul dN_deliver_176 ?_
    refine o_top _ (pk_mul _ _) ?_
    refine o_aload_n dN_deliver_177 rfl ?_
    refine m_getr dN_deliver_178 fl_N_32 rfl rfl (by decide) ?_
    refine o_iload dN_deliver_181 rfl ?_
    refine m_iald (2 * q + ((ky w) % 2)) dN_deliver_183 rfl rfl rfl (by decide) rfl (by omega) ?_
    refine o_top (nI ((wt (2 * q + ky w % 2)).length)) (by rw [hmu3, up2_t (by decide), hf2 28 0 (by simp), hmu1, up2_t (by decide)]; exact (hC.fwt (by omega)).1) ?_
    refine o_iadd dN_deliver_184 ?_
    refine o_top _ (nI_add _ _) ?_
    refine o_iload dN_deliver_185 rfl ?_
    refine m_iast (40 * (2 * q + ((ky w) % 2)) + ((wt (2 * q + ky w % 2)).length)) dN_deliver_187 rfl rfl rfl (by decide) rfl (by omega) (fun mu4 hmu4 => ?_)
    refine o_aload_n dN_deliver_188 rfl ?_
    refine m_getr dN_deliver_189 fl_N_32 rfl rfl (by decide) ?_
    refine o_iload dN_deliver_192 rfl ?_
    refine o_dup2 dN_deliver_194 ?_
    refine m_iald (2 * q + ((ky w) % 2)) dN_deliver_195 rfl rfl rfl (by decide) rfl (by omega) ?_
    refine o_top (nI ((wt (2 * q + ky w % 2)).length)) (by rw [hmu4, up2_t (by decide), hmu3, up2_t (by decide), hf2 28 0 (by simp), hmu1, up2_t (by decide)]; exact (hC.fwt (by omega)).1) ?_
    refine o_iconst (nI 1) dN_deliver_196 rfl ?_
    refine o_iadd dN_deliver_197 ?_
    refine o_top _ (nI_add _ _) ?_
    refine m_iast (2 * q + ((ky w) % 2)) dN_deliver_198 rfl rfl rfl (by decide) rfl (by omega) (fun mu5 hmu5 => ?_)
    refine o_iconst (nI 1) dN_deliver_199 rfl ?_
    refine m_zret dN_deliver_200 rfl rfl ?_
    have g5 : ∀ t z, ¬ (t = 30 ∧ z = 0) → ¬ (t = 31 ∧ z = 0) → ¬ (t = 27 ∧ z = 0) → ¬ (t = 29 ∧ z = 0) → ¬ (t = 28 ∧ z = 0) → mu5 t z = mu t z := fun t z a b c d e => by
      rw [hmu5, up2, if_neg e, hmu4, up2, if_neg d, hmu3, up2, if_neg c, hf2 t z (by simpa using b), hmu1, up2, if_neg a]
    have e30 : mu5 30 0 = upd (mu 30 0) (3 * i + q) (nI ((fl (3 * i + q)).length - 1)) := by rw [hmu5, up2_t (by decide), hmu4, up2_t (by decide), hmu3, up2_t (by decide), hf2 30 0 (by simp), hmu1, up2_s]
    have e31 : mu5 31 0 = shf (mu 31 0) (40 * (3 * i + q) + j) (40 * (3 * i + q) + ((fl (3 * i + q)).length - 1)) := by rw [hmu5, up2_t (by decide), hmu4, up2_t (by decide), hmu3, up2_t (by decide), h31]
    have e27 : ∀ y, mu5 27 0 y = if y = 2 * q + ky w % 2 then nI (mx (ck q (ky w % 2)) (vr w / 4)) else mu 27 0 y := fun y => by
      rw [hmu5, up2_t (by decide), hmu4, up2_t (by decide), hmu3, up2_s]
      by_cases ey : y = 2 * q + ky w % 2
      · simp only [upd, ey, if_true]
        unfold mx
        first | rw [if_neg (Nat.not_lt.mpr hb145)] | rw [if_pos hb145]
      · simp only [upd, ey, if_false]
        rw [hf2 27 0 (by simp), hmu1, up2_t (by decide)]
    have e29 : mu5 29 0 = upd (mu 29 0) (40 * (2 * q + ky w % 2) + (wt (2 * q + ky w % 2)).length) (nI w) := by rw [hmu5, up2_t (by decide), hmu4, up2_s, hmu3, up2_t (by decide), hf2 29 0 (by simp), hmu1, up2_t (by decide)]
    have e28 : mu5 28 0 = upd (mu 28 0) (2 * q + ky w % 2) (nI ((wt (2 * q + ky w % 2)).length + 1)) := by rw [hmu5, up2_s, hmu4, up2_t (by decide), hmu3, up2_t (by decide), hf2 28 0 (by simp), hmu1, up2_t (by decide)]
    have hA := hC.ffl (show 3 * i + q < 9 by omega)
    have hB := hC.fwt (show 2 * q + ky w % 2 < 6 by omega)
    refine k mu5 ⟨hC.fw.mv (g5 _ _ (by decide) (by decide) (by decide) (by decide) (by decide)) (g5 _ _ (by decide) (by decide) (by decide) (by decide) (by decide)) (g5 _ _ (by decide) (by decide) (by decide) (by decide) (by decide)) (g5 _ _ (by decide) (by decide) (by decide) (by decide) (by decide)) (g5 _ _ (by decide) (by decide) (by decide) (by decide) (by decide)), fun u hu => by rw [g5 22 0 (by decide) (by decide) (by decide) (by decide) (by decide)]; exact hC.fv hu, fun c hc => ⟨fun u hu => by rw [g5 26 0 (by decide) (by decide) (by decide) (by decide) (by decide)]; exact hC.fsn hc u hu, fun p hp => ?_⟩, fun z hz => ?_, fun z hz => ?_, fun y hy => ?_⟩ (fun t z ht => g5 t z (by omega) (by omega) (by omega) (by omega) (by omega))
    · rw [e27]
      by_cases ec : c = q
      · subst ec
        rw [va_s]
        by_cases ep : p = ky w % 2
        · rw [if_pos (by omega), ep, va_s]
        · rw [if_neg (by omega), va_n ep]
          exact hC.fck hc hp
      · rw [if_neg (by omega), va_n ec]
        exact hC.fck hc hp
    · by_cases ez : z = 2 * q + ky w % 2
      · rw [ez, va_s]
        exact hB.app hwl e29 e28
      · rw [va_n ez]
        exact (hC.fwt hz).app_o ez hwl e29 e28
    · by_cases ez : z = 3 * i + q
      · rw [ez, va_s]
        exact hA.rem hj e31 e30
      · rw [va_n ez]
        exact (hC.ffl hz).rem_o ez (by omega) e31 e30
    · rw [g5 33 0 (by decide) (by decide) (by decide) (by decide) (by decide), g5 34 0 (by decide) (by decide) (by decide) (by decide) (by decide), g5 35 0 (by decide) (by decide) (by decide) (by decide) (by decide), g5 36 0 (by decide) (by decide) (by decide) (by decide) (by decide)]
      have hcy := hC.2.2.2.2.2 y hy
      exact ⟨hcy.1, hcy.2.1.ne (g5 32 0 (by decide) (by decide) (by decide) (by decide) (by decide)), hcy.2.2.1.ne (g5 37 0 (by decide) (by decide) (by decide) (by decide) (by decide)), hcy.2.2.2.ne (g5 38 0 (by decide) (by decide) (by decide) (by decide) (by decide))⟩
