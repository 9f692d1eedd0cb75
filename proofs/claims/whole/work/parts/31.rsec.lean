/-! The reference's second, read. -/
theorem l_second {G : oG} {mu : oMu} {Q : oPm} {m : Nat} {ky vr nd : Nat → Nat} {dp : Nat → Nat → Nat} (hV : vOk mu m ky vr nd dp) {i s : Nat} {h du : Nat → Nat} (hi : i < 6) (hh : yOk mu 37 i m h) (hset : mu 34 0 i = nI s) (hs6 : s < 64) (hin : ∀ z, z < 6 → ¬ h z = 0 → s.testBit z = true) (j : Nat) (hj : j ≤ 6) (hd : yOk mu 38 i m (dY du h dp vr j)) (k : ∀ mu' : oMu, yOk mu' 38 i m (fun q => dueN h dp vr q 6) → (∀ t z, ¬ (t = 38 ∧ z = 0) → mu' t z = mu t z) → cseg i mu mu' → Om G M_N_second 94 [(0, .inr (some (ad 20 0))), (1, .inl (nI i)), (2, .inl (nI (secN h dp vr s 6))), (3, .inl (nI 6))] [] mu' Q) : Om G M_N_second 4 [(0, .inr (some (ad 20 0))), (1, .inl (nI i)), (2, .inl (nI (secN h dp vr s j))), (3, .inl (nI j))] [] mu Q := by
  refine o_iload_n dN_second_4 rfl ?_
  refine o_bipush (nI 6) dN_second_5 rfl ?_
  refine n_icmp_ge 94 dN_second_7 rfl (by omega) (by omega) (fun hb7 => ?_) (fun hb7 => ?_)
  · skip
    obtain rfl : j = 6 := by omega
    exact k mu (fun q hq => by
      have h1 := hd q hq
      simp only [dY, hq, if_true] at h1
      exact h1) (fun _ _ _ => rfl) ⟨fun _ _ _ => rfl, fun _ _ _ _ _ => rfl, fun _ _ _ _ => rfl⟩
  · skip
    refine o_aload_n dN_second_10 rfl ?_
    refine m_getr dN_second_11 fl_N_62 rfl rfl (by decide) ?_
    refine o_bipush (nI 6) dN_second_14 rfl ?_
    refine o_iload_n dN_second_16 rfl ?_
    refine o_imul dN_second_17 ?_
    refine o_top _ (pk_mul _ _) ?_
    refine o_iload_n dN_second_18 rfl ?_
    refine o_iadd dN_second_19 ?_
    refine o_top _ (nI_add _ _) ?_
    refine o_aload_n dN_second_20 rfl ?_
    refine o_iload_n dN_second_21 rfl ?_
    refine o_iload_n dN_second_22 rfl ?_
    refine m_callV M_N_due [.inl (nI i), .inl (nI j)] [.inl (nI (6 * i + j)), .inr (some (ad 38 0))] dN_second_23 mk_N_due in_N_due se_N_due rfl (by decide) rfl rfl ml_N_96 rfl rfl rfl (Nat.le_of_ble_eq_true rfl) rfl ?_
    refine r_due hV hi hb7 hh hset hs6 hin ?_
    show Om G M_N_second 26 [(0, .inr (some (ad 20 0))), (1, .inl (nI i)), (2, .inl (nI (secN h dp vr s j))), (3, .inl (nI j))] [.inl (nI (dueN h dp vr j 6)), .inl (nI (6 * i + j)), .inr (some (ad 38 0))] mu Q
    refine m_iast (6 * i + j) dN_second_26 rfl rfl rfl (by decide) rfl (by omega) (fun mu1 hmu1 => ?_)
    have hs1 := cseg_6 (i := i) hmu1 (by simp) hb7
    have hn1 : ∀ t z, ¬ (t = 38 ∧ z = 0) → mu1 t z = mu t z := fun t z hz => by rw [hmu1]; exact if_neg hz
    have hh1 : yOk mu1 37 i m h := hh.ne (hn1 37 0 (by decide))
    have hset1 : mu1 34 0 i = nI s := by rw [hn1 34 0 (by decide)]; exact hset
    have hdl : dueN h dp vr j 6 ≤ m := dueN_le hb7 (fun z hz => (hh z hz).2) (fun u hu => hV.depB hu hb7) 6 (Nat.le_refl _)
    have hd1 : yOk mu1 38 i m (dY du h dp vr (j + 1)) := hd.step hmu1 hdl (fun q hq => by
      by_cases hqj : q = j
      · subst hqj
        simp [dY]
      · by_cases hql : q < j
        · simp [dY, hqj, hql, Nat.lt_succ_of_lt hql]
        · have h3 : ¬ q < j + 1 := by omega
          simp [dY, hqj, hql, h3])
    have hhl := (hh j hb7).2
    have hm4 := hV.m4
    refine o_aload_n dN_second_27 rfl ?_
    refine m_getr dN_second_28 fl_N_50 rfl rfl (by decide) ?_
    refine o_iload_n dN_second_31 rfl ?_
    refine m_iald i dN_second_32 rfl rfl rfl (by decide) rfl hi ?_
    refine o_top (nI s) hset1 ?_
    refine o_iload_n dN_second_33 rfl ?_
    refine o_ishr dN_second_34 ?_
    refine o_iconst (nI 1) dN_second_35 rfl ?_
    refine o_iand dN_second_36 ?_
    refine o_iconst (nI 1) dN_second_37 rfl ?_
    refine o_icmp_ne 70 dN_second_38 rfl (fun hb38 => ?_) (fun hb38 => ?_)
    · skip
      have hbf : s.testBit j = false := by
        cases hz : s.testBit j with
        | false => rfl
        | true => exact absurd ((b1_iff _ hs6 j hb7).mpr hz) hb38
      refine o_iconst (nI 0) dN_second_70 rfl ?_
      refine o_istore [(0, _), (1, _), (2, _), (3, _), (4, _)] dN_second_71 rfl rfl ?_
      refine o_iload dN_second_73 rfl ?_
      refine n_if_eq 86 dN_second_75 rfl (by omega) (fun _ => ?_) (fun h => absurd h (by decide))
      refine o_iload_n dN_second_86 rfl ?_
      refine o_istore_n [(0, _), (1, _), (2, _), (3, _), (4, _)] dN_second_87 rfl rfl ?_
      refine o_iinc (nI (j + 1)) [(0, _), (1, _), (2, _), (3, _), (4, _)] dN_second_88 rfl (nInc _) rfl rfl ?_
      refine o_goto 4 dN_second_91 rfl ?_
      refine o_lv [(0, _), (1, _), (2, _), (3, _)] [0, 1, 2, 3] rfl ?_
      rw [show secN h dp vr s j = secN h dp vr s (j + 1) by rw [secN, if_neg (by first | exact fun z => absurd (z.1.symm.trans hbf) (by decide) | exact fun z => z.2 hb63)]]
      exact l_second (hs1.v hV) hi hh1 (hset1) hs6 hin (j + 1) (by omega) hd1 (fun mu' a b c => k mu' a (fun t z hz => (b t z hz).trans (hn1 t z hz)) (hs1.tr c))
    · skip
      have hbt := (b1_iff _ hs6 j hb7).mp hb38
      refine o_aload_n dN_second_41 rfl ?_
      refine m_getr dN_second_42 fl_N_62 rfl rfl (by decide) ?_
      refine o_bipush (nI 6) dN_second_45 rfl ?_
      refine o_iload_n dN_second_47 rfl ?_
      refine o_imul dN_second_48 ?_
      refine o_top _ (pk_mul _ _) ?_
      refine o_iload_n dN_second_49 rfl ?_
      refine o_iadd dN_second_50 ?_
      refine o_top _ (nI_add _ _) ?_
      refine m_iald (6 * i + j) dN_second_51 rfl rfl rfl (by decide) rfl (by omega) ?_
      refine o_top (nI (dueN h dp vr j 6)) ((hd1 j hb7).1.trans (by simp [dY])) ?_
      refine o_aload_n dN_second_52 rfl ?_
      refine m_getr dN_second_53 fl_N_59 rfl rfl (by decide) ?_
      refine o_bipush (nI 6) dN_second_56 rfl ?_
      refine o_iload_n dN_second_58 rfl ?_
      refine o_imul dN_second_59 ?_
      refine o_top _ (pk_mul _ _) ?_
      refine o_iload_n dN_second_60 rfl ?_
      refine o_iadd dN_second_61 ?_
      refine o_top _ (nI_add _ _) ?_
      refine m_iald (6 * i + j) dN_second_62 rfl rfl rfl (by decide) rfl (by omega) ?_
      refine o_top (nI (h j)) (hh1 j hb7).1 ?_
      refine n_icmp_eq 70 dN_second_63 rfl (by omega) (by omega) (fun hb63 => ?_) (fun hb63 => ?_)
      · skip
        refine o_iconst (nI 0) dN_second_70 rfl ?_
        refine o_istore [(0, _), (1, _), (2, _), (3, _), (4, _)] dN_second_71 rfl rfl ?_
        refine o_iload dN_second_73 rfl ?_
        refine n_if_eq 86 dN_second_75 rfl (by omega) (fun _ => ?_) (fun h => absurd h (by decide))
        refine o_iload_n dN_second_86 rfl ?_
        refine o_istore_n [(0, _), (1, _), (2, _), (3, _), (4, _)] dN_second_87 rfl rfl ?_
        refine o_iinc (nI (j + 1)) [(0, _), (1, _), (2, _), (3, _), (4, _)] dN_second_88 rfl (nInc _) rfl rfl ?_
        refine o_goto 4 dN_second_91 rfl ?_
        refine o_lv [(0, _), (1, _), (2, _), (3, _)] [0, 1, 2, 3] rfl ?_
        rw [show secN h dp vr s j = secN h dp vr s (j + 1) by rw [secN, if_neg (by first | exact fun z => absurd (z.1.symm.trans hbf) (by decide) | exact fun z => z.2 hb63)]]
        exact l_second (hs1.v hV) hi hh1 (hset1) hs6 hin (j + 1) (by omega) hd1 (fun mu' a b c => k mu' a (fun t z hz => (b t z hz).trans (hn1 t z hz)) (hs1.tr c))
      · skip
        refine o_iconst (nI 1) dN_second_66 rfl ?_
        refine o_goto 71 dN_second_67 rfl ?_
        refine o_istore [(0, _), (1, _), (2, _), (3, _), (4, _)] dN_second_71 rfl rfl ?_
        refine o_iload dN_second_73 rfl ?_
        refine n_if_eq 86 dN_second_75 rfl (by omega) (fun h => absurd h (by decide)) (fun _ => ?_)
        refine o_iload_n dN_second_78 rfl ?_
        refine o_iconst (nI 1) dN_second_79 rfl ?_
        refine o_iload_n dN_second_80 rfl ?_
        refine o_ishl dN_second_81 ?_
        refine o_ior dN_second_82 ?_
        refine o_top (nI (secN h dp vr s j ||| 1 <<< j)) (b_or _ (secN_lt j hj) j hb7).1 ?_
        refine o_goto 87 dN_second_83 rfl ?_
        refine o_istore_n [(0, _), (1, _), (2, _), (3, _), (4, _)] dN_second_87 rfl rfl ?_
        refine o_iinc (nI (j + 1)) [(0, _), (1, _), (2, _), (3, _), (4, _)] dN_second_88 rfl (nInc _) rfl rfl ?_
        refine o_goto 4 dN_second_91 rfl ?_
        refine o_lv [(0, _), (1, _), (2, _), (3, _)] [0, 1, 2, 3] rfl ?_
        rw [show secN h dp vr s j ||| 1 <<< j = secN h dp vr s (j + 1) by rw [secN, if_pos ⟨hbt, hb63⟩]]
        exact l_second (hs1.v hV) hi hh1 (hset1) hs6 hin (j + 1) (by omega) hd1 (fun mu' a b c => k mu' a (fun t z hz => (b t z hz).trans (hn1 t z hz)) (hs1.tr c))
termination_by 6 - j
theorem r_second {G : oG} {mu : oMu} {Q : oPm} {m : Nat} {ky vr nd : Nat → Nat} {dp : Nat → Nat → Nat} (hV : vOk mu m ky vr nd dp) {i s : Nat} {h du : Nat → Nat} (hi : i < 6) (hh : yOk mu 37 i m h) (hset : mu 34 0 i = nI s) (hs6 : s < 64) (hin : ∀ z, z < 6 → ¬ h z = 0 → s.testBit z = true) {x : Nat → Nat} (hx : yOk mu 32 i m x) (hd : yOk mu 38 i m du) (k0 : secN h dp vr s 6 = 0 → ∀ mu' : oMu, yOk mu' 38 i m (fun q => dueN h dp vr q 6) → yOk mu' 32 i m (sF x h ky vr dp 6) → mu' 33 0 i = nI 3 → mu' 36 0 i = nI 0 → mu' 35 0 i = nI 1 → (∀ t, t = 34 ∨ t = 37 → mu' t 0 = mu t 0) → cseg i mu mu' → Q none mu') (k1 : ¬ secN h dp vr s 6 = 0 → ∀ mu' : oMu, yOk mu' 38 i m (fun q => dueN h dp vr q 6) → mu' 33 0 i = nI 2 → mu' 36 0 i = nI (secN h dp vr s 6) → mu' 35 0 i = nI 2 → (∀ t, t = 34 ∨ t = 37 ∨ t = 32 → mu' t 0 = mu t 0) → cseg i mu mu' → Q none mu') : Om G M_N_second 0 [(0, .inr (some (ad 20 0))), (1, .inl (nI i))] [] mu Q := by
  refine o_iconst (nI 0) dN_second_0 rfl ?_
  refine o_istore_n [(0, _), (1, _), (2, _)] dN_second_1 rfl rfl ?_
  refine o_iconst (nI 0) dN_second_2 rfl ?_
  refine o_istore_n [(0, _), (1, _), (2, _), (3, _)] dN_second_3 rfl rfl ?_
  refine l_second hV hi hh hset hs6 hin 0 (by omega) (by rw [dY_0]; exact hd) (fun mu1 hd1 hn1 hs1 => ?_)
  show Om G M_N_second 94 [(0, .inr (some (ad 20 0))), (1, .inl (nI i)), (2, .inl (nI (secN h dp vr s 6))), (3, .inl (nI 6))] [] mu1 Q
  refine o_aload_n dN_second_94 rfl ?_
  refine m_getr dN_second_95 fl_N_56 rfl rfl (by decide) ?_
  refine o_iload_n dN_second_98 rfl ?_
  refine o_iload_n dN_second_99 rfl ?_
  refine m_iast i dN_second_100 rfl rfl rfl (by decide) rfl hi (fun mu2 hmu2 => ?_)
  refine o_aload_n dN_second_101 rfl ?_
  refine m_getr dN_second_102 fl_N_47 rfl rfl (by decide) ?_
  refine o_iload_n dN_second_105 rfl ?_
  refine o_iconst (nI 2) dN_second_106 rfl ?_
  refine m_iast i dN_second_107 rfl rfl rfl (by decide) rfl hi (fun mu3 hmu3 => ?_)
  refine o_aload_n dN_second_108 rfl ?_
  refine m_getr dN_second_109 fl_N_53 rfl rfl (by decide) ?_
  refine o_iload_n dN_second_112 rfl ?_
  refine o_iload_n dN_second_113 rfl ?_
  have hsl := secN_lt (h := h) (vr := vr) (dp := dp) (s := s) 6 (Nat.le_refl _)
  have hs3 := (hs1.tr (cseg_1 hmu2 (by decide) (by decide))).tr (cseg_1 hmu3 (by decide) (by decide))
  have hW3 := hs3.v hV
  refine n_if_ne 121 dN_second_114 rfl (by omega) (fun hb114 => ?_) (fun hb114 => ?_)
  · skip
    refine o_iconst (nI 2) dN_second_121 rfl ?_
    refine m_iast i dN_second_122 rfl rfl rfl (by decide) rfl hi (fun mu4 hmu4 => ?_)
    have hs4 := hs3.tr (cseg_1 (i := i) hmu4 (by decide) (by decide))
    have g4 : ∀ t, ¬ t = 38 → ¬ t = 36 → ¬ t = 33 → ¬ t = 35 → mu4 t 0 = mu t 0 := fun t a b c d => by rw [hmu4, up2_t d, hmu3, up2_t c, hmu2, up2_t b, hn1 t 0 (fun z => a z.1)]
    have hd4 : yOk mu4 38 i m (fun q => dueN h dp vr q 6) := hd1.ne (by rw [hmu4, up2_t (by decide), hmu3, up2_t (by decide), hmu2, up2_t (by decide)])
    have h36 : mu4 36 0 i = nI (secN h dp vr s 6) := by rw [hmu4, up2_t (by decide), hmu3, up2_t (by decide), hmu2, up2_s]; simp [upd]
    refine o_iload_n dN_second_123 rfl ?_
    refine n_if_ne 132 dN_second_124 rfl (by omega) (fun hb124 => ?_) (fun hb124 => ?_)
    · skip
      refine m_vret dN_second_132 rfl ?_
      exact k1 hb124 mu4 hd4 (by rw [hmu4, up2_t (by decide), hmu3, up2_s]; simp [upd]) h36 (by first | exact absurd hb114 hb124 | (rw [hmu4, up2_s]; simp [upd])) (fun t ht => g4 t (by omega) (by omega) (by omega) (by omega)) hs4
    · skip
      refine o_aload_n dN_second_127 rfl ?_
      refine o_iload_n dN_second_128 rfl ?_
      refine m_callV M_N_finish [.inl (nI i)] [] dN_second_129 mk_N_finish in_N_finish se_N_finish rfl (by decide) rfl rfl ml_N_99 rfl rfl rfl (Nat.le_of_ble_eq_true rfl) rfl ?_
      refine r_finish (hs4.v hV) hi (hh.ne (g4 37 (by decide) (by decide) (by decide) (by decide))) (hx.ne (g4 32 (by decide) (by decide) (by decide) (by decide))) (fun mu5 hx5 hq5 h33 hf5 => ?_)
      show Om G M_N_second 132 [(0, .inr (some (ad 20 0))), (1, .inl (nI i)), (2, .inl (nI (secN h dp vr s 6))), (3, .inl (nI 6))] [] mu5 Q
      refine m_vret dN_second_132 rfl ?_
      have hs5 : cseg i mu4 mu5 := ⟨fun t z hz => hf5 t z (by simp; omega), fun t j a b c => by
        by_cases e : t = 33
        · subst e; rw [h33]; simp [upd, c]
        · rw [hf5 t 0 (by simp; omega)], fun t j a b => by
        rcases a with rfl | rfl | rfl
        · exact hq5 j b
        · rw [hf5 37 0 (by simp)]
        · rw [hf5 38 0 (by simp)]⟩
      exact k0 hb124 mu5 (hd4.ne (hf5 38 0 (by simp))) hx5 (by rw [h33]; simp [upd]) (by rw [hf5 36 0 (by simp), h36, hb124]) (by first | exact absurd hb124 hb114 | (rw [hf5 35 0 (by simp), hmu4, up2_s]; simp [upd])) (fun t ht => by rw [hf5 t 0 (by simp; omega)]; exact g4 t (by omega) (by omega) (by omega) (by omega)) (hs4.tr hs5)
  · skip
    refine o_iconst (nI 1) dN_second_117 rfl ?_
    refine o_goto 122 dN_second_118 rfl ?_
    refine m_iast i dN_second_122 rfl rfl rfl (by decide) rfl hi (fun mu4 hmu4 => ?_)
    have hs4 := hs3.tr (cseg_1 (i := i) hmu4 (by decide) (by decide))
    have g4 : ∀ t, ¬ t = 38 → ¬ t = 36 → ¬ t = 33 → ¬ t = 35 → mu4 t 0 = mu t 0 := fun t a b c d => by rw [hmu4, up2_t d, hmu3, up2_t c, hmu2, up2_t b, hn1 t 0 (fun z => a z.1)]
    have hd4 : yOk mu4 38 i m (fun q => dueN h dp vr q 6) := hd1.ne (by rw [hmu4, up2_t (by decide), hmu3, up2_t (by decide), hmu2, up2_t (by decide)])
    have h36 : mu4 36 0 i = nI (secN h dp vr s 6) := by rw [hmu4, up2_t (by decide), hmu3, up2_t (by decide), hmu2, up2_s]; simp [upd]
    refine o_iload_n dN_second_123 rfl ?_
    refine n_if_ne 132 dN_second_124 rfl (by omega) (fun hb124 => ?_) (fun hb124 => ?_)
    · skip
      refine m_vret dN_second_132 rfl ?_
      exact k1 hb124 mu4 hd4 (by rw [hmu4, up2_t (by decide), hmu3, up2_s]; simp [upd]) h36 (by first | exact absurd hb114 hb124 | (rw [hmu4, up2_s]; simp [upd])) (fun t ht => g4 t (by omega) (by omega) (by omega) (by omega)) hs4
    · skip
      refine o_aload_n dN_second_127 rfl ?_
      refine o_iload_n dN_second_128 rfl ?_
      refine m_callV M_N_finish [.inl (nI i)] [] dN_second_129 mk_N_finish in_N_finish se_N_finish rfl (by decide) rfl rfl ml_N_99 rfl rfl rfl (Nat.le_of_ble_eq_true rfl) rfl ?_
      refine r_finish (hs4.v hV) hi (hh.ne (g4 37 (by decide) (by decide) (by decide) (by decide))) (hx.ne (g4 32 (by decide) (by decide) (by decide) (by decide))) (fun mu5 hx5 hq5 h33 hf5 => ?_)
      show Om G M_N_second 132 [(0, .inr (some (ad 20 0))), (1, .inl (nI i)), (2, .inl (nI (secN h dp vr s 6))), (3, .inl (nI 6))] [] mu5 Q
      refine m_vret dN_second_132 rfl ?_
      have hs5 : cseg i mu4 mu5 := ⟨fun t z hz => hf5 t z (by simp; omega), fun t j a b c => by
        by_cases e : t = 33
        · subst e; rw [h33]; simp [upd, c]
        · rw [hf5 t 0 (by simp; omega)], fun t j a b => by
        rcases a with rfl | rfl | rfl
        · exact hq5 j b
        · rw [hf5 37 0 (by simp)]
        · rw [hf5 38 0 (by simp)]⟩
      exact k0 hb124 mu5 (hd4.ne (hf5 38 0 (by simp))) hx5 (by rw [h33]; simp [upd]) (by rw [hf5 36 0 (by simp), h36, hb124]) (by first | exact absurd hb124 hb114 | (rw [hf5 35 0 (by simp), hmu4, up2_s]; simp [upd])) (fun t ht => by rw [hf5 t 0 (by simp; omega)]; exact g4 t (by omega) (by omega) (by omega) (by omega)) (hs4.tr hs5)
