/-! The reference's inner methods, on. -/
theorem tOk.z {mu : oMu} {c w : Nat} {sn : Nat → Nat} (h : tOk mu c sn) (hw : w < 40) : mu 26 0 (40 * c + w) = nI (sn w) := (h w hw).1
theorem l_missing {G : oG} {mu : oMu} {Q : oPm} {m : Nat} {ky vr nd : Nat → Nat} {dp : Nat → Nat → Nat} (hV : vOk mu m ky vr nd dp) {c w : Nat} {sn : Nat → Nat} (hc : c < 3) (hw : w < m) (hs : tOk mu c sn) (hnd : ∀ k, k < 6 → (nd w).testBit k = true → ¬ dp w k = 0) (j : Nat) (hj : j ≤ 6) (k : Q (some (.inl (nI (misN (nd w) (dp w) sn 6)))) mu) : Om G M_N_missing 5 [(0, .inr (some (ad 20 0))), (1, .inl (nI c)), (2, .inl (nI w)), (3, .inl (nI (misN (nd w) (dp w) sn j))), (4, .inl (nI j))] [] mu Q := by
  have hm4 := hV.m4
  refine o_iload dN_missing_5 rfl ?_
  refine o_bipush (nI 6) dN_missing_7 rfl ?_
  refine n_icmp_ge 80 dN_missing_9 rfl (by omega) (by omega) (fun hb9 => ?_) (fun hb9 => ?_)
  · skip
    have hj6 : j = 6 := by omega
    refine o_iload_n dN_missing_80 rfl ?_
    refine m_iret dN_missing_81 rfl ?_
    subst hj6
    exact k
  · skip
    refine o_aload_n dN_missing_12 rfl ?_
    refine m_getr dN_missing_13 fl_N_22 rfl rfl (by decide) ?_
    refine o_iload_n dN_missing_16 rfl ?_
    refine m_iald w dN_missing_17 rfl rfl rfl (by decide) rfl (by omega) ?_
    refine o_top (nI (nd w)) (hV.need hw) ?_
    refine o_iload dN_missing_18 rfl ?_
    refine o_ishr dN_missing_20 ?_
    refine o_iconst (nI 1) dN_missing_21 rfl ?_
    refine o_iand dN_missing_22 ?_
    refine o_iconst (nI 1) dN_missing_23 rfl ?_
    refine o_icmp_ne 31 dN_missing_24 rfl (fun hb24 => ?_) (fun hb24 => ?_)
    · skip
      have hbf : (nd w).testBit j = false := by
        cases hz : (nd w).testBit j with
        | false => rfl
        | true => exact absurd ((b1_iff _ (hV.needB hw) j hb9).mpr hz) hb24
      refine o_iconst (nI 0) dN_missing_31 rfl ?_
      refine o_istore [(0, _), (1, _), (2, _), (3, _), (4, _), (5, _)] dN_missing_32 rfl rfl ?_
      refine o_iload dN_missing_34 rfl ?_
      refine n_if_eq 72 dN_missing_36 rfl (by omega) (fun _ => ?_) (fun h => absurd h (by decide))
      refine o_iload_n dN_missing_72 rfl ?_
      refine o_istore_n [(0, _), (1, _), (2, _), (3, _), (4, _), (5, _)] dN_missing_73 rfl rfl ?_
      refine o_iinc (nI (j + 1)) [(0, _), (1, _), (2, _), (3, _), (4, _), (5, _)] dN_missing_74 rfl (nInc _) rfl rfl ?_
      refine o_goto 5 dN_missing_77 rfl ?_
      refine o_lv [(0, _), (1, _), (2, _), (3, _), (4, _)] [0, 1, 2, 3, 4] rfl ?_
      rw [show misN (nd w) (dp w) sn j = misN (nd w) (dp w) sn (j + 1) by rw [misN, if_neg (by first | (simp [misB, hbf]; done) | (simp [misB, hbt, hz, hb63]))]]
      exact l_missing hV hc hw hs hnd (j + 1) (by omega) k
    · skip
      have hbt := (b1_iff _ (hV.needB hw) j hb9).mp hb24
      have hz := hnd j hb9 hbt
      have hdb := hV.depB hw hb9
      obtain ⟨u, hu⟩ : ∃ u, dp w j = u + 1 := ⟨dp w j - 1, by omega⟩
      refine o_iconst (nI 1) dN_missing_27 rfl ?_
      refine o_goto 32 dN_missing_28 rfl ?_
      refine o_istore [(0, _), (1, _), (2, _), (3, _), (4, _), (5, _)] dN_missing_32 rfl rfl ?_
      refine o_iload dN_missing_34 rfl ?_
      refine n_if_eq 72 dN_missing_36 rfl (by omega) (fun h => absurd h (by decide)) (fun _ => ?_)
      refine o_aload_n dN_missing_39 rfl ?_
      refine m_getr dN_missing_40 fl_N_25 rfl rfl (by decide) ?_
      refine o_bipush (nI 40) dN_missing_43 rfl ?_
      refine o_iload_n dN_missing_45 rfl ?_
      refine o_imul dN_missing_46 ?_
      refine o_top _ (pk_mul _ _) ?_
      refine o_aload_n dN_missing_47 rfl ?_
      refine m_getr dN_missing_48 fl_N_19 rfl rfl (by decide) ?_
      refine o_bipush (nI 6) dN_missing_51 rfl ?_
      refine o_iload_n dN_missing_53 rfl ?_
      refine o_imul dN_missing_54 ?_
      refine o_top _ (pk_mul _ _) ?_
      refine o_iload dN_missing_55 rfl ?_
      refine o_iadd dN_missing_57 ?_
      refine o_top _ (nI_add _ _) ?_
      refine m_iald (6 * w + j) dN_missing_58 rfl rfl rfl (by decide) rfl (by omega) ?_
      refine o_top (nI (u + 1)) ((hV.dep hw hb9).trans (by rw [hu])) ?_
      refine o_iadd dN_missing_59 ?_
      refine o_top _ (nI_add _ _) ?_
      refine o_iconst (nI 1) dN_missing_60 rfl ?_
      refine o_isub dN_missing_61 ?_
      refine o_top (nI (40 * c + u)) (pk_sub (show 1 ≤ 40 * c + (u + 1) by omega)) ?_
      refine m_zald (40 * c + u) dN_missing_62 rfl rfl rfl (by decide) rfl (by omega) ?_
      refine o_top (nI (sn u)) (hs.z (by omega)) ?_
      have hsn := hs u (by omega)
      refine n_if_ne 72 dN_missing_63 rfl (by omega) (fun hb63 => ?_) (fun hb63 => ?_)
      · skip
        have hb63 : ¬ sn (dp w j - 1) = 0 := by rw [hu]; exact hb63
        refine o_iload_n dN_missing_72 rfl ?_
        refine o_istore_n [(0, _), (1, _), (2, _), (3, _), (4, _), (5, _)] dN_missing_73 rfl rfl ?_
        refine o_iinc (nI (j + 1)) [(0, _), (1, _), (2, _), (3, _), (4, _), (5, _)] dN_missing_74 rfl (nInc _) rfl rfl ?_
        refine o_goto 5 dN_missing_77 rfl ?_
        refine o_lv [(0, _), (1, _), (2, _), (3, _), (4, _)] [0, 1, 2, 3, 4] rfl ?_
        rw [show misN (nd w) (dp w) sn j = misN (nd w) (dp w) sn (j + 1) by rw [misN, if_neg (by first | (simp [misB, hbf]; done) | (simp [misB, hbt, hz, hb63]))]]
        exact l_missing hV hc hw hs hnd (j + 1) (by omega) k
      · skip
        have hb63 : sn (dp w j - 1) = 0 := by rw [hu]; exact hb63
        refine o_iload_n dN_missing_66 rfl ?_
        refine o_iconst (nI 1) dN_missing_67 rfl ?_
        refine o_iadd dN_missing_68 ?_
        refine o_top _ (nI_add _ _) ?_
        refine o_goto 73 dN_missing_69 rfl ?_
        refine o_istore_n [(0, _), (1, _), (2, _), (3, _), (4, _), (5, _)] dN_missing_73 rfl rfl ?_
        refine o_iinc (nI (j + 1)) [(0, _), (1, _), (2, _), (3, _), (4, _), (5, _)] dN_missing_74 rfl (nInc _) rfl rfl ?_
        refine o_goto 5 dN_missing_77 rfl ?_
        refine o_lv [(0, _), (1, _), (2, _), (3, _), (4, _)] [0, 1, 2, 3, 4] rfl ?_
        rw [show misN (nd w) (dp w) sn j + 1 = misN (nd w) (dp w) sn (j + 1) by rw [misN, if_pos (by simp [misB, hbt, hz, hb63])]]
        exact l_missing hV hc hw hs hnd (j + 1) (by omega) k
termination_by 6 - j
theorem r_missing {G : oG} {mu : oMu} {Q : oPm} {m : Nat} {ky vr nd : Nat → Nat} {dp : Nat → Nat → Nat} (hV : vOk mu m ky vr nd dp) {c w : Nat} {sn : Nat → Nat} (hc : c < 3) (hw : w < m) (hs : tOk mu c sn) (hnd : ∀ k, k < 6 → (nd w).testBit k = true → ¬ dp w k = 0) (k : Q (some (.inl (nI (misN (nd w) (dp w) sn 6)))) mu) : Om G M_N_missing 0 [(0, .inr (some (ad 20 0))), (1, .inl (nI c)), (2, .inl (nI w))] [] mu Q := by
  refine o_iconst (nI 0) dN_missing_0 rfl ?_
  refine o_istore_n [(0, _), (1, _), (2, _), (3, _)] dN_missing_1 rfl rfl ?_
  refine o_iconst (nI 0) dN_missing_2 rfl ?_
  refine o_istore [(0, _), (1, _), (2, _), (3, _), (4, _)] dN_missing_3 rfl rfl ?_
  exact l_missing hV hc hw hs hnd 0 (by omega) k
theorem l_due {G : oG} {mu : oMu} {Q : oPm} {m : Nat} {ky vr nd : Nat → Nat} {dp : Nat → Nat → Nat} (hV : vOk mu m ky vr nd dp) {i q s : Nat} {h : Nat → Nat} (hi : i < 6) (hq : q < 6) (hh : yOk mu 37 i m h) (hset : mu 34 0 i = nI s) (hs6 : s < 64) (hin : ∀ z, z < 6 → ¬ h z = 0 → s.testBit z = true) (j : Nat) (hj : j ≤ 6) (k : Q (some (.inl (nI (dueN h dp vr q 6)))) mu) : Om G M_N_due 15 [(0, .inr (some (ad 20 0))), (1, .inl (nI i)), (2, .inl (nI q)), (3, .inl (nI (dueN h dp vr q j))), (4, .inl (nI j))] [] mu Q := by
  have hm4 := hV.m4
  refine o_iload dN_due_15 rfl ?_
  refine o_bipush (nI 6) dN_due_17 rfl ?_
  refine n_icmp_ge 90 dN_due_19 rfl (by omega) (by omega) (fun hb19 => ?_) (fun hb19 => ?_)
  · skip
    have hj6 : j = 6 := by omega
    refine o_iload_n dN_due_90 rfl ?_
    refine m_iret dN_due_91 rfl ?_
    subst hj6
    exact k
  · skip
    have hh1 := hh j hb19
    refine o_aload_n dN_due_22 rfl ?_
    refine m_getr dN_due_23 fl_N_50 rfl rfl (by decide) ?_
    refine o_iload_n dN_due_26 rfl ?_
    refine m_iald i dN_due_27 rfl rfl rfl (by decide) rfl (by omega) ?_
    refine o_top (nI s) hset ?_
    refine o_iload dN_due_28 rfl ?_
    refine o_ishr dN_due_30 ?_
    refine o_iconst (nI 1) dN_due_31 rfl ?_
    refine o_iand dN_due_32 ?_
    refine o_iconst (nI 1) dN_due_33 rfl ?_
    refine o_icmp_ne 52 dN_due_34 rfl (fun hb34 => ?_) (fun hb34 => ?_)
    · skip
      have hz0 : h j = 0 := by
        rcases Nat.eq_zero_or_pos (h j) with z | z
        · exact z
        · exact absurd ((b1_iff _ hs6 j hb19).mpr (hin j hb19 (by omega))) hb34
      refine o_iconst (nI 0) dN_due_52 rfl ?_
      refine o_istore [(0, _), (1, _), (2, _), (3, _), (4, _), (5, _)] dN_due_53 rfl rfl ?_
      refine o_iload dN_due_55 rfl ?_
      refine n_if_le 82 dN_due_57 rfl (by omega) (fun _ => ?_) (fun h => absurd h (by decide))
      refine o_iload_n dN_due_82 rfl ?_
      refine o_istore_n [(0, _), (1, _), (2, _), (3, _), (4, _), (5, _)] dN_due_83 rfl rfl ?_
      refine o_iinc (nI (j + 1)) [(0, _), (1, _), (2, _), (3, _), (4, _), (5, _)] dN_due_84 rfl (nInc _) rfl rfl ?_
      refine o_goto 15 dN_due_87 rfl ?_
      refine o_lv [(0, _), (1, _), (2, _), (3, _), (4, _)] [0, 1, 2, 3, 4] rfl ?_
      rw [show dueN h dp vr q j = dueN h dp vr q (j + 1) by rw [dueN, if_pos (by first | omega | exact hz0)]]
      exact l_due hV hi hq hh hset hs6 hin (j + 1) (by omega) k
    · skip
      refine o_aload_n dN_due_37 rfl ?_
      refine m_getr dN_due_38 fl_N_59 rfl rfl (by decide) ?_
      refine o_bipush (nI 6) dN_due_41 rfl ?_
      refine o_iload_n dN_due_43 rfl ?_
      refine o_imul dN_due_44 ?_
      refine o_top _ (pk_mul _ _) ?_
      refine o_iload dN_due_45 rfl ?_
      refine o_iadd dN_due_47 ?_
      refine o_top _ (nI_add _ _) ?_
      refine m_iald (6 * i + j) dN_due_48 rfl rfl rfl (by decide) rfl (by omega) ?_
      refine o_top (nI (h j)) hh1.1 ?_
      refine o_goto 53 dN_due_49 rfl ?_
      refine o_istore [(0, _), (1, _), (2, _), (3, _), (4, _), (5, _)] dN_due_53 rfl rfl ?_
      refine o_iload dN_due_55 rfl ?_
      refine n_if_le 82 dN_due_57 rfl (by omega) (fun hb57 => ?_) (fun hb57 => ?_)
      · skip
        refine o_iload_n dN_due_82 rfl ?_
        refine o_istore_n [(0, _), (1, _), (2, _), (3, _), (4, _), (5, _)] dN_due_83 rfl rfl ?_
        refine o_iinc (nI (j + 1)) [(0, _), (1, _), (2, _), (3, _), (4, _), (5, _)] dN_due_84 rfl (nInc _) rfl rfl ?_
        refine o_goto 15 dN_due_87 rfl ?_
        refine o_lv [(0, _), (1, _), (2, _), (3, _), (4, _)] [0, 1, 2, 3, 4] rfl ?_
        rw [show dueN h dp vr q j = dueN h dp vr q (j + 1) by rw [dueN, if_pos (by first | omega | exact hz0)]]
        exact l_due hV hi hq hh hset hs6 hin (j + 1) (by omega) k
      · skip
        obtain ⟨w, hw⟩ : ∃ w, h j = w + 1 := ⟨h j - 1, by omega⟩
        have hww : w < m := by omega
        rw [hw]
        refine o_aload_n dN_due_60 rfl ?_
        refine o_iload_n dN_due_61 rfl ?_
        refine o_aload_n dN_due_62 rfl ?_
        refine m_getr dN_due_63 fl_N_19 rfl rfl (by decide) ?_
        refine o_bipush (nI 6) dN_due_66 rfl ?_
        refine o_iload dN_due_68 rfl ?_
        refine o_iconst (nI 1) dN_due_70 rfl ?_
        refine o_isub dN_due_71 ?_
        refine o_top (nI w) (pk_sub (show 1 ≤ w + 1 by omega)) ?_
        refine o_imul dN_due_72 ?_
        refine o_top _ (pk_mul _ _) ?_
        refine o_iload_n dN_due_73 rfl ?_
        refine o_iadd dN_due_74 ?_
        refine o_top _ (nI_add _ _) ?_
        refine m_iald (6 * w + q) dN_due_75 rfl rfl rfl (by decide) rfl (by omega) ?_
        refine o_top (nI (dp w q)) (hV.dep hww hq) ?_
        refine m_callV M_N_greater [.inl (nI (dueN h dp vr q j)), .inl (nI (dp w q))] [] dN_due_76 mk_N_greater in_N_greater se_N_greater rfl (by decide) rfl rfl ml_N_69 rfl rfl rfl (Nat.le_of_ble_eq_true rfl) rfl ?_
        refine r_greater (a := dueN h dp vr q j) (c := dp w q) hV.m4 hV.ver hV.verK (dueN_le hq (fun z hz => (hh z hz).2) (fun u hu => hV.depB hu hq) j hj) (hV.depB hww hq) ?_
        show Om G M_N_due 79 [(0, .inr (some (ad 20 0))), (1, .inl (nI i)), (2, .inl (nI q)), (3, .inl (nI (dueN h dp vr q j))), (4, .inl (nI j)), (5, .inl (nI (w + 1)))] [.inl (nI (gr vr (dueN h dp vr q j) (dp w q)))] mu Q
        refine o_goto 83 dN_due_79 rfl ?_
        refine o_istore_n [(0, _), (1, _), (2, _), (3, _), (4, _), (5, _)] dN_due_83 rfl rfl ?_
        refine o_iinc (nI (j + 1)) [(0, _), (1, _), (2, _), (3, _), (4, _), (5, _)] dN_due_84 rfl (nInc _) rfl rfl ?_
        refine o_goto 15 dN_due_87 rfl ?_
        refine o_lv [(0, _), (1, _), (2, _), (3, _), (4, _)] [0, 1, 2, 3, 4] rfl ?_
        rw [show gr vr (dueN h dp vr q j) (dp w q) = dueN h dp vr q (j + 1) by rw [dueN, if_neg (by omega), hw]; rfl]
        exact l_due hV hi hq hh hset hs6 hin (j + 1) (by omega) k
termination_by 6 - j
theorem r_due {G : oG} {mu : oMu} {Q : oPm} {m : Nat} {ky vr nd : Nat → Nat} {dp : Nat → Nat → Nat} (hV : vOk mu m ky vr nd dp) {i q s : Nat} {h : Nat → Nat} (hi : i < 6) (hq : q < 6) (hh : yOk mu 37 i m h) (hset : mu 34 0 i = nI s) (hs6 : s < 64) (hin : ∀ z, z < 6 → ¬ h z = 0 → s.testBit z = true) (k : Q (some (.inl (nI (dueN h dp vr q 6)))) mu) : Om G M_N_due 0 [(0, .inr (some (ad 20 0))), (1, .inl (nI i)), (2, .inl (nI q))] [] mu Q := by
  refine o_aload_n dN_due_0 rfl ?_
  refine m_getr dN_due_1 fl_N_59 rfl rfl (by decide) ?_
  refine o_bipush (nI 6) dN_due_4 rfl ?_
  refine o_iload_n dN_due_6 rfl ?_
  refine o_imul dN_due_7 ?_
  refine o_top _ (pk_mul _ _) ?_
  refine o_iload_n dN_due_8 rfl ?_
  refine o_iadd dN_due_9 ?_
  refine o_top _ (nI_add _ _) ?_
  refine m_iald (6 * i + q) dN_due_10 rfl rfl rfl (by decide) rfl (by omega) ?_
  refine o_top (nI (h q)) (hh q hq).1 ?_
  refine o_istore_n [(0, _), (1, _), (2, _), (3, _)] dN_due_11 rfl rfl ?_
  refine o_iconst (nI 0) dN_due_12 rfl ?_
  refine o_istore [(0, _), (1, _), (2, _), (3, _), (4, _)] dN_due_13 rfl rfl ?_
  exact l_due hV hi hq hh hset hs6 hin 0 (by omega) k
theorem l_finish {G : oG} {mu : oMu} {Q : oPm} {m : Nat} {ky vr nd : Nat → Nat} {dp : Nat → Nat → Nat} (hV : vOk mu m ky vr nd dp) {i : Nat} {x h : Nat → Nat} (hi : i < 6) (hh : yOk mu 37 i m h) (j : Nat) (hj : j ≤ 6) (hx : yOk mu 32 i m (sF x h ky vr dp j)) (k : ∀ mu' : oMu, yOk mu' 32 i m (sF x h ky vr dp 6) → mfs 32 (6 * i) 6 mu mu' → Q none mu') : Om G M_N_finish 9 [(0, .inr (some (ad 20 0))), (1, .inl (nI i)), (2, .inl (nI j))] [] mu Q := by
  have hm4 := hV.m4
  refine o_iload_n dN_finish_9 rfl ?_
  refine o_bipush (nI 6) dN_finish_10 rfl ?_
  refine n_icmp_ge 53 dN_finish_12 rfl (by omega) (by omega) (fun hb12 => ?_) (fun hb12 => ?_)
  · skip
    have hj6 : j = 6 := by omega
    refine m_vret dN_finish_53 rfl ?_
    subst hj6
    exact k mu hx mfs_rf
  · skip
    have hh1 := hh j hb12
    refine o_aload_n dN_finish_15 rfl ?_
    refine m_getr dN_finish_16 fl_N_59 rfl rfl (by decide) ?_
    refine o_bipush (nI 6) dN_finish_19 rfl ?_
    refine o_iload_n dN_finish_21 rfl ?_
    refine o_imul dN_finish_22 ?_
    refine o_top _ (pk_mul _ _) ?_
    refine o_iload_n dN_finish_23 rfl ?_
    refine o_iadd dN_finish_24 ?_
    refine o_top _ (nI_add _ _) ?_
    refine m_iald (6 * i + j) dN_finish_25 rfl rfl rfl (by decide) rfl (by omega) ?_
    refine o_top (nI (h j)) hh1.1 ?_
    refine n_if_le 47 dN_finish_26 rfl (by omega) (fun hb26 => ?_) (fun hb26 => ?_)
    · skip
      refine o_iinc (nI (j + 1)) [(0, _), (1, _), (2, _)] dN_finish_47 rfl (nInc _) rfl rfl ?_
      refine o_goto 9 dN_finish_50 rfl ?_
      exact l_finish hV hi hh (j + 1) (by omega) (by rw [sF, if_pos (by omega)]; exact hx) k
    · skip
      obtain ⟨w, hw⟩ : ∃ w, h j = w + 1 := ⟨h j - 1, by omega⟩
      have hww : w < m := by omega
      refine o_aload_n dN_finish_29 rfl ?_
      refine o_iload_n dN_finish_30 rfl ?_
      refine o_aload_n dN_finish_31 rfl ?_
      refine m_getr dN_finish_32 fl_N_59 rfl rfl (by decide) ?_
      refine o_bipush (nI 6) dN_finish_35 rfl ?_
      refine o_iload_n dN_finish_37 rfl ?_
      refine o_imul dN_finish_38 ?_
      refine o_top _ (pk_mul _ _) ?_
      refine o_iload_n dN_finish_39 rfl ?_
      refine o_iadd dN_finish_40 ?_
      refine o_top _ (nI_add _ _) ?_
      refine m_iald (6 * i + j) dN_finish_41 rfl rfl rfl (by decide) rfl (by omega) ?_
      refine o_top (nI (w + 1)) (hh1.1.trans (by rw [hw])) ?_
      refine o_iconst (nI 1) dN_finish_42 rfl ?_
      refine o_isub dN_finish_43 ?_
      refine o_top (nI w) (pk_sub (show 1 ≤ w + 1 by omega)) ?_
      refine m_callV M_N_see [.inl (nI i), .inl (nI w)] [] dN_finish_44 mk_N_see in_N_see se_N_see rfl (by decide) rfl rfl ml_N_89 rfl rfl rfl (Nat.le_of_ble_eq_true rfl) rfl ?_
      refine r_see hV hi hww hx (fun mu1 hx1 hf1 => ?_)
      show Om G M_N_finish 47 [(0, .inr (some (ad 20 0))), (1, .inl (nI i)), (2, .inl (nI j))] [] mu1 Q
      refine o_iinc (nI (j + 1)) [(0, _), (1, _), (2, _)] dN_finish_47 rfl (nInc _) rfl rfl ?_
      refine o_goto 9 dN_finish_50 rfl ?_
      exact l_finish (hV.fs hf1 (by decide)) hi (hh.fs hf1 (by decide)) (j + 1) (by omega) (by rw [sF, if_neg (by omega), hw]; exact hx1) (fun mu' a b => k mu' a (hf1.tr b))
termination_by 6 - j
theorem r_finish {G : oG} {mu : oMu} {Q : oPm} {m : Nat} {ky vr nd : Nat → Nat} {dp : Nat → Nat → Nat} (hV : vOk mu m ky vr nd dp) {i : Nat} {x h : Nat → Nat} (hi : i < 6) (hh : yOk mu 37 i m h) (hx : yOk mu 32 i m x) (k : ∀ mu' : oMu, yOk mu' 32 i m (sF x h ky vr dp 6) → (∀ j, ¬ (6 * i ≤ j ∧ j < 6 * i + 6) → mu' 32 0 j = mu 32 0 j) → mu' 33 0 = upd (mu 33 0) i (nI 3) → mfr [(32, 0), (33, 0)] mu mu' → Q none mu') : Om G M_N_finish 0 [(0, .inr (some (ad 20 0))), (1, .inl (nI i))] [] mu Q := by
  refine o_aload_n dN_finish_0 rfl ?_
  refine m_getr dN_finish_1 fl_N_47 rfl rfl (by decide) ?_
  refine o_iload_n dN_finish_4 rfl ?_
  refine o_iconst (nI 3) dN_finish_5 rfl ?_
  refine m_iast i dN_finish_6 rfl rfl rfl (by decide) rfl (by omega) (fun mu1 hmu1 => ?_)
  refine o_iconst (nI 0) dN_finish_7 rfl ?_
  refine o_istore_n [(0, _), (1, _), (2, _)] dN_finish_8 rfl rfl ?_
  have hf0 := mfr_up (L := [(33, 0)]) hmu1 (by simp)
  have hV1 : vOk mu1 m ky vr nd dp := hV.mv (hf0 _ _ (by simp)) (hf0 _ _ (by simp)) (hf0 _ _ (by simp)) (hf0 _ _ (by simp)) (hf0 _ _ (by simp))
  have hx1 : yOk mu1 32 i m x := fun q hq => by rw [hf0 32 0 (by simp)]; exact hx q hq
  have hh1 : yOk mu1 37 i m h := fun q hq => by rw [hf0 37 0 (by simp)]; exact hh q hq
  refine l_finish hV1 hi hh1 0 (by omega) hx1 (fun mu2 h1 h2 => ?_)
  refine k mu2 h1 (fun j hj => (h2.2 j hj).trans (by rw [hf0 32 0 (by simp)])) (by rw [h2.1 33 0 (by omega), hmu1, up2_s]) (fun t z hz => ?_)
  rw [h2.1 t z (fun y => hz (by simp [y.1, y.2])), hf0 t z (fun y => hz (by simp at y; simp [y.1, y.2]))]
