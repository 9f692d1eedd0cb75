/-! The reference's serve. -/
def ssg (c a : Nat) (mu mu' : oMu) : Prop := (∀ t z, ¬ ((t = 26 ∨ t = 29) ∧ z = 0) → mu' t z = mu t z) ∧ (∀ y, ¬ (40 * c ≤ y ∧ y < 40 * c + 40) → mu' 26 0 y = mu 26 0 y) ∧ ∀ y, ¬ (40 * a ≤ y ∧ y < 40 * a + 40) → mu' 29 0 y = mu 29 0 y
theorem ssg.tr {c a : Nat} {x y z : oMu} (h1 : ssg c a x y) (h2 : ssg c a y z) : ssg c a x z := ⟨fun t u h => (h2.1 t u h).trans (h1.1 t u h), fun u h => (h2.2.1 u h).trans (h1.2.1 u h), fun u h => (h2.2.2 u h).trans (h1.2.2 u h)⟩
theorem ssg_rf {c a : Nat} {x : oMu} : ssg c a x x := ⟨fun _ _ _ => rfl, fun _ _ => rfl, fun _ _ => rfl⟩
theorem ssg_26 {c a y : Nat} {v : Int32} {mu mu' : oMu} (h : mu' = up2 mu 26 0 (upd (mu 26 0) (40 * c + y) v)) (hy : y < 40) : ssg c a mu mu' := by
  subst h
  refine ⟨fun t z hz => if_neg (fun q => hz (by omega)), fun u hu => ?_, fun u hu => by rw [up2_t (by decide)]⟩
  have e : ¬ u = 40 * c + y := by omega
  rw [up2_s]
  simp [upd, e]
theorem ssg_29 {c a y : Nat} {v : Int32} {mu mu' : oMu} (h : mu' = up2 mu 29 0 (upd (mu 29 0) (40 * a + y) v)) (hy : y < 40) : ssg c a mu mu' := by
  subst h
  refine ⟨fun t z hz => if_neg (fun q => hz (by omega)), fun u hu => by rw [up2_t (by decide)], fun u hu => ?_⟩
  have e : ¬ u = 40 * a + y := by omega
  rw [up2_s]
  simp [upd, e]
theorem ssg.v {c a : Nat} {mu mu' : oMu} {m : Nat} {ky vr nd : Nat → Nat} {dp : Nat → Nat → Nat} (h : ssg c a mu mu') (hV : vOk mu m ky vr nd dp) : vOk mu' m ky vr nd dp := hV.mv (h.1 20 0 (by decide)) (h.1 21 0 (by decide)) (h.1 23 0 (by decide)) (h.1 24 0 (by decide)) (h.1 25 0 (by decide))
theorem R_serve_b1 {G : oG} {mu : oMu} {Q : oPm} {a b : Int32} (ha : ∀ j, j < 3 → ¬ a = nI j) (k : Q (some (.inl (-1))) mu) : Om G M_N_serve 0 [(0, .inr (some (ad 20 0))), (1, .inl a), (2, .inl b)] [] mu Q := by
  refine o_iload_n dN_serve_0 rfl ?_
  refine o_iconst (nI 3) dN_serve_1 rfl ?_
  refine m_callS M_N_out [.inl a, .inl (nI 3)] [] dN_serve_2 mk_N_out st_N_out ml_N_73 rfl rfl rfl (Nat.le_of_ble_eq_true rfl) rfl ?_
  refine r_out_n (by decide) ha ?_
  show Om G M_N_serve 5 [(0, .inr (some (ad 20 0))), (1, .inl a), (2, .inl b)] [.inl (nI 1)] mu Q
  refine n_if_ne 16 dN_serve_5 rfl (by omega) (fun _ => ?_) (fun h => absurd h (by decide))
  refine o_iconst (-1) dN_serve_16 rfl ?_
  refine m_iret dN_serve_17 rfl ?_
  exact k
theorem R_serve_b2 {G : oG} {mu : oMu} {Q : oPm} {i : Nat} {b : Int32} (hi : i < 3) (hb : ∀ j, j < 2 → ¬ b = nI j) (k : Q (some (.inl (-1))) mu) : Om G M_N_serve 0 [(0, .inr (some (ad 20 0))), (1, .inl (nI i)), (2, .inl b)] [] mu Q := by
  refine o_iload_n dN_serve_0 rfl ?_
  refine o_iconst (nI 3) dN_serve_1 rfl ?_
  refine m_callS M_N_out [.inl (nI i), .inl (nI 3)] [] dN_serve_2 mk_N_out st_N_out ml_N_73 rfl rfl rfl (Nat.le_of_ble_eq_true rfl) rfl ?_
  refine r_out_y (by decide) hi ?_
  show Om G M_N_serve 5 [(0, .inr (some (ad 20 0))), (1, .inl (nI i)), (2, .inl b)] [.inl (nI 0)] mu Q
  refine n_if_ne 16 dN_serve_5 rfl (by omega) (fun h => absurd h (by decide)) (fun _ => ?_)
  refine o_iload_n dN_serve_8 rfl ?_
  refine o_iconst (nI 2) dN_serve_9 rfl ?_
  refine m_callS M_N_out [.inl b, .inl (nI 2)] [] dN_serve_10 mk_N_out st_N_out ml_N_73 rfl rfl rfl (Nat.le_of_ble_eq_true rfl) rfl ?_
  refine r_out_n (by decide) hb ?_
  show Om G M_N_serve 13 [(0, .inr (some (ad 20 0))), (1, .inl (nI i)), (2, .inl b)] [.inl (nI 1)] mu Q
  refine n_if_eq 18 dN_serve_13 rfl (by omega) (fun h => absurd h (by decide)) (fun _ => ?_)
  refine o_iconst (-1) dN_serve_16 rfl ?_
  refine m_iret dN_serve_17 rfl ?_
  exact k
theorem l_rserve {G : oG} {mu : oMu} {Q : oPm} {m : Nat} {ky vr nd : Nat → Nat} {dp : Nat → Nat → Nat} {L : List Nat} {sn0 : Nat → Nat} {i q : Nat} (hV : vOk mu m ky vr nd dp) (hi : i < 3) (hq : q < 2) (hnd : ∀ w, w < m → ∀ k, k < 6 → (nd w).testBit k = true → ¬ dp w k = 0) (hL : ∀ e ∈ L, e < m) (hL4 : L.length ≤ 40) (j : Nat) (hj : j ≤ L.length) (hr1 : ∀ y, y < (svs nd dp L sn0 j).2.length → mu 29 0 (40 * (2 * i + q) + y) = nI ((svs nd dp L sn0 j).2.getD y 0)) (hr2 : ∀ y, j ≤ y → y < L.length → mu 29 0 (40 * (2 * i + q) + y) = nI (L.getD y 0)) (hs : tOk mu i (svs nd dp L sn0 j).1) (k : ∀ mu' : oMu, lineOk mu' 28 29 (2 * i + q) (svs nd dp L sn0 L.length).2 → tOk mu' i (svs nd dp L sn0 L.length).1 → (∀ t z, ¬ ((t = 26 ∨ t = 29) ∧ z = 0) → ¬ (t = 28 ∧ z = 0) → mu' t z = mu t z) → (((∀ y, ¬ (40 * i ≤ y ∧ y < 40 * i + 40) → mu' 26 0 y = mu 26 0 y) ∧ ∀ y, ¬ (40 * (2 * i + q) ≤ y ∧ y < 40 * (2 * i + q) + 40) → mu' 29 0 y = mu 29 0 y) ∧ ∀ y, ¬ y = 2 * i + q → mu' 28 0 y = mu 28 0 y) → Q (some (.inl (nI (L.length - (svs nd dp L sn0 L.length).2.length)))) mu') : Om G M_N_serve 38 [(0, .inr (some (ad 20 0))), (1, .inl (nI i)), (2, .inl (nI q)), (3, .inl (nI (2 * i + q))), (4, .inl (nI ((svs nd dp L sn0 j).2.length))), (5, .inl (nI L.length)), (6, .inl (nI j))] [] mu Q := by
  have hm4 := hV.m4
  refine o_iload dN_serve_38 rfl ?_
  refine o_iload dN_serve_40 rfl ?_
  refine n_icmp_ge 108 dN_serve_42 rfl (by omega) (by omega) (fun hb42 => ?_) (fun hb42 => ?_)
  · skip
    have hj6 : j = L.length := by omega
    refine o_aload_n dN_serve_108 rfl ?_
    refine m_getr dN_serve_109 fl_N_32 rfl rfl (by decide) ?_
    refine o_iload_n dN_serve_112 rfl ?_
    refine o_iload dN_serve_113 rfl ?_
    refine m_iast (2 * i + q) dN_serve_115 rfl rfl rfl (by decide) rfl (by omega) (fun mu1 hmu1 => ?_)
    refine o_iload dN_serve_116 rfl ?_
    refine o_iload dN_serve_118 rfl ?_
    refine o_isub dN_serve_120 ?_
    refine o_top _ (pk_sub (by subst hj6; exact svs_len _)) ?_
    refine m_iret dN_serve_121 rfl ?_
    subst hj6
    have hln := svs_len (nd := nd) (dp := dp) (L := L) (sn := sn0) L.length
    refine k mu1 ⟨by rw [hmu1, up2_s]; simp [upd], by omega, fun y hy => by rw [hmu1, up2_t (by decide)]; exact hr1 y hy⟩ (fun u hu => by rw [hmu1, up2_t (by decide)]; exact hs u hu) (fun t z hz h28 => by rw [hmu1]; exact if_neg h28) ⟨⟨fun y hy => by rw [hmu1, up2_t (by decide)], fun y hy => by rw [hmu1, up2_t (by decide)]⟩, fun y hy => ?_⟩
    rw [hmu1, up2_s]
    simp [upd, hy]
  · skip
    have hln := svs_len (nd := nd) (dp := dp) (L := L) (sn := sn0) j
    have hwm := getD_mem hL hb42
    refine o_aload_n dN_serve_45 rfl ?_
    refine m_getr dN_serve_46 fl_N_35 rfl rfl (by decide) ?_
    refine o_bipush (nI 40) dN_serve_49 rfl ?_
    refine o_iload_n dN_serve_51 rfl ?_
    refine o_imul dN_serve_52 ?_
    refine o_top _ (pk_mul _ _) ?_
    refine o_iload dN_serve_53 rfl ?_
    refine o_iadd dN_serve_55 ?_
    refine o_top _ (nI_add _ _) ?_
    refine m_iald (40 * (2 * i + q) + j) dN_serve_56 rfl rfl rfl (by decide) rfl (by omega) ?_
    refine o_top (nI (L.getD j 0)) (hr2 j (Nat.le_refl _) hb42) ?_
    refine o_istore [(0, _), (1, _), (2, _), (3, _), (4, _), (5, _), (6, _), (7, _)] dN_serve_57 rfl rfl ?_
    refine o_aload_n dN_serve_59 rfl ?_
    refine o_iload_n dN_serve_60 rfl ?_
    refine o_iload dN_serve_61 rfl ?_
    refine m_callV M_N_missing [.inl (nI i), .inl (nI (L.getD j 0))] [] dN_serve_63 mk_N_missing in_N_missing se_N_missing rfl (by decide) rfl rfl ml_N_115 rfl rfl rfl (Nat.le_of_ble_eq_true rfl) rfl ?_
    refine r_missing hV hi hwm hs (hnd _ hwm) ?_
    show Om G M_N_serve 66 [(0, .inr (some (ad 20 0))), (1, .inl (nI i)), (2, .inl (nI q)), (3, .inl (nI (2 * i + q))), (4, .inl (nI ((svs nd dp L sn0 j).2.length))), (5, .inl (nI L.length)), (6, .inl (nI j)), (7, .inl (nI (L.getD j 0)))] [.inl (nI (misN (nd (L.getD j 0)) (dp (L.getD j 0)) (svs nd dp L sn0 j).1 6))] mu Q
    have hmi : misN (nd (L.getD j 0)) (dp (L.getD j 0)) (svs nd dp L sn0 j).1 6 ≤ 6 := misN_le 6
    refine n_if_ne 85 dN_serve_66 rfl (by omega) (fun hb66 => ?_) (fun hb66 => ?_)
    · skip
      refine o_aload_n dN_serve_85 rfl ?_
      refine m_getr dN_serve_86 fl_N_35 rfl rfl (by decide) ?_
      refine o_bipush (nI 40) dN_serve_89 rfl ?_
      refine o_iload_n dN_serve_91 rfl ?_
      refine o_imul dN_serve_92 ?_
      refine o_top _ (pk_mul _ _) ?_
      refine o_iload dN_serve_93 rfl ?_
      refine o_iadd dN_serve_95 ?_
      refine o_top _ (nI_add _ _) ?_
      refine o_iload dN_serve_96 rfl ?_
      refine m_iast (40 * (2 * i + q) + ((svs nd dp L sn0 j).2.length)) dN_serve_98 rfl rfl rfl (by decide) rfl (by omega) (fun mu1 hmu1 => ?_)
      refine o_iinc (nI ((svs nd dp L sn0 j).2.length + 1)) [(0, _), (1, _), (2, _), (3, _), (4, _), (5, _), (6, _), (7, _)] dN_serve_99 rfl (nInc _) rfl rfl ?_
      refine o_iinc (nI (j + 1)) [(0, _), (1, _), (2, _), (3, _), (4, _), (5, _), (6, _), (7, _)] dN_serve_102 rfl (nInc _) rfl rfl ?_
      refine o_goto 38 dN_serve_105 rfl ?_
      refine o_lv [(0, _), (1, _), (2, _), (3, _), (4, _), (5, _), (6, _)] [0, 1, 2, 3, 4, 5, 6] rfl ?_
      have e9 : svs nd dp L sn0 (j + 1) = ((svs nd dp L sn0 j).1, (svs nd dp L sn0 j).2 ++ [L.getD j 0]) := by rw [svs, if_neg hb66]
      have hs1 := ssg_29 (c := i) (a := 2 * i + q) hmu1 (by omega)
      rw [show (svs nd dp L sn0 j).2.length + 1 = (svs nd dp L sn0 (j + 1)).2.length by rw [e9]; simp]
      refine l_rserve (hs1.v hV) hi hq hnd hL hL4 (j + 1) (by omega) (fun y hy => ?_) (fun y hy hy2 => ?_) (fun u hu => ?_) (fun mu' a b c d => k mu' a b (fun t z hz h28 => (c t z hz h28).trans (hs1.1 t z (fun w => hz w))) ?_)
      · rw [e9] at hy ⊢
        have hy2 : y < (svs nd dp L sn0 j).2.length + 1 := by simpa using hy
        show mu1 29 0 (40 * (2 * i + q) + y) = nI (((svs nd dp L sn0 j).2 ++ [L.getD j 0]).getD y 0)
        rw [hmu1, up2_s, getD_snoc]
        by_cases e : y = (svs nd dp L sn0 j).2.length
        · simp [upd, e]
        · have e2 : ¬ 40 * (2 * i + q) + y = 40 * (2 * i + q) + (svs nd dp L sn0 j).2.length := by omega
          have e3 : y < (svs nd dp L sn0 j).2.length := by omega
          simp only [upd, e2, if_false, e3, if_true]
          exact hr1 y e3
      · rw [hmu1, up2_s]
        have e2 : ¬ 40 * (2 * i + q) + y = 40 * (2 * i + q) + (svs nd dp L sn0 j).2.length := by omega
        simp only [upd, e2, if_false]
        exact hr2 y (by omega) hy2
      · rw [e9, hmu1, up2_t (by decide)]
        exact hs u hu
      · exact ⟨⟨fun y hy => (d.1.1 y hy).trans (hs1.2.1 y hy), fun y hy => (d.1.2 y hy).trans (hs1.2.2 y hy)⟩, fun y hy => (d.2 y hy).trans (by rw [hs1.1 28 0 (by decide)])⟩
    · skip
      refine o_aload_n dN_serve_69 rfl ?_
      refine m_getr dN_serve_70 fl_N_25 rfl rfl (by decide) ?_
      refine o_bipush (nI 40) dN_serve_73 rfl ?_
      refine o_iload_n dN_serve_75 rfl ?_
      refine o_imul dN_serve_76 ?_
      refine o_top _ (pk_mul _ _) ?_
      refine o_iload dN_serve_77 rfl ?_
      refine o_iadd dN_serve_79 ?_
      refine o_top _ (nI_add _ _) ?_
      refine o_iconst (nI 1) dN_serve_80 rfl ?_
      refine m_zast (40 * i + (L.getD j 0)) dN_serve_81 rfl rfl rfl (by decide) rfl (by omega) rfl (fun mu1 hmu1 => ?_)
      refine o_goto 102 dN_serve_82 rfl ?_
      refine o_iinc (nI (j + 1)) [(0, _), (1, _), (2, _), (3, _), (4, _), (5, _), (6, _), (7, _)] dN_serve_102 rfl (nInc _) rfl rfl ?_
      refine o_goto 38 dN_serve_105 rfl ?_
      refine o_lv [(0, _), (1, _), (2, _), (3, _), (4, _), (5, _), (6, _)] [0, 1, 2, 3, 4, 5, 6] rfl ?_
      have e9 : svs nd dp L sn0 (j + 1) = (va_up (svs nd dp L sn0 j).1 (L.getD j 0) 1, (svs nd dp L sn0 j).2) := by rw [svs, if_pos hb66]
      have hs1 := ssg_26 (c := i) (a := 2 * i + q) hmu1 (by omega)
      rw [show (svs nd dp L sn0 j).2.length = (svs nd dp L sn0 (j + 1)).2.length by rw [e9]]
      refine l_rserve (hs1.v hV) hi hq hnd hL hL4 (j + 1) (by omega) (fun y hy => ?_) (fun y hy hy2 => ?_) (fun u hu => ?_) (fun mu' a b c d => k mu' a b (fun t z hz h28 => (c t z hz h28).trans (hs1.1 t z (fun w => hz w))) ?_)
      · rw [e9] at hy ⊢
        rw [hmu1, up2_t (by decide)]
        exact hr1 y hy
      · rw [hmu1, up2_t (by decide)]
        exact hr2 y (by omega) hy2
      · rw [e9]
        show mu1 26 0 (40 * i + u) = nI (va_up (svs nd dp L sn0 j).1 (L.getD j 0) 1 u) ∧ va_up (svs nd dp L sn0 j).1 (L.getD j 0) 1 u < 2
        rw [hmu1, up2_s]
        by_cases e : u = L.getD j 0
        · rw [e, va_s]; simp [upd]
        · have e2 : ¬ 40 * i + u = 40 * i + L.getD j 0 := by omega
          rw [va_n e]
          simp only [upd, e2, if_false]
          exact hs u hu
      · exact ⟨⟨fun y hy => (d.1.1 y hy).trans (hs1.2.1 y hy), fun y hy => (d.1.2 y hy).trans (hs1.2.2 y hy)⟩, fun y hy => (d.2 y hy).trans (by rw [hs1.1 28 0 (by decide)])⟩
termination_by L.length - j
theorem R_serve {G : oG} {mu : oMu} {Q : oPm} {m : Nat} {ky vr nd : Nat → Nat} {dp : Nat → Nat → Nat} {vl : Nat → Int32} {sn ck : Nat → Nat → Nat} {wt fl : Nat → List Nat} {x h d : Nat → Nat → Nat} {s l r ph : Nat → Nat} (hC : ReR mu m ky vr nd dp vl sn ck wt fl x h d s l r ph) {i q : Nat} (hi : i < 3) (hq : q < 2) (hnd : ∀ w, w < m → ∀ k, k < 6 → (nd w).testBit k = true → ¬ dp w k = 0) (hL : ∀ e ∈ wt (2 * i + q), e < m) (k : ∀ mu' : oMu, ReR mu' m ky vr nd dp vl (va_up sn i (svs nd dp (wt (2 * i + q)) (sn i) (wt (2 * i + q)).length).1) ck (va_up wt (2 * i + q) (svs nd dp (wt (2 * i + q)) (sn i) (wt (2 * i + q)).length).2) fl x h d s l r ph → mlt mu mu' → Q (some (.inl (nI ((wt (2 * i + q)).length - (svs nd dp (wt (2 * i + q)) (sn i) (wt (2 * i + q)).length).2.length)))) mu') : Om G M_N_serve 0 [(0, .inr (some (ad 20 0))), (1, .inl (nI i)), (2, .inl (nI q))] [] mu Q := by
  refine o_iload_n dN_serve_0 rfl ?_
  refine o_iconst (nI 3) dN_serve_1 rfl ?_
  refine m_callS M_N_out [.inl (nI i), .inl (nI 3)] [] dN_serve_2 mk_N_out st_N_out ml_N_73 rfl rfl rfl (Nat.le_of_ble_eq_true rfl) rfl ?_
  refine r_out_y (by decide) hi ?_
  show Om G M_N_serve 5 [(0, .inr (some (ad 20 0))), (1, .inl (nI i)), (2, .inl (nI q))] [.inl (nI 0)] mu Q
  refine n_if_ne 16 dN_serve_5 rfl (by omega) (fun h => absurd h (by decide)) (fun _ => ?_)
  refine o_iload_n dN_serve_8 rfl ?_
  refine o_iconst (nI 2) dN_serve_9 rfl ?_
  refine m_callS M_N_out [.inl (nI q), .inl (nI 2)] [] dN_serve_10 mk_N_out st_N_out ml_N_73 rfl rfl rfl (Nat.le_of_ble_eq_true rfl) rfl ?_
  refine r_out_y (by decide) hq ?_
  show Om G M_N_serve 13 [(0, .inr (some (ad 20 0))), (1, .inl (nI i)), (2, .inl (nI q))] [.inl (nI 0)] mu Q
  refine n_if_eq 18 dN_serve_13 rfl (by omega) (fun _ => ?_) (fun h => absurd h (by decide))
  refine o_iconst (nI 2) dN_serve_18 rfl ?_
  refine o_iload_n dN_serve_19 rfl ?_
  refine o_imul dN_serve_20 ?_
  refine o_top _ (pk_mul _ _) ?_
  refine o_iload_n dN_serve_21 rfl ?_
  refine o_iadd dN_serve_22 ?_
  refine o_top _ (nI_add _ _) ?_
  refine o_istore_n [(0, _), (1, _), (2, _), (3, _)] dN_serve_23 rfl rfl ?_
  refine o_iconst (nI 0) dN_serve_24 rfl ?_
  refine o_istore [(0, _), (1, _), (2, _), (3, _), (4, _)] dN_serve_25 rfl rfl ?_
  refine o_aload_n dN_serve_27 rfl ?_
  refine m_getr dN_serve_28 fl_N_32 rfl rfl (by decide) ?_
  refine o_iload_n dN_serve_31 rfl ?_
  refine m_iald (2 * i + q) dN_serve_32 rfl rfl rfl (by decide) rfl (by omega) ?_
  refine o_top (nI ((wt (2 * i + q)).length)) (hC.fwt (by omega)).1 ?_
  refine o_istore [(0, _), (1, _), (2, _), (3, _), (4, _), (5, _)] dN_serve_33 rfl rfl ?_
  refine o_iconst (nI 0) dN_serve_35 rfl ?_
  refine o_istore [(0, _), (1, _), (2, _), (3, _), (4, _), (5, _), (6, _)] dN_serve_36 rfl rfl ?_
  refine l_rserve hC.fw hi hq hnd hL (hC.fwt (show 2 * i + q < 6 by omega)).2.1 0 (Nat.zero_le _) (fun y hy => absurd hy (by simp [svs])) (fun y _ hy => (hC.fwt (show 2 * i + q < 6 by omega)).2.2 y hy) (hC.fsn hi) (fun mu1 hl1 ht1 hn1 hg1 => ?_)
  have g : ∀ t, ¬ t = 26 → ¬ t = 29 → ¬ t = 28 → mu1 t 0 = mu t 0 := fun t a b c => hn1 t 0 (fun z => by omega) (fun z => by omega)
  refine k mu1 ⟨hC.fw.mv (g 20 (by decide) (by decide) (by decide)) (g 21 (by decide) (by decide) (by decide)) (g 23 (by decide) (by decide) (by decide)) (g 24 (by decide) (by decide) (by decide)) (g 25 (by decide) (by decide) (by decide)), fun u hu => by rw [g 22 (by decide) (by decide) (by decide)]; exact hC.fv hu, fun c hc => ⟨?_, fun p hp => by rw [g 27 (by decide) (by decide) (by decide)]; exact hC.fck hc hp⟩, fun z hz => ?_, fun z hz => (hC.ffl hz).mv (g 30 (by decide) (by decide) (by decide)) (g 31 (by decide) (by decide) (by decide)), fun y hy => ?_⟩ (fun t z ht => hn1 t z (by omega) (by omega))
  · by_cases ec : c = i
    · subst ec
      rw [va_s]
      exact ht1
    · rw [va_n ec]
      intro u hu
      rw [hg1.1.1 _ (by omega)]
      exact hC.fsn hc u hu
  · by_cases ez : z = 2 * i + q
    · rw [ez, va_s]
      exact hl1
    · rw [va_n ez]
      have hz9 := hC.fwt hz
      refine ⟨by rw [hg1.2 z ez]; exact hz9.1, hz9.2.1, fun y hy => ?_⟩
      have := hz9.2.1
      rw [hg1.1.2 _ (by omega)]
      exact hz9.2.2 y hy
  · rw [g 33 (by decide) (by decide) (by decide), g 34 (by decide) (by decide) (by decide), g 35 (by decide) (by decide) (by decide), g 36 (by decide) (by decide) (by decide)]
    have hcy := hC.2.2.2.2.2 y hy
    exact ⟨hcy.1, hcy.2.1.ne (g 32 (by decide) (by decide) (by decide)), hcy.2.2.1.ne (g 37 (by decide) (by decide) (by decide)), hcy.2.2.2.ne (g 38 (by decide) (by decide) (by decide))⟩
