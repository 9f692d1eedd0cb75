/-! The JDK's methods: Integer.bitCount, Arrays.fill. -/
theorem dJI_bitCount_0 : decode cJI_bitCount 0 = .ok (.iload_n 0, 1) := by decide +kernel
theorem dJI_bitCount_1 : decode cJI_bitCount 1 = .ok (.iload_n 0, 1) := by decide +kernel
theorem dJI_bitCount_2 : decode cJI_bitCount 2 = .ok (.iconst 1, 1) := by decide +kernel
theorem dJI_bitCount_3 : decode cJI_bitCount 3 = .ok (.iushr, 1) := by decide +kernel
theorem dJI_bitCount_4 : decode cJI_bitCount 4 = .ok (.ldc_w 265, 3) := by decide +kernel
theorem dJI_bitCount_7 : decode cJI_bitCount 7 = .ok (.iand, 1) := by decide +kernel
theorem dJI_bitCount_8 : decode cJI_bitCount 8 = .ok (.isub, 1) := by decide +kernel
theorem dJI_bitCount_9 : decode cJI_bitCount 9 = .ok (.istore_n 0, 1) := by decide +kernel
theorem dJI_bitCount_10 : decode cJI_bitCount 10 = .ok (.iload_n 0, 1) := by decide +kernel
theorem dJI_bitCount_11 : decode cJI_bitCount 11 = .ok (.ldc_w 266, 3) := by decide +kernel
theorem dJI_bitCount_14 : decode cJI_bitCount 14 = .ok (.iand, 1) := by decide +kernel
theorem dJI_bitCount_15 : decode cJI_bitCount 15 = .ok (.iload_n 0, 1) := by decide +kernel
theorem dJI_bitCount_16 : decode cJI_bitCount 16 = .ok (.iconst 2, 1) := by decide +kernel
theorem dJI_bitCount_17 : decode cJI_bitCount 17 = .ok (.iushr, 1) := by decide +kernel
theorem dJI_bitCount_18 : decode cJI_bitCount 18 = .ok (.ldc_w 266, 3) := by decide +kernel
theorem dJI_bitCount_21 : decode cJI_bitCount 21 = .ok (.iand, 1) := by decide +kernel
theorem dJI_bitCount_22 : decode cJI_bitCount 22 = .ok (.iadd, 1) := by decide +kernel
theorem dJI_bitCount_23 : decode cJI_bitCount 23 = .ok (.istore_n 0, 1) := by decide +kernel
theorem dJI_bitCount_24 : decode cJI_bitCount 24 = .ok (.iload_n 0, 1) := by decide +kernel
theorem dJI_bitCount_25 : decode cJI_bitCount 25 = .ok (.iload_n 0, 1) := by decide +kernel
theorem dJI_bitCount_26 : decode cJI_bitCount 26 = .ok (.iconst 4, 1) := by decide +kernel
theorem dJI_bitCount_27 : decode cJI_bitCount 27 = .ok (.iushr, 1) := by decide +kernel
theorem dJI_bitCount_28 : decode cJI_bitCount 28 = .ok (.iadd, 1) := by decide +kernel
theorem dJI_bitCount_29 : decode cJI_bitCount 29 = .ok (.ldc_w 267, 3) := by decide +kernel
theorem dJI_bitCount_32 : decode cJI_bitCount 32 = .ok (.iand, 1) := by decide +kernel
theorem dJI_bitCount_33 : decode cJI_bitCount 33 = .ok (.istore_n 0, 1) := by decide +kernel
theorem dJI_bitCount_34 : decode cJI_bitCount 34 = .ok (.iload_n 0, 1) := by decide +kernel
theorem dJI_bitCount_35 : decode cJI_bitCount 35 = .ok (.iload_n 0, 1) := by decide +kernel
theorem dJI_bitCount_36 : decode cJI_bitCount 36 = .ok (.bipush 8, 2) := by decide +kernel
theorem dJI_bitCount_38 : decode cJI_bitCount 38 = .ok (.iushr, 1) := by decide +kernel
theorem dJI_bitCount_39 : decode cJI_bitCount 39 = .ok (.iadd, 1) := by decide +kernel
theorem dJI_bitCount_40 : decode cJI_bitCount 40 = .ok (.istore_n 0, 1) := by decide +kernel
theorem dJI_bitCount_41 : decode cJI_bitCount 41 = .ok (.iload_n 0, 1) := by decide +kernel
theorem dJI_bitCount_42 : decode cJI_bitCount 42 = .ok (.iload_n 0, 1) := by decide +kernel
theorem dJI_bitCount_43 : decode cJI_bitCount 43 = .ok (.bipush 16, 2) := by decide +kernel
theorem dJI_bitCount_45 : decode cJI_bitCount 45 = .ok (.iushr, 1) := by decide +kernel
theorem dJI_bitCount_46 : decode cJI_bitCount 46 = .ok (.iadd, 1) := by decide +kernel
theorem dJI_bitCount_47 : decode cJI_bitCount 47 = .ok (.istore_n 0, 1) := by decide +kernel
theorem dJI_bitCount_48 : decode cJI_bitCount 48 = .ok (.iload_n 0, 1) := by decide +kernel
theorem dJI_bitCount_49 : decode cJI_bitCount 49 = .ok (.bipush 63, 2) := by decide +kernel
theorem dJI_bitCount_51 : decode cJI_bitCount 51 = .ok (.iand, 1) := by decide +kernel
theorem dJI_bitCount_52 : decode cJI_bitCount 52 = .ok (.ireturn, 1) := by decide +kernel
theorem dJA_fill_0 : decode cJA_fill 0 = .ok (.iconst 0, 1) := by decide +kernel
theorem dJA_fill_1 : decode cJA_fill 1 = .ok (.istore_n 2, 1) := by decide +kernel
theorem dJA_fill_2 : decode cJA_fill 2 = .ok (.aload_n 0, 1) := by decide +kernel
theorem dJA_fill_3 : decode cJA_fill 3 = .ok (.arraylength, 1) := by decide +kernel
theorem dJA_fill_4 : decode cJA_fill 4 = .ok (.istore_n 3, 1) := by decide +kernel
theorem dJA_fill_5 : decode cJA_fill 5 = .ok (.iload_n 2, 1) := by decide +kernel
theorem dJA_fill_6 : decode cJA_fill 6 = .ok (.iload_n 3, 1) := by decide +kernel
theorem dJA_fill_7 : decode cJA_fill 7 = .ok (.if_icmp .ge 13, 3) := by decide +kernel
theorem dJA_fill_10 : decode cJA_fill 10 = .ok (.aload_n 0, 1) := by decide +kernel
theorem dJA_fill_11 : decode cJA_fill 11 = .ok (.iload_n 2, 1) := by decide +kernel
theorem dJA_fill_12 : decode cJA_fill 12 = .ok (.iload_n 1, 1) := by decide +kernel
theorem dJA_fill_13 : decode cJA_fill 13 = .ok (.iastore, 1) := by decide +kernel
theorem dJA_fill_14 : decode cJA_fill 14 = .ok (.iinc 2 1, 3) := by decide +kernel
theorem dJA_fill_17 : decode cJA_fill 17 = .ok (.goto (-12), 3) := by decide +kernel
theorem dJA_fill_20 : decode cJA_fill 20 = .ok (.return_, 1) := by decide +kernel
theorem kc_265 : Cond.constant RJI 265 1431655765 ∈ oAll := oMem2 (i := 17) rfl rfl
theorem kc_266 : Cond.constant RJI 266 858993459 ∈ oAll := oMem2 (i := 18) rfl rfl
theorem kc_267 : Cond.constant RJI 267 252645135 ∈ oAll := oMem2 (i := 19) rfl rfl
theorem o_ldcw {G : oG} {M : oM} {pc : Nat} {lv : oL} {st : List oU} {H : oH} {b : Nat × Nat} {Q : oP} {idx : Nat} (v : Int32) (hd : decode (oCd M) pc = .ok (.ldc_w idx, 3)) (hw : Cond.constant M.1.cls idx v ∈ oAll) (k : Ok G M (pc + 3) lv (.inl v :: st) H b Q) : Ok G M pc lv st H b Q :=
  fun p e R s mid args below meth c hp locs cells slots mc ms ls X Y => lv_ldcw X.1 X.2.1 X.2.2.2.2.2.2.1 (X.2.2.2.2.2.2.2.1 _ hw) hd (k p e R s mid args below meth c hp locs cells slots mc ms ls X Y)
set_option maxRecDepth 100000 in
theorem b_count : ∀ l, l < 64 → (((((((((nI l) - ((((nI l).toUInt32 >>> ((nI 1).toUInt32 &&& Int32.toUInt32 31)).toInt32) &&& (1431655765))) &&& (858993459)) + (((((nI l) - ((((nI l).toUInt32 >>> ((nI 1).toUInt32 &&& Int32.toUInt32 31)).toInt32) &&& (1431655765))).toUInt32 >>> ((nI 2).toUInt32 &&& Int32.toUInt32 31)).toInt32) &&& (858993459))) + ((((((nI l) - ((((nI l).toUInt32 >>> ((nI 1).toUInt32 &&& Int32.toUInt32 31)).toInt32) &&& (1431655765))) &&& (858993459)) + (((((nI l) - ((((nI l).toUInt32 >>> ((nI 1).toUInt32 &&& Int32.toUInt32 31)).toInt32) &&& (1431655765))).toUInt32 >>> ((nI 2).toUInt32 &&& Int32.toUInt32 31)).toInt32) &&& (858993459))).toUInt32 >>> ((nI 4).toUInt32 &&& Int32.toUInt32 31)).toInt32)) &&& (252645135)) + ((((((((nI l) - ((((nI l).toUInt32 >>> ((nI 1).toUInt32 &&& Int32.toUInt32 31)).toInt32) &&& (1431655765))) &&& (858993459)) + (((((nI l) - ((((nI l).toUInt32 >>> ((nI 1).toUInt32 &&& Int32.toUInt32 31)).toInt32) &&& (1431655765))).toUInt32 >>> ((nI 2).toUInt32 &&& Int32.toUInt32 31)).toInt32) &&& (858993459))) + ((((((nI l) - ((((nI l).toUInt32 >>> ((nI 1).toUInt32 &&& Int32.toUInt32 31)).toInt32) &&& (1431655765))) &&& (858993459)) + (((((nI l) - ((((nI l).toUInt32 >>> ((nI 1).toUInt32 &&& Int32.toUInt32 31)).toInt32) &&& (1431655765))).toUInt32 >>> ((nI 2).toUInt32 &&& Int32.toUInt32 31)).toInt32) &&& (858993459))).toUInt32 >>> ((nI 4).toUInt32 &&& Int32.toUInt32 31)).toInt32)) &&& (252645135)).toUInt32 >>> ((nI 8).toUInt32 &&& Int32.toUInt32 31)).toInt32)) + (((((((((nI l) - ((((nI l).toUInt32 >>> ((nI 1).toUInt32 &&& Int32.toUInt32 31)).toInt32) &&& (1431655765))) &&& (858993459)) + (((((nI l) - ((((nI l).toUInt32 >>> ((nI 1).toUInt32 &&& Int32.toUInt32 31)).toInt32) &&& (1431655765))).toUInt32 >>> ((nI 2).toUInt32 &&& Int32.toUInt32 31)).toInt32) &&& (858993459))) + ((((((nI l) - ((((nI l).toUInt32 >>> ((nI 1).toUInt32 &&& Int32.toUInt32 31)).toInt32) &&& (1431655765))) &&& (858993459)) + (((((nI l) - ((((nI l).toUInt32 >>> ((nI 1).toUInt32 &&& Int32.toUInt32 31)).toInt32) &&& (1431655765))).toUInt32 >>> ((nI 2).toUInt32 &&& Int32.toUInt32 31)).toInt32) &&& (858993459))).toUInt32 >>> ((nI 4).toUInt32 &&& Int32.toUInt32 31)).toInt32)) &&& (252645135)) + ((((((((nI l) - ((((nI l).toUInt32 >>> ((nI 1).toUInt32 &&& Int32.toUInt32 31)).toInt32) &&& (1431655765))) &&& (858993459)) + (((((nI l) - ((((nI l).toUInt32 >>> ((nI 1).toUInt32 &&& Int32.toUInt32 31)).toInt32) &&& (1431655765))).toUInt32 >>> ((nI 2).toUInt32 &&& Int32.toUInt32 31)).toInt32) &&& (858993459))) + ((((((nI l) - ((((nI l).toUInt32 >>> ((nI 1).toUInt32 &&& Int32.toUInt32 31)).toInt32) &&& (1431655765))) &&& (858993459)) + (((((nI l) - ((((nI l).toUInt32 >>> ((nI 1).toUInt32 &&& Int32.toUInt32 31)).toInt32) &&& (1431655765))).toUInt32 >>> ((nI 2).toUInt32 &&& Int32.toUInt32 31)).toInt32) &&& (858993459))).toUInt32 >>> ((nI 4).toUInt32 &&& Int32.toUInt32 31)).toInt32)) &&& (252645135)).toUInt32 >>> ((nI 8).toUInt32 &&& Int32.toUInt32 31)).toInt32)).toUInt32 >>> ((nI 16).toUInt32 &&& Int32.toUInt32 31)).toInt32)) &&& (nI 63)) = nI (cntN l 6) := by decide +kernel
theorem j_bitCount {G : oG} {mu : oMu} {Q : oPm} {l : Nat} (hl : l < 64) (k : Q (some (.inl (nI (cntN l 6)))) mu) : Om G M_JI_bitCount 0 [(0, .inl (nI l))] [] mu Q := by
  refine o_iload_n dJI_bitCount_0 rfl ?_
  refine o_iload_n dJI_bitCount_1 rfl ?_
  refine o_iconst (nI 1) dJI_bitCount_2 rfl ?_
  refine o_iushr dJI_bitCount_3 ?_
  refine o_ldcw (1431655765) dJI_bitCount_4 kc_265 ?_
  refine o_iand dJI_bitCount_7 ?_
  refine o_isub dJI_bitCount_8 ?_
  refine o_istore_n [(0, _)] dJI_bitCount_9 rfl rfl ?_
  refine o_iload_n dJI_bitCount_10 rfl ?_
  refine o_ldcw (858993459) dJI_bitCount_11 kc_266 ?_
  refine o_iand dJI_bitCount_14 ?_
  refine o_iload_n dJI_bitCount_15 rfl ?_
  refine o_iconst (nI 2) dJI_bitCount_16 rfl ?_
  refine o_iushr dJI_bitCount_17 ?_
  refine o_ldcw (858993459) dJI_bitCount_18 kc_266 ?_
  refine o_iand dJI_bitCount_21 ?_
  refine o_iadd dJI_bitCount_22 ?_
  refine o_istore_n [(0, _)] dJI_bitCount_23 rfl rfl ?_
  refine o_iload_n dJI_bitCount_24 rfl ?_
  refine o_iload_n dJI_bitCount_25 rfl ?_
  refine o_iconst (nI 4) dJI_bitCount_26 rfl ?_
  refine o_iushr dJI_bitCount_27 ?_
  refine o_iadd dJI_bitCount_28 ?_
  refine o_ldcw (252645135) dJI_bitCount_29 kc_267 ?_
  refine o_iand dJI_bitCount_32 ?_
  refine o_istore_n [(0, _)] dJI_bitCount_33 rfl rfl ?_
  refine o_iload_n dJI_bitCount_34 rfl ?_
  refine o_iload_n dJI_bitCount_35 rfl ?_
  refine o_bipush (nI 8) dJI_bitCount_36 rfl ?_
  refine o_iushr dJI_bitCount_38 ?_
  refine o_iadd dJI_bitCount_39 ?_
  refine o_istore_n [(0, _)] dJI_bitCount_40 rfl rfl ?_
  refine o_iload_n dJI_bitCount_41 rfl ?_
  refine o_iload_n dJI_bitCount_42 rfl ?_
  refine o_bipush (nI 16) dJI_bitCount_43 rfl ?_
  refine o_iushr dJI_bitCount_45 ?_
  refine o_iadd dJI_bitCount_46 ?_
  refine o_istore_n [(0, _)] dJI_bitCount_47 rfl rfl ?_
  refine o_iload_n dJI_bitCount_48 rfl ?_
  refine o_bipush (nI 63) dJI_bitCount_49 rfl ?_
  refine o_iand dJI_bitCount_51 ?_
  refine m_iret dJI_bitCount_52 rfl ?_
  rw [b_count l hl]
  exact k
theorem oUp_oUp {H : oH} {r : Nat} {a c : oC} : oUp (oUp H r a) r c = oUp H r c := by
  unfold oUp
  rw [bx_uu]
theorem oUp_s {H : oH} {r : Nat} {c : oC} : (oUp H r c).2 r = some c := by simp [oUp, va_up]
theorem l_fill {G : oG} {H : oH} {b : Nat × Nat} {Q : oP} {r t n : Nat} {f : Nat → Int32} {v : Int32} (ht : oTyL[t]? = some .int) (hN : Nat.ble n 100000 = true) (j : Nat) (hj : j ≤ n) (he : H.2 r = some (.inl (t, n, fun q => if q < j then v else f q))) (k : Q none (oUp H r (.inl (t, n, fun q => if q < n then v else f q)))) : Ok G M_JA_fill 5 [(0, .inr (some r)), (1, .inl v), (2, .inl (nI j)), (3, .inl (nI n))] [] H b Q := by
  have hN2 := Nat.le_of_ble_eq_true hN
  refine o_iload_n dJA_fill_5 rfl ?_
  refine o_iload_n dJA_fill_6 rfl ?_
  refine n_icmp_ge 20 dJA_fill_7 rfl (by omega) (by omega) (fun h => ?_) (fun h => ?_)
  · have hjn : j = n := by omega
    subst hjn
    refine o_vret dJA_fill_20 rfl ?_
    have e : oUp H r (.inl (t, j, fun q => if q < j then v else f q)) = H := by
      refine Prod.ext rfl (funext fun q => ?_)
      by_cases hq : q = r
      · rw [hq, he]; simp [oUp, va_up]
      · simp [oUp, va_up, hq]
    rw [e] at k
    exact k
  · refine o_aload_n dJA_fill_10 rfl ?_
    refine o_iload_n dJA_fill_11 rfl ?_
    refine o_iload_n dJA_fill_12 rfl ?_
    refine o_iast j dJA_fill_13 he ht (Nat.ble_eq_true_of_le (by omega)) rfl h ?_
    refine o_iinc (nI (j + 1)) [(0, _), (1, _), (2, _), (3, _)] dJA_fill_14 rfl (nInc _) rfl rfl ?_
    refine o_goto 5 dJA_fill_17 rfl ?_
    have e : upd (fun q => if q < j then v else f q) j v = fun q => if q < j + 1 then v else f q := by
      funext q
      by_cases hq : q = j
      · simp [upd, hq]
      · by_cases hl : q < j
        · simp [upd, hq, hl, Nat.lt_succ_of_lt hl]
        · have h3 : ¬ q < j + 1 := by omega
          simp [upd, hq, hl, h3]
    rw [e]
    exact l_fill ht hN (j + 1) (by omega) oUp_s (by rw [oUp_oUp]; exact k)
termination_by n - j
theorem j_fill {G : oG} {H : oH} {b : Nat × Nat} {Q : oP} {r t n : Nat} {f : Nat → Int32} {v : Int32} (ht : oTyL[t]? = some .int) (hN : Nat.ble n 100000 = true) (he : H.2 r = some (.inl (t, n, f))) (k : Q none (oUp H r (.inl (t, n, fun q => if q < n then v else f q)))) : Ok G M_JA_fill 0 [(0, .inr (some r)), (1, .inl v)] [] H b Q := by
  refine o_iconst (nI 0) dJA_fill_0 rfl ?_
  refine o_istore_n [(0, _), (1, _), (2, _)] dJA_fill_1 rfl rfl ?_
  refine o_aload_n dJA_fill_2 rfl ?_
  refine o_alen dJA_fill_3 he ht ?_
  refine o_istore_n [(0, _), (1, _), (2, _), (3, _)] dJA_fill_4 rfl rfl ?_
  exact l_fill ht hN 0 (Nat.zero_le _) (by rw [he]; simp) k
theorem m_fill {G : oG} {mu : oMu} {Q : oPm} {t i ty n : Nat} {v : Int32} (hs : sh t i = .inl (ty, n)) (ht : oTyL[ty]? = some .int) (hN : Nat.ble n 100000 = true) (hv : i < cnt t) (k : ∀ mu' : oMu, mu' = up2 mu t i (fun q => if q < n then v else mu t i q) → Q none mu') : Om G M_JA_fill 0 [(0, .inr (some (ad t i))), (1, .inl v)] [] mu Q := by
  refine j_fill ht hN (by rw [enc_ad hv, hs]; rfl) ?_
  refine ⟨up2 mu t i (fun q => if q < n then v else mu t i q), ?_, k _ rfl⟩
  have e : (.inl (ty, n, fun q => if q < n then v else mu t i q) : oC) = oCt (sh t i) (fun q => if q < n then v else mu t i q) := by rw [hs]; rfl
  rw [e, enc_up hv]
theorem c_open {G : oG} {mu : oMu} {Q : oPm} {i s : Nat} (hi : i < 6) (k : ∀ mu' : oMu, (∀ q, q < 6 → mu' 16 i q = -4) → mu' 14 i = upd (upd (upd (mu 14 i) 4 (nI s)) 5 (nI s)) 6 (nI 1) → mfr [(14, i), (16, i)] mu mu' → Q none mu') : Om G M_K_open 0 [(0, .inr (some (ad 14 i))), (1, .inl (nI s))] [] mu Q := by
  refine o_aload_n dK_open_0 rfl ?_
  refine o_iload_n dK_open_1 rfl ?_
  refine m_puti dK_open_2 fs_K_32 rfl rfl hi (fun mu1 hmu1 => ?_)
  refine o_aload_n dK_open_5 rfl ?_
  refine o_iload_n dK_open_6 rfl ?_
  refine m_puti dK_open_7 fs_K_29 rfl rfl hi (fun mu2 hmu2 => ?_)
  refine o_aload_n dK_open_10 rfl ?_
  refine o_iconst (nI 1) dK_open_11 rfl ?_
  refine m_puti dK_open_12 fs_K_35 rfl rfl hi (fun mu3 hmu3 => ?_)
  refine o_aload_n dK_open_15 rfl ?_
  refine m_getr dK_open_16 fl_K_19 rfl rfl hi ?_
  refine o_bipush (-4) dK_open_19 rfl ?_
  refine m_callS M_JA_fill [.inr (some (ad 16 i)), .inl (-4)] [] dK_open_21 mk_JA_fill st_JA_fill ml_K_38 rfl rfl rfl (Nat.le_of_ble_eq_true rfl) rfl ?_
  refine m_fill rfl rfl rfl hi (fun mu4 hmu4 => ?_)
  show Om G M_K_open 24 [(0, .inr (some (ad 14 i))), (1, .inl (nI s))] [] mu4 Q
  refine m_vret dK_open_24 rfl ?_
  refine k mu4 ?_ ?_ ((((mfr_up hmu1 (by simp)).tr (mfr_up hmu2 (by simp))).tr (mfr_up hmu3 (by simp))).tr (mfr_up hmu4 (by simp)))
  · rw [hmu4, up2_s]
    intro q hq
    simp [hq]
  · rw [hmu4, up2_t (by decide), hmu3, up2_s, hmu2, up2_s, hmu1, up2_s]
