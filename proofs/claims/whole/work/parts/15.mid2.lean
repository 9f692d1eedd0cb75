/-! The class's inner methods, on. -/
theorem c_visible {G : oG} {mu : oMu} {Q : oPm} {x y : Int32} {m : Nat} (hm : mu 0 0 4 = nI m) (hm4 : m ≤ 40) (k0 : (∀ j, j < 3 → ¬ x = nI j) → Q (some (.inl (nI 0))) mu) (k1 : ∀ c, c < 3 → x = nI c → (∀ w, w < m → ¬ y = nI w) → Q (some (.inl (nI 0))) mu) (k2 : ∀ c, c < 3 → x = nI c → ∀ w, w < m → y = nI w → mu 8 c w = 0 → Q (some (.inl (nI 0))) mu) (k3 : ∀ c, c < 3 → x = nI c → ∀ w, w < m → y = nI w → ¬ mu 8 c w = 0 → Q (some (.inl (nI 1))) mu) : Om G M_S_visible 0 [(0, .inr (some (ad 0 0))), (1, .inl x), (2, .inl y)] [] mu Q := by
  refine o_iload_n dS_visible_0 rfl ?_
  refine m_callS M_S_isCenter [.inl x] [] dS_visible_1 mk_S_isCenter st_S_isCenter ml_S_150 rfl rfl rfl (Nat.le_of_ble_eq_true rfl) rfl ?_
  refine c_isCenter (fun c hc e => ?_) (fun hx => ?_)
  · skip
    subst e
    show Om G M_S_visible 4 [(0, .inr (some (ad 0 0))), (1, .inl (nI c)), (2, .inl y)] [.inl (nI 1)] mu Q
    refine n_if_eq 33 dS_visible_4 rfl (by omega) (fun h => absurd h (by decide)) (fun _ => ?_)
    refine o_aload_n dS_visible_7 rfl ?_
    refine o_iload_n dS_visible_8 rfl ?_
    refine m_callV M_S_isWrite [.inl y] [] dS_visible_9 mk_S_isWrite in_S_isWrite se_S_isWrite rfl (by decide) rfl rfl ml_S_123 rfl rfl rfl (Nat.le_of_ble_eq_true rfl) rfl ?_
    refine c_isWrite hm hm4 (fun w hw e => ?_) (fun hy => ?_)
    · skip
      subst e
      show Om G M_S_visible 12 [(0, .inr (some (ad 0 0))), (1, .inl (nI c)), (2, .inl (nI w))] [.inl (nI 1)] mu Q
      refine n_if_eq 33 dS_visible_12 rfl (by omega) (fun h => absurd h (by decide)) (fun _ => ?_)
      refine o_aload_n dS_visible_15 rfl ?_
      refine m_getr dS_visible_16 fl_S_17 rfl rfl (by decide) ?_
      refine o_iload_n dS_visible_19 rfl ?_
      refine m_aald c dS_visible_20 rfl rfl rfl (by decide) rfl (sh_q2 hc) ?_
      refine m_getr dS_visible_21 fl_S_165 rfl rfl hc ?_
      refine o_iload_n dS_visible_24 rfl ?_
      refine m_zald w dS_visible_25 rfl rfl rfl hc rfl (by omega) ?_
      refine o_if_eq 33 dS_visible_26 rfl (fun hb26 => ?_) (fun hb26 => ?_)
      · skip
        refine o_iconst (nI 0) dS_visible_33 rfl ?_
        refine m_zret dS_visible_34 rfl rfl ?_
        first | exact k0 hx | exact k1 c hc rfl hy | exact k2 c hc rfl w hw rfl hb26
      · skip
        refine o_iconst (nI 1) dS_visible_29 rfl ?_
        refine o_goto 34 dS_visible_30 rfl ?_
        refine m_zret dS_visible_34 rfl rfl ?_
        exact k3 c hc rfl w hw rfl hb26
    · skip
      show Om G M_S_visible 12 [(0, .inr (some (ad 0 0))), (1, .inl (nI c)), (2, .inl y)] [.inl (nI 0)] mu Q
      refine n_if_eq 33 dS_visible_12 rfl (by omega) (fun _ => ?_) (fun h => absurd h (by decide))
      refine o_iconst (nI 0) dS_visible_33 rfl ?_
      refine m_zret dS_visible_34 rfl rfl ?_
      first | exact k0 hx | exact k1 c hc rfl hy | exact k2 c hc rfl w hw rfl hb26
  · skip
    show Om G M_S_visible 4 [(0, .inr (some (ad 0 0))), (1, .inl x), (2, .inl y)] [.inl (nI 0)] mu Q
    refine n_if_eq 33 dS_visible_4 rfl (by omega) (fun _ => ?_) (fun h => absurd h (by decide))
    refine o_iconst (nI 0) dS_visible_33 rfl ?_
    refine m_zret dS_visible_34 rfl rfl ?_
    first | exact k0 hx | exact k1 c hc rfl hy | exact k2 c hc rfl w hw rfl hb26
def misB (nd : Nat) (d sn : Nat → Nat) (k : Nat) : Bool := nd.testBit k && (d k == 0 || sn (d k - 1) == 0)
def misN (nd : Nat) (d sn : Nat → Nat) : Nat → Nat
  | 0 => 0
  | k + 1 => if misB nd d sn k = true then misN nd d sn k + 1 else misN nd d sn k
def sOk (mu : oMu) (c : Nat) (sn : Nat → Nat) : Prop := ∀ w, w < 40 → mu 8 c w = nI (sn w) ∧ sn w < 2
theorem sOk.z {mu : oMu} {c w : Nat} {sn : Nat → Nat} (h : sOk mu c sn) (hw : w < 40) : mu 8 c w = 0 ↔ sn w = 0 := by
  have h1 := h w hw
  rw [h1.1]
  exact nI_eq (b := 0) (by omega) (by decide)
theorem l_missingNeeds {G : oG} {mu : oMu} {Q : oPm} {m : Nat} {ky vr nd : Nat → Nat} {dp : Nat → Nat → Nat} (hW : wOk mu m ky vr nd dp) {c w : Nat} {sn : Nat → Nat} (hc : c < 3) (hw : w < m) (hs : sOk mu c sn) (j : Nat) (hj : j ≤ 6) (k : Q (some (.inl (nI (misN (nd w) (dp w) sn 6)))) mu) : Om G M_S_missingNeeds 5 [(0, .inr (some (ad 0 0))), (1, .inl (nI c)), (2, .inl (nI w)), (3, .inl (nI (misN (nd w) (dp w) sn j))), (4, .inl (nI j))] [] mu Q := by
  have hm4 := hW.m4
  have hw4 : w < 40 := by omega
  refine o_iload dS_missingNeeds_5 rfl ?_
  refine o_bipush (nI 6) dS_missingNeeds_7 rfl ?_
  refine n_icmp_ge 58 dS_missingNeeds_9 rfl (by omega) (by omega) (fun hb9 => ?_) (fun hb9 => ?_)
  · skip
    have hj6 : j = 6 := by omega
    refine o_iload_n dS_missingNeeds_58 rfl ?_
    refine m_iret dS_missingNeeds_59 rfl ?_
    subst hj6
    exact k
  · skip
    refine o_aload_n dS_missingNeeds_12 rfl ?_
    refine m_getr dS_missingNeeds_13 fl_S_11 rfl rfl (by decide) ?_
    refine o_iload_n dS_missingNeeds_16 rfl ?_
    refine m_aald w dS_missingNeeds_17 rfl rfl rfl (by decide) rfl (sh_q1 hw4) ?_
    refine m_geti dS_missingNeeds_18 fl_S_175 rfl rfl hw4 ?_
    refine o_top (nI (nd w)) (hW.need hw) ?_
    refine o_iload dS_missingNeeds_21 rfl ?_
    refine m_callS M_S_hasKey [.inl (nI (nd w)), .inl (nI j)] [] dS_missingNeeds_23 mk_S_hasKey st_S_hasKey ml_S_186 rfl rfl rfl (Nat.le_of_ble_eq_true rfl) rfl ?_
    refine c_hasKey (hW.needB hw) hb9 (fun hbt => ?_) (fun hbf => ?_)
    · skip
      show Om G M_S_missingNeeds 26 [(0, .inr (some (ad 0 0))), (1, .inl (nI c)), (2, .inl (nI w)), (3, .inl (nI (misN (nd w) (dp w) sn j))), (4, .inl (nI j))] [.inl (nI 1)] mu Q
      refine n_if_eq 52 dS_missingNeeds_26 rfl (by omega) (fun h => absurd h (by decide)) (fun _ => ?_)
      refine o_aload_n dS_missingNeeds_29 rfl ?_
      refine o_iload_n dS_missingNeeds_30 rfl ?_
      refine o_aload_n dS_missingNeeds_31 rfl ?_
      refine m_getr dS_missingNeeds_32 fl_S_11 rfl rfl (by decide) ?_
      refine o_iload_n dS_missingNeeds_35 rfl ?_
      refine m_aald w dS_missingNeeds_36 rfl rfl rfl (by decide) rfl (sh_q1 hw4) ?_
      refine m_getr dS_missingNeeds_37 fl_S_178 rfl rfl hw4 ?_
      refine o_iload dS_missingNeeds_40 rfl ?_
      refine m_iald j dS_missingNeeds_42 rfl rfl rfl hw4 rfl hb9 ?_
      refine o_top (dec (dp w j)) (hW.dep hw hb9) ?_
      refine m_callV M_S_visible [.inl (nI c), .inl (dec (dp w j))] [] dS_missingNeeds_43 mk_S_visible in_S_visible se_S_visible rfl (by decide) rfl rfl ml_S_190 rfl rfl rfl (Nat.le_of_ble_eq_true rfl) rfl ?_
      refine c_visible hW.mm hW.m4 (fun h => ?_) (fun c9 hc9 e9 h => ?_) (fun c9 hc9 e9 u hu eu h => ?_) (fun c9 hc9 e9 u hu eu h => ?_)
      · skip
        exact absurd rfl (h c hc)
      · skip
        have hd0 := dec_no (hW.depB hw hb9) h
        have hmz : dp w j = 0 ∨ sn (dp w j - 1) = 0 := Or.inl hd0
        show Om G M_S_missingNeeds 46 [(0, .inr (some (ad 0 0))), (1, .inl (nI c)), (2, .inl (nI w)), (3, .inl (nI (misN (nd w) (dp w) sn j))), (4, .inl (nI j))] [.inl (nI 0)] mu Q
        refine n_if_ne 52 dS_missingNeeds_46 rfl (by omega) (fun h => absurd h (by decide)) (fun _ => ?_)
        refine o_iinc (nI (misN (nd w) (dp w) sn j + 1)) [(0, _), (1, _), (2, _), (3, _), (4, _)] dS_missingNeeds_49 rfl (nInc _) rfl rfl ?_
        refine o_iinc (nI (j + 1)) [(0, _), (1, _), (2, _), (3, _), (4, _)] dS_missingNeeds_52 rfl (nInc _) rfl rfl ?_
        refine o_goto 5 dS_missingNeeds_55 rfl ?_
        rw [show misN (nd w) (dp w) sn j + 1 = misN (nd w) (dp w) sn (j + 1) by rw [misN, if_pos (by simp [misB, hbt, hmz])]]
        exact l_missingNeeds hW hc hw hs (j + 1) (by omega) k
      · skip
        have hd1 := dec_nI (hW.depB hw hb9) hW.m4 hu eu
        obtain rfl : c = c9 := (nI_eq (by omega) (by omega)).mp e9
        have hmz : dp w j = 0 ∨ sn (dp w j - 1) = 0 := Or.inr (by rw [hd1]; exact (hs.z (by omega)).mp h)
        show Om G M_S_missingNeeds 46 [(0, .inr (some (ad 0 0))), (1, .inl (nI c)), (2, .inl (nI w)), (3, .inl (nI (misN (nd w) (dp w) sn j))), (4, .inl (nI j))] [.inl (nI 0)] mu Q
        refine n_if_ne 52 dS_missingNeeds_46 rfl (by omega) (fun h => absurd h (by decide)) (fun _ => ?_)
        refine o_iinc (nI (misN (nd w) (dp w) sn j + 1)) [(0, _), (1, _), (2, _), (3, _), (4, _)] dS_missingNeeds_49 rfl (nInc _) rfl rfl ?_
        refine o_iinc (nI (j + 1)) [(0, _), (1, _), (2, _), (3, _), (4, _)] dS_missingNeeds_52 rfl (nInc _) rfl rfl ?_
        refine o_goto 5 dS_missingNeeds_55 rfl ?_
        rw [show misN (nd w) (dp w) sn j + 1 = misN (nd w) (dp w) sn (j + 1) by rw [misN, if_pos (by simp [misB, hbt, hmz])]]
        exact l_missingNeeds hW hc hw hs (j + 1) (by omega) k
      · skip
        have hd1 := dec_nI (hW.depB hw hb9) hW.m4 hu eu
        obtain rfl : c = c9 := (nI_eq (by omega) (by omega)).mp e9
        have hmz : ¬ dp w j = 0 ∧ ¬ sn (dp w j - 1) = 0 := ⟨by omega, fun z => h ((hs.z (by omega)).mpr (by rw [hd1] at z; exact z))⟩
        show Om G M_S_missingNeeds 46 [(0, .inr (some (ad 0 0))), (1, .inl (nI c)), (2, .inl (nI w)), (3, .inl (nI (misN (nd w) (dp w) sn j))), (4, .inl (nI j))] [.inl (nI 1)] mu Q
        refine n_if_ne 52 dS_missingNeeds_46 rfl (by omega) (fun _ => ?_) (fun h => absurd h (by decide))
        refine o_iinc (nI (j + 1)) [(0, _), (1, _), (2, _), (3, _), (4, _)] dS_missingNeeds_52 rfl (nInc _) rfl rfl ?_
        refine o_goto 5 dS_missingNeeds_55 rfl ?_
        rw [show misN (nd w) (dp w) sn j = misN (nd w) (dp w) sn (j + 1) by rw [misN, if_neg (by first | (simp [misB, hbf]; done) | (simp [misB, hbt, hmz]))]]
        exact l_missingNeeds hW hc hw hs (j + 1) (by omega) k
    · skip
      show Om G M_S_missingNeeds 26 [(0, .inr (some (ad 0 0))), (1, .inl (nI c)), (2, .inl (nI w)), (3, .inl (nI (misN (nd w) (dp w) sn j))), (4, .inl (nI j))] [.inl (nI 0)] mu Q
      refine n_if_eq 52 dS_missingNeeds_26 rfl (by omega) (fun _ => ?_) (fun h => absurd h (by decide))
      refine o_iinc (nI (j + 1)) [(0, _), (1, _), (2, _), (3, _), (4, _)] dS_missingNeeds_52 rfl (nInc _) rfl rfl ?_
      refine o_goto 5 dS_missingNeeds_55 rfl ?_
      rw [show misN (nd w) (dp w) sn j = misN (nd w) (dp w) sn (j + 1) by rw [misN, if_neg (by first | (simp [misB, hbf]; done) | (simp [misB, hbt, hmz]))]]
      exact l_missingNeeds hW hc hw hs (j + 1) (by omega) k
termination_by 6 - j
theorem c_missingNeeds {G : oG} {mu : oMu} {Q : oPm} {m : Nat} {ky vr nd : Nat → Nat} {dp : Nat → Nat → Nat} (hW : wOk mu m ky vr nd dp) {c w : Nat} {sn : Nat → Nat} (hc : c < 3) (hw : w < m) (hs : sOk mu c sn) (k : Q (some (.inl (nI (misN (nd w) (dp w) sn 6)))) mu) : Om G M_S_missingNeeds 0 [(0, .inr (some (ad 0 0))), (1, .inl (nI c)), (2, .inl (nI w))] [] mu Q := by
  refine o_iconst (nI 0) dS_missingNeeds_0 rfl ?_
  refine o_istore_n [(0, _), (1, _), (2, _), (3, _)] dS_missingNeeds_1 rfl rfl ?_
  refine o_iconst (nI 0) dS_missingNeeds_2 rfl ?_
  refine o_istore [(0, _), (1, _), (2, _), (3, _), (4, _)] dS_missingNeeds_3 rfl rfl ?_
  exact l_missingNeeds hW hc hw hs 0 (by omega) k
def dueN (h : Nat → Nat) (dp : Nat → Nat → Nat) (vr : Nat → Nat) (q : Nat) : Nat → Nat
  | 0 => h q
  | j + 1 => if h j = 0 then dueN h dp vr q j else gr vr (dueN h dp vr q j) (dp (h j - 1) q)
theorem dueN_le {h vr : Nat → Nat} {dp : Nat → Nat → Nat} {q m : Nat} (hq : q < 6) (hh : ∀ k, k < 6 → h k ≤ m) (hd : ∀ w, w < m → dp w q ≤ m) : ∀ j, j ≤ 6 → dueN h dp vr q j ≤ m
  | 0, _ => hh q hq
  | j + 1, hj => by
    have ih := dueN_le (vr := vr) hq hh hd j (by omega)
    have h1 := hh j (by omega)
    rw [dueN]
    split
    · exact ih
    · exact gr_le ih (hd _ (by omega))
theorem l_dueWrite {G : oG} {mu : oMu} {Q : oPm} {m : Nat} {ky vr nd : Nat → Nat} {dp : Nat → Nat → Nat} (hW : wOk mu m ky vr nd dp) {i q : Nat} {h : Nat → Nat} (hi : i < 6) (hq : q < 6) (hh : xOk mu 16 i m h) (j : Nat) (hj : j ≤ 6) (k : Q (some (.inl (dec (dueN h dp vr q 6)))) mu) : Om G M_S_dueWrite 7 [(0, .inr (some (ad 0 0))), (1, .inr (some (ad 16 i))), (2, .inl (nI q)), (3, .inl (dec (dueN h dp vr q j))), (4, .inl (nI j))] [] mu Q := by
  refine o_iload dS_dueWrite_7 rfl ?_
  refine o_bipush (nI 6) dS_dueWrite_9 rfl ?_
  refine n_icmp_ge 51 dS_dueWrite_11 rfl (by omega) (by omega) (fun hb11 => ?_) (fun hb11 => ?_)
  · skip
    have hj6 : j = 6 := by omega
    refine o_iload_n dS_dueWrite_51 rfl ?_
    refine m_iret dS_dueWrite_52 rfl ?_
    subst hj6
    exact k
  · skip
    refine o_aload_n dS_dueWrite_14 rfl ?_
    refine o_aload_n dS_dueWrite_15 rfl ?_
    refine o_iload dS_dueWrite_16 rfl ?_
    refine m_iald j dS_dueWrite_18 rfl rfl rfl hi rfl hb11 ?_
    refine o_top (dec (h j)) (hh j hb11).1 ?_
    refine m_callV M_S_isWrite [.inl (dec (h j))] [] dS_dueWrite_19 mk_S_isWrite in_S_isWrite se_S_isWrite rfl (by decide) rfl rfl ml_S_123 rfl rfl rfl (Nat.le_of_ble_eq_true rfl) rfl ?_
    refine c_isWriteD hW.mm hW.m4 (hh j hb11).2 (fun w hw e => ?_) (fun e => ?_)
    · skip
      have hm4 := hW.m4
      show Om G M_S_dueWrite 22 [(0, .inr (some (ad 0 0))), (1, .inr (some (ad 16 i))), (2, .inl (nI q)), (3, .inl (dec (dueN h dp vr q j))), (4, .inl (nI j))] [.inl (nI 1)] mu Q
      refine n_if_eq 45 dS_dueWrite_22 rfl (by omega) (fun h => absurd h (by decide)) (fun _ => ?_)
      refine o_aload_n dS_dueWrite_25 rfl ?_
      refine o_iload_n dS_dueWrite_26 rfl ?_
      refine o_aload_n dS_dueWrite_27 rfl ?_
      refine m_getr dS_dueWrite_28 fl_S_11 rfl rfl (by decide) ?_
      refine o_aload_n dS_dueWrite_31 rfl ?_
      refine o_iload dS_dueWrite_32 rfl ?_
      refine m_iald j dS_dueWrite_34 rfl rfl rfl hi rfl hb11 ?_
      refine o_top (nI w) ((hh j hb11).1.trans (by rw [e]; rfl)) ?_
      refine m_aald w dS_dueWrite_35 rfl rfl rfl (by decide) rfl (sh_q1 (by omega)) ?_
      refine m_getr dS_dueWrite_36 fl_S_178 rfl rfl (show w < 40 by omega) ?_
      refine o_iload_n dS_dueWrite_39 rfl ?_
      refine m_iald q dS_dueWrite_40 rfl rfl rfl (show w < 40 by omega) rfl hq ?_
      refine o_top (dec (dp w q)) (hW.dep hw hq) ?_
      refine m_callV M_S_greater [.inl (dec (dueN h dp vr q j)), .inl (dec (dp w q))] [] dS_dueWrite_41 mk_S_greater in_S_greater se_S_greater rfl (by decide) rfl rfl ml_S_179 rfl rfl rfl (Nat.le_of_ble_eq_true rfl) rfl ?_
      refine c_greater (a := dueN h dp vr q j) (c := dp w q) hW.mm hW.m4 hW.ver hW.verB (dueN_le hq (fun z hz => (hh z hz).2) (fun u hu => hW.depB hu hq) j hj) (hW.depB hw hq) ?_
      show Om G M_S_dueWrite 44 [(0, .inr (some (ad 0 0))), (1, .inr (some (ad 16 i))), (2, .inl (nI q)), (3, .inl (dec (dueN h dp vr q j))), (4, .inl (nI j))] [.inl (dec (gr vr (dueN h dp vr q j) (dp w q)))] mu Q
      refine o_istore_n [(0, _), (1, _), (2, _), (3, _), (4, _)] dS_dueWrite_44 rfl rfl ?_
      refine o_iinc (nI (j + 1)) [(0, _), (1, _), (2, _), (3, _), (4, _)] dS_dueWrite_45 rfl (nInc _) rfl rfl ?_
      refine o_goto 7 dS_dueWrite_48 rfl ?_
      rw [show gr vr (dueN h dp vr q j) (dp w q) = dueN h dp vr q (j + 1) by rw [dueN, if_neg (by omega), e]; rfl]
      exact l_dueWrite hW hi hq hh (j + 1) (by omega) k
    · skip
      show Om G M_S_dueWrite 22 [(0, .inr (some (ad 0 0))), (1, .inr (some (ad 16 i))), (2, .inl (nI q)), (3, .inl (dec (dueN h dp vr q j))), (4, .inl (nI j))] [.inl (nI 0)] mu Q
      refine n_if_eq 45 dS_dueWrite_22 rfl (by omega) (fun _ => ?_) (fun h => absurd h (by decide))
      refine o_iinc (nI (j + 1)) [(0, _), (1, _), (2, _), (3, _), (4, _)] dS_dueWrite_45 rfl (nInc _) rfl rfl ?_
      refine o_goto 7 dS_dueWrite_48 rfl ?_
      rw [show dueN h dp vr q j = dueN h dp vr q (j + 1) by rw [dueN, if_pos e]]
      exact l_dueWrite hW hi hq hh (j + 1) (by omega) k
termination_by 6 - j
theorem c_dueWrite {G : oG} {mu : oMu} {Q : oPm} {m : Nat} {ky vr nd : Nat → Nat} {dp : Nat → Nat → Nat} (hW : wOk mu m ky vr nd dp) {i q : Nat} {h : Nat → Nat} (hi : i < 6) (hq : q < 6) (hh : xOk mu 16 i m h) (k : Q (some (.inl (dec (dueN h dp vr q 6)))) mu) : Om G M_S_dueWrite 0 [(0, .inr (some (ad 0 0))), (1, .inr (some (ad 16 i))), (2, .inl (nI q))] [] mu Q := by
  refine o_aload_n dS_dueWrite_0 rfl ?_
  refine o_iload_n dS_dueWrite_1 rfl ?_
  refine m_iald q dS_dueWrite_2 rfl rfl rfl hi rfl hq ?_
  refine o_top (dec (h q)) (hh q hq).1 ?_
  refine o_istore_n [(0, _), (1, _), (2, _), (3, _)] dS_dueWrite_3 rfl rfl ?_
  refine o_iconst (nI 0) dS_dueWrite_4 rfl ?_
  refine o_istore [(0, _), (1, _), (2, _), (3, _), (4, _)] dS_dueWrite_5 rfl rfl ?_
  exact l_dueWrite hW hi hq hh 0 (by omega) k
set_option maxRecDepth 100000 in
theorem b_clr : ∀ l, l < 64 → ∀ j, j < 6 → nI l &&& ((nI 1 <<< (nI j &&& 31)) ^^^ (-1)) = nI (l &&& (63 - 2 ^ j)) ∧ l &&& (63 - 2 ^ j) < 64 := by decide +kernel
theorem b_bits : ∀ l, l < 64 → (∀ k, k < 6 → l.testBit k = false) → l = 0 := by decide +kernel
theorem l_readLowestKey {G : oG} {mu : oMu} {Q : oPm} {m : Nat} {ky vr nd : Nat → Nat} {dp : Nat → Nat → Nat} (hW : wOk mu m ky vr nd dp) {i c l r : Nat} {nw du : Nat → Nat} (hi : i < 6) (hc : c < 3) (hcen : mu 14 i 0 = nI c) (hl : mu 14 i 5 = nI l) (hl6 : l < 64) (hl0 : ¬ l = 0) (hr : mu 14 i 6 = nI r) (hr3 : r < 3) (hnw : xOk mu 9 c m nw) (hdu : xOk mu 17 i m du) (j : Nat) (hj : j ≤ 6) (hlo : ∀ b, b < j → l.testBit b = false) (k : ∀ j, j < 6 → l.testBit j = true → (∀ b, b < j → l.testBit b = false) → ∀ mu' : oMu, mu' 16 i = upd (mu 16 i) j (dec (if r = 1 then nw j else du j)) → mu' 14 i = upd (mu 14 i) 5 (nI (l &&& (63 - 2 ^ j))) → mfr [(14, i), (16, i)] mu mu' → Q none mu') : Om G M_S_readLowestKey 2 [(0, .inr (some (ad 0 0))), (1, .inr (some (ad 14 i))), (2, .inl (nI j))] [] mu Q := by
  refine o_iload_n dS_readLowestKey_2 rfl ?_
  refine o_bipush (nI 6) dS_readLowestKey_3 rfl ?_
  refine n_icmp_ge 77 dS_readLowestKey_5 rfl (by omega) (by omega) (fun hb5 => ?_) (fun hb5 => ?_)
  · skip
    obtain rfl : j = 6 := by omega
    exact absurd (b_bits l hl6 hlo) hl0
  · skip
    refine o_aload_n dS_readLowestKey_8 rfl ?_
    refine m_geti dS_readLowestKey_9 fl_S_98 rfl rfl hi ?_
    refine o_top (nI l) hl ?_
    refine o_iload_n dS_readLowestKey_12 rfl ?_
    refine m_callS M_S_hasKey [.inl (nI l), .inl (nI j)] [] dS_readLowestKey_13 mk_S_hasKey st_S_hasKey ml_S_186 rfl rfl rfl (Nat.le_of_ble_eq_true rfl) rfl ?_
    refine c_hasKey hl6 hb5 (fun hbt => ?_) (fun hbf => ?_)
    · skip
      show Om G M_S_readLowestKey 16 [(0, .inr (some (ad 0 0))), (1, .inr (some (ad 14 i))), (2, .inl (nI j))] [.inl (nI 1)] mu Q
      refine n_if_eq 71 dS_readLowestKey_16 rfl (by omega) (fun h => absurd h (by decide)) (fun _ => ?_)
      refine o_aload_n dS_readLowestKey_19 rfl ?_
      refine m_geti dS_readLowestKey_20 fl_S_101 rfl rfl hi ?_
      refine o_top (nI r) hr ?_
      refine o_iconst (nI 1) dS_readLowestKey_23 rfl ?_
      refine n_icmp_ne 42 dS_readLowestKey_24 rfl (by omega) (by omega) (fun hb24 => ?_) (fun hb24 => ?_)
      · skip
        refine o_aload_n dS_readLowestKey_42 rfl ?_
        refine m_getr dS_readLowestKey_43 fl_S_193 rfl rfl hi ?_
        refine o_astore_n [(0, _), (1, _), (2, _), (3, _)] dS_readLowestKey_46 rfl rfl ?_
        refine o_aload_n dS_readLowestKey_47 rfl ?_
        refine m_getr dS_readLowestKey_48 fl_S_116 rfl rfl hi ?_
        refine o_iload_n dS_readLowestKey_51 rfl ?_
        refine o_aload_n dS_readLowestKey_52 rfl ?_
        refine o_iload_n dS_readLowestKey_53 rfl ?_
        refine m_iald j dS_readLowestKey_54 rfl rfl rfl hi rfl hb5 ?_
        refine m_iast j dS_readLowestKey_55 rfl rfl rfl hi rfl hb5 (fun mu1 hmu1 => ?_)
        refine o_aload_n dS_readLowestKey_56 rfl ?_
        refine o_dup dS_readLowestKey_57 ?_
        refine m_geti dS_readLowestKey_58 fl_S_98 rfl rfl hi ?_
        refine o_top (nI l) (by rw [hmu1, up2_t (by decide)]; exact hl) ?_
        refine o_iconst (nI 1) dS_readLowestKey_61 rfl ?_
        refine o_iload_n dS_readLowestKey_62 rfl ?_
        refine o_ishl dS_readLowestKey_63 ?_
        refine o_iconst (-1) dS_readLowestKey_64 rfl ?_
        refine o_ixor dS_readLowestKey_65 ?_
        refine o_iand dS_readLowestKey_66 ?_
        refine o_top (nI (l &&& (63 - 2 ^ j))) (b_clr l hl6 j hb5).1 ?_
        refine m_puti dS_readLowestKey_67 fs_S_98 rfl rfl hi (fun mu2 hmu2 => ?_)
        refine m_vret dS_readLowestKey_70 rfl ?_
        refine k j hb5 hbt hlo mu2 ?_ (by rw [hmu2, up2_s, hmu1, up2_t (by decide)]) ((mfr_up hmu1 (by simp)).tr (mfr_up hmu2 (by simp)))
        rw [hmu2, up2_t (by decide), hmu1, up2_s]
        first | rw [if_pos hb24, (hnw j hb5).1] | rw [if_neg hb24, (hdu j hb5).1]
      · skip
        refine o_aload_n dS_readLowestKey_27 rfl ?_
        refine m_getr dS_readLowestKey_28 fl_S_17 rfl rfl (by decide) ?_
        refine o_aload_n dS_readLowestKey_31 rfl ?_
        refine m_geti dS_readLowestKey_32 fl_S_58 rfl rfl hi ?_
        refine o_top (nI c) hcen ?_
        refine m_aald c dS_readLowestKey_35 rfl rfl rfl (by decide) rfl (sh_q2 hc) ?_
        refine m_getr dS_readLowestKey_36 fl_S_88 rfl rfl hc ?_
        refine o_goto 46 dS_readLowestKey_39 rfl ?_
        refine o_astore_n [(0, _), (1, _), (2, _), (3, _)] dS_readLowestKey_46 rfl rfl ?_
        refine o_aload_n dS_readLowestKey_47 rfl ?_
        refine m_getr dS_readLowestKey_48 fl_S_116 rfl rfl hi ?_
        refine o_iload_n dS_readLowestKey_51 rfl ?_
        refine o_aload_n dS_readLowestKey_52 rfl ?_
        refine o_iload_n dS_readLowestKey_53 rfl ?_
        refine m_iald j dS_readLowestKey_54 rfl rfl rfl hc rfl hb5 ?_
        refine m_iast j dS_readLowestKey_55 rfl rfl rfl hi rfl hb5 (fun mu1 hmu1 => ?_)
        refine o_aload_n dS_readLowestKey_56 rfl ?_
        refine o_dup dS_readLowestKey_57 ?_
        refine m_geti dS_readLowestKey_58 fl_S_98 rfl rfl hi ?_
        refine o_top (nI l) (by rw [hmu1, up2_t (by decide)]; exact hl) ?_
        refine o_iconst (nI 1) dS_readLowestKey_61 rfl ?_
        refine o_iload_n dS_readLowestKey_62 rfl ?_
        refine o_ishl dS_readLowestKey_63 ?_
        refine o_iconst (-1) dS_readLowestKey_64 rfl ?_
        refine o_ixor dS_readLowestKey_65 ?_
        refine o_iand dS_readLowestKey_66 ?_
        refine o_top (nI (l &&& (63 - 2 ^ j))) (b_clr l hl6 j hb5).1 ?_
        refine m_puti dS_readLowestKey_67 fs_S_98 rfl rfl hi (fun mu2 hmu2 => ?_)
        refine m_vret dS_readLowestKey_70 rfl ?_
        refine k j hb5 hbt hlo mu2 ?_ (by rw [hmu2, up2_s, hmu1, up2_t (by decide)]) ((mfr_up hmu1 (by simp)).tr (mfr_up hmu2 (by simp)))
        rw [hmu2, up2_t (by decide), hmu1, up2_s]
        first | rw [if_pos hb24, (hnw j hb5).1] | rw [if_neg hb24, (hdu j hb5).1]
    · skip
      show Om G M_S_readLowestKey 16 [(0, .inr (some (ad 0 0))), (1, .inr (some (ad 14 i))), (2, .inl (nI j))] [.inl (nI 0)] mu Q
      refine n_if_eq 71 dS_readLowestKey_16 rfl (by omega) (fun _ => ?_) (fun h => absurd h (by decide))
      refine o_iinc (nI (j + 1)) [(0, _), (1, _), (2, _)] dS_readLowestKey_71 rfl (nInc _) rfl rfl ?_
      refine o_goto 2 dS_readLowestKey_74 rfl ?_
      exact l_readLowestKey hW hi hc hcen hl hl6 hl0 hr hr3 hnw hdu (j + 1) (by omega) (fun b hb => by
        by_cases hbj : b = j
        · rw [hbj]; exact hbf
        · exact hlo b (by omega)) k
termination_by 6 - j
theorem c_readLowestKey {G : oG} {mu : oMu} {Q : oPm} {m : Nat} {ky vr nd : Nat → Nat} {dp : Nat → Nat → Nat} (hW : wOk mu m ky vr nd dp) {i c l r : Nat} {nw du : Nat → Nat} (hi : i < 6) (hc : c < 3) (hcen : mu 14 i 0 = nI c) (hl : mu 14 i 5 = nI l) (hl6 : l < 64) (hl0 : ¬ l = 0) (hr : mu 14 i 6 = nI r) (hr3 : r < 3) (hnw : xOk mu 9 c m nw) (hdu : xOk mu 17 i m du) (k : ∀ j, j < 6 → l.testBit j = true → (∀ b, b < j → l.testBit b = false) → ∀ mu' : oMu, mu' 16 i = upd (mu 16 i) j (dec (if r = 1 then nw j else du j)) → mu' 14 i = upd (mu 14 i) 5 (nI (l &&& (63 - 2 ^ j))) → mfr [(14, i), (16, i)] mu mu' → Q none mu') : Om G M_S_readLowestKey 0 [(0, .inr (some (ad 0 0))), (1, .inr (some (ad 14 i)))] [] mu Q := by
  refine o_iconst (nI 0) dS_readLowestKey_0 rfl ?_
  refine o_istore_n [(0, _), (1, _), (2, _)] dS_readLowestKey_1 rfl rfl ?_
  exact l_readLowestKey hW hi hc hcen hl hl6 hl0 hr hr3 hnw hdu 0 (by omega) (fun b hb => absurd hb (by omega)) k
def secN (h : Nat → Nat) (dp : Nat → Nat → Nat) (vr : Nat → Nat) (s : Nat) : Nat → Nat
  | 0 => 0
  | j + 1 => if s.testBit j = true ∧ ¬ dueN h dp vr j 6 = h j then secN h dp vr s j ||| 1 <<< j else secN h dp vr s j
theorem secN_lt {h vr : Nat → Nat} {dp : Nat → Nat → Nat} {s : Nat} : ∀ j, j ≤ 6 → secN h dp vr s j < 64
  | 0, _ => (by decide : 0 < 64)
  | j + 1, hj => by
    have ih := secN_lt (h := h) (vr := vr) (dp := dp) (s := s) j (by omega)
    rw [secN]
    split
    · exact (b_or _ ih j (by omega)).2
    · exact ih
theorem upd_upd {f : Nat → Int32} {k : Nat} {a b : Int32} : upd (upd f k a) k b = upd f k b := by
  funext q
  by_cases hq : q = k <;> simp [upd, hq]
theorem upd_self {f : Nat → Int32} {k : Nat} {a : Int32} (h : f k = a) : upd f k a = f := by
  funext q
  by_cases hq : q = k
  · subst hq; simp [upd, h]
  · simp [upd, hq]
def dY (du h : Nat → Nat) (dp : Nat → Nat → Nat) (vr : Nat → Nat) (j : Nat) : Nat → Nat := fun q => if q < j then dueN h dp vr q 6 else du q
theorem dY_0 {du h vr : Nat → Nat} {dp : Nat → Nat → Nat} : dY du h dp vr 0 = du := by
  funext q
  simp [dY]
theorem l_prepareSecondRound {G : oG} {mu : oMu} {Q : oPm} {m : Nat} {ky vr nd : Nat → Nat} {dp : Nat → Nat → Nat} (hW : wOk mu m ky vr nd dp) {i s : Nat} {h du : Nat → Nat} (hi : i < 6) (hh : xOk mu 16 i m h) (hs6 : s < 64) {g : Nat → Int32} (j : Nat) (hj : j ≤ 6) (hgs : g 4 = nI s) (hg : mu 14 i = upd g 5 (nI (secN h dp vr s j))) (hd : xOk mu 17 i m (dY du h dp vr j)) (k0 : secN h dp vr s 6 = 0 → ∀ mu' : oMu, xOk mu' 17 i m (fun q => dueN h dp vr q 6) → mu' 14 i = upd g 5 (nI 0) → mfr [(14, i), (17, i)] mu mu' → Q none mu') (k1 : ¬ secN h dp vr s 6 = 0 → ∀ mu' : oMu, xOk mu' 17 i m (fun q => dueN h dp vr q 6) → mu' 14 i = upd (upd g 5 (nI (secN h dp vr s 6))) 6 (nI 2) → mfr [(14, i), (17, i)] mu mu' → Q none mu') : Om G M_S_prepareSecondRound 2 [(0, .inr (some (ad 0 0))), (1, .inr (some (ad 14 i))), (2, .inl (nI j))] [] mu Q := by
  refine o_iload_n dS_prepareSecondRound_2 rfl ?_
  refine o_bipush (nI 6) dS_prepareSecondRound_3 rfl ?_
  refine n_icmp_ge 67 dS_prepareSecondRound_5 rfl (by omega) (by omega) (fun hb5 => ?_) (fun hb5 => ?_)
  · skip
    refine o_aload_n dS_prepareSecondRound_67 rfl ?_
    obtain rfl : j = 6 := by omega
    have hsl := secN_lt (h := h) (vr := vr) (dp := dp) (s := s) 6 (Nat.le_refl _)
    have hd6 : xOk mu 17 i m (fun q => dueN h dp vr q 6) := fun q hq => by
      have h1 := hd q hq
      simp only [dY, hq, if_true] at h1
      exact h1
    refine m_geti dS_prepareSecondRound_68 fl_S_98 rfl rfl hi ?_
    refine o_top (nI (secN h dp vr s 6)) (by rw [hg]; simp [upd]) ?_
    refine n_if_eq 79 dS_prepareSecondRound_71 rfl (by omega) (fun hb71 => ?_) (fun hb71 => ?_)
    · skip
      refine m_vret dS_prepareSecondRound_79 rfl ?_
      exact k0 hb71 mu hd6 (by rw [hg, hb71]) mfr_rf
    · skip
      refine o_aload_n dS_prepareSecondRound_74 rfl ?_
      refine o_iconst (nI 2) dS_prepareSecondRound_75 rfl ?_
      refine m_puti dS_prepareSecondRound_76 fs_S_101 rfl rfl hi (fun mu1 hmu1 => ?_)
      refine m_vret dS_prepareSecondRound_79 rfl ?_
      exact k1 hb71 mu1 (hd6.fr (mfr_up (L := [(14, i)]) hmu1 (by simp)) (by simp)) (by rw [hmu1, up2_s, hg]) (mfr_up hmu1 (by simp))
  · skip
    refine o_aload_n dS_prepareSecondRound_8 rfl ?_
    refine m_getr dS_prepareSecondRound_9 fl_S_193 rfl rfl hi ?_
    refine o_iload_n dS_prepareSecondRound_12 rfl ?_
    refine o_aload_n dS_prepareSecondRound_13 rfl ?_
    refine o_aload_n dS_prepareSecondRound_14 rfl ?_
    refine m_getr dS_prepareSecondRound_15 fl_S_116 rfl rfl hi ?_
    refine o_iload_n dS_prepareSecondRound_18 rfl ?_
    refine m_callV M_S_dueWrite [.inr (some (ad 16 i)), .inl (nI j)] [.inl (nI j), .inr (some (ad 17 i))] dS_prepareSecondRound_19 mk_S_dueWrite in_S_dueWrite se_S_dueWrite rfl (by decide) rfl rfl ml_S_196 rfl rfl rfl (Nat.le_of_ble_eq_true rfl) rfl ?_
    refine c_dueWrite hW hi hb5 hh ?_
    show Om G M_S_prepareSecondRound 22 [(0, .inr (some (ad 0 0))), (1, .inr (some (ad 14 i))), (2, .inl (nI j))] [.inl (dec (dueN h dp vr j 6)), .inl (nI j), .inr (some (ad 17 i))] mu Q
    refine m_iast j dS_prepareSecondRound_22 rfl rfl rfl hi rfl hb5 (fun mu1 hmu1 => ?_)
    have hf1 := mfr_up (L := [(14, i), (17, i)]) hmu1 (by simp)
    have hdl : dueN h dp vr j 6 ≤ m := dueN_le hb5 (fun z hz => (hh z hz).2) (fun u hu => hW.depB hu hb5) 6 (Nat.le_refl _)
    have hd1 : xOk mu1 17 i m (dY du h dp vr (j + 1)) := hd.step hmu1 hdl (fun q hq => by
      by_cases hqj : q = j
      · subst hqj
        simp [dY]
      · by_cases hql : q < j
        · simp [dY, hqj, hql, Nat.lt_succ_of_lt hql]
        · have h3 : ¬ q < j + 1 := by omega
          simp [dY, hqj, hql, h3])
    refine o_aload_n dS_prepareSecondRound_23 rfl ?_
    refine m_geti dS_prepareSecondRound_24 fl_S_200 rfl rfl hi ?_
    refine o_top (nI s) (by rw [hmu1, up2_t (by decide), hg]; exact hgs) ?_
    refine o_iload_n dS_prepareSecondRound_27 rfl ?_
    refine m_callS M_S_hasKey [.inl (nI s), .inl (nI j)] [] dS_prepareSecondRound_28 mk_S_hasKey st_S_hasKey ml_S_186 rfl rfl rfl (Nat.le_of_ble_eq_true rfl) rfl ?_
    refine c_hasKey hs6 hb5 (fun hbt => ?_) (fun hbf => ?_)
    · skip
      show Om G M_S_prepareSecondRound 31 [(0, .inr (some (ad 0 0))), (1, .inr (some (ad 14 i))), (2, .inl (nI j))] [.inl (nI 1)] mu1 Q
      refine n_if_eq 61 dS_prepareSecondRound_31 rfl (by omega) (fun h => absurd h (by decide)) (fun _ => ?_)
      refine o_aload_n dS_prepareSecondRound_34 rfl ?_
      refine m_getr dS_prepareSecondRound_35 fl_S_193 rfl rfl hi ?_
      refine o_iload_n dS_prepareSecondRound_38 rfl ?_
      refine m_iald j dS_prepareSecondRound_39 rfl rfl rfl hi rfl hb5 ?_
      refine o_top (dec (dueN h dp vr j 6)) ((hd1 j hb5).1.trans (by simp [dY])) ?_
      refine o_aload_n dS_prepareSecondRound_40 rfl ?_
      refine m_getr dS_prepareSecondRound_41 fl_S_116 rfl rfl hi ?_
      refine o_iload_n dS_prepareSecondRound_44 rfl ?_
      refine m_iald j dS_prepareSecondRound_45 rfl rfl rfl hi rfl hb5 ?_
      refine o_top (dec (h j)) (by rw [hmu1, up2_t (by decide)]; exact (hh j hb5).1) ?_
      refine o_icmp_eq 61 dS_prepareSecondRound_46 rfl (fun hb46 => ?_) (fun hb46 => ?_)
      · skip
        have hb46 := (dec_inj hdl (hh j hb5).2 hW.m4).mp hb46
        refine o_iinc (nI (j + 1)) [(0, _), (1, _), (2, _)] dS_prepareSecondRound_61 rfl (nInc _) rfl rfl ?_
        refine o_goto 2 dS_prepareSecondRound_64 rfl ?_
        exact l_prepareSecondRound (du := du) (g := g) (hW.fr hf1 rfl) hi (hh.fr hf1 (by simp)) hs6 (j + 1) (by omega) hgs (by rw [hmu1, up2_t (by decide), hg, secN, if_neg (by first | (intro z; rw [hbf] at z; exact absurd z.1 (by decide)) | exact fun z => z.2 hb46)]) hd1 (fun e9 mu' a b c => k0 e9 mu' a b (hf1.tr c)) (fun e9 mu' a b c => k1 e9 mu' a b (hf1.tr c))
      · skip
        have hb46 : ¬ dueN h dp vr j 6 = h j := fun z => hb46 ((dec_inj hdl (hh j hb5).2 hW.m4).mpr z)
        refine o_aload_n dS_prepareSecondRound_49 rfl ?_
        refine o_dup dS_prepareSecondRound_50 ?_
        refine m_geti dS_prepareSecondRound_51 fl_S_98 rfl rfl hi ?_
        refine o_top (nI (secN h dp vr s j)) (by rw [hmu1, up2_t (by decide), hg]; simp [upd]) ?_
        refine o_iconst (nI 1) dS_prepareSecondRound_54 rfl ?_
        refine o_iload_n dS_prepareSecondRound_55 rfl ?_
        refine o_ishl dS_prepareSecondRound_56 ?_
        refine o_ior dS_prepareSecondRound_57 ?_
        refine o_top (nI (secN h dp vr s j ||| 1 <<< j)) (b_or _ (secN_lt j hj) j hb5).1 ?_
        refine m_puti dS_prepareSecondRound_58 fs_S_98 rfl rfl hi (fun mu2 hmu2 => ?_)
        refine o_iinc (nI (j + 1)) [(0, _), (1, _), (2, _)] dS_prepareSecondRound_61 rfl (nInc _) rfl rfl ?_
        refine o_goto 2 dS_prepareSecondRound_64 rfl ?_
        have hf2 := hf1.tr (mfr_up (L := [(14, i), (17, i)]) hmu2 (by simp))
        exact l_prepareSecondRound (du := du) (g := g) (hW.fr hf2 rfl) hi (hh.fr hf2 (by simp)) hs6 (j + 1) (by omega) hgs (by rw [hmu2, up2_s, hmu1, up2_t (by decide), hg, upd_upd, secN, if_pos ⟨hbt, hb46⟩]) (hd1.fr (mfr_up (L := [(14, i)]) hmu2 (by simp)) (by simp)) (fun e9 mu' a b c => k0 e9 mu' a b (hf2.tr c)) (fun e9 mu' a b c => k1 e9 mu' a b (hf2.tr c))
    · skip
      show Om G M_S_prepareSecondRound 31 [(0, .inr (some (ad 0 0))), (1, .inr (some (ad 14 i))), (2, .inl (nI j))] [.inl (nI 0)] mu1 Q
      refine n_if_eq 61 dS_prepareSecondRound_31 rfl (by omega) (fun _ => ?_) (fun h => absurd h (by decide))
      refine o_iinc (nI (j + 1)) [(0, _), (1, _), (2, _)] dS_prepareSecondRound_61 rfl (nInc _) rfl rfl ?_
      refine o_goto 2 dS_prepareSecondRound_64 rfl ?_
      exact l_prepareSecondRound (du := du) (g := g) (hW.fr hf1 rfl) hi (hh.fr hf1 (by simp)) hs6 (j + 1) (by omega) hgs (by rw [hmu1, up2_t (by decide), hg, secN, if_neg (by first | (intro z; rw [hbf] at z; exact absurd z.1 (by decide)) | exact fun z => z.2 hb46)]) hd1 (fun e9 mu' a b c => k0 e9 mu' a b (hf1.tr c)) (fun e9 mu' a b c => k1 e9 mu' a b (hf1.tr c))
termination_by 6 - j
theorem c_prepareSecondRound {G : oG} {mu : oMu} {Q : oPm} {m : Nat} {ky vr nd : Nat → Nat} {dp : Nat → Nat → Nat} (hW : wOk mu m ky vr nd dp) {i s : Nat} {g : Nat → Int32} {h du : Nat → Nat} (hi : i < 6) (hh : xOk mu 16 i m h) (hs6 : s < 64) (hset : mu 14 i 4 = nI s) (hl : mu 14 i 5 = nI 0) (hg : mu 14 i = g) (hd : xOk mu 17 i m du) (k0 : secN h dp vr s 6 = 0 → ∀ mu' : oMu, xOk mu' 17 i m (fun q => dueN h dp vr q 6) → mu' 14 i = upd g 5 (nI 0) → mfr [(14, i), (17, i)] mu mu' → Q none mu') (k1 : ¬ secN h dp vr s 6 = 0 → ∀ mu' : oMu, xOk mu' 17 i m (fun q => dueN h dp vr q 6) → mu' 14 i = upd (upd g 5 (nI (secN h dp vr s 6))) 6 (nI 2) → mfr [(14, i), (17, i)] mu mu' → Q none mu') : Om G M_S_prepareSecondRound 0 [(0, .inr (some (ad 0 0))), (1, .inr (some (ad 14 i)))] [] mu Q := by
  refine o_iconst (nI 0) dS_prepareSecondRound_0 rfl ?_
  refine o_istore_n [(0, _), (1, _), (2, _)] dS_prepareSecondRound_1 rfl rfl ?_
  exact l_prepareSecondRound (du := du) hW hi hh hs6 0 (by omega) (by rw [← hg]; exact hset) (by rw [hg]; exact (upd_self (by rw [← hg]; exact hl)).symm) (by rw [dY_0]; exact hd) k0 k1
def sF (x h : Nat → Nat) (ky vr : Nat → Nat) (dp : Nat → Nat → Nat) : Nat → Nat → Nat
  | 0 => x
  | j + 1 => if h j = 0 then sF x h ky vr dp j else sX (sF x h ky vr dp j) (dp (h j - 1)) vr (ky (h j - 1)) (h j - 1)
theorem l_seeFetched {G : oG} {mu : oMu} {Q : oPm} {m : Nat} {ky vr nd : Nat → Nat} {dp : Nat → Nat → Nat} (hW : wOk mu m ky vr nd dp) {i : Nat} {x h : Nat → Nat} (hi : i < 6) (hh : xOk mu 16 i m h) (j : Nat) (hj : j ≤ 6) (hx : xOk mu 15 i m (sF x h ky vr dp j)) (k : ∀ mu' : oMu, xOk mu' 15 i m (sF x h ky vr dp 6) → mfr [(15, i)] mu mu' → Q none mu') : Om G M_S_seeFetched 2 [(0, .inr (some (ad 0 0))), (1, .inr (some (ad 14 i))), (2, .inl (nI j))] [] mu Q := by
  refine o_iload_n dS_seeFetched_2 rfl ?_
  refine o_bipush (nI 6) dS_seeFetched_3 rfl ?_
  refine n_icmp_ge 25 dS_seeFetched_5 rfl (by omega) (by omega) (fun hb5 => ?_) (fun hb5 => ?_)
  · skip
    have hj6 : j = 6 := by omega
    refine m_vret dS_seeFetched_25 rfl ?_
    subst hj6
    exact k mu hx mfr_rf
  · skip
    refine o_aload_n dS_seeFetched_8 rfl ?_
    refine o_aload_n dS_seeFetched_9 rfl ?_
    refine o_aload_n dS_seeFetched_10 rfl ?_
    refine m_getr dS_seeFetched_11 fl_S_116 rfl rfl hi ?_
    refine o_iload_n dS_seeFetched_14 rfl ?_
    refine m_iald j dS_seeFetched_15 rfl rfl rfl hi rfl hb5 ?_
    refine o_top (dec (h j)) (hh j hb5).1 ?_
    refine m_callV M_S_see [.inr (some (ad 14 i)), .inl (dec (h j))] [] dS_seeFetched_16 mk_S_see in_S_see se_S_see rfl (by decide) rfl rfl ml_S_84 rfl rfl rfl (Nat.le_of_ble_eq_true rfl) rfl ?_
    refine c_see hW hi (hh j hb5).2 hx (fun e => ?_) (fun w hw e mu1 hx1 hf1 => ?_)
    · skip
      show Om G M_S_seeFetched 19 [(0, .inr (some (ad 0 0))), (1, .inr (some (ad 14 i))), (2, .inl (nI j))] [] mu Q
      refine o_iinc (nI (j + 1)) [(0, _), (1, _), (2, _)] dS_seeFetched_19 rfl (nInc _) rfl rfl ?_
      refine o_goto 2 dS_seeFetched_22 rfl ?_
      exact l_seeFetched hW hi hh (j + 1) (by omega) (by rw [sF, if_pos e]; exact hx) k
    · skip
      show Om G M_S_seeFetched 19 [(0, .inr (some (ad 0 0))), (1, .inr (some (ad 14 i))), (2, .inl (nI j))] [] mu1 Q
      refine o_iinc (nI (j + 1)) [(0, _), (1, _), (2, _)] dS_seeFetched_19 rfl (nInc _) rfl rfl ?_
      refine o_goto 2 dS_seeFetched_22 rfl ?_
      exact l_seeFetched (hW.fr hf1 rfl) hi (hh.fr hf1 (by simp)) (j + 1) (by omega) (by rw [sF, if_neg (by omega), e]; exact hx1) (fun mu' a b => k mu' a (hf1.tr b))
termination_by 6 - j
theorem c_seeFetched {G : oG} {mu : oMu} {Q : oPm} {m : Nat} {ky vr nd : Nat → Nat} {dp : Nat → Nat → Nat} (hW : wOk mu m ky vr nd dp) {i : Nat} {x h : Nat → Nat} (hi : i < 6) (hh : xOk mu 16 i m h) (hx : xOk mu 15 i m x) (k : ∀ mu' : oMu, xOk mu' 15 i m (sF x h ky vr dp 6) → mfr [(15, i)] mu mu' → Q none mu') : Om G M_S_seeFetched 0 [(0, .inr (some (ad 0 0))), (1, .inr (some (ad 14 i)))] [] mu Q := by
  refine o_iconst (nI 0) dS_seeFetched_0 rfl ?_
  refine o_istore_n [(0, _), (1, _), (2, _)] dS_seeFetched_1 rfl rfl ?_
  exact l_seeFetched hW hi hh 0 (by omega) hx k
def snd (c j q : Nat) : Prop := q / 3 = c ∧ ¬ q % 3 = c ∧ q % 3 < j
def rOk (g mu : oMu) (c j w : Nat) (sz : Nat → Nat) : Prop := (∀ q, q < 9 → (snd c j q → mu 18 q = upd (g 18 q) 1 (nI (sz q + 1)) ∧ mu 19 q = upd (g 19 q) (sz q) (nI w)) ∧ (¬ snd c j q → mu 18 q = g 18 q ∧ mu 19 q = g 19 q)) ∧ ∀ t i, ¬ t = 18 → ¬ t = 19 → mu t i = g t i
theorem rOk_eq {g mu : oMu} {c j w : Nat} {sz : Nat → Nat} (hc : c < 3) (h : j = c) (hr : rOk g mu c j w sz) : rOk g mu c (j + 1) w sz := by
  refine ⟨fun q hq => ⟨fun z => (hr.1 q hq).1 ⟨z.1, z.2.1, by have := z.2; omega⟩, fun z => (hr.1 q hq).2 fun y => z ⟨y.1, y.2.1, by have := y.2; omega⟩⟩, hr.2⟩
theorem rOk_ap {g mu mu1 : oMu} {c j w : Nat} {sz : Nat → Nat} (hc : c < 3) (hj : j < 3) (h : ¬ j = c) (hr : rOk g mu c j w sz) (h19 : mu1 19 (c * 3 + j) = upd (mu 19 (c * 3 + j)) (sz (c * 3 + j)) (nI w)) (h18 : mu1 18 (c * 3 + j) = upd (mu 18 (c * 3 + j)) 1 (nI (sz (c * 3 + j) + 1))) (hf : mfr [(18, c * 3 + j), (19, c * 3 + j)] mu mu1) : rOk g mu1 c (j + 1) w sz := by
  refine ⟨fun q hq => ?_, fun t i h1 h2 => (hf t i (by simp [h1, h2])).trans (hr.2 t i h1 h2)⟩
  have hq3 : q / 3 * 3 + q % 3 = q := by omega
  by_cases hqj : q = c * 3 + j
  · subst hqj
    have h3 := (hr.1 (c * 3 + j) hq).2 (fun z => by have := z.2.2; omega)
    refine ⟨fun _ => ?_, fun z => absurd ⟨by omega, by omega, by omega⟩ z⟩
    rw [h18, h19, h3.1, h3.2]
    exact ⟨rfl, rfl⟩
  · rw [hf 18 q (by simp [hqj]), hf 19 q (by simp [hqj])]
    refine ⟨fun z => (hr.1 q hq).1 ⟨z.1, z.2.1, ?_⟩, fun z => (hr.1 q hq).2 fun y => z ⟨y.1, y.2.1, by have := y.2.2; omega⟩⟩
    have := z.1
    have := z.2.2
    omega
theorem l_send {G : oG} {mu : oMu} {Q : oPm} {g : oMu} {c w : Nat} {sz : Nat → Nat} (hc : c < 3) (hsz : ∀ q, q < 9 → g 18 q 1 = nI (sz q) ∧ sz q < 40) (j : Nat) (hj : j ≤ 3) (hr : rOk g mu c j w sz) (k : ∀ mu' : oMu, rOk g mu' c 3 w sz → Q none mu') : Om G M_S_send 2 [(0, .inr (some (ad 0 0))), (1, .inl (nI c)), (2, .inl (nI w)), (3, .inl (nI j))] [] mu Q := by
  refine o_iload_n dS_send_2 rfl ?_
  refine o_iconst (nI 3) dS_send_3 rfl ?_
  refine n_icmp_ge 32 dS_send_4 rfl (by omega) (by omega) (fun hb4 => ?_) (fun hb4 => ?_)
  · skip
    have hj6 : j = 3 := by omega
    refine m_vret dS_send_32 rfl ?_
    subst hj6
    exact k mu hr
  · skip
    refine o_iload_n dS_send_7 rfl ?_
    refine o_iload_n dS_send_8 rfl ?_
    refine n_icmp_eq 26 dS_send_9 rfl (by omega) (by omega) (fun hb9 => ?_) (fun hb9 => ?_)
    · skip
      refine o_iinc (nI (j + 1)) [(0, _), (1, _), (2, _), (3, _)] dS_send_26 rfl (nInc _) rfl rfl ?_
      refine o_goto 2 dS_send_29 rfl ?_
      exact l_send hc hsz (j + 1) (by omega) (rOk_eq hc hb9 hr) k
    · skip
      refine o_aload_n dS_send_12 rfl ?_
      refine m_getr dS_send_13 fl_S_29 rfl rfl (by decide) ?_
      refine o_iload_n dS_send_16 rfl ?_
      refine o_iconst (nI 3) dS_send_17 rfl ?_
      refine o_imul dS_send_18 ?_
      refine o_top _ (pk_mul _ _) ?_
      refine o_iload_n dS_send_19 rfl ?_
      refine o_iadd dS_send_20 ?_
      refine o_top _ (nI_add _ _) ?_
      refine m_aald (c * 3 + j) dS_send_21 rfl rfl rfl (by decide) rfl (sh_q4 (by omega)) ?_
      refine o_iload_n dS_send_22 rfl ?_
      refine m_callV M_R_append [.inl (nI w)] [] dS_send_23 mk_R_append in_R_append se_R_append rfl (show c * 3 + j < 9 by omega) rfl rfl ml_S_147 rfl rfl rfl (Nat.le_of_ble_eq_true rfl) rfl ?_
      refine c_append_18 (i := c * 3 + j) (n := sz (c * 3 + j)) (by omega) (by rw [((hr.1 (c * 3 + j) (by omega)).2 (fun z => by have := z.2.2; omega)).1]; exact (hsz _ (by omega)).1) (Nat.le_of_lt (hsz _ (by omega)).2) (hsz _ (by omega)).2 (fun mu1 h19 h18 hf1 => ?_)
      show Om G M_S_send 26 [(0, .inr (some (ad 0 0))), (1, .inl (nI c)), (2, .inl (nI w)), (3, .inl (nI j))] [] mu1 Q
      refine o_iinc (nI (j + 1)) [(0, _), (1, _), (2, _), (3, _)] dS_send_26 rfl (nInc _) rfl rfl ?_
      refine o_goto 2 dS_send_29 rfl ?_
      exact l_send hc hsz (j + 1) (by omega) (rOk_ap hc hb4 hb9 hr h19 h18 hf1) k
termination_by 3 - j
theorem c_send {G : oG} {mu : oMu} {Q : oPm} {c w : Nat} {sz : Nat → Nat} (hc : c < 3) (hsz : ∀ q, q < 9 → mu 18 q 1 = nI (sz q) ∧ sz q < 40) (k : ∀ mu' : oMu, rOk mu mu' c 3 w sz → Q none mu') : Om G M_S_send 0 [(0, .inr (some (ad 0 0))), (1, .inl (nI c)), (2, .inl (nI w))] [] mu Q := by
  refine o_iconst (nI 0) dS_send_0 rfl ?_
  refine o_istore_n [(0, _), (1, _), (2, _), (3, _)] dS_send_1 rfl rfl ?_
  exact l_send hc hsz 0 (by omega) ⟨fun q hq => ⟨fun z => by have := z.2.2; omega, fun _ => ⟨rfl, rfl⟩⟩, fun _ _ _ _ => rfl⟩ k
