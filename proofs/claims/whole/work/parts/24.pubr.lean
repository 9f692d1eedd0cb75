/-! about of the class; the relation of the reference's cells; its looks. -/
theorem sw_out {b : Int32} {n : Nat} (hn : n < 1000) (h : ∀ j, j < n + 1 → ¬ b = nI j) : b.toInt < 0 ∨ (n : Int) < b.toInt := by
  rcases pk_ix b (n := n + 1) (by omega) with h1 | h1 | ⟨j, hj, e⟩
  · exact Or.inl (by simpa using Int32.lt_iff_toInt_lt.mp h1)
  · refine Or.inr ?_
    have h2 := Int32.le_iff_toInt_le.mp h1
    rw [nI_toInt (by omega)] at h2
    omega
  · exact absurd e (h j hj)
theorem C_about_b1 {G : oG} {mu : oMu} {Q : oPm} {m : Nat} {ky vr nd : Nat → Nat} {dp : Nat → Nat → Nat} {vl : Nat → Int32} {sn ck : Nat → Nat → Nat} {wt fl : Nat → List Nat} {x h d : Nat → Nat → Nat} {s l r : Nat → Nat} (hC : ReC mu m ky vr nd dp vl sn ck wt fl x h d s l r) {a b : Int32} (ha : ∀ j, j < m → ¬ a = nI j) (k : Q (some (.inl (nI 0))) mu) : Om G M_S_about 0 [(0, .inr (some (ad 0 0))), (1, .inl a), (2, .inl b)] [] mu Q := by
  refine o_aload_n dS_about_0 rfl ?_
  refine o_iload_n dS_about_1 rfl ?_
  refine m_callV M_S_isWrite [.inl a] [] dS_about_2 mk_S_isWrite in_S_isWrite se_S_isWrite rfl (by decide) rfl rfl ml_S_123 rfl rfl rfl (Nat.le_of_ble_eq_true rfl) rfl ?_
  refine c_isWrite_n hC.fw.mm hC.fw.m4 ha ?_
  show Om G M_S_about 5 [(0, .inr (some (ad 0 0))), (1, .inl a), (2, .inl b)] [.inl (nI 0)] mu Q
  refine n_if_ne 10 dS_about_5 rfl (by omega) (fun h => absurd h (by decide)) (fun _ => ?_)
  refine o_iconst (nI 0) dS_about_8 rfl ?_
  refine m_iret dS_about_9 rfl ?_
  exact k
theorem C_about_0 {G : oG} {mu : oMu} {Q : oPm} {m : Nat} {ky vr nd : Nat → Nat} {dp : Nat → Nat → Nat} {vl : Nat → Int32} {sn ck : Nat → Nat → Nat} {wt fl : Nat → List Nat} {x h d : Nat → Nat → Nat} {s l r : Nat → Nat} (hC : ReC mu m ky vr nd dp vl sn ck wt fl x h d s l r) {w : Nat} (hw : w < m) (k : Q (some (.inl (nI (ky w)))) mu) : Om G M_S_about 0 [(0, .inr (some (ad 0 0))), (1, .inl (nI w)), (2, .inl (nI 0))] [] mu Q := by
  have hm4 := hC.fw.m4
  refine o_aload_n dS_about_0 rfl ?_
  refine o_iload_n dS_about_1 rfl ?_
  refine m_callV M_S_isWrite [.inl (nI w)] [] dS_about_2 mk_S_isWrite in_S_isWrite se_S_isWrite rfl (by decide) rfl rfl ml_S_123 rfl rfl rfl (Nat.le_of_ble_eq_true rfl) rfl ?_
  refine c_isWrite_y hC.fw.mm hC.fw.m4 hw ?_
  show Om G M_S_about 5 [(0, .inr (some (ad 0 0))), (1, .inl (nI w)), (2, .inl (nI 0))] [.inl (nI 1)] mu Q
  refine n_if_ne 10 dS_about_5 rfl (by omega) (fun _ => ?_) (fun h => absurd h (by decide))
  refine o_iload_n dS_about_10 rfl ?_
  refine o_tabIn 40 dS_about_11 (by decide) (by decide) rfl rfl ?_
  refine o_aload_n dS_about_40 rfl ?_
  refine m_getr dS_about_41 fl_S_11 rfl rfl (by decide) ?_
  refine o_iload_n dS_about_44 rfl ?_
  refine m_aald w dS_about_45 rfl rfl rfl (by decide) rfl (sh_q1 (by omega)) ?_
  refine m_geti dS_about_46 fl_S_129 rfl rfl (show w < 40 by omega) ?_
  refine o_top (nI (ky w)) (hC.fw.key hw) ?_
  refine m_iret dS_about_49 rfl ?_
  exact k
theorem C_about_1 {G : oG} {mu : oMu} {Q : oPm} {m : Nat} {ky vr nd : Nat → Nat} {dp : Nat → Nat → Nat} {vl : Nat → Int32} {sn ck : Nat → Nat → Nat} {wt fl : Nat → List Nat} {x h d : Nat → Nat → Nat} {s l r : Nat → Nat} (hC : ReC mu m ky vr nd dp vl sn ck wt fl x h d s l r) {w : Nat} (hw : w < m) (k : Q (some (.inl (nI (vr w)))) mu) : Om G M_S_about 0 [(0, .inr (some (ad 0 0))), (1, .inl (nI w)), (2, .inl (nI 1))] [] mu Q := by
  have hm4 := hC.fw.m4
  refine o_aload_n dS_about_0 rfl ?_
  refine o_iload_n dS_about_1 rfl ?_
  refine m_callV M_S_isWrite [.inl (nI w)] [] dS_about_2 mk_S_isWrite in_S_isWrite se_S_isWrite rfl (by decide) rfl rfl ml_S_123 rfl rfl rfl (Nat.le_of_ble_eq_true rfl) rfl ?_
  refine c_isWrite_y hC.fw.mm hC.fw.m4 hw ?_
  show Om G M_S_about 5 [(0, .inr (some (ad 0 0))), (1, .inl (nI w)), (2, .inl (nI 1))] [.inl (nI 1)] mu Q
  refine n_if_ne 10 dS_about_5 rfl (by omega) (fun _ => ?_) (fun h => absurd h (by decide))
  refine o_iload_n dS_about_10 rfl ?_
  refine o_tabIn 50 dS_about_11 (by decide) (by decide) rfl rfl ?_
  refine o_aload_n dS_about_50 rfl ?_
  refine m_getr dS_about_51 fl_S_11 rfl rfl (by decide) ?_
  refine o_iload_n dS_about_54 rfl ?_
  refine m_aald w dS_about_55 rfl rfl rfl (by decide) rfl (sh_q1 (by omega)) ?_
  refine m_geti dS_about_56 fl_S_169 rfl rfl (show w < 40 by omega) ?_
  refine o_top (nI (vr w)) (hC.fw.ver w hw) ?_
  refine m_iret dS_about_59 rfl ?_
  exact k
theorem C_about_2 {G : oG} {mu : oMu} {Q : oPm} {m : Nat} {ky vr nd : Nat → Nat} {dp : Nat → Nat → Nat} {vl : Nat → Int32} {sn ck : Nat → Nat → Nat} {wt fl : Nat → List Nat} {x h d : Nat → Nat → Nat} {s l r : Nat → Nat} (hC : ReC mu m ky vr nd dp vl sn ck wt fl x h d s l r) {w : Nat} (hw : w < m) (k : Q (some (.inl (vl w))) mu) : Om G M_S_about 0 [(0, .inr (some (ad 0 0))), (1, .inl (nI w)), (2, .inl (nI 2))] [] mu Q := by
  have hm4 := hC.fw.m4
  refine o_aload_n dS_about_0 rfl ?_
  refine o_iload_n dS_about_1 rfl ?_
  refine m_callV M_S_isWrite [.inl (nI w)] [] dS_about_2 mk_S_isWrite in_S_isWrite se_S_isWrite rfl (by decide) rfl rfl ml_S_123 rfl rfl rfl (Nat.le_of_ble_eq_true rfl) rfl ?_
  refine c_isWrite_y hC.fw.mm hC.fw.m4 hw ?_
  show Om G M_S_about 5 [(0, .inr (some (ad 0 0))), (1, .inl (nI w)), (2, .inl (nI 2))] [.inl (nI 1)] mu Q
  refine n_if_ne 10 dS_about_5 rfl (by omega) (fun _ => ?_) (fun h => absurd h (by decide))
  refine o_iload_n dS_about_10 rfl ?_
  refine o_tabIn 60 dS_about_11 (by decide) (by decide) rfl rfl ?_
  refine o_aload_n dS_about_60 rfl ?_
  refine m_getr dS_about_61 fl_S_11 rfl rfl (by decide) ?_
  refine o_iload_n dS_about_64 rfl ?_
  refine m_aald w dS_about_65 rfl rfl rfl (by decide) rfl (sh_q1 (by omega)) ?_
  refine m_geti dS_about_66 fl_S_172 rfl rfl (show w < 40 by omega) ?_
  refine o_top (vl w) (hC.fv hw) ?_
  refine m_iret dS_about_69 rfl ?_
  exact k
theorem C_about_3 {G : oG} {mu : oMu} {Q : oPm} {m : Nat} {ky vr nd : Nat → Nat} {dp : Nat → Nat → Nat} {vl : Nat → Int32} {sn ck : Nat → Nat → Nat} {wt fl : Nat → List Nat} {x h d : Nat → Nat → Nat} {s l r : Nat → Nat} (hC : ReC mu m ky vr nd dp vl sn ck wt fl x h d s l r) {w : Nat} (hw : w < m) (k : Q (some (.inl (nI (nd w)))) mu) : Om G M_S_about 0 [(0, .inr (some (ad 0 0))), (1, .inl (nI w)), (2, .inl (nI 3))] [] mu Q := by
  have hm4 := hC.fw.m4
  refine o_aload_n dS_about_0 rfl ?_
  refine o_iload_n dS_about_1 rfl ?_
  refine m_callV M_S_isWrite [.inl (nI w)] [] dS_about_2 mk_S_isWrite in_S_isWrite se_S_isWrite rfl (by decide) rfl rfl ml_S_123 rfl rfl rfl (Nat.le_of_ble_eq_true rfl) rfl ?_
  refine c_isWrite_y hC.fw.mm hC.fw.m4 hw ?_
  show Om G M_S_about 5 [(0, .inr (some (ad 0 0))), (1, .inl (nI w)), (2, .inl (nI 3))] [.inl (nI 1)] mu Q
  refine n_if_ne 10 dS_about_5 rfl (by omega) (fun _ => ?_) (fun h => absurd h (by decide))
  refine o_iload_n dS_about_10 rfl ?_
  refine o_tabIn 70 dS_about_11 (by decide) (by decide) rfl rfl ?_
  refine o_aload_n dS_about_70 rfl ?_
  refine m_getr dS_about_71 fl_S_11 rfl rfl (by decide) ?_
  refine o_iload_n dS_about_74 rfl ?_
  refine m_aald w dS_about_75 rfl rfl rfl (by decide) rfl (sh_q1 (by omega)) ?_
  refine m_geti dS_about_76 fl_S_175 rfl rfl (show w < 40 by omega) ?_
  refine o_top (nI (nd w)) (hC.fw.need hw) ?_
  refine m_iret dS_about_79 rfl ?_
  exact k
theorem C_about_o {G : oG} {mu : oMu} {Q : oPm} {m : Nat} {ky vr nd : Nat → Nat} {dp : Nat → Nat → Nat} {vl : Nat → Int32} {sn ck : Nat → Nat → Nat} {wt fl : Nat → List Nat} {x h d : Nat → Nat → Nat} {s l r : Nat → Nat} (hC : ReC mu m ky vr nd dp vl sn ck wt fl x h d s l r) {w : Nat} {b : Int32} (hw : w < m) (hb : ∀ j, j < 4 → ¬ b = nI j) (k : Q (some (.inl (nI 0))) mu) : Om G M_S_about 0 [(0, .inr (some (ad 0 0))), (1, .inl (nI w)), (2, .inl b)] [] mu Q := by
  refine o_aload_n dS_about_0 rfl ?_
  refine o_iload_n dS_about_1 rfl ?_
  refine m_callV M_S_isWrite [.inl (nI w)] [] dS_about_2 mk_S_isWrite in_S_isWrite se_S_isWrite rfl (by decide) rfl rfl ml_S_123 rfl rfl rfl (Nat.le_of_ble_eq_true rfl) rfl ?_
  refine c_isWrite_y hC.fw.mm hC.fw.m4 hw ?_
  show Om G M_S_about 5 [(0, .inr (some (ad 0 0))), (1, .inl (nI w)), (2, .inl b)] [.inl (nI 1)] mu Q
  refine n_if_ne 10 dS_about_5 rfl (by omega) (fun _ => ?_) (fun h => absurd h (by decide))
  refine o_iload_n dS_about_10 rfl ?_
  refine o_tabOut 80 dS_about_11 (sw_out (n := 3) (by decide) hb) rfl ?_
  refine o_iconst (nI 0) dS_about_80 rfl ?_
  refine m_iret dS_about_81 rfl ?_
  exact k
def lineOk (mu : oMu) (t t' q : Nat) (L : List Nat) : Prop := mu t 0 q = nI L.length ∧ L.length ≤ 40 ∧ ∀ j, j < L.length → mu t' 0 (40 * q + j) = nI (L.getD j 0)
def ReR (mu : oMu) (m : Nat) (ky vr nd : Nat → Nat) (dp : Nat → Nat → Nat) (vl : Nat → Int32) (sn ck : Nat → Nat → Nat) (wt fl : Nat → List Nat) (x h d : Nat → Nat → Nat) (s l r ph : Nat → Nat) : Prop :=
  vOk mu m ky vr nd dp ∧ (∀ w, w < m → mu 22 0 w = vl w) ∧
  (∀ c, c < 3 → tOk mu c (sn c) ∧ ∀ p, p < 2 → mu 27 0 (2 * c + p) = nI (ck c p)) ∧
  (∀ q, q < 6 → lineOk mu 28 29 q (wt q)) ∧ (∀ q, q < 9 → lineOk mu 30 31 q (fl q)) ∧
  ∀ i, i < 6 → (mu 33 0 i = nI (ph i) ∧ mu 34 0 i = nI (s i) ∧ mu 36 0 i = nI (l i) ∧ mu 35 0 i = nI (r i)) ∧ yOk mu 32 i m (x i) ∧ yOk mu 37 i m (h i) ∧ yOk mu 38 i m (d i)
section RRS
variable {mu : oMu} {m : Nat} {ky vr nd : Nat → Nat} {dp : Nat → Nat → Nat} {vl : Nat → Int32} {sn ck : Nat → Nat → Nat} {wt fl : Nat → List Nat} {x h d : Nat → Nat → Nat} {s l r ph : Nat → Nat}
theorem ReR.fw (hC : ReR mu m ky vr nd dp vl sn ck wt fl x h d s l r ph) : vOk mu m ky vr nd dp := hC.1
theorem ReR.fv (hC : ReR mu m ky vr nd dp vl sn ck wt fl x h d s l r ph) {w : Nat} (hw : w < m) : mu 22 0 w = vl w := hC.2.1 w hw
theorem ReR.fsn (hC : ReR mu m ky vr nd dp vl sn ck wt fl x h d s l r ph) {c : Nat} (hc : c < 3) : tOk mu c (sn c) := (hC.2.2.1 c hc).1
theorem ReR.fck (hC : ReR mu m ky vr nd dp vl sn ck wt fl x h d s l r ph) {c p : Nat} (hc : c < 3) (hp : p < 2) : mu 27 0 (2 * c + p) = nI (ck c p) := (hC.2.2.1 c hc).2 p hp
theorem ReR.fwt (hC : ReR mu m ky vr nd dp vl sn ck wt fl x h d s l r ph) {q : Nat} (hq : q < 6) : lineOk mu 28 29 q (wt q) := hC.2.2.2.1 q hq
theorem ReR.ffl (hC : ReR mu m ky vr nd dp vl sn ck wt fl x h d s l r ph) {q : Nat} (hq : q < 9) : lineOk mu 30 31 q (fl q) := hC.2.2.2.2.1 q hq
theorem ReR.fph (hC : ReR mu m ky vr nd dp vl sn ck wt fl x h d s l r ph) {i : Nat} (hi : i < 6) : mu 33 0 i = nI (ph i) := (hC.2.2.2.2.2 i hi).1.1
theorem ReR.fse (hC : ReR mu m ky vr nd dp vl sn ck wt fl x h d s l r ph) {i : Nat} (hi : i < 6) : mu 34 0 i = nI (s i) := (hC.2.2.2.2.2 i hi).1.2.1
theorem ReR.fle (hC : ReR mu m ky vr nd dp vl sn ck wt fl x h d s l r ph) {i : Nat} (hi : i < 6) : mu 36 0 i = nI (l i) := (hC.2.2.2.2.2 i hi).1.2.2.1
theorem ReR.fro (hC : ReR mu m ky vr nd dp vl sn ck wt fl x h d s l r ph) {i : Nat} (hi : i < 6) : mu 35 0 i = nI (r i) := (hC.2.2.2.2.2 i hi).1.2.2.2
theorem ReR.fx (hC : ReR mu m ky vr nd dp vl sn ck wt fl x h d s l r ph) {i : Nat} (hi : i < 6) : yOk mu 32 i m (x i) := (hC.2.2.2.2.2 i hi).2.1
theorem ReR.fh (hC : ReR mu m ky vr nd dp vl sn ck wt fl x h d s l r ph) {i : Nat} (hi : i < 6) : yOk mu 37 i m (h i) := (hC.2.2.2.2.2 i hi).2.2.1
theorem ReR.fd (hC : ReR mu m ky vr nd dp vl sn ck wt fl x h d s l r ph) {i : Nat} (hi : i < 6) : yOk mu 38 i m (d i) := (hC.2.2.2.2.2 i hi).2.2.2
end RRS
theorem r_out_y {G : oG} {mu : oMu} {Q : oPm} {j n : Nat} (hn : n < 2147483648) (hj : j < n) (k : Q (some (.inl (nI 0))) mu) : Om G M_N_out 0 [(0, .inl (nI j)), (1, .inl (nI n))] [] mu Q := r_out hn (fun h => absurd rfl (h j hj)) (fun _ _ _ => k)
theorem r_out_n {G : oG} {mu : oMu} {Q : oPm} {x : Int32} {n : Nat} (hn : n < 2147483648) (h : ∀ j, j < n → ¬ x = nI j) (k : Q (some (.inl (nI 1))) mu) : Om G M_N_out 0 [(0, .inl x), (1, .inl (nI n))] [] mu Q := r_out hn (fun _ => k) (fun j hj e => absurd e (h j hj))
theorem R_got_b1 {G : oG} {mu : oMu} {Q : oPm} {a b : Int32} (ha : ∀ j, j < 6 → ¬ a = nI j) (k : Q (some (.inl (-1))) mu) : Om G M_N_got 0 [(0, .inr (some (ad 20 0))), (1, .inl a), (2, .inl b)] [] mu Q := by
  refine o_iload_n dN_got_0 rfl ?_
  refine o_bipush (nI 6) dN_got_1 rfl ?_
  refine m_callS M_N_out [.inl a, .inl (nI 6)] [] dN_got_3 mk_N_out st_N_out ml_N_73 rfl rfl rfl (Nat.le_of_ble_eq_true rfl) rfl ?_
  refine r_out_n (by decide) ha ?_
  show Om G M_N_got 6 [(0, .inr (some (ad 20 0))), (1, .inl a), (2, .inl b)] [.inl (nI 1)] mu Q
  refine n_if_ne 18 dN_got_6 rfl (by omega) (fun _ => ?_) (fun h => absurd h (by decide))
  refine o_iconst (-1) dN_got_18 rfl ?_
  refine m_iret dN_got_19 rfl ?_
  exact k
theorem R_got_b2 {G : oG} {mu : oMu} {Q : oPm} {i : Nat} {b : Int32} (hi : i < 6) (hb : ∀ j, j < 6 → ¬ b = nI j) (k : Q (some (.inl (-1))) mu) : Om G M_N_got 0 [(0, .inr (some (ad 20 0))), (1, .inl (nI i)), (2, .inl b)] [] mu Q := by
  refine o_iload_n dN_got_0 rfl ?_
  refine o_bipush (nI 6) dN_got_1 rfl ?_
  refine m_callS M_N_out [.inl (nI i), .inl (nI 6)] [] dN_got_3 mk_N_out st_N_out ml_N_73 rfl rfl rfl (Nat.le_of_ble_eq_true rfl) rfl ?_
  refine r_out_y (by decide) hi ?_
  show Om G M_N_got 6 [(0, .inr (some (ad 20 0))), (1, .inl (nI i)), (2, .inl b)] [.inl (nI 0)] mu Q
  refine n_if_ne 18 dN_got_6 rfl (by omega) (fun h => absurd h (by decide)) (fun _ => ?_)
  refine o_iload_n dN_got_9 rfl ?_
  refine o_bipush (nI 6) dN_got_10 rfl ?_
  refine m_callS M_N_out [.inl b, .inl (nI 6)] [] dN_got_12 mk_N_out st_N_out ml_N_73 rfl rfl rfl (Nat.le_of_ble_eq_true rfl) rfl ?_
  refine r_out_n (by decide) hb ?_
  show Om G M_N_got 15 [(0, .inr (some (ad 20 0))), (1, .inl (nI i)), (2, .inl b)] [.inl (nI 1)] mu Q
  refine n_if_eq 20 dN_got_15 rfl (by omega) (fun h => absurd h (by decide)) (fun _ => ?_)
  refine o_iconst (-1) dN_got_18 rfl ?_
  refine m_iret dN_got_19 rfl ?_
  exact k
theorem R_got {G : oG} {mu : oMu} {Q : oPm} {m : Nat} {ky vr nd : Nat → Nat} {dp : Nat → Nat → Nat} {vl : Nat → Int32} {sn ck : Nat → Nat → Nat} {wt fl : Nat → List Nat} {x h d : Nat → Nat → Nat} {s l r ph : Nat → Nat} (hC : ReR mu m ky vr nd dp vl sn ck wt fl x h d s l r ph) {i q : Nat} (hi : i < 6) (hq : q < 6) (k : Q (some (.inl (dec (h i q)))) mu) : Om G M_N_got 0 [(0, .inr (some (ad 20 0))), (1, .inl (nI i)), (2, .inl (nI q))] [] mu Q := by
  have hm4 := hC.fw.m4
  refine o_iload_n dN_got_0 rfl ?_
  refine o_bipush (nI 6) dN_got_1 rfl ?_
  refine m_callS M_N_out [.inl (nI i), .inl (nI 6)] [] dN_got_3 mk_N_out st_N_out ml_N_73 rfl rfl rfl (Nat.le_of_ble_eq_true rfl) rfl ?_
  refine r_out_y (by decide) hi ?_
  show Om G M_N_got 6 [(0, .inr (some (ad 20 0))), (1, .inl (nI i)), (2, .inl (nI q))] [.inl (nI 0)] mu Q
  refine n_if_ne 18 dN_got_6 rfl (by omega) (fun h => absurd h (by decide)) (fun _ => ?_)
  refine o_iload_n dN_got_9 rfl ?_
  refine o_bipush (nI 6) dN_got_10 rfl ?_
  refine m_callS M_N_out [.inl (nI q), .inl (nI 6)] [] dN_got_12 mk_N_out st_N_out ml_N_73 rfl rfl rfl (Nat.le_of_ble_eq_true rfl) rfl ?_
  refine r_out_y (by decide) hq ?_
  show Om G M_N_got 15 [(0, .inr (some (ad 20 0))), (1, .inl (nI i)), (2, .inl (nI q))] [.inl (nI 0)] mu Q
  refine n_if_eq 20 dN_got_15 rfl (by omega) (fun _ => ?_) (fun h => absurd h (by decide))
  refine o_aload_n dN_got_20 rfl ?_
  refine m_getr dN_got_21 fl_N_59 rfl rfl (by decide) ?_
  refine o_bipush (nI 6) dN_got_24 rfl ?_
  refine o_iload_n dN_got_26 rfl ?_
  refine o_imul dN_got_27 ?_
  refine o_top _ (pk_mul _ _) ?_
  refine o_iload_n dN_got_28 rfl ?_
  refine o_iadd dN_got_29 ?_
  refine o_top _ (nI_add _ _) ?_
  refine m_iald (6 * i + q) dN_got_30 rfl rfl rfl (by decide) rfl (by omega) ?_
  refine o_top (nI (h i q)) ((hC.fh hi q hq).1) ?_
  have hle9 := ((hC.fh hi q hq).2)
  refine n_if_ne 39 dN_got_31 rfl (by omega) (fun hb31 => ?_) (fun hb31 => ?_)
  · skip
    obtain ⟨u, hu⟩ : ∃ u, h i q = u + 1 := ⟨h i q - 1, by omega⟩
    refine o_aload_n dN_got_39 rfl ?_
    refine m_getr dN_got_40 fl_N_59 rfl rfl (by decide) ?_
    refine o_bipush (nI 6) dN_got_43 rfl ?_
    refine o_iload_n dN_got_45 rfl ?_
    refine o_imul dN_got_46 ?_
    refine o_top _ (pk_mul _ _) ?_
    refine o_iload_n dN_got_47 rfl ?_
    refine o_iadd dN_got_48 ?_
    refine o_top _ (nI_add _ _) ?_
    refine m_iald (6 * i + q) dN_got_49 rfl rfl rfl (by decide) rfl (by omega) ?_
    refine o_top (nI (u + 1)) (((hC.fh hi q hq).1).trans (by rw [hu])) ?_
    refine o_iconst (nI 1) dN_got_50 rfl ?_
    refine o_isub dN_got_51 ?_
    refine o_top (nI u) (pk_sub (show 1 ≤ u + 1 by omega)) ?_
    refine m_iret dN_got_52 rfl ?_
    rw [hu] at k
    exact k
  · skip
    refine o_bipush (-4) dN_got_34 rfl ?_
    refine o_goto 52 dN_got_36 rfl ?_
    refine m_iret dN_got_52 rfl ?_
    rw [hb31] at k
    exact k
theorem R_context_b1 {G : oG} {mu : oMu} {Q : oPm} {a b : Int32} (ha : ∀ j, j < 6 → ¬ a = nI j) (k : Q (some (.inl (-1))) mu) : Om G M_N_context 0 [(0, .inr (some (ad 20 0))), (1, .inl a), (2, .inl b)] [] mu Q := by
  refine o_iload_n dN_context_0 rfl ?_
  refine o_bipush (nI 6) dN_context_1 rfl ?_
  refine m_callS M_N_out [.inl a, .inl (nI 6)] [] dN_context_3 mk_N_out st_N_out ml_N_73 rfl rfl rfl (Nat.le_of_ble_eq_true rfl) rfl ?_
  refine r_out_n (by decide) ha ?_
  show Om G M_N_context 6 [(0, .inr (some (ad 20 0))), (1, .inl a), (2, .inl b)] [.inl (nI 1)] mu Q
  refine n_if_ne 18 dN_context_6 rfl (by omega) (fun _ => ?_) (fun h => absurd h (by decide))
  refine o_iconst (-1) dN_context_18 rfl ?_
  refine m_iret dN_context_19 rfl ?_
  exact k
theorem R_context_b2 {G : oG} {mu : oMu} {Q : oPm} {i : Nat} {b : Int32} (hi : i < 6) (hb : ∀ j, j < 6 → ¬ b = nI j) (k : Q (some (.inl (-1))) mu) : Om G M_N_context 0 [(0, .inr (some (ad 20 0))), (1, .inl (nI i)), (2, .inl b)] [] mu Q := by
  refine o_iload_n dN_context_0 rfl ?_
  refine o_bipush (nI 6) dN_context_1 rfl ?_
  refine m_callS M_N_out [.inl (nI i), .inl (nI 6)] [] dN_context_3 mk_N_out st_N_out ml_N_73 rfl rfl rfl (Nat.le_of_ble_eq_true rfl) rfl ?_
  refine r_out_y (by decide) hi ?_
  show Om G M_N_context 6 [(0, .inr (some (ad 20 0))), (1, .inl (nI i)), (2, .inl b)] [.inl (nI 0)] mu Q
  refine n_if_ne 18 dN_context_6 rfl (by omega) (fun h => absurd h (by decide)) (fun _ => ?_)
  refine o_iload_n dN_context_9 rfl ?_
  refine o_bipush (nI 6) dN_context_10 rfl ?_
  refine m_callS M_N_out [.inl b, .inl (nI 6)] [] dN_context_12 mk_N_out st_N_out ml_N_73 rfl rfl rfl (Nat.le_of_ble_eq_true rfl) rfl ?_
  refine r_out_n (by decide) hb ?_
  show Om G M_N_context 15 [(0, .inr (some (ad 20 0))), (1, .inl (nI i)), (2, .inl b)] [.inl (nI 1)] mu Q
  refine n_if_eq 20 dN_context_15 rfl (by omega) (fun h => absurd h (by decide)) (fun _ => ?_)
  refine o_iconst (-1) dN_context_18 rfl ?_
  refine m_iret dN_context_19 rfl ?_
  exact k
theorem R_context {G : oG} {mu : oMu} {Q : oPm} {m : Nat} {ky vr nd : Nat → Nat} {dp : Nat → Nat → Nat} {vl : Nat → Int32} {sn ck : Nat → Nat → Nat} {wt fl : Nat → List Nat} {x h d : Nat → Nat → Nat} {s l r ph : Nat → Nat} (hC : ReR mu m ky vr nd dp vl sn ck wt fl x h d s l r ph) {i q : Nat} (hi : i < 6) (hq : q < 6) (k : Q (some (.inl (dec (x i q)))) mu) : Om G M_N_context 0 [(0, .inr (some (ad 20 0))), (1, .inl (nI i)), (2, .inl (nI q))] [] mu Q := by
  have hm4 := hC.fw.m4
  refine o_iload_n dN_context_0 rfl ?_
  refine o_bipush (nI 6) dN_context_1 rfl ?_
  refine m_callS M_N_out [.inl (nI i), .inl (nI 6)] [] dN_context_3 mk_N_out st_N_out ml_N_73 rfl rfl rfl (Nat.le_of_ble_eq_true rfl) rfl ?_
  refine r_out_y (by decide) hi ?_
  show Om G M_N_context 6 [(0, .inr (some (ad 20 0))), (1, .inl (nI i)), (2, .inl (nI q))] [.inl (nI 0)] mu Q
  refine n_if_ne 18 dN_context_6 rfl (by omega) (fun h => absurd h (by decide)) (fun _ => ?_)
  refine o_iload_n dN_context_9 rfl ?_
  refine o_bipush (nI 6) dN_context_10 rfl ?_
  refine m_callS M_N_out [.inl (nI q), .inl (nI 6)] [] dN_context_12 mk_N_out st_N_out ml_N_73 rfl rfl rfl (Nat.le_of_ble_eq_true rfl) rfl ?_
  refine r_out_y (by decide) hq ?_
  show Om G M_N_context 15 [(0, .inr (some (ad 20 0))), (1, .inl (nI i)), (2, .inl (nI q))] [.inl (nI 0)] mu Q
  refine n_if_eq 20 dN_context_15 rfl (by omega) (fun _ => ?_) (fun h => absurd h (by decide))
  refine o_aload_n dN_context_20 rfl ?_
  refine m_getr dN_context_21 fl_N_44 rfl rfl (by decide) ?_
  refine o_bipush (nI 6) dN_context_24 rfl ?_
  refine o_iload_n dN_context_26 rfl ?_
  refine o_imul dN_context_27 ?_
  refine o_top _ (pk_mul _ _) ?_
  refine o_iload_n dN_context_28 rfl ?_
  refine o_iadd dN_context_29 ?_
  refine o_top _ (nI_add _ _) ?_
  refine m_iald (6 * i + q) dN_context_30 rfl rfl rfl (by decide) rfl (by omega) ?_
  refine o_top (nI (x i q)) ((hC.fx hi q hq).1) ?_
  have hle9 := ((hC.fx hi q hq).2)
  refine n_if_ne 39 dN_context_31 rfl (by omega) (fun hb31 => ?_) (fun hb31 => ?_)
  · skip
    obtain ⟨u, hu⟩ : ∃ u, x i q = u + 1 := ⟨x i q - 1, by omega⟩
    refine o_aload_n dN_context_39 rfl ?_
    refine m_getr dN_context_40 fl_N_44 rfl rfl (by decide) ?_
    refine o_bipush (nI 6) dN_context_43 rfl ?_
    refine o_iload_n dN_context_45 rfl ?_
    refine o_imul dN_context_46 ?_
    refine o_top _ (pk_mul _ _) ?_
    refine o_iload_n dN_context_47 rfl ?_
    refine o_iadd dN_context_48 ?_
    refine o_top _ (nI_add _ _) ?_
    refine m_iald (6 * i + q) dN_context_49 rfl rfl rfl (by decide) rfl (by omega) ?_
    refine o_top (nI (u + 1)) (((hC.fx hi q hq).1).trans (by rw [hu])) ?_
    refine o_iconst (nI 1) dN_context_50 rfl ?_
    refine o_isub dN_context_51 ?_
    refine o_top (nI u) (pk_sub (show 1 ≤ u + 1 by omega)) ?_
    refine m_iret dN_context_52 rfl ?_
    rw [hu] at k
    exact k
  · skip
    refine o_bipush (-4) dN_context_34 rfl ?_
    refine o_goto 52 dN_context_36 rfl ?_
    refine m_iret dN_context_52 rfl ?_
    rw [hb31] at k
    exact k
theorem R_clock_b1 {G : oG} {mu : oMu} {Q : oPm} {a b : Int32} (ha : ∀ j, j < 3 → ¬ a = nI j) (k : Q (some (.inl (-1))) mu) : Om G M_N_clock 0 [(0, .inr (some (ad 20 0))), (1, .inl a), (2, .inl b)] [] mu Q := by
  refine o_iload_n dN_clock_0 rfl ?_
  refine o_iconst (nI 3) dN_clock_1 rfl ?_
  refine m_callS M_N_out [.inl a, .inl (nI 3)] [] dN_clock_2 mk_N_out st_N_out ml_N_73 rfl rfl rfl (Nat.le_of_ble_eq_true rfl) rfl ?_
  refine r_out_n (by decide) ha ?_
  show Om G M_N_clock 5 [(0, .inr (some (ad 20 0))), (1, .inl a), (2, .inl b)] [.inl (nI 1)] mu Q
  refine n_if_ne 16 dN_clock_5 rfl (by omega) (fun _ => ?_) (fun h => absurd h (by decide))
  refine o_iconst (-1) dN_clock_16 rfl ?_
  refine o_goto 30 dN_clock_17 rfl ?_
  refine m_iret dN_clock_30 rfl ?_
  exact k
theorem R_clock_b2 {G : oG} {mu : oMu} {Q : oPm} {i : Nat} {b : Int32} (hi : i < 3) (hb : ∀ j, j < 2 → ¬ b = nI j) (k : Q (some (.inl (-1))) mu) : Om G M_N_clock 0 [(0, .inr (some (ad 20 0))), (1, .inl (nI i)), (2, .inl b)] [] mu Q := by
  refine o_iload_n dN_clock_0 rfl ?_
  refine o_iconst (nI 3) dN_clock_1 rfl ?_
  refine m_callS M_N_out [.inl (nI i), .inl (nI 3)] [] dN_clock_2 mk_N_out st_N_out ml_N_73 rfl rfl rfl (Nat.le_of_ble_eq_true rfl) rfl ?_
  refine r_out_y (by decide) hi ?_
  show Om G M_N_clock 5 [(0, .inr (some (ad 20 0))), (1, .inl (nI i)), (2, .inl b)] [.inl (nI 0)] mu Q
  refine n_if_ne 16 dN_clock_5 rfl (by omega) (fun h => absurd h (by decide)) (fun _ => ?_)
  refine o_iload_n dN_clock_8 rfl ?_
  refine o_iconst (nI 2) dN_clock_9 rfl ?_
  refine m_callS M_N_out [.inl b, .inl (nI 2)] [] dN_clock_10 mk_N_out st_N_out ml_N_73 rfl rfl rfl (Nat.le_of_ble_eq_true rfl) rfl ?_
  refine r_out_n (by decide) hb ?_
  show Om G M_N_clock 13 [(0, .inr (some (ad 20 0))), (1, .inl (nI i)), (2, .inl b)] [.inl (nI 1)] mu Q
  refine n_if_eq 20 dN_clock_13 rfl (by omega) (fun h => absurd h (by decide)) (fun _ => ?_)
  refine o_iconst (-1) dN_clock_16 rfl ?_
  refine o_goto 30 dN_clock_17 rfl ?_
  refine m_iret dN_clock_30 rfl ?_
  exact k
theorem R_clock {G : oG} {mu : oMu} {Q : oPm} {m : Nat} {ky vr nd : Nat → Nat} {dp : Nat → Nat → Nat} {vl : Nat → Int32} {sn ck : Nat → Nat → Nat} {wt fl : Nat → List Nat} {x h d : Nat → Nat → Nat} {s l r ph : Nat → Nat} (hC : ReR mu m ky vr nd dp vl sn ck wt fl x h d s l r ph) {i q : Nat} (hi : i < 3) (hq : q < 2) (k : Q (some (.inl (nI (ck i q)))) mu) : Om G M_N_clock 0 [(0, .inr (some (ad 20 0))), (1, .inl (nI i)), (2, .inl (nI q))] [] mu Q := by
  refine o_iload_n dN_clock_0 rfl ?_
  refine o_iconst (nI 3) dN_clock_1 rfl ?_
  refine m_callS M_N_out [.inl (nI i), .inl (nI 3)] [] dN_clock_2 mk_N_out st_N_out ml_N_73 rfl rfl rfl (Nat.le_of_ble_eq_true rfl) rfl ?_
  refine r_out_y (by decide) hi ?_
  show Om G M_N_clock 5 [(0, .inr (some (ad 20 0))), (1, .inl (nI i)), (2, .inl (nI q))] [.inl (nI 0)] mu Q
  refine n_if_ne 16 dN_clock_5 rfl (by omega) (fun h => absurd h (by decide)) (fun _ => ?_)
  refine o_iload_n dN_clock_8 rfl ?_
  refine o_iconst (nI 2) dN_clock_9 rfl ?_
  refine m_callS M_N_out [.inl (nI q), .inl (nI 2)] [] dN_clock_10 mk_N_out st_N_out ml_N_73 rfl rfl rfl (Nat.le_of_ble_eq_true rfl) rfl ?_
  refine r_out_y (by decide) hq ?_
  show Om G M_N_clock 13 [(0, .inr (some (ad 20 0))), (1, .inl (nI i)), (2, .inl (nI q))] [.inl (nI 0)] mu Q
  refine n_if_eq 20 dN_clock_13 rfl (by omega) (fun _ => ?_) (fun h => absurd h (by decide))
  refine o_aload_n dN_clock_20 rfl ?_
  refine m_getr dN_clock_21 fl_N_29 rfl rfl (by decide) ?_
  refine o_iconst (nI 2) dN_clock_24 rfl ?_
  refine o_iload_n dN_clock_25 rfl ?_
  refine o_imul dN_clock_26 ?_
  refine o_top _ (pk_mul _ _) ?_
  refine o_iload_n dN_clock_27 rfl ?_
  refine o_iadd dN_clock_28 ?_
  refine o_top _ (nI_add _ _) ?_
  refine m_iald (2 * i + q) dN_clock_29 rfl rfl rfl (by decide) rfl (by omega) ?_
  refine o_top (nI (ck i q)) (hC.fck hi hq) ?_
  refine m_iret dN_clock_30 rfl ?_
  exact k
theorem R_pending_b1 {G : oG} {mu : oMu} {Q : oPm} {a b : Int32} (ha : ∀ j, j < 3 → ¬ a = nI j) (k : Q (some (.inl (-1))) mu) : Om G M_N_pending 0 [(0, .inr (some (ad 20 0))), (1, .inl a), (2, .inl b)] [] mu Q := by
  refine o_iload_n dN_pending_0 rfl ?_
  refine o_iconst (nI 3) dN_pending_1 rfl ?_
  refine m_callS M_N_out [.inl a, .inl (nI 3)] [] dN_pending_2 mk_N_out st_N_out ml_N_73 rfl rfl rfl (Nat.le_of_ble_eq_true rfl) rfl ?_
  refine r_out_n (by decide) ha ?_
  show Om G M_N_pending 5 [(0, .inr (some (ad 20 0))), (1, .inl a), (2, .inl b)] [.inl (nI 1)] mu Q
  refine n_if_ne 16 dN_pending_5 rfl (by omega) (fun _ => ?_) (fun h => absurd h (by decide))
  refine o_iconst (-1) dN_pending_16 rfl ?_
  refine o_goto 30 dN_pending_17 rfl ?_
  refine m_iret dN_pending_30 rfl ?_
  exact k
theorem R_pending_b2 {G : oG} {mu : oMu} {Q : oPm} {i : Nat} {b : Int32} (hi : i < 3) (hb : ∀ j, j < 2 → ¬ b = nI j) (k : Q (some (.inl (-1))) mu) : Om G M_N_pending 0 [(0, .inr (some (ad 20 0))), (1, .inl (nI i)), (2, .inl b)] [] mu Q := by
  refine o_iload_n dN_pending_0 rfl ?_
  refine o_iconst (nI 3) dN_pending_1 rfl ?_
  refine m_callS M_N_out [.inl (nI i), .inl (nI 3)] [] dN_pending_2 mk_N_out st_N_out ml_N_73 rfl rfl rfl (Nat.le_of_ble_eq_true rfl) rfl ?_
  refine r_out_y (by decide) hi ?_
  show Om G M_N_pending 5 [(0, .inr (some (ad 20 0))), (1, .inl (nI i)), (2, .inl b)] [.inl (nI 0)] mu Q
  refine n_if_ne 16 dN_pending_5 rfl (by omega) (fun h => absurd h (by decide)) (fun _ => ?_)
  refine o_iload_n dN_pending_8 rfl ?_
  refine o_iconst (nI 2) dN_pending_9 rfl ?_
  refine m_callS M_N_out [.inl b, .inl (nI 2)] [] dN_pending_10 mk_N_out st_N_out ml_N_73 rfl rfl rfl (Nat.le_of_ble_eq_true rfl) rfl ?_
  refine r_out_n (by decide) hb ?_
  show Om G M_N_pending 13 [(0, .inr (some (ad 20 0))), (1, .inl (nI i)), (2, .inl b)] [.inl (nI 1)] mu Q
  refine n_if_eq 20 dN_pending_13 rfl (by omega) (fun h => absurd h (by decide)) (fun _ => ?_)
  refine o_iconst (-1) dN_pending_16 rfl ?_
  refine o_goto 30 dN_pending_17 rfl ?_
  refine m_iret dN_pending_30 rfl ?_
  exact k
theorem R_pending {G : oG} {mu : oMu} {Q : oPm} {m : Nat} {ky vr nd : Nat → Nat} {dp : Nat → Nat → Nat} {vl : Nat → Int32} {sn ck : Nat → Nat → Nat} {wt fl : Nat → List Nat} {x h d : Nat → Nat → Nat} {s l r ph : Nat → Nat} (hC : ReR mu m ky vr nd dp vl sn ck wt fl x h d s l r ph) {i q : Nat} (hi : i < 3) (hq : q < 2) (k : Q (some (.inl (nI (wt (2 * i + q)).length))) mu) : Om G M_N_pending 0 [(0, .inr (some (ad 20 0))), (1, .inl (nI i)), (2, .inl (nI q))] [] mu Q := by
  refine o_iload_n dN_pending_0 rfl ?_
  refine o_iconst (nI 3) dN_pending_1 rfl ?_
  refine m_callS M_N_out [.inl (nI i), .inl (nI 3)] [] dN_pending_2 mk_N_out st_N_out ml_N_73 rfl rfl rfl (Nat.le_of_ble_eq_true rfl) rfl ?_
  refine r_out_y (by decide) hi ?_
  show Om G M_N_pending 5 [(0, .inr (some (ad 20 0))), (1, .inl (nI i)), (2, .inl (nI q))] [.inl (nI 0)] mu Q
  refine n_if_ne 16 dN_pending_5 rfl (by omega) (fun h => absurd h (by decide)) (fun _ => ?_)
  refine o_iload_n dN_pending_8 rfl ?_
  refine o_iconst (nI 2) dN_pending_9 rfl ?_
  refine m_callS M_N_out [.inl (nI q), .inl (nI 2)] [] dN_pending_10 mk_N_out st_N_out ml_N_73 rfl rfl rfl (Nat.le_of_ble_eq_true rfl) rfl ?_
  refine r_out_y (by decide) hq ?_
  show Om G M_N_pending 13 [(0, .inr (some (ad 20 0))), (1, .inl (nI i)), (2, .inl (nI q))] [.inl (nI 0)] mu Q
  refine n_if_eq 20 dN_pending_13 rfl (by omega) (fun _ => ?_) (fun h => absurd h (by decide))
  refine o_aload_n dN_pending_20 rfl ?_
  refine m_getr dN_pending_21 fl_N_32 rfl rfl (by decide) ?_
  refine o_iconst (nI 2) dN_pending_24 rfl ?_
  refine o_iload_n dN_pending_25 rfl ?_
  refine o_imul dN_pending_26 ?_
  refine o_top _ (pk_mul _ _) ?_
  refine o_iload_n dN_pending_27 rfl ?_
  refine o_iadd dN_pending_28 ?_
  refine o_top _ (nI_add _ _) ?_
  refine m_iald (2 * i + q) dN_pending_29 rfl rfl rfl (by decide) rfl (by omega) ?_
  refine o_top (nI ((wt (2 * i + q)).length)) (hC.fwt (by omega)).1 ?_
  refine m_iret dN_pending_30 rfl ?_
  exact k
theorem R_latest_b1 {G : oG} {mu : oMu} {Q : oPm} {a b : Int32} (ha : ∀ j, j < 3 → ¬ a = nI j) (k : Q (some (.inl (-1))) mu) : Om G M_N_latest 0 [(0, .inr (some (ad 20 0))), (1, .inl a), (2, .inl b)] [] mu Q := by
  refine o_iload_n dN_latest_0 rfl ?_
  refine o_iconst (nI 3) dN_latest_1 rfl ?_
  refine m_callS M_N_out [.inl a, .inl (nI 3)] [] dN_latest_2 mk_N_out st_N_out ml_N_73 rfl rfl rfl (Nat.le_of_ble_eq_true rfl) rfl ?_
  refine r_out_n (by decide) ha ?_
  show Om G M_N_latest 5 [(0, .inr (some (ad 20 0))), (1, .inl a), (2, .inl b)] [.inl (nI 1)] mu Q
  refine n_if_ne 17 dN_latest_5 rfl (by omega) (fun _ => ?_) (fun h => absurd h (by decide))
  refine o_iconst (-1) dN_latest_17 rfl ?_
  refine m_iret dN_latest_18 rfl ?_
  exact k
theorem R_latest_b2 {G : oG} {mu : oMu} {Q : oPm} {i : Nat} {b : Int32} (hi : i < 3) (hb : ∀ j, j < 6 → ¬ b = nI j) (k : Q (some (.inl (-1))) mu) : Om G M_N_latest 0 [(0, .inr (some (ad 20 0))), (1, .inl (nI i)), (2, .inl b)] [] mu Q := by
  refine o_iload_n dN_latest_0 rfl ?_
  refine o_iconst (nI 3) dN_latest_1 rfl ?_
  refine m_callS M_N_out [.inl (nI i), .inl (nI 3)] [] dN_latest_2 mk_N_out st_N_out ml_N_73 rfl rfl rfl (Nat.le_of_ble_eq_true rfl) rfl ?_
  refine r_out_y (by decide) hi ?_
  show Om G M_N_latest 5 [(0, .inr (some (ad 20 0))), (1, .inl (nI i)), (2, .inl b)] [.inl (nI 0)] mu Q
  refine n_if_ne 17 dN_latest_5 rfl (by omega) (fun h => absurd h (by decide)) (fun _ => ?_)
  refine o_iload_n dN_latest_8 rfl ?_
  refine o_bipush (nI 6) dN_latest_9 rfl ?_
  refine m_callS M_N_out [.inl b, .inl (nI 6)] [] dN_latest_11 mk_N_out st_N_out ml_N_73 rfl rfl rfl (Nat.le_of_ble_eq_true rfl) rfl ?_
  refine r_out_n (by decide) hb ?_
  show Om G M_N_latest 14 [(0, .inr (some (ad 20 0))), (1, .inl (nI i)), (2, .inl b)] [.inl (nI 1)] mu Q
  refine n_if_eq 19 dN_latest_14 rfl (by omega) (fun h => absurd h (by decide)) (fun _ => ?_)
  refine o_iconst (-1) dN_latest_17 rfl ?_
  refine m_iret dN_latest_18 rfl ?_
  exact k
theorem R_latest {G : oG} {mu : oMu} {Q : oPm} {m : Nat} {ky vr nd : Nat → Nat} {dp : Nat → Nat → Nat} {vl : Nat → Int32} {sn ck : Nat → Nat → Nat} {wt fl : Nat → List Nat} {x h d : Nat → Nat → Nat} {s l r ph : Nat → Nat} (hC : ReR mu m ky vr nd dp vl sn ck wt fl x h d s l r ph) {i q : Nat} (hi : i < 3) (hq : q < 6) (k : Q (some (.inl (dec (latN (sn i) ky vr q m)))) mu) : Om G M_N_latest 0 [(0, .inr (some (ad 20 0))), (1, .inl (nI i)), (2, .inl (nI q))] [] mu Q := by
  refine o_iload_n dN_latest_0 rfl ?_
  refine o_iconst (nI 3) dN_latest_1 rfl ?_
  refine m_callS M_N_out [.inl (nI i), .inl (nI 3)] [] dN_latest_2 mk_N_out st_N_out ml_N_73 rfl rfl rfl (Nat.le_of_ble_eq_true rfl) rfl ?_
  refine r_out_y (by decide) hi ?_
  show Om G M_N_latest 5 [(0, .inr (some (ad 20 0))), (1, .inl (nI i)), (2, .inl (nI q))] [.inl (nI 0)] mu Q
  refine n_if_ne 17 dN_latest_5 rfl (by omega) (fun h => absurd h (by decide)) (fun _ => ?_)
  refine o_iload_n dN_latest_8 rfl ?_
  refine o_bipush (nI 6) dN_latest_9 rfl ?_
  refine m_callS M_N_out [.inl (nI q), .inl (nI 6)] [] dN_latest_11 mk_N_out st_N_out ml_N_73 rfl rfl rfl (Nat.le_of_ble_eq_true rfl) rfl ?_
  refine r_out_y (by decide) hq ?_
  show Om G M_N_latest 14 [(0, .inr (some (ad 20 0))), (1, .inl (nI i)), (2, .inl (nI q))] [.inl (nI 0)] mu Q
  refine n_if_eq 19 dN_latest_14 rfl (by omega) (fun _ => ?_) (fun h => absurd h (by decide))
  refine o_aload_n dN_latest_19 rfl ?_
  refine o_iload_n dN_latest_20 rfl ?_
  refine o_iload_n dN_latest_21 rfl ?_
  refine m_callV M_N_latestOf [.inl (nI i), .inl (nI q)] [] dN_latest_22 mk_N_latestOf in_N_latestOf se_N_latestOf rfl (by decide) rfl rfl ml_N_93 rfl rfl rfl (Nat.le_of_ble_eq_true rfl) rfl ?_
  refine r_latestOf hC.fw hi hq (hC.fsn hi) ?_
  show Om G M_N_latest 25 [(0, .inr (some (ad 20 0))), (1, .inl (nI i)), (2, .inl (nI q))] [.inl (nI (latN (sn i) ky vr q m))] mu Q
  refine o_istore_n [(0, _), (1, _), (2, _), (3, _)] dN_latest_25 rfl rfl ?_
  refine o_iload_n dN_latest_26 rfl ?_
  have hle9 := latN_le (sn := sn i) (ky := ky) (vr := vr) (q := q) m
  have hm4 := hC.fw.m4
  refine n_if_ne 35 dN_latest_27 rfl (by omega) (fun hb27 => ?_) (fun hb27 => ?_)
  · skip
    obtain ⟨u, hu⟩ : ∃ u, latN (sn i) ky vr q m = u + 1 := ⟨latN (sn i) ky vr q m - 1, by omega⟩
    rw [hu]
    refine o_iload_n dN_latest_35 rfl ?_
    refine o_iconst (nI 1) dN_latest_36 rfl ?_
    refine o_isub dN_latest_37 ?_
    refine o_top (nI u) (pk_sub (show 1 ≤ u + 1 by omega)) ?_
    refine m_iret dN_latest_38 rfl ?_
    rw [hu] at k
    exact k
  · skip
    refine o_bipush (-4) dN_latest_30 rfl ?_
    refine o_goto 38 dN_latest_32 rfl ?_
    refine m_iret dN_latest_38 rfl ?_
    rw [hb27] at k
    exact k
theorem R_lacks_b1 {G : oG} {mu : oMu} {Q : oPm} {a b : Int32} {z3 : Int32} (ha : ∀ j, j < 3 → ¬ a = nI j) (k : Q (some (.inl (-4))) mu) : Om G M_N_lacks 0 [(0, .inr (some (ad 20 0))), (1, .inl a), (2, .inl b), (3, .inl z3)] [] mu Q := by
  refine o_iload_n dN_lacks_0 rfl ?_
  refine o_iconst (nI 3) dN_lacks_1 rfl ?_
  refine m_callS M_N_out [.inl a, .inl (nI 3)] [] dN_lacks_2 mk_N_out st_N_out ml_N_73 rfl rfl rfl (Nat.le_of_ble_eq_true rfl) rfl ?_
  refine r_out_n (by decide) ha ?_
  show Om G M_N_lacks 5 [(0, .inr (some (ad 20 0))), (1, .inl a), (2, .inl b), (3, .inl z3)] [.inl (nI 1)] mu Q
  refine n_if_ne 16 dN_lacks_5 rfl (by omega) (fun _ => ?_) (fun h => absurd h (by decide))
  refine o_bipush (-4) dN_lacks_16 rfl ?_
  refine m_iret dN_lacks_18 rfl ?_
  exact k
theorem R_lacks_b2 {G : oG} {mu : oMu} {Q : oPm} {i : Nat} {b : Int32} {z3 : Int32} (hi : i < 3) (hb : ∀ j, j < 2 → ¬ b = nI j) (k : Q (some (.inl (-4))) mu) : Om G M_N_lacks 0 [(0, .inr (some (ad 20 0))), (1, .inl (nI i)), (2, .inl b), (3, .inl z3)] [] mu Q := by
  refine o_iload_n dN_lacks_0 rfl ?_
  refine o_iconst (nI 3) dN_lacks_1 rfl ?_
  refine m_callS M_N_out [.inl (nI i), .inl (nI 3)] [] dN_lacks_2 mk_N_out st_N_out ml_N_73 rfl rfl rfl (Nat.le_of_ble_eq_true rfl) rfl ?_
  refine r_out_y (by decide) hi ?_
  show Om G M_N_lacks 5 [(0, .inr (some (ad 20 0))), (1, .inl (nI i)), (2, .inl b), (3, .inl z3)] [.inl (nI 0)] mu Q
  refine n_if_ne 16 dN_lacks_5 rfl (by omega) (fun h => absurd h (by decide)) (fun _ => ?_)
  refine o_iload_n dN_lacks_8 rfl ?_
  refine o_iconst (nI 2) dN_lacks_9 rfl ?_
  refine m_callS M_N_out [.inl b, .inl (nI 2)] [] dN_lacks_10 mk_N_out st_N_out ml_N_73 rfl rfl rfl (Nat.le_of_ble_eq_true rfl) rfl ?_
  refine r_out_n (by decide) hb ?_
  show Om G M_N_lacks 13 [(0, .inr (some (ad 20 0))), (1, .inl (nI i)), (2, .inl b), (3, .inl z3)] [.inl (nI 1)] mu Q
  refine n_if_eq 19 dN_lacks_13 rfl (by omega) (fun h => absurd h (by decide)) (fun _ => ?_)
  refine o_bipush (-4) dN_lacks_16 rfl ?_
  refine m_iret dN_lacks_18 rfl ?_
  exact k
theorem R_lacks_n {G : oG} {mu : oMu} {Q : oPm} {m : Nat} {ky vr nd : Nat → Nat} {dp : Nat → Nat → Nat} {vl : Nat → Int32} {sn ck : Nat → Nat → Nat} {wt fl : Nat → List Nat} {x h d : Nat → Nat → Nat} {s l r ph : Nat → Nat} (hC : ReR mu m ky vr nd dp vl sn ck wt fl x h d s l r ph) {i q : Nat} (hi : i < 3) (hq : q < 2) {z : Int32} (hj : ∀ j, j < (wt (2 * i + q)).length → ¬ z = nI j) (k : Q (some (.inl (-4))) mu) : Om G M_N_lacks 0 [(0, .inr (some (ad 20 0))), (1, .inl (nI i)), (2, .inl (nI q)), (3, .inl z)] [] mu Q := by
  have hm4 := hC.fw.m4
  have hl4 := (hC.fwt (show 2 * i + q < 6 by omega)).2.1
  refine o_iload_n dN_lacks_0 rfl ?_
  refine o_iconst (nI 3) dN_lacks_1 rfl ?_
  refine m_callS M_N_out [.inl (nI i), .inl (nI 3)] [] dN_lacks_2 mk_N_out st_N_out ml_N_73 rfl rfl rfl (Nat.le_of_ble_eq_true rfl) rfl ?_
  refine r_out_y (by decide) hi ?_
  show Om G M_N_lacks 5 [(0, .inr (some (ad 20 0))), (1, .inl (nI i)), (2, .inl (nI q)), (3, .inl z)] [.inl (nI 0)] mu Q
  refine n_if_ne 16 dN_lacks_5 rfl (by omega) (fun h => absurd h (by decide)) (fun _ => ?_)
  refine o_iload_n dN_lacks_8 rfl ?_
  refine o_iconst (nI 2) dN_lacks_9 rfl ?_
  refine m_callS M_N_out [.inl (nI q), .inl (nI 2)] [] dN_lacks_10 mk_N_out st_N_out ml_N_73 rfl rfl rfl (Nat.le_of_ble_eq_true rfl) rfl ?_
  refine r_out_y (by decide) hq ?_
  show Om G M_N_lacks 13 [(0, .inr (some (ad 20 0))), (1, .inl (nI i)), (2, .inl (nI q)), (3, .inl z)] [.inl (nI 0)] mu Q
  refine n_if_eq 19 dN_lacks_13 rfl (by omega) (fun _ => ?_) (fun h => absurd h (by decide))
  refine o_iconst (nI 2) dN_lacks_19 rfl ?_
  refine o_iload_n dN_lacks_20 rfl ?_
  refine o_imul dN_lacks_21 ?_
  refine o_top _ (pk_mul _ _) ?_
  refine o_iload_n dN_lacks_22 rfl ?_
  refine o_iadd dN_lacks_23 ?_
  refine o_top _ (nI_add _ _) ?_
  refine o_istore [(0, _), (1, _), (2, _), (3, _), (4, _)] dN_lacks_24 rfl rfl ?_
  refine o_iload_n dN_lacks_26 rfl ?_
  refine o_aload_n dN_lacks_27 rfl ?_
  refine m_getr dN_lacks_28 fl_N_32 rfl rfl (by decide) ?_
  refine o_iload dN_lacks_31 rfl ?_
  refine m_iald (2 * i + q) dN_lacks_33 rfl rfl rfl (by decide) rfl (by omega) ?_
  refine o_top (nI ((wt (2 * i + q)).length)) (hC.fwt (by omega)).1 ?_
  refine m_callS M_N_out [.inl z, .inl (nI ((wt (2 * i + q)).length))] [] dN_lacks_34 mk_N_out st_N_out ml_N_73 rfl rfl rfl (Nat.le_of_ble_eq_true rfl) rfl ?_
  refine r_out_n (by omega) hj ?_
  show Om G M_N_lacks 37 [(0, .inr (some (ad 20 0))), (1, .inl (nI i)), (2, .inl (nI q)), (3, .inl z), (4, .inl (nI (2 * i + q)))] [.inl (nI 1)] mu Q
  refine n_if_eq 45 dN_lacks_37 rfl (by omega) (fun h => absurd h (by decide)) (fun _ => ?_)
  refine o_bipush (-4) dN_lacks_40 rfl ?_
  refine o_goto 62 dN_lacks_42 rfl ?_
  refine m_iret dN_lacks_62 rfl ?_
  exact k
theorem R_lacks_y {G : oG} {mu : oMu} {Q : oPm} {m : Nat} {ky vr nd : Nat → Nat} {dp : Nat → Nat → Nat} {vl : Nat → Int32} {sn ck : Nat → Nat → Nat} {wt fl : Nat → List Nat} {x h d : Nat → Nat → Nat} {s l r ph : Nat → Nat} (hC : ReR mu m ky vr nd dp vl sn ck wt fl x h d s l r ph) {i q : Nat} (hi : i < 3) (hq : q < 2) {j w : Nat} (hj : j < (wt (2 * i + q)).length) (hw : (wt (2 * i + q)).getD j 0 = w) (hwm : w < m) (hnd : ∀ k, k < 6 → (nd w).testBit k = true → ¬ dp w k = 0) (k : Q (some (.inl (nI (misN (nd w) (dp w) (sn i) 6)))) mu) : Om G M_N_lacks 0 [(0, .inr (some (ad 20 0))), (1, .inl (nI i)), (2, .inl (nI q)), (3, .inl (nI j))] [] mu Q := by
  have hm4 := hC.fw.m4
  have hl4 := (hC.fwt (show 2 * i + q < 6 by omega)).2.1
  refine o_iload_n dN_lacks_0 rfl ?_
  refine o_iconst (nI 3) dN_lacks_1 rfl ?_
  refine m_callS M_N_out [.inl (nI i), .inl (nI 3)] [] dN_lacks_2 mk_N_out st_N_out ml_N_73 rfl rfl rfl (Nat.le_of_ble_eq_true rfl) rfl ?_
  refine r_out_y (by decide) hi ?_
  show Om G M_N_lacks 5 [(0, .inr (some (ad 20 0))), (1, .inl (nI i)), (2, .inl (nI q)), (3, .inl (nI j))] [.inl (nI 0)] mu Q
  refine n_if_ne 16 dN_lacks_5 rfl (by omega) (fun h => absurd h (by decide)) (fun _ => ?_)
  refine o_iload_n dN_lacks_8 rfl ?_
  refine o_iconst (nI 2) dN_lacks_9 rfl ?_
  refine m_callS M_N_out [.inl (nI q), .inl (nI 2)] [] dN_lacks_10 mk_N_out st_N_out ml_N_73 rfl rfl rfl (Nat.le_of_ble_eq_true rfl) rfl ?_
  refine r_out_y (by decide) hq ?_
  show Om G M_N_lacks 13 [(0, .inr (some (ad 20 0))), (1, .inl (nI i)), (2, .inl (nI q)), (3, .inl (nI j))] [.inl (nI 0)] mu Q
  refine n_if_eq 19 dN_lacks_13 rfl (by omega) (fun _ => ?_) (fun h => absurd h (by decide))
  refine o_iconst (nI 2) dN_lacks_19 rfl ?_
  refine o_iload_n dN_lacks_20 rfl ?_
  refine o_imul dN_lacks_21 ?_
  refine o_top _ (pk_mul _ _) ?_
  refine o_iload_n dN_lacks_22 rfl ?_
  refine o_iadd dN_lacks_23 ?_
  refine o_top _ (nI_add _ _) ?_
  refine o_istore [(0, _), (1, _), (2, _), (3, _), (4, _)] dN_lacks_24 rfl rfl ?_
  refine o_iload_n dN_lacks_26 rfl ?_
  refine o_aload_n dN_lacks_27 rfl ?_
  refine m_getr dN_lacks_28 fl_N_32 rfl rfl (by decide) ?_
  refine o_iload dN_lacks_31 rfl ?_
  refine m_iald (2 * i + q) dN_lacks_33 rfl rfl rfl (by decide) rfl (by omega) ?_
  refine o_top (nI ((wt (2 * i + q)).length)) (hC.fwt (by omega)).1 ?_
  refine m_callS M_N_out [.inl (nI j), .inl (nI ((wt (2 * i + q)).length))] [] dN_lacks_34 mk_N_out st_N_out ml_N_73 rfl rfl rfl (Nat.le_of_ble_eq_true rfl) rfl ?_
  refine r_out_y (by omega) hj ?_
  show Om G M_N_lacks 37 [(0, .inr (some (ad 20 0))), (1, .inl (nI i)), (2, .inl (nI q)), (3, .inl (nI j)), (4, .inl (nI (2 * i + q)))] [.inl (nI 0)] mu Q
  refine n_if_eq 45 dN_lacks_37 rfl (by omega) (fun _ => ?_) (fun h => absurd h (by decide))
  refine o_aload_n dN_lacks_45 rfl ?_
  refine o_iload_n dN_lacks_46 rfl ?_
  refine o_aload_n dN_lacks_47 rfl ?_
  refine m_getr dN_lacks_48 fl_N_35 rfl rfl (by decide) ?_
  refine o_bipush (nI 40) dN_lacks_51 rfl ?_
  refine o_iload dN_lacks_53 rfl ?_
  refine o_imul dN_lacks_55 ?_
  refine o_top _ (pk_mul _ _) ?_
  refine o_iload_n dN_lacks_56 rfl ?_
  refine o_iadd dN_lacks_57 ?_
  refine o_top _ (nI_add _ _) ?_
  refine m_iald (40 * (2 * i + q) + j) dN_lacks_58 rfl rfl rfl (by decide) rfl (by omega) ?_
  refine o_top (nI w) (((hC.fwt (show 2 * i + q < 6 by omega)).2.2 j hj).trans (by rw [hw])) ?_
  refine m_callV M_N_missing [.inl (nI i), .inl (nI w)] [] dN_lacks_59 mk_N_missing in_N_missing se_N_missing rfl (by decide) rfl rfl ml_N_115 rfl rfl rfl (Nat.le_of_ble_eq_true rfl) rfl ?_
  refine r_missing hC.fw hi hwm (hC.fsn hi) hnd ?_
  show Om G M_N_lacks 62 [(0, .inr (some (ad 20 0))), (1, .inl (nI i)), (2, .inl (nI q)), (3, .inl (nI j)), (4, .inl (nI (2 * i + q)))] [.inl (nI (misN (nd w) (dp w) (sn i) 6))] mu Q
  refine m_iret dN_lacks_62 rfl ?_
  exact k
theorem R_rounds_b1 {G : oG} {mu : oMu} {Q : oPm} {a : Int32} (ha : ∀ j, j < 6 → ¬ a = nI j) (k : Q (some (.inl (-1))) mu) : Om G M_N_rounds 0 [(0, .inr (some (ad 20 0))), (1, .inl a)] [] mu Q := by
  refine o_iload_n dN_rounds_0 rfl ?_
  refine o_bipush (nI 6) dN_rounds_1 rfl ?_
  refine m_callS M_N_out [.inl a, .inl (nI 6)] [] dN_rounds_3 mk_N_out st_N_out ml_N_73 rfl rfl rfl (Nat.le_of_ble_eq_true rfl) rfl ?_
  refine r_out_n (by decide) ha ?_
  show Om G M_N_rounds 6 [(0, .inr (some (ad 20 0))), (1, .inl a)] [.inl (nI 1)] mu Q
  refine n_if_eq 13 dN_rounds_6 rfl (by omega) (fun h => absurd h (by decide)) (fun _ => ?_)
  refine o_iconst (-1) dN_rounds_9 rfl ?_
  refine o_goto 19 dN_rounds_10 rfl ?_
  refine m_iret dN_rounds_19 rfl ?_
  exact k
theorem R_rounds {G : oG} {mu : oMu} {Q : oPm} {m : Nat} {ky vr nd : Nat → Nat} {dp : Nat → Nat → Nat} {vl : Nat → Int32} {sn ck : Nat → Nat → Nat} {wt fl : Nat → List Nat} {x h d : Nat → Nat → Nat} {s l r ph : Nat → Nat} (hC : ReR mu m ky vr nd dp vl sn ck wt fl x h d s l r ph) {i : Nat} (hi : i < 6) (k : Q (some (.inl (nI (r i)))) mu) : Om G M_N_rounds 0 [(0, .inr (some (ad 20 0))), (1, .inl (nI i))] [] mu Q := by
  refine o_iload_n dN_rounds_0 rfl ?_
  refine o_bipush (nI 6) dN_rounds_1 rfl ?_
  refine m_callS M_N_out [.inl (nI i), .inl (nI 6)] [] dN_rounds_3 mk_N_out st_N_out ml_N_73 rfl rfl rfl (Nat.le_of_ble_eq_true rfl) rfl ?_
  refine r_out_y (by decide) hi ?_
  show Om G M_N_rounds 6 [(0, .inr (some (ad 20 0))), (1, .inl (nI i))] [.inl (nI 0)] mu Q
  refine n_if_eq 13 dN_rounds_6 rfl (by omega) (fun _ => ?_) (fun h => absurd h (by decide))
  refine o_aload_n dN_rounds_13 rfl ?_
  refine m_getr dN_rounds_14 fl_N_53 rfl rfl (by decide) ?_
  refine o_iload_n dN_rounds_17 rfl ?_
  refine m_iald i dN_rounds_18 rfl rfl rfl (by decide) rfl hi ?_
  refine o_top (nI (r i)) (hC.fro hi) ?_
  refine m_iret dN_rounds_19 rfl ?_
  exact k
theorem R_nearest_b1 {G : oG} {mu : oMu} {Q : oPm} {a : Int32} (ha : ∀ j, j < 6 → ¬ a = nI j) (k : Q (some (.inl (-1))) mu) : Om G M_N_nearest 0 [(0, .inr (some (ad 20 0))), (1, .inl a)] [] mu Q := by
  refine o_iload_n dN_nearest_0 rfl ?_
  refine o_bipush (nI 6) dN_nearest_1 rfl ?_
  refine m_callS M_N_out [.inl a, .inl (nI 6)] [] dN_nearest_3 mk_N_out st_N_out ml_N_73 rfl rfl rfl (Nat.le_of_ble_eq_true rfl) rfl ?_
  refine r_out_n (by decide) ha ?_
  show Om G M_N_nearest 6 [(0, .inr (some (ad 20 0))), (1, .inl a)] [.inl (nI 1)] mu Q
  refine n_if_eq 13 dN_nearest_6 rfl (by omega) (fun h => absurd h (by decide)) (fun _ => ?_)
  refine o_iconst (-1) dN_nearest_9 rfl ?_
  refine o_goto 18 dN_nearest_10 rfl ?_
  refine m_iret dN_nearest_18 rfl ?_
  exact k
theorem R_nearest {G : oG} {mu : oMu} {Q : oPm} {m : Nat} {ky vr nd : Nat → Nat} {dp : Nat → Nat → Nat} {vl : Nat → Int32} {sn ck : Nat → Nat → Nat} {wt fl : Nat → List Nat} {x h d : Nat → Nat → Nat} {s l r ph : Nat → Nat} (hC : ReR mu m ky vr nd dp vl sn ck wt fl x h d s l r ph) {i : Nat} (hi : i < 6) (k : Q (some (.inl (nI (nearB (x i) dp 6)))) mu) : Om G M_N_nearest 0 [(0, .inr (some (ad 20 0))), (1, .inl (nI i))] [] mu Q := by
  refine o_iload_n dN_nearest_0 rfl ?_
  refine o_bipush (nI 6) dN_nearest_1 rfl ?_
  refine m_callS M_N_out [.inl (nI i), .inl (nI 6)] [] dN_nearest_3 mk_N_out st_N_out ml_N_73 rfl rfl rfl (Nat.le_of_ble_eq_true rfl) rfl ?_
  refine r_out_y (by decide) hi ?_
  show Om G M_N_nearest 6 [(0, .inr (some (ad 20 0))), (1, .inl (nI i))] [.inl (nI 0)] mu Q
  refine n_if_eq 13 dN_nearest_6 rfl (by omega) (fun _ => ?_) (fun h => absurd h (by decide))
  refine o_aload_n dN_nearest_13 rfl ?_
  refine o_iload_n dN_nearest_14 rfl ?_
  refine m_callV M_N_near [.inl (nI i)] [] dN_nearest_15 mk_N_near in_N_near se_N_near rfl (by decide) rfl rfl ml_N_81 rfl rfl rfl (Nat.le_of_ble_eq_true rfl) rfl ?_
  refine r_near hC.fw hi (hC.fx hi) ?_
  show Om G M_N_nearest 18 [(0, .inr (some (ad 20 0))), (1, .inl (nI i))] [.inl (nI (nearB (x i) dp 6))] mu Q
  refine m_iret dN_nearest_18 rfl ?_
  exact k
theorem R_dependency_b1 {G : oG} {mu : oMu} {Q : oPm} {m : Nat} {ky vr nd : Nat → Nat} {dp : Nat → Nat → Nat} {vl : Nat → Int32} {sn ck : Nat → Nat → Nat} {wt fl : Nat → List Nat} {x h d : Nat → Nat → Nat} {s l r ph : Nat → Nat} (hC : ReR mu m ky vr nd dp vl sn ck wt fl x h d s l r ph) {a b : Int32} (ha : ∀ j, j < m → ¬ a = nI j) (k : Q (some (.inl (-1))) mu) : Om G M_N_dependency 0 [(0, .inr (some (ad 20 0))), (1, .inl a), (2, .inl b)] [] mu Q := by
  have hm4 := hC.fw.m4
  refine o_iload_n dN_dependency_0 rfl ?_
  refine o_aload_n dN_dependency_1 rfl ?_
  refine m_geti dN_dependency_2 fl_N_65 rfl rfl (by decide) ?_
  refine o_top (nI m) hC.fw.mm ?_
  refine m_callS M_N_out [.inl a, .inl (nI m)] [] dN_dependency_5 mk_N_out st_N_out ml_N_73 rfl rfl rfl (Nat.le_of_ble_eq_true rfl) rfl ?_
  refine r_out_n (by omega) ha ?_
  show Om G M_N_dependency 8 [(0, .inr (some (ad 20 0))), (1, .inl a), (2, .inl b)] [.inl (nI 1)] mu Q
  refine n_if_ne 20 dN_dependency_8 rfl (by omega) (fun _ => ?_) (fun h => absurd h (by decide))
  refine o_iconst (-1) dN_dependency_20 rfl ?_
  refine m_iret dN_dependency_21 rfl ?_
  exact k
theorem R_dependency_b2 {G : oG} {mu : oMu} {Q : oPm} {m : Nat} {ky vr nd : Nat → Nat} {dp : Nat → Nat → Nat} {vl : Nat → Int32} {sn ck : Nat → Nat → Nat} {wt fl : Nat → List Nat} {x h d : Nat → Nat → Nat} {s l r ph : Nat → Nat} (hC : ReR mu m ky vr nd dp vl sn ck wt fl x h d s l r ph) {w : Nat} {b : Int32} (hw : w < m) (hb : ∀ j, j < 6 → ¬ b = nI j) (k : Q (some (.inl (-1))) mu) : Om G M_N_dependency 0 [(0, .inr (some (ad 20 0))), (1, .inl (nI w)), (2, .inl b)] [] mu Q := by
  have hm4 := hC.fw.m4
  refine o_iload_n dN_dependency_0 rfl ?_
  refine o_aload_n dN_dependency_1 rfl ?_
  refine m_geti dN_dependency_2 fl_N_65 rfl rfl (by decide) ?_
  refine o_top (nI m) hC.fw.mm ?_
  refine m_callS M_N_out [.inl (nI w), .inl (nI m)] [] dN_dependency_5 mk_N_out st_N_out ml_N_73 rfl rfl rfl (Nat.le_of_ble_eq_true rfl) rfl ?_
  refine r_out_y (by omega) hw ?_
  show Om G M_N_dependency 8 [(0, .inr (some (ad 20 0))), (1, .inl (nI w)), (2, .inl b)] [.inl (nI 0)] mu Q
  refine n_if_ne 20 dN_dependency_8 rfl (by omega) (fun h => absurd h (by decide)) (fun _ => ?_)
  refine o_iload_n dN_dependency_11 rfl ?_
  refine o_bipush (nI 6) dN_dependency_12 rfl ?_
  refine m_callS M_N_out [.inl b, .inl (nI 6)] [] dN_dependency_14 mk_N_out st_N_out ml_N_73 rfl rfl rfl (Nat.le_of_ble_eq_true rfl) rfl ?_
  refine r_out_n (by decide) hb ?_
  show Om G M_N_dependency 17 [(0, .inr (some (ad 20 0))), (1, .inl (nI w)), (2, .inl b)] [.inl (nI 1)] mu Q
  refine n_if_eq 22 dN_dependency_17 rfl (by omega) (fun h => absurd h (by decide)) (fun _ => ?_)
  refine o_iconst (-1) dN_dependency_20 rfl ?_
  refine m_iret dN_dependency_21 rfl ?_
  exact k
theorem R_dependency {G : oG} {mu : oMu} {Q : oPm} {m : Nat} {ky vr nd : Nat → Nat} {dp : Nat → Nat → Nat} {vl : Nat → Int32} {sn ck : Nat → Nat → Nat} {wt fl : Nat → List Nat} {x h d : Nat → Nat → Nat} {s l r ph : Nat → Nat} (hC : ReR mu m ky vr nd dp vl sn ck wt fl x h d s l r ph) {w q : Nat} (hw : w < m) (hq : q < 6) (k : Q (some (.inl (dec (dp w q)))) mu) : Om G M_N_dependency 0 [(0, .inr (some (ad 20 0))), (1, .inl (nI w)), (2, .inl (nI q))] [] mu Q := by
  have hm4 := hC.fw.m4
  refine o_iload_n dN_dependency_0 rfl ?_
  refine o_aload_n dN_dependency_1 rfl ?_
  refine m_geti dN_dependency_2 fl_N_65 rfl rfl (by decide) ?_
  refine o_top (nI m) hC.fw.mm ?_
  refine m_callS M_N_out [.inl (nI w), .inl (nI m)] [] dN_dependency_5 mk_N_out st_N_out ml_N_73 rfl rfl rfl (Nat.le_of_ble_eq_true rfl) rfl ?_
  refine r_out_y (by omega) hw ?_
  show Om G M_N_dependency 8 [(0, .inr (some (ad 20 0))), (1, .inl (nI w)), (2, .inl (nI q))] [.inl (nI 0)] mu Q
  refine n_if_ne 20 dN_dependency_8 rfl (by omega) (fun h => absurd h (by decide)) (fun _ => ?_)
  refine o_iload_n dN_dependency_11 rfl ?_
  refine o_bipush (nI 6) dN_dependency_12 rfl ?_
  refine m_callS M_N_out [.inl (nI q), .inl (nI 6)] [] dN_dependency_14 mk_N_out st_N_out ml_N_73 rfl rfl rfl (Nat.le_of_ble_eq_true rfl) rfl ?_
  refine r_out_y (by decide) hq ?_
  show Om G M_N_dependency 17 [(0, .inr (some (ad 20 0))), (1, .inl (nI w)), (2, .inl (nI q))] [.inl (nI 0)] mu Q
  refine n_if_eq 22 dN_dependency_17 rfl (by omega) (fun _ => ?_) (fun h => absurd h (by decide))
  refine o_aload_n dN_dependency_22 rfl ?_
  refine m_getr dN_dependency_23 fl_N_19 rfl rfl (by decide) ?_
  refine o_bipush (nI 6) dN_dependency_26 rfl ?_
  refine o_iload_n dN_dependency_28 rfl ?_
  refine o_imul dN_dependency_29 ?_
  refine o_top _ (pk_mul _ _) ?_
  refine o_iload_n dN_dependency_30 rfl ?_
  refine o_iadd dN_dependency_31 ?_
  refine o_top _ (nI_add _ _) ?_
  refine m_iald (6 * w + q) dN_dependency_32 rfl rfl rfl (by decide) rfl (by omega) ?_
  refine o_top (nI (dp w q)) (hC.fw.dep hw hq) ?_
  have hle9 := hC.fw.depB hw hq
  refine n_if_ne 41 dN_dependency_33 rfl (by omega) (fun hb33 => ?_) (fun hb33 => ?_)
  · skip
    obtain ⟨u, hu⟩ : ∃ u, dp w q = u + 1 := ⟨dp w q - 1, by omega⟩
    refine o_aload_n dN_dependency_41 rfl ?_
    refine m_getr dN_dependency_42 fl_N_19 rfl rfl (by decide) ?_
    refine o_bipush (nI 6) dN_dependency_45 rfl ?_
    refine o_iload_n dN_dependency_47 rfl ?_
    refine o_imul dN_dependency_48 ?_
    refine o_top _ (pk_mul _ _) ?_
    refine o_iload_n dN_dependency_49 rfl ?_
    refine o_iadd dN_dependency_50 ?_
    refine o_top _ (nI_add _ _) ?_
    refine m_iald (6 * w + q) dN_dependency_51 rfl rfl rfl (by decide) rfl (by omega) ?_
    refine o_top (nI (u + 1)) ((hC.fw.dep hw hq).trans (by rw [hu])) ?_
    refine o_iconst (nI 1) dN_dependency_52 rfl ?_
    refine o_isub dN_dependency_53 ?_
    refine o_top (nI u) (pk_sub (show 1 ≤ u + 1 by omega)) ?_
    refine m_iret dN_dependency_54 rfl ?_
    rw [hu] at k
    exact k
  · skip
    refine o_bipush (-4) dN_dependency_36 rfl ?_
    refine o_goto 54 dN_dependency_38 rfl ?_
    refine m_iret dN_dependency_54 rfl ?_
    rw [hb33] at k
    exact k
theorem R_visible_b1 {G : oG} {mu : oMu} {Q : oPm} {a b : Int32} (ha : ∀ j, j < 3 → ¬ a = nI j) (k : Q (some (.inl (nI 0))) mu) : Om G M_N_visible 0 [(0, .inr (some (ad 20 0))), (1, .inl a), (2, .inl b)] [] mu Q := by
  refine o_iload_n dN_visible_0 rfl ?_
  refine o_iconst (nI 3) dN_visible_1 rfl ?_
  refine m_callS M_N_out [.inl a, .inl (nI 3)] [] dN_visible_2 mk_N_out st_N_out ml_N_73 rfl rfl rfl (Nat.le_of_ble_eq_true rfl) rfl ?_
  refine r_out_n (by decide) ha ?_
  show Om G M_N_visible 5 [(0, .inr (some (ad 20 0))), (1, .inl a), (2, .inl b)] [.inl (nI 1)] mu Q
  refine n_if_ne 37 dN_visible_5 rfl (by omega) (fun _ => ?_) (fun h => absurd h (by decide))
  refine o_iconst (nI 0) dN_visible_37 rfl ?_
  refine m_zret dN_visible_38 rfl rfl ?_
  exact k
theorem R_visible_b2 {G : oG} {mu : oMu} {Q : oPm} {m : Nat} {ky vr nd : Nat → Nat} {dp : Nat → Nat → Nat} {vl : Nat → Int32} {sn ck : Nat → Nat → Nat} {wt fl : Nat → List Nat} {x h d : Nat → Nat → Nat} {s l r ph : Nat → Nat} (hC : ReR mu m ky vr nd dp vl sn ck wt fl x h d s l r ph) {i : Nat} {b : Int32} (hi : i < 3) (hb : ∀ j, j < m → ¬ b = nI j) (k : Q (some (.inl (nI 0))) mu) : Om G M_N_visible 0 [(0, .inr (some (ad 20 0))), (1, .inl (nI i)), (2, .inl b)] [] mu Q := by
  have hm4 := hC.fw.m4
  refine o_iload_n dN_visible_0 rfl ?_
  refine o_iconst (nI 3) dN_visible_1 rfl ?_
  refine m_callS M_N_out [.inl (nI i), .inl (nI 3)] [] dN_visible_2 mk_N_out st_N_out ml_N_73 rfl rfl rfl (Nat.le_of_ble_eq_true rfl) rfl ?_
  refine r_out_y (by decide) hi ?_
  show Om G M_N_visible 5 [(0, .inr (some (ad 20 0))), (1, .inl (nI i)), (2, .inl b)] [.inl (nI 0)] mu Q
  refine n_if_ne 37 dN_visible_5 rfl (by omega) (fun h => absurd h (by decide)) (fun _ => ?_)
  refine o_iload_n dN_visible_8 rfl ?_
  refine o_aload_n dN_visible_9 rfl ?_
  refine m_geti dN_visible_10 fl_N_65 rfl rfl (by decide) ?_
  refine o_top (nI m) hC.fw.mm ?_
  refine m_callS M_N_out [.inl b, .inl (nI m)] [] dN_visible_13 mk_N_out st_N_out ml_N_73 rfl rfl rfl (Nat.le_of_ble_eq_true rfl) rfl ?_
  refine r_out_n (by omega) hb ?_
  show Om G M_N_visible 16 [(0, .inr (some (ad 20 0))), (1, .inl (nI i)), (2, .inl b)] [.inl (nI 1)] mu Q
  refine n_if_ne 37 dN_visible_16 rfl (by omega) (fun _ => ?_) (fun h => absurd h (by decide))
  refine o_iconst (nI 0) dN_visible_37 rfl ?_
  refine m_zret dN_visible_38 rfl rfl ?_
  exact k
theorem R_visible {G : oG} {mu : oMu} {Q : oPm} {m : Nat} {ky vr nd : Nat → Nat} {dp : Nat → Nat → Nat} {vl : Nat → Int32} {sn ck : Nat → Nat → Nat} {wt fl : Nat → List Nat} {x h d : Nat → Nat → Nat} {s l r ph : Nat → Nat} (hC : ReR mu m ky vr nd dp vl sn ck wt fl x h d s l r ph) {i w : Nat} (hi : i < 3) (hw : w < m) (k : Q (some (.inl (nI (sn i w)))) mu) : Om G M_N_visible 0 [(0, .inr (some (ad 20 0))), (1, .inl (nI i)), (2, .inl (nI w))] [] mu Q := by
  have hm4 := hC.fw.m4
  refine o_iload_n dN_visible_0 rfl ?_
  refine o_iconst (nI 3) dN_visible_1 rfl ?_
  refine m_callS M_N_out [.inl (nI i), .inl (nI 3)] [] dN_visible_2 mk_N_out st_N_out ml_N_73 rfl rfl rfl (Nat.le_of_ble_eq_true rfl) rfl ?_
  refine r_out_y (by decide) hi ?_
  show Om G M_N_visible 5 [(0, .inr (some (ad 20 0))), (1, .inl (nI i)), (2, .inl (nI w))] [.inl (nI 0)] mu Q
  refine n_if_ne 37 dN_visible_5 rfl (by omega) (fun h => absurd h (by decide)) (fun _ => ?_)
  refine o_iload_n dN_visible_8 rfl ?_
  refine o_aload_n dN_visible_9 rfl ?_
  refine m_geti dN_visible_10 fl_N_65 rfl rfl (by decide) ?_
  refine o_top (nI m) hC.fw.mm ?_
  refine m_callS M_N_out [.inl (nI w), .inl (nI m)] [] dN_visible_13 mk_N_out st_N_out ml_N_73 rfl rfl rfl (Nat.le_of_ble_eq_true rfl) rfl ?_
  refine r_out_y (by omega) hw ?_
  show Om G M_N_visible 16 [(0, .inr (some (ad 20 0))), (1, .inl (nI i)), (2, .inl (nI w))] [.inl (nI 0)] mu Q
  refine n_if_ne 37 dN_visible_16 rfl (by omega) (fun h => absurd h (by decide)) (fun _ => ?_)
  refine o_aload_n dN_visible_19 rfl ?_
  refine m_getr dN_visible_20 fl_N_25 rfl rfl (by decide) ?_
  refine o_bipush (nI 40) dN_visible_23 rfl ?_
  refine o_iload_n dN_visible_25 rfl ?_
  refine o_imul dN_visible_26 ?_
  refine o_top _ (pk_mul _ _) ?_
  refine o_iload_n dN_visible_27 rfl ?_
  refine o_iadd dN_visible_28 ?_
  refine o_top _ (nI_add _ _) ?_
  refine m_zald (40 * i + w) dN_visible_29 rfl rfl rfl (by decide) rfl (by omega) ?_
  refine o_top (nI (sn i w)) (hC.fsn hi w (by omega)).1 ?_
  have hs2 := (hC.fsn hi w (by omega)).2
  refine n_if_eq 37 dN_visible_30 rfl (by omega) (fun hb30 => ?_) (fun hb30 => ?_)
  · skip
    refine o_iconst (nI 0) dN_visible_37 rfl ?_
    refine m_zret dN_visible_38 rfl rfl ?_
    rw [hb30] at k
    exact k
  · skip
    refine o_iconst (nI 1) dN_visible_33 rfl ?_
    refine o_goto 38 dN_visible_34 rfl ?_
    refine m_zret dN_visible_38 rfl rfl ?_
    rw [show sn i w = 1 by omega] at k
    exact k
theorem R_about_b1 {G : oG} {mu : oMu} {Q : oPm} {m : Nat} {ky vr nd : Nat → Nat} {dp : Nat → Nat → Nat} {vl : Nat → Int32} {sn ck : Nat → Nat → Nat} {wt fl : Nat → List Nat} {x h d : Nat → Nat → Nat} {s l r ph : Nat → Nat} (hC : ReR mu m ky vr nd dp vl sn ck wt fl x h d s l r ph) {a b : Int32} (ha : ∀ j, j < m → ¬ a = nI j) (k : Q (some (.inl (nI 0))) mu) : Om G M_N_about 0 [(0, .inr (some (ad 20 0))), (1, .inl a), (2, .inl b)] [] mu Q := by
  have hm4 := hC.fw.m4
  refine o_iload_n dN_about_0 rfl ?_
  refine o_aload_n dN_about_1 rfl ?_
  refine m_geti dN_about_2 fl_N_65 rfl rfl (by decide) ?_
  refine o_top (nI m) hC.fw.mm ?_
  refine m_callS M_N_out [.inl a, .inl (nI m)] [] dN_about_5 mk_N_out st_N_out ml_N_73 rfl rfl rfl (Nat.le_of_ble_eq_true rfl) rfl ?_
  refine r_out_n (by omega) ha ?_
  show Om G M_N_about 8 [(0, .inr (some (ad 20 0))), (1, .inl a), (2, .inl b)] [.inl (nI 1)] mu Q
  refine n_if_eq 13 dN_about_8 rfl (by omega) (fun h => absurd h (by decide)) (fun _ => ?_)
  refine o_iconst (nI 0) dN_about_11 rfl ?_
  refine m_iret dN_about_12 rfl ?_
  exact k
theorem R_about_0 {G : oG} {mu : oMu} {Q : oPm} {m : Nat} {ky vr nd : Nat → Nat} {dp : Nat → Nat → Nat} {vl : Nat → Int32} {sn ck : Nat → Nat → Nat} {wt fl : Nat → List Nat} {x h d : Nat → Nat → Nat} {s l r ph : Nat → Nat} (hC : ReR mu m ky vr nd dp vl sn ck wt fl x h d s l r ph) {w : Nat} (hw : w < m) (k : Q (some (.inl (nI (ky w)))) mu) : Om G M_N_about 0 [(0, .inr (some (ad 20 0))), (1, .inl (nI w)), (2, .inl (nI 0))] [] mu Q := by
  have hm4 := hC.fw.m4
  refine o_iload_n dN_about_0 rfl ?_
  refine o_aload_n dN_about_1 rfl ?_
  refine m_geti dN_about_2 fl_N_65 rfl rfl (by decide) ?_
  refine o_top (nI m) hC.fw.mm ?_
  refine m_callS M_N_out [.inl (nI w), .inl (nI m)] [] dN_about_5 mk_N_out st_N_out ml_N_73 rfl rfl rfl (Nat.le_of_ble_eq_true rfl) rfl ?_
  refine r_out_y (by omega) hw ?_
  show Om G M_N_about 8 [(0, .inr (some (ad 20 0))), (1, .inl (nI w)), (2, .inl (nI 0))] [.inl (nI 0)] mu Q
  refine n_if_eq 13 dN_about_8 rfl (by omega) (fun _ => ?_) (fun h => absurd h (by decide))
  refine o_iload_n dN_about_13 rfl ?_
  refine o_tabIn 44 dN_about_14 (by decide) (by decide) rfl rfl ?_
  refine o_aload_n dN_about_44 rfl ?_
  refine m_getr dN_about_45 fl_N_7 rfl rfl (by decide) ?_
  refine o_iload_n dN_about_48 rfl ?_
  refine m_iald w dN_about_49 rfl rfl rfl (by decide) rfl (by omega) ?_
  refine o_top (nI (ky w)) (hC.fw.key hw) ?_
  refine m_iret dN_about_50 rfl ?_
  exact k
theorem R_about_1 {G : oG} {mu : oMu} {Q : oPm} {m : Nat} {ky vr nd : Nat → Nat} {dp : Nat → Nat → Nat} {vl : Nat → Int32} {sn ck : Nat → Nat → Nat} {wt fl : Nat → List Nat} {x h d : Nat → Nat → Nat} {s l r ph : Nat → Nat} (hC : ReR mu m ky vr nd dp vl sn ck wt fl x h d s l r ph) {w : Nat} (hw : w < m) (k : Q (some (.inl (nI (vr w)))) mu) : Om G M_N_about 0 [(0, .inr (some (ad 20 0))), (1, .inl (nI w)), (2, .inl (nI 1))] [] mu Q := by
  have hm4 := hC.fw.m4
  refine o_iload_n dN_about_0 rfl ?_
  refine o_aload_n dN_about_1 rfl ?_
  refine m_geti dN_about_2 fl_N_65 rfl rfl (by decide) ?_
  refine o_top (nI m) hC.fw.mm ?_
  refine m_callS M_N_out [.inl (nI w), .inl (nI m)] [] dN_about_5 mk_N_out st_N_out ml_N_73 rfl rfl rfl (Nat.le_of_ble_eq_true rfl) rfl ?_
  refine r_out_y (by omega) hw ?_
  show Om G M_N_about 8 [(0, .inr (some (ad 20 0))), (1, .inl (nI w)), (2, .inl (nI 1))] [.inl (nI 0)] mu Q
  refine n_if_eq 13 dN_about_8 rfl (by omega) (fun _ => ?_) (fun h => absurd h (by decide))
  refine o_iload_n dN_about_13 rfl ?_
  refine o_tabIn 51 dN_about_14 (by decide) (by decide) rfl rfl ?_
  refine o_aload_n dN_about_51 rfl ?_
  refine m_getr dN_about_52 fl_N_16 rfl rfl (by decide) ?_
  refine o_iload_n dN_about_55 rfl ?_
  refine m_iald w dN_about_56 rfl rfl rfl (by decide) rfl (by omega) ?_
  refine o_top (nI (vr w)) (hC.fw.ver w hw) ?_
  refine m_iret dN_about_57 rfl ?_
  exact k
theorem R_about_2 {G : oG} {mu : oMu} {Q : oPm} {m : Nat} {ky vr nd : Nat → Nat} {dp : Nat → Nat → Nat} {vl : Nat → Int32} {sn ck : Nat → Nat → Nat} {wt fl : Nat → List Nat} {x h d : Nat → Nat → Nat} {s l r ph : Nat → Nat} (hC : ReR mu m ky vr nd dp vl sn ck wt fl x h d s l r ph) {w : Nat} (hw : w < m) (k : Q (some (.inl (vl w))) mu) : Om G M_N_about 0 [(0, .inr (some (ad 20 0))), (1, .inl (nI w)), (2, .inl (nI 2))] [] mu Q := by
  have hm4 := hC.fw.m4
  refine o_iload_n dN_about_0 rfl ?_
  refine o_aload_n dN_about_1 rfl ?_
  refine m_geti dN_about_2 fl_N_65 rfl rfl (by decide) ?_
  refine o_top (nI m) hC.fw.mm ?_
  refine m_callS M_N_out [.inl (nI w), .inl (nI m)] [] dN_about_5 mk_N_out st_N_out ml_N_73 rfl rfl rfl (Nat.le_of_ble_eq_true rfl) rfl ?_
  refine r_out_y (by omega) hw ?_
  show Om G M_N_about 8 [(0, .inr (some (ad 20 0))), (1, .inl (nI w)), (2, .inl (nI 2))] [.inl (nI 0)] mu Q
  refine n_if_eq 13 dN_about_8 rfl (by omega) (fun _ => ?_) (fun h => absurd h (by decide))
  refine o_iload_n dN_about_13 rfl ?_
  refine o_tabIn 58 dN_about_14 (by decide) (by decide) rfl rfl ?_
  refine o_aload_n dN_about_58 rfl ?_
  refine m_getr dN_about_59 fl_N_13 rfl rfl (by decide) ?_
  refine o_iload_n dN_about_62 rfl ?_
  refine m_iald w dN_about_63 rfl rfl rfl (by decide) rfl (by omega) ?_
  refine o_top (vl w) (hC.fv hw) ?_
  refine m_iret dN_about_64 rfl ?_
  exact k
theorem R_about_3 {G : oG} {mu : oMu} {Q : oPm} {m : Nat} {ky vr nd : Nat → Nat} {dp : Nat → Nat → Nat} {vl : Nat → Int32} {sn ck : Nat → Nat → Nat} {wt fl : Nat → List Nat} {x h d : Nat → Nat → Nat} {s l r ph : Nat → Nat} (hC : ReR mu m ky vr nd dp vl sn ck wt fl x h d s l r ph) {w : Nat} (hw : w < m) (k : Q (some (.inl (nI (nd w)))) mu) : Om G M_N_about 0 [(0, .inr (some (ad 20 0))), (1, .inl (nI w)), (2, .inl (nI 3))] [] mu Q := by
  have hm4 := hC.fw.m4
  refine o_iload_n dN_about_0 rfl ?_
  refine o_aload_n dN_about_1 rfl ?_
  refine m_geti dN_about_2 fl_N_65 rfl rfl (by decide) ?_
  refine o_top (nI m) hC.fw.mm ?_
  refine m_callS M_N_out [.inl (nI w), .inl (nI m)] [] dN_about_5 mk_N_out st_N_out ml_N_73 rfl rfl rfl (Nat.le_of_ble_eq_true rfl) rfl ?_
  refine r_out_y (by omega) hw ?_
  show Om G M_N_about 8 [(0, .inr (some (ad 20 0))), (1, .inl (nI w)), (2, .inl (nI 3))] [.inl (nI 0)] mu Q
  refine n_if_eq 13 dN_about_8 rfl (by omega) (fun _ => ?_) (fun h => absurd h (by decide))
  refine o_iload_n dN_about_13 rfl ?_
  refine o_tabIn 65 dN_about_14 (by decide) (by decide) rfl rfl ?_
  refine o_aload_n dN_about_65 rfl ?_
  refine m_getr dN_about_66 fl_N_22 rfl rfl (by decide) ?_
  refine o_iload_n dN_about_69 rfl ?_
  refine m_iald w dN_about_70 rfl rfl rfl (by decide) rfl (by omega) ?_
  refine o_top (nI (nd w)) (hC.fw.need hw) ?_
  refine m_iret dN_about_71 rfl ?_
  exact k
theorem R_about_o {G : oG} {mu : oMu} {Q : oPm} {m : Nat} {ky vr nd : Nat → Nat} {dp : Nat → Nat → Nat} {vl : Nat → Int32} {sn ck : Nat → Nat → Nat} {wt fl : Nat → List Nat} {x h d : Nat → Nat → Nat} {s l r ph : Nat → Nat} (hC : ReR mu m ky vr nd dp vl sn ck wt fl x h d s l r ph) {w : Nat} {b : Int32} (hw : w < m) (hb : ∀ j, j < 4 → ¬ b = nI j) (k : Q (some (.inl (nI 0))) mu) : Om G M_N_about 0 [(0, .inr (some (ad 20 0))), (1, .inl (nI w)), (2, .inl b)] [] mu Q := by
  have hm4 := hC.fw.m4
  refine o_iload_n dN_about_0 rfl ?_
  refine o_aload_n dN_about_1 rfl ?_
  refine m_geti dN_about_2 fl_N_65 rfl rfl (by decide) ?_
  refine o_top (nI m) hC.fw.mm ?_
  refine m_callS M_N_out [.inl (nI w), .inl (nI m)] [] dN_about_5 mk_N_out st_N_out ml_N_73 rfl rfl rfl (Nat.le_of_ble_eq_true rfl) rfl ?_
  refine r_out_y (by omega) hw ?_
  show Om G M_N_about 8 [(0, .inr (some (ad 20 0))), (1, .inl (nI w)), (2, .inl b)] [.inl (nI 0)] mu Q
  refine n_if_eq 13 dN_about_8 rfl (by omega) (fun _ => ?_) (fun h => absurd h (by decide))
  refine o_iload_n dN_about_13 rfl ?_
  refine o_tabOut 72 dN_about_14 (sw_out (n := 3) (by decide) hb) rfl ?_
  refine o_iconst (nI 0) dN_about_72 rfl ?_
  refine m_iret dN_about_73 rfl ?_
  exact k
theorem r_link_b1 {G : oG} {mu : oMu} {Q : oPm} {a b : Int32} (ha : ∀ j, j < 3 → ¬ a = nI j) (k : Q (some (.inl (nI 0))) mu) : Om G M_N_link 0 [(0, .inr (some (ad 20 0))), (1, .inl a), (2, .inl b)] [] mu Q := by
  refine o_iload_n dN_link_0 rfl ?_
  refine o_iconst (nI 3) dN_link_1 rfl ?_
  refine m_callS M_N_out [.inl a, .inl (nI 3)] [] dN_link_2 mk_N_out st_N_out ml_N_73 rfl rfl rfl (Nat.le_of_ble_eq_true rfl) rfl ?_
  refine r_out_n (by decide) ha ?_
  show Om G M_N_link 5 [(0, .inr (some (ad 20 0))), (1, .inl a), (2, .inl b)] [.inl (nI 1)] mu Q
  refine n_if_ne 25 dN_link_5 rfl (by omega) (fun _ => ?_) (fun h => absurd h (by decide))
  refine o_iconst (nI 0) dN_link_25 rfl ?_
  refine m_zret dN_link_26 rfl rfl ?_
  exact k
theorem r_link_b2 {G : oG} {mu : oMu} {Q : oPm} {i : Nat} {b : Int32} (hi : i < 3) (hb : ∀ j, j < 3 → ¬ b = nI j) (k : Q (some (.inl (nI 0))) mu) : Om G M_N_link 0 [(0, .inr (some (ad 20 0))), (1, .inl (nI i)), (2, .inl b)] [] mu Q := by
  refine o_iload_n dN_link_0 rfl ?_
  refine o_iconst (nI 3) dN_link_1 rfl ?_
  refine m_callS M_N_out [.inl (nI i), .inl (nI 3)] [] dN_link_2 mk_N_out st_N_out ml_N_73 rfl rfl rfl (Nat.le_of_ble_eq_true rfl) rfl ?_
  refine r_out_y (by decide) hi ?_
  show Om G M_N_link 5 [(0, .inr (some (ad 20 0))), (1, .inl (nI i)), (2, .inl b)] [.inl (nI 0)] mu Q
  refine n_if_ne 25 dN_link_5 rfl (by omega) (fun h => absurd h (by decide)) (fun _ => ?_)
  refine o_iload_n dN_link_8 rfl ?_
  refine o_iconst (nI 3) dN_link_9 rfl ?_
  refine m_callS M_N_out [.inl b, .inl (nI 3)] [] dN_link_10 mk_N_out st_N_out ml_N_73 rfl rfl rfl (Nat.le_of_ble_eq_true rfl) rfl ?_
  refine r_out_n (by decide) hb ?_
  show Om G M_N_link 13 [(0, .inr (some (ad 20 0))), (1, .inl (nI i)), (2, .inl b)] [.inl (nI 1)] mu Q
  refine n_if_ne 25 dN_link_13 rfl (by omega) (fun _ => ?_) (fun h => absurd h (by decide))
  refine o_iconst (nI 0) dN_link_25 rfl ?_
  refine m_zret dN_link_26 rfl rfl ?_
  exact k
theorem r_link_e {G : oG} {mu : oMu} {Q : oPm} {i : Nat} (hi : i < 3) (k : Q (some (.inl (nI 0))) mu) : Om G M_N_link 0 [(0, .inr (some (ad 20 0))), (1, .inl (nI i)), (2, .inl (nI i))] [] mu Q := by
  refine o_iload_n dN_link_0 rfl ?_
  refine o_iconst (nI 3) dN_link_1 rfl ?_
  refine m_callS M_N_out [.inl (nI i), .inl (nI 3)] [] dN_link_2 mk_N_out st_N_out ml_N_73 rfl rfl rfl (Nat.le_of_ble_eq_true rfl) rfl ?_
  refine r_out_y (by decide) hi ?_
  show Om G M_N_link 5 [(0, .inr (some (ad 20 0))), (1, .inl (nI i)), (2, .inl (nI i))] [.inl (nI 0)] mu Q
  refine n_if_ne 25 dN_link_5 rfl (by omega) (fun h => absurd h (by decide)) (fun _ => ?_)
  refine o_iload_n dN_link_8 rfl ?_
  refine o_iconst (nI 3) dN_link_9 rfl ?_
  refine m_callS M_N_out [.inl (nI i), .inl (nI 3)] [] dN_link_10 mk_N_out st_N_out ml_N_73 rfl rfl rfl (Nat.le_of_ble_eq_true rfl) rfl ?_
  refine r_out_y (by decide) hi ?_
  show Om G M_N_link 13 [(0, .inr (some (ad 20 0))), (1, .inl (nI i)), (2, .inl (nI i))] [.inl (nI 0)] mu Q
  refine n_if_ne 25 dN_link_13 rfl (by omega) (fun h => absurd h (by decide)) (fun _ => ?_)
  refine o_iload_n dN_link_16 rfl ?_
  refine o_iload_n dN_link_17 rfl ?_
  refine n_icmp_eq 25 dN_link_18 rfl (by omega) (by omega) (fun h => ?_) (fun h => absurd rfl h)
  refine o_iconst (nI 0) dN_link_25 rfl ?_
  refine m_zret dN_link_26 rfl rfl ?_
  exact k
theorem r_link {G : oG} {mu : oMu} {Q : oPm} {i q : Nat} (hi : i < 3) (hq : q < 3) (hne : ¬ i = q) (k : Q (some (.inl (nI 1))) mu) : Om G M_N_link 0 [(0, .inr (some (ad 20 0))), (1, .inl (nI i)), (2, .inl (nI q))] [] mu Q := by
  refine o_iload_n dN_link_0 rfl ?_
  refine o_iconst (nI 3) dN_link_1 rfl ?_
  refine m_callS M_N_out [.inl (nI i), .inl (nI 3)] [] dN_link_2 mk_N_out st_N_out ml_N_73 rfl rfl rfl (Nat.le_of_ble_eq_true rfl) rfl ?_
  refine r_out_y (by decide) hi ?_
  show Om G M_N_link 5 [(0, .inr (some (ad 20 0))), (1, .inl (nI i)), (2, .inl (nI q))] [.inl (nI 0)] mu Q
  refine n_if_ne 25 dN_link_5 rfl (by omega) (fun h => absurd h (by decide)) (fun _ => ?_)
  refine o_iload_n dN_link_8 rfl ?_
  refine o_iconst (nI 3) dN_link_9 rfl ?_
  refine m_callS M_N_out [.inl (nI q), .inl (nI 3)] [] dN_link_10 mk_N_out st_N_out ml_N_73 rfl rfl rfl (Nat.le_of_ble_eq_true rfl) rfl ?_
  refine r_out_y (by decide) hq ?_
  show Om G M_N_link 13 [(0, .inr (some (ad 20 0))), (1, .inl (nI i)), (2, .inl (nI q))] [.inl (nI 0)] mu Q
  refine n_if_ne 25 dN_link_13 rfl (by omega) (fun h => absurd h (by decide)) (fun _ => ?_)
  refine o_iload_n dN_link_16 rfl ?_
  refine o_iload_n dN_link_17 rfl ?_
  refine n_icmp_eq 25 dN_link_18 rfl (by omega) (by omega) (fun h => absurd h hne) (fun h => ?_)
  refine o_iconst (nI 1) dN_link_21 rfl ?_
  refine o_goto 26 dN_link_22 rfl ?_
  refine m_zret dN_link_26 rfl rfl ?_
  exact k
theorem R_flight_b1 {G : oG} {mu : oMu} {Q : oPm} {a b : Int32} (ha : ∀ j, j < 3 → ¬ a = nI j) (k : Q (some (.inl (nI 0))) mu) : Om G M_N_flight 0 [(0, .inr (some (ad 20 0))), (1, .inl a), (2, .inl b)] [] mu Q := by
  refine o_aload_n dN_flight_0 rfl ?_
  refine o_iload_n dN_flight_1 rfl ?_
  refine o_iload_n dN_flight_2 rfl ?_
  refine m_callV M_N_link [.inl a, .inl b] [] dN_flight_3 mk_N_link in_N_link se_N_link rfl (by decide) rfl rfl ml_N_112 rfl rfl rfl (Nat.le_of_ble_eq_true rfl) rfl ?_
  refine r_link_b1 ha ?_
  show Om G M_N_flight 6 [(0, .inr (some (ad 20 0))), (1, .inl a), (2, .inl b)] [.inl (nI 0)] mu Q
  refine n_if_eq 22 dN_flight_6 rfl (by omega) (fun _ => ?_) (fun h => absurd h (by decide))
  refine o_iconst (nI 0) dN_flight_22 rfl ?_
  refine m_iret dN_flight_23 rfl ?_
  exact k
theorem R_flight_b2 {G : oG} {mu : oMu} {Q : oPm} {i : Nat} {b : Int32} (hi : i < 3) (hb : ∀ j, j < 3 → ¬ b = nI j) (k : Q (some (.inl (nI 0))) mu) : Om G M_N_flight 0 [(0, .inr (some (ad 20 0))), (1, .inl (nI i)), (2, .inl b)] [] mu Q := by
  refine o_aload_n dN_flight_0 rfl ?_
  refine o_iload_n dN_flight_1 rfl ?_
  refine o_iload_n dN_flight_2 rfl ?_
  refine m_callV M_N_link [.inl (nI i), .inl b] [] dN_flight_3 mk_N_link in_N_link se_N_link rfl (by decide) rfl rfl ml_N_112 rfl rfl rfl (Nat.le_of_ble_eq_true rfl) rfl ?_
  refine r_link_b2 hi hb ?_
  show Om G M_N_flight 6 [(0, .inr (some (ad 20 0))), (1, .inl (nI i)), (2, .inl b)] [.inl (nI 0)] mu Q
  refine n_if_eq 22 dN_flight_6 rfl (by omega) (fun _ => ?_) (fun h => absurd h (by decide))
  refine o_iconst (nI 0) dN_flight_22 rfl ?_
  refine m_iret dN_flight_23 rfl ?_
  exact k
theorem R_flight_e {G : oG} {mu : oMu} {Q : oPm} {i : Nat} (hi : i < 3) (k : Q (some (.inl (nI 0))) mu) : Om G M_N_flight 0 [(0, .inr (some (ad 20 0))), (1, .inl (nI i)), (2, .inl (nI i))] [] mu Q := by
  refine o_aload_n dN_flight_0 rfl ?_
  refine o_iload_n dN_flight_1 rfl ?_
  refine o_iload_n dN_flight_2 rfl ?_
  refine m_callV M_N_link [.inl (nI i), .inl (nI i)] [] dN_flight_3 mk_N_link in_N_link se_N_link rfl (by decide) rfl rfl ml_N_112 rfl rfl rfl (Nat.le_of_ble_eq_true rfl) rfl ?_
  refine r_link_e hi ?_
  show Om G M_N_flight 6 [(0, .inr (some (ad 20 0))), (1, .inl (nI i)), (2, .inl (nI i))] [.inl (nI 0)] mu Q
  refine n_if_eq 22 dN_flight_6 rfl (by omega) (fun _ => ?_) (fun h => absurd h (by decide))
  refine o_iconst (nI 0) dN_flight_22 rfl ?_
  refine m_iret dN_flight_23 rfl ?_
  exact k
theorem R_sent_b1 {G : oG} {mu : oMu} {Q : oPm} {a b : Int32} {z : Int32} (ha : ∀ j, j < 3 → ¬ a = nI j) (k : Q (some (.inl (-4))) mu) : Om G M_N_sent 0 [(0, .inr (some (ad 20 0))), (1, .inl a), (2, .inl b), (3, .inl z)] [] mu Q := by
  refine o_aload_n dN_sent_0 rfl ?_
  refine o_iload_n dN_sent_1 rfl ?_
  refine o_iload_n dN_sent_2 rfl ?_
  refine m_callV M_N_link [.inl a, .inl b] [] dN_sent_3 mk_N_link in_N_link se_N_link rfl (by decide) rfl rfl ml_N_112 rfl rfl rfl (Nat.le_of_ble_eq_true rfl) rfl ?_
  refine r_link_b1 ha ?_
  show Om G M_N_sent 6 [(0, .inr (some (ad 20 0))), (1, .inl a), (2, .inl b), (3, .inl z)] [.inl (nI 0)] mu Q
  refine n_if_ne 12 dN_sent_6 rfl (by omega) (fun h => absurd h (by decide)) (fun _ => ?_)
  refine o_bipush (-4) dN_sent_9 rfl ?_
  refine m_iret dN_sent_11 rfl ?_
  exact k
theorem R_sent_b2 {G : oG} {mu : oMu} {Q : oPm} {i : Nat} {b : Int32} {z : Int32} (hi : i < 3) (hb : ∀ j, j < 3 → ¬ b = nI j) (k : Q (some (.inl (-4))) mu) : Om G M_N_sent 0 [(0, .inr (some (ad 20 0))), (1, .inl (nI i)), (2, .inl b), (3, .inl z)] [] mu Q := by
  refine o_aload_n dN_sent_0 rfl ?_
  refine o_iload_n dN_sent_1 rfl ?_
  refine o_iload_n dN_sent_2 rfl ?_
  refine m_callV M_N_link [.inl (nI i), .inl b] [] dN_sent_3 mk_N_link in_N_link se_N_link rfl (by decide) rfl rfl ml_N_112 rfl rfl rfl (Nat.le_of_ble_eq_true rfl) rfl ?_
  refine r_link_b2 hi hb ?_
  show Om G M_N_sent 6 [(0, .inr (some (ad 20 0))), (1, .inl (nI i)), (2, .inl b), (3, .inl z)] [.inl (nI 0)] mu Q
  refine n_if_ne 12 dN_sent_6 rfl (by omega) (fun h => absurd h (by decide)) (fun _ => ?_)
  refine o_bipush (-4) dN_sent_9 rfl ?_
  refine m_iret dN_sent_11 rfl ?_
  exact k
theorem R_sent_e {G : oG} {mu : oMu} {Q : oPm} {i : Nat} {z : Int32} (hi : i < 3) (k : Q (some (.inl (-4))) mu) : Om G M_N_sent 0 [(0, .inr (some (ad 20 0))), (1, .inl (nI i)), (2, .inl (nI i)), (3, .inl z)] [] mu Q := by
  refine o_aload_n dN_sent_0 rfl ?_
  refine o_iload_n dN_sent_1 rfl ?_
  refine o_iload_n dN_sent_2 rfl ?_
  refine m_callV M_N_link [.inl (nI i), .inl (nI i)] [] dN_sent_3 mk_N_link in_N_link se_N_link rfl (by decide) rfl rfl ml_N_112 rfl rfl rfl (Nat.le_of_ble_eq_true rfl) rfl ?_
  refine r_link_e hi ?_
  show Om G M_N_sent 6 [(0, .inr (some (ad 20 0))), (1, .inl (nI i)), (2, .inl (nI i)), (3, .inl z)] [.inl (nI 0)] mu Q
  refine n_if_ne 12 dN_sent_6 rfl (by omega) (fun h => absurd h (by decide)) (fun _ => ?_)
  refine o_bipush (-4) dN_sent_9 rfl ?_
  refine m_iret dN_sent_11 rfl ?_
  exact k
theorem R_flight {G : oG} {mu : oMu} {Q : oPm} {m : Nat} {ky vr nd : Nat → Nat} {dp : Nat → Nat → Nat} {vl : Nat → Int32} {sn ck : Nat → Nat → Nat} {wt fl : Nat → List Nat} {x h d : Nat → Nat → Nat} {s l r ph : Nat → Nat} (hC : ReR mu m ky vr nd dp vl sn ck wt fl x h d s l r ph) {i q : Nat} (hi : i < 3) (hq : q < 3) (hne : ¬ i = q) (k : Q (some (.inl (nI (fl (3 * i + q)).length))) mu) : Om G M_N_flight 0 [(0, .inr (some (ad 20 0))), (1, .inl (nI i)), (2, .inl (nI q))] [] mu Q := by
  refine o_aload_n dN_flight_0 rfl ?_
  refine o_iload_n dN_flight_1 rfl ?_
  refine o_iload_n dN_flight_2 rfl ?_
  refine m_callV M_N_link [.inl (nI i), .inl (nI q)] [] dN_flight_3 mk_N_link in_N_link se_N_link rfl (by decide) rfl rfl ml_N_112 rfl rfl rfl (Nat.le_of_ble_eq_true rfl) rfl ?_
  refine r_link hi hq hne ?_
  show Om G M_N_flight 6 [(0, .inr (some (ad 20 0))), (1, .inl (nI i)), (2, .inl (nI q))] [.inl (nI 1)] mu Q
  refine n_if_eq 22 dN_flight_6 rfl (by omega) (fun h => absurd h (by decide)) (fun _ => ?_)
  refine o_aload_n dN_flight_9 rfl ?_
  refine m_getr dN_flight_10 fl_N_38 rfl rfl (by decide) ?_
  refine o_iconst (nI 3) dN_flight_13 rfl ?_
  refine o_iload_n dN_flight_14 rfl ?_
  refine o_imul dN_flight_15 ?_
  refine o_top _ (pk_mul _ _) ?_
  refine o_iload_n dN_flight_16 rfl ?_
  refine o_iadd dN_flight_17 ?_
  refine o_top _ (nI_add _ _) ?_
  refine m_iald (3 * i + q) dN_flight_18 rfl rfl rfl (by decide) rfl (by omega) ?_
  refine o_top (nI ((fl (3 * i + q)).length)) (hC.ffl (by omega)).1 ?_
  refine o_goto 23 dN_flight_19 rfl ?_
  refine m_iret dN_flight_23 rfl ?_
  exact k
theorem R_sent_n {G : oG} {mu : oMu} {Q : oPm} {m : Nat} {ky vr nd : Nat → Nat} {dp : Nat → Nat → Nat} {vl : Nat → Int32} {sn ck : Nat → Nat → Nat} {wt fl : Nat → List Nat} {x h d : Nat → Nat → Nat} {s l r ph : Nat → Nat} (hC : ReR mu m ky vr nd dp vl sn ck wt fl x h d s l r ph) {i q : Nat} {z : Int32} (hi : i < 3) (hq : q < 3) (hne : ¬ i = q) (hj : ∀ j, j < (fl (3 * i + q)).length → ¬ z = nI j) (k : Q (some (.inl (-4))) mu) : Om G M_N_sent 0 [(0, .inr (some (ad 20 0))), (1, .inl (nI i)), (2, .inl (nI q)), (3, .inl z)] [] mu Q := by
  have hl4 := (hC.ffl (show 3 * i + q < 9 by omega)).2.1
  refine o_aload_n dN_sent_0 rfl ?_
  refine o_iload_n dN_sent_1 rfl ?_
  refine o_iload_n dN_sent_2 rfl ?_
  refine m_callV M_N_link [.inl (nI i), .inl (nI q)] [] dN_sent_3 mk_N_link in_N_link se_N_link rfl (by decide) rfl rfl ml_N_112 rfl rfl rfl (Nat.le_of_ble_eq_true rfl) rfl ?_
  refine r_link hi hq hne ?_
  show Om G M_N_sent 6 [(0, .inr (some (ad 20 0))), (1, .inl (nI i)), (2, .inl (nI q)), (3, .inl z)] [.inl (nI 1)] mu Q
  refine n_if_ne 12 dN_sent_6 rfl (by omega) (fun _ => ?_) (fun h => absurd h (by decide))
  refine o_iload_n dN_sent_12 rfl ?_
  refine o_aload_n dN_sent_13 rfl ?_
  refine m_getr dN_sent_14 fl_N_38 rfl rfl (by decide) ?_
  refine o_iconst (nI 3) dN_sent_17 rfl ?_
  refine o_iload_n dN_sent_18 rfl ?_
  refine o_imul dN_sent_19 ?_
  refine o_top _ (pk_mul _ _) ?_
  refine o_iload_n dN_sent_20 rfl ?_
  refine o_iadd dN_sent_21 ?_
  refine o_top _ (nI_add _ _) ?_
  refine m_iald (3 * i + q) dN_sent_22 rfl rfl rfl (by decide) rfl (by omega) ?_
  refine o_top (nI ((fl (3 * i + q)).length)) (hC.ffl (by omega)).1 ?_
  refine m_callS M_N_out [.inl z, .inl (nI ((fl (3 * i + q)).length))] [] dN_sent_23 mk_N_out st_N_out ml_N_73 rfl rfl rfl (Nat.le_of_ble_eq_true rfl) rfl ?_
  refine r_out_n (by omega) hj ?_
  show Om G M_N_sent 26 [(0, .inr (some (ad 20 0))), (1, .inl (nI i)), (2, .inl (nI q)), (3, .inl z)] [.inl (nI 1)] mu Q
  refine n_if_eq 34 dN_sent_26 rfl (by omega) (fun h => absurd h (by decide)) (fun _ => ?_)
  refine o_bipush (-4) dN_sent_29 rfl ?_
  refine o_goto 49 dN_sent_31 rfl ?_
  refine m_iret dN_sent_49 rfl ?_
  exact k
theorem R_sent_y {G : oG} {mu : oMu} {Q : oPm} {m : Nat} {ky vr nd : Nat → Nat} {dp : Nat → Nat → Nat} {vl : Nat → Int32} {sn ck : Nat → Nat → Nat} {wt fl : Nat → List Nat} {x h d : Nat → Nat → Nat} {s l r ph : Nat → Nat} (hC : ReR mu m ky vr nd dp vl sn ck wt fl x h d s l r ph) {i q j : Nat} (hi : i < 3) (hq : q < 3) (hne : ¬ i = q) (hj : j < (fl (3 * i + q)).length) (k : Q (some (.inl (nI ((fl (3 * i + q)).getD j 0)))) mu) : Om G M_N_sent 0 [(0, .inr (some (ad 20 0))), (1, .inl (nI i)), (2, .inl (nI q)), (3, .inl (nI j))] [] mu Q := by
  have hl4 := (hC.ffl (show 3 * i + q < 9 by omega)).2.1
  refine o_aload_n dN_sent_0 rfl ?_
  refine o_iload_n dN_sent_1 rfl ?_
  refine o_iload_n dN_sent_2 rfl ?_
  refine m_callV M_N_link [.inl (nI i), .inl (nI q)] [] dN_sent_3 mk_N_link in_N_link se_N_link rfl (by decide) rfl rfl ml_N_112 rfl rfl rfl (Nat.le_of_ble_eq_true rfl) rfl ?_
  refine r_link hi hq hne ?_
  show Om G M_N_sent 6 [(0, .inr (some (ad 20 0))), (1, .inl (nI i)), (2, .inl (nI q)), (3, .inl (nI j))] [.inl (nI 1)] mu Q
  refine n_if_ne 12 dN_sent_6 rfl (by omega) (fun _ => ?_) (fun h => absurd h (by decide))
  refine o_iload_n dN_sent_12 rfl ?_
  refine o_aload_n dN_sent_13 rfl ?_
  refine m_getr dN_sent_14 fl_N_38 rfl rfl (by decide) ?_
  refine o_iconst (nI 3) dN_sent_17 rfl ?_
  refine o_iload_n dN_sent_18 rfl ?_
  refine o_imul dN_sent_19 ?_
  refine o_top _ (pk_mul _ _) ?_
  refine o_iload_n dN_sent_20 rfl ?_
  refine o_iadd dN_sent_21 ?_
  refine o_top _ (nI_add _ _) ?_
  refine m_iald (3 * i + q) dN_sent_22 rfl rfl rfl (by decide) rfl (by omega) ?_
  refine o_top (nI ((fl (3 * i + q)).length)) (hC.ffl (by omega)).1 ?_
  refine m_callS M_N_out [.inl (nI j), .inl (nI ((fl (3 * i + q)).length))] [] dN_sent_23 mk_N_out st_N_out ml_N_73 rfl rfl rfl (Nat.le_of_ble_eq_true rfl) rfl ?_
  refine r_out_y (by omega) hj ?_
  show Om G M_N_sent 26 [(0, .inr (some (ad 20 0))), (1, .inl (nI i)), (2, .inl (nI q)), (3, .inl (nI j))] [.inl (nI 0)] mu Q
  refine n_if_eq 34 dN_sent_26 rfl (by omega) (fun _ => ?_) (fun h => absurd h (by decide))
  refine o_aload_n dN_sent_34 rfl ?_
  refine m_getr dN_sent_35 fl_N_41 rfl rfl (by decide) ?_
  refine o_bipush (nI 40) dN_sent_38 rfl ?_
  refine o_iconst (nI 3) dN_sent_40 rfl ?_
  refine o_iload_n dN_sent_41 rfl ?_
  refine o_imul dN_sent_42 ?_
  refine o_top _ (pk_mul _ _) ?_
  refine o_iload_n dN_sent_43 rfl ?_
  refine o_iadd dN_sent_44 ?_
  refine o_top _ (nI_add _ _) ?_
  refine o_imul dN_sent_45 ?_
  refine o_top _ (pk_mul _ _) ?_
  refine o_iload_n dN_sent_46 rfl ?_
  refine o_iadd dN_sent_47 ?_
  refine o_top _ (nI_add _ _) ?_
  refine m_iald (40 * (3 * i + q) + j) dN_sent_48 rfl rfl rfl (by decide) rfl (by omega) ?_
  refine o_top (nI ((fl (3 * i + q)).getD j 0)) ((hC.ffl (show 3 * i + q < 9 by omega)).2.2 j hj) ?_
  refine m_iret dN_sent_49 rfl ?_
  exact k
