/-! The class's inner methods. -/
def wOk (mu : oMu) (m : Nat) (ky vr nd : Nat → Nat) (dp : Nat → Nat → Nat) : Prop := mu 0 0 4 = nI m ∧ m ≤ 40 ∧ ∀ w, w < m → (mu 5 w 1 = nI (ky w) ∧ mu 5 w 3 = nI (vr w / 4) ∧ mu 5 w 4 = nI (vr w) ∧ mu 5 w 5 = nI (nd w)) ∧ (ky w < 6 ∧ vr w < 1000 ∧ nd w < 64) ∧ ∀ k, k < 6 → mu 6 w k = dec (dp w k) ∧ dp w k ≤ m
def xOk (mu : oMu) (t i m : Nat) (x : Nat → Nat) : Prop := ∀ k, k < 6 → mu t i k = dec (x k) ∧ x k ≤ m
section WK
variable {mu mu' : oMu} {m w : Nat} {ky vr nd : Nat → Nat} {dp : Nat → Nat → Nat} {L : List (Nat × Nat)}
theorem wOk.mm (h : wOk mu m ky vr nd dp) : mu 0 0 4 = nI m := h.1
theorem wOk.m4 (h : wOk mu m ky vr nd dp) : m ≤ 40 := h.2.1
theorem wOk.key (h : wOk mu m ky vr nd dp) (hw : w < m) : mu 5 w 1 = nI (ky w) := (h.2.2 w hw).1.1
theorem wOk.time (h : wOk mu m ky vr nd dp) (hw : w < m) : mu 5 w 3 = nI (vr w / 4) := (h.2.2 w hw).1.2.1
theorem wOk.ver (h : wOk mu m ky vr nd dp) (w : Nat) (hw : w < m) : mu 5 w 4 = nI (vr w) := (h.2.2 w hw).1.2.2.1
theorem wOk.need (h : wOk mu m ky vr nd dp) (hw : w < m) : mu 5 w 5 = nI (nd w) := (h.2.2 w hw).1.2.2.2
theorem wOk.key6 (h : wOk mu m ky vr nd dp) (hw : w < m) : ky w < 6 := (h.2.2 w hw).2.1.1
theorem wOk.verB (h : wOk mu m ky vr nd dp) (w : Nat) (hw : w < m) : vr w < 2147483648 := Nat.lt_trans (h.2.2 w hw).2.1.2.1 (by decide)
theorem wOk.verK (h : wOk mu m ky vr nd dp) (hw : w < m) : vr w < 1000 := (h.2.2 w hw).2.1.2.1
theorem wOk.needB (h : wOk mu m ky vr nd dp) (hw : w < m) : nd w < 64 := (h.2.2 w hw).2.1.2.2
theorem wOk.dep (h : wOk mu m ky vr nd dp) (hw : w < m) {k : Nat} (hk : k < 6) : mu 6 w k = dec (dp w k) := ((h.2.2 w hw).2.2 k hk).1
theorem wOk.depB (h : wOk mu m ky vr nd dp) (hw : w < m) {k : Nat} (hk : k < 6) : dp w k ≤ m := ((h.2.2 w hw).2.2 k hk).2
def offW (L : List (Nat × Nat)) : Bool := L.all fun q => !(Nat.beq q.1 0) && !(Nat.beq q.1 5) && !(Nat.beq q.1 6)
theorem offW_not {t i : Nat} (h : offW L = true) (ht : t = 0 ∨ t = 5 ∨ t = 6) : (t, i) ∉ L := by
  intro hq
  have h2 := List.all_eq_true.mp h _ hq
  rcases ht with rfl | rfl | rfl <;> simp at h2
theorem wOk.fr (h : wOk mu m ky vr nd dp) (hf : mfr L mu mu') (hL : offW L = true) : wOk mu' m ky vr nd dp := by
  refine ⟨by rw [hf 0 0 (offW_not hL (by simp))]; exact h.1, h.2.1, fun w hw => ?_⟩
  rw [hf 5 w (offW_not hL (by simp)), hf 6 w (offW_not hL (by simp))]
  exact h.2.2 w hw
theorem xOk.fr {t i : Nat} {x : Nat → Nat} (h : xOk mu t i m x) (hf : mfr L mu mu') (hL : (t, i) ∉ L) : xOk mu' t i m x := fun k hk => by rw [hf t i hL]; exact h k hk
theorem xOk.step {t i j b : Nat} {x y : Nat → Nat} (h : xOk mu t i m x) (e : mu' = up2 mu t i (upd (mu t i) j (dec b))) (hb : b ≤ m) (hy : ∀ q, q < 6 → y q = if q = j then b else x q) : xOk mu' t i m y := by
  intro q hq
  rw [e, up2_s, hy q hq]
  by_cases hqj : q = j
  · subst hqj
    simp [upd, hb]
  · simp [upd, hqj]
    exact h q hq
end WK
theorem nI_max {a b : Nat} (ha : a < 2147483648) (hb : b < 2147483648) : (if nI a < nI b then nI b else nI a) = nI (if a < b then b else a) := by
  by_cases h : a < b
  · rw [if_pos ((nI_ltI ha hb).mpr h), if_pos h]
  · rw [if_neg (fun q => h ((nI_ltI ha hb).mp q)), if_neg h]
def tmx (t0 : Nat) (x vr : Nat → Nat) : Nat → Nat
  | 0 => t0
  | k + 1 => if x k = 0 then tmx t0 x vr k else if tmx t0 x vr k < vr (x k - 1) / 4 then vr (x k - 1) / 4 else tmx t0 x vr k
theorem tmx_lt {t0 m : Nat} {x vr : Nat → Nat} (h0 : t0 < 1000) (hx : ∀ k, k < 6 → x k ≤ m) (hv : ∀ w, w < m → vr w < 1000) : ∀ k, k ≤ 6 → tmx t0 x vr k < 1000
  | 0, _ => h0
  | k + 1, hk => by
    have ih := tmx_lt h0 hx hv k (by omega)
    rw [tmx]
    split
    · exact ih
    · split
      · have h1 := hx k (by omega)
        have h2 := hv (x k - 1) (by omega)
        omega
      · exact ih
theorem l_tick {G : oG} {mu : oMu} {Q : oPm} {m : Nat} {ky vr nd : Nat → Nat} {dp : Nat → Nat → Nat} (hW : wOk mu m ky vr nd dp) {i c p t0 : Nat} {x : Nat → Nat} (hi : i < 6) (hc : c < 3) (hp : p < 2) (ht0 : t0 < 1000) (hx : xOk mu 15 i m x) (j : Nat) (hj : j ≤ 6) (k : ∀ mu' : oMu, mu' = up2 mu 10 c (upd (mu 10 c) p (nI (tmx t0 x vr 6 + 1))) → Q (some (.inl (nI (tmx t0 x vr 6 + 1)))) mu') : Om G M_S_tick 21 [(0, .inr (some (ad 0 0))), (1, .inr (some (ad 14 i))), (2, .inl (nI p)), (3, .inr (some (ad 10 c))), (4, .inl (nI (tmx t0 x vr j))), (5, .inl (nI j))] [] mu Q := by
  refine o_iload dS_tick_21 rfl ?_
  refine o_bipush (nI 6) dS_tick_23 rfl ?_
  refine n_icmp_ge 69 dS_tick_25 rfl (by omega) (by omega) (fun hb25 => ?_) (fun hb25 => ?_)
  · skip
    have hj6 : j = 6 := by omega
    refine o_aload_n dS_tick_69 rfl ?_
    refine o_iload_n dS_tick_70 rfl ?_
    refine o_iload dS_tick_71 rfl ?_
    refine o_iconst (nI 1) dS_tick_73 rfl ?_
    refine o_iadd dS_tick_74 ?_
    refine o_top _ (nI_add _ _) ?_
    refine m_iast p dS_tick_75 rfl rfl rfl hc rfl hp (fun mu1 hmu1 => ?_)
    refine o_iload dS_tick_76 rfl ?_
    refine o_iconst (nI 1) dS_tick_78 rfl ?_
    refine o_iadd dS_tick_79 ?_
    refine o_top _ (nI_add _ _) ?_
    refine m_iret dS_tick_80 rfl ?_
    subst hj6
    exact k mu1 hmu1
  · skip
    refine o_aload_n dS_tick_28 rfl ?_
    refine m_getr dS_tick_29 fl_S_65 rfl rfl hi ?_
    refine o_iload dS_tick_32 rfl ?_
    refine m_iald j dS_tick_34 rfl rfl rfl hi rfl hb25 ?_
    refine o_top (dec (x j)) (hx j hb25).1 ?_
    refine o_istore [(0, _), (1, _), (2, _), (3, _), (4, _), (5, _), (6, _)] dS_tick_35 rfl rfl ?_
    refine o_aload_n dS_tick_37 rfl ?_
    refine o_iload dS_tick_38 rfl ?_
    refine m_callV M_S_isWrite [.inl (dec (x j))] [] dS_tick_40 mk_S_isWrite in_S_isWrite se_S_isWrite rfl (by decide) rfl rfl ml_S_123 rfl rfl rfl (Nat.le_of_ble_eq_true rfl) rfl ?_
    refine c_isWriteD hW.mm hW.m4 (hx j hb25).2 (fun w hw e => ?_) (fun e => ?_)
    · skip
      rw [e]
      have hm4 := hW.m4
      have hvk := hW.verK hw
      have htm := tmx_lt (vr := vr) ht0 (fun q hq => (hx q hq).2) (fun u hu => hW.verK hu) j hj
      show Om G M_S_tick 43 [(0, .inr (some (ad 0 0))), (1, .inr (some (ad 14 i))), (2, .inl (nI p)), (3, .inr (some (ad 10 c))), (4, .inl (nI (tmx t0 x vr j))), (5, .inl (nI j)), (6, .inl (nI w))] [.inl (nI 1)] mu Q
      refine n_if_eq 63 dS_tick_43 rfl (by omega) (fun h => absurd h (by decide)) (fun _ => ?_)
      refine o_iload dS_tick_46 rfl ?_
      refine o_aload_n dS_tick_48 rfl ?_
      refine m_getr dS_tick_49 fl_S_11 rfl rfl (by decide) ?_
      refine o_iload dS_tick_52 rfl ?_
      refine m_aald w dS_tick_54 rfl rfl rfl (by decide) rfl (sh_q1 (by omega)) ?_
      refine m_geti dS_tick_55 fl_S_135 rfl rfl (show w < 40 by omega) ?_
      refine o_top (nI (vr w / 4)) (hW.time hw) ?_
      refine o_mmax dS_tick_58 mx_S_138 wm_s wm_i wm_c rfl rfl ?_
      refine o_top (nI (if tmx t0 x vr j < vr w / 4 then vr w / 4 else tmx t0 x vr j)) (nI_max (by omega) (by omega)) ?_
      refine o_istore [(0, _), (1, _), (2, _), (3, _), (4, _), (5, _), (6, _)] dS_tick_61 rfl rfl ?_
      refine o_iinc (nI (j + 1)) [(0, _), (1, _), (2, _), (3, _), (4, _), (5, _), (6, _)] dS_tick_63 rfl (nInc _) rfl rfl ?_
      refine o_goto 21 dS_tick_66 rfl ?_
      refine o_lv [(0, _), (1, _), (2, _), (3, _), (4, _), (5, _)] [0, 1, 2, 3, 4, 5] rfl ?_
      rw [show (if tmx t0 x vr j < vr w / 4 then vr w / 4 else tmx t0 x vr j) = tmx t0 x vr (j + 1) by simp [tmx, e]]
      exact l_tick hW hi hc hp ht0 hx (j + 1) (by omega) k
    · skip
      rw [e]
      show Om G M_S_tick 43 [(0, .inr (some (ad 0 0))), (1, .inr (some (ad 14 i))), (2, .inl (nI p)), (3, .inr (some (ad 10 c))), (4, .inl (nI (tmx t0 x vr j))), (5, .inl (nI j)), (6, .inl (dec 0))] [.inl (nI 0)] mu Q
      refine n_if_eq 63 dS_tick_43 rfl (by omega) (fun _ => ?_) (fun h => absurd h (by decide))
      refine o_iinc (nI (j + 1)) [(0, _), (1, _), (2, _), (3, _), (4, _), (5, _), (6, _)] dS_tick_63 rfl (nInc _) rfl rfl ?_
      refine o_goto 21 dS_tick_66 rfl ?_
      refine o_lv [(0, _), (1, _), (2, _), (3, _), (4, _), (5, _)] [0, 1, 2, 3, 4, 5] rfl ?_
      rw [show (tmx t0 x vr j) = tmx t0 x vr (j + 1) by simp [tmx, e]]
      exact l_tick hW hi hc hp ht0 hx (j + 1) (by omega) k
termination_by 6 - j
theorem c_tick {G : oG} {mu : oMu} {Q : oPm} {m : Nat} {ky vr nd : Nat → Nat} {dp : Nat → Nat → Nat} (hW : wOk mu m ky vr nd dp) {i c p t0 : Nat} {x : Nat → Nat} (hi : i < 6) (hc : c < 3) (hp : p < 2) (ht0 : t0 < 1000) (hx : xOk mu 15 i m x) (hcen : mu 14 i 0 = nI c) (hclk : mu 10 c p = nI t0) (k : ∀ mu' : oMu, mu' = up2 mu 10 c (upd (mu 10 c) p (nI (tmx t0 x vr 6 + 1))) → Q (some (.inl (nI (tmx t0 x vr 6 + 1)))) mu') : Om G M_S_tick 0 [(0, .inr (some (ad 0 0))), (1, .inr (some (ad 14 i))), (2, .inl (nI p))] [] mu Q := by
  refine o_aload_n dS_tick_0 rfl ?_
  refine m_getr dS_tick_1 fl_S_17 rfl rfl (by decide) ?_
  refine o_aload_n dS_tick_4 rfl ?_
  refine m_geti dS_tick_5 fl_S_58 rfl rfl hi ?_
  refine o_top (nI c) hcen ?_
  refine m_aald c dS_tick_8 rfl rfl rfl (by decide) rfl (sh_q2 hc) ?_
  refine m_getr dS_tick_9 fl_S_132 rfl rfl hc ?_
  refine o_astore_n [(0, _), (1, _), (2, _), (3, _)] dS_tick_12 rfl rfl ?_
  refine o_aload_n dS_tick_13 rfl ?_
  refine o_iload_n dS_tick_14 rfl ?_
  refine m_iald p dS_tick_15 rfl rfl rfl hc rfl hp ?_
  refine o_top (nI t0) hclk ?_
  refine o_istore [(0, _), (1, _), (2, _), (3, _), (4, _)] dS_tick_16 rfl rfl ?_
  refine o_iconst (nI 0) dS_tick_18 rfl ?_
  refine o_istore [(0, _), (1, _), (2, _), (3, _), (4, _), (5, _)] dS_tick_19 rfl rfl ?_
  exact l_tick hW hi hc hp ht0 hx 0 (by omega) k
theorem c_show {G : oG} {mu : oMu} {Q : oPm} {m : Nat} {ky vr nd : Nat → Nat} {dp : Nat → Nat → Nat} (hW : wOk mu m ky vr nd dp) {c w a : Nat} (hc : c < 3) (hw : w < m) (hn : mu 9 c (ky w) = dec a) (ha : a ≤ m) (k : ∀ mu' : oMu, mu' 8 c = upd (mu 8 c) w (nI 1) → mu' 9 c = upd (mu 9 c) (ky w) (dec (gr vr a (w + 1))) → mfr [(8, c), (9, c)] mu mu' → Q none mu') : Om G M_S_show 0 [(0, .inr (some (ad 0 0))), (1, .inl (nI c)), (2, .inl (nI w))] [] mu Q := by
  have hm4 := hW.m4
  have hk6 := hW.key6 hw
  refine o_aload_n dS_show_0 rfl ?_
  refine m_getr dS_show_1 fl_S_11 rfl rfl (by decide) ?_
  refine o_iload_n dS_show_4 rfl ?_
  refine m_aald w dS_show_5 rfl rfl rfl (by decide) rfl (sh_q1 (by omega)) ?_
  refine m_geti dS_show_6 fl_S_129 rfl rfl (show w < 40 by omega) ?_
  refine o_top (nI (ky w)) (hW.key hw) ?_
  refine o_istore_n [(0, _), (1, _), (2, _), (3, _)] dS_show_9 rfl rfl ?_
  refine o_aload_n dS_show_10 rfl ?_
  refine m_getr dS_show_11 fl_S_17 rfl rfl (by decide) ?_
  refine o_iload_n dS_show_14 rfl ?_
  refine m_aald c dS_show_15 rfl rfl rfl (by decide) rfl (sh_q2 hc) ?_
  refine m_getr dS_show_16 fl_S_88 rfl rfl hc ?_
  refine o_astore [(0, _), (1, _), (2, _), (3, _), (4, _)] dS_show_19 rfl rfl ?_
  refine o_aload_n dS_show_21 rfl ?_
  refine m_getr dS_show_22 fl_S_17 rfl rfl (by decide) ?_
  refine o_iload_n dS_show_25 rfl ?_
  refine m_aald c dS_show_26 rfl rfl rfl (by decide) rfl (sh_q2 hc) ?_
  refine m_getr dS_show_27 fl_S_165 rfl rfl hc ?_
  refine o_iload_n dS_show_30 rfl ?_
  refine o_iconst (nI 1) dS_show_31 rfl ?_
  refine m_zast w dS_show_32 rfl rfl rfl hc rfl (by omega) rfl (fun mu1 hmu1 => ?_)
  have hf1 := mfr_up (L := [(8, c), (9, c)]) hmu1 (by simp)
  have hW1 := hW.fr hf1 rfl
  refine o_aload dS_show_33 rfl ?_
  refine o_iload_n dS_show_35 rfl ?_
  refine o_aload_n dS_show_36 rfl ?_
  refine o_aload dS_show_37 rfl ?_
  refine o_iload_n dS_show_39 rfl ?_
  refine m_iald (ky w) dS_show_40 rfl rfl rfl hc rfl hk6 ?_
  refine o_top (dec a) (by rw [hmu1, up2_t (by decide)]; exact hn) ?_
  refine o_iload_n dS_show_41 rfl ?_
  refine m_callV M_S_greater [.inl (dec a), .inl (nI w)] [.inl (nI (ky w)), .inr (some (ad 9 c))] dS_show_42 mk_S_greater in_S_greater se_S_greater rfl (by decide) rfl rfl ml_S_179 rfl rfl rfl (Nat.le_of_ble_eq_true rfl) rfl ?_
  refine c_greater (a := a) (c := w + 1) hW1.mm hW1.m4 hW1.ver hW1.verB ha hw ?_
  show Om G M_S_show 45 [(0, .inr (some (ad 0 0))), (1, .inl (nI c)), (2, .inl (nI w)), (3, .inl (nI (ky w))), (4, .inr (some (ad 9 c)))] [.inl (dec (gr vr a (w + 1))), .inl (nI (ky w)), .inr (some (ad 9 c))] mu1 Q
  refine m_iast (ky w) dS_show_45 rfl rfl rfl hc rfl hk6 (fun mu2 hmu2 => ?_)
  refine m_vret dS_show_46 rfl ?_
  exact k mu2 (by rw [hmu2, up2_t (by decide), hmu1, up2_s]) (by rw [hmu2, up2_s, hmu1, up2_t (by decide)]) (hf1.tr (mfr_up hmu2 (by simp)))
def sY (x d vr : Nat → Nat) (j : Nat) : Nat → Nat := fun q => if q < j then gr vr (x q) (d q) else x q
def sX (x d vr : Nat → Nat) (ky w : Nat) : Nat → Nat := fun q => if q = ky then gr vr (gr vr (x q) (d q)) (w + 1) else gr vr (x q) (d q)
theorem sY_0 {x d vr : Nat → Nat} : sY x d vr 0 = x := by
  funext q
  simp [sY]
theorem sY_le {x d vr : Nat → Nat} {j m q : Nat} (hx : x q ≤ m) (hd : d q ≤ m) : sY x d vr j q ≤ m := by
  unfold sY
  split
  · exact gr_le hx hd
  · exact hx
theorem l_see {G : oG} {mu : oMu} {Q : oPm} {m : Nat} {ky vr nd : Nat → Nat} {dp : Nat → Nat → Nat} (hW : wOk mu m ky vr nd dp) {i w : Nat} {x : Nat → Nat} (hi : i < 6) (hw : w < m) (j : Nat) (hj : j ≤ 6) (hxm : ∀ q, q < 6 → x q ≤ m) (hy : xOk mu 15 i m (sY x (dp w) vr j)) (k : ∀ mu' : oMu, xOk mu' 15 i m (sX x (dp w) vr (ky w) w) → mfr [(15, i)] mu mu' → Q none mu') : Om G M_S_see 19 [(0, .inr (some (ad 0 0))), (1, .inr (some (ad 14 i))), (2, .inl (nI w)), (3, .inr (some (ad 5 w))), (4, .inl (nI j))] [] mu Q := by
  have hm4 := hW.m4
  have hw4 : w < 40 := by omega
  have hk6 := hW.key6 hw
  refine o_iload dS_see_19 rfl ?_
  refine o_bipush (nI 6) dS_see_21 rfl ?_
  refine n_icmp_ge 57 dS_see_23 rfl (by omega) (by omega) (fun hb23 => ?_) (fun hb23 => ?_)
  · skip
    have hj6 : j = 6 := by omega
    refine o_aload_n dS_see_57 rfl ?_
    refine m_getr dS_see_58 fl_S_65 rfl rfl hi ?_
    refine o_aload_n dS_see_61 rfl ?_
    refine m_geti dS_see_62 fl_S_129 rfl rfl hw4 ?_
    refine o_top (nI (ky w)) (hW.key hw) ?_
    refine o_aload_n dS_see_65 rfl ?_
    refine o_aload_n dS_see_66 rfl ?_
    refine m_getr dS_see_67 fl_S_65 rfl rfl hi ?_
    refine o_aload_n dS_see_70 rfl ?_
    refine m_geti dS_see_71 fl_S_129 rfl rfl hw4 ?_
    refine o_top (nI (ky w)) (hW.key hw) ?_
    refine m_iald (ky w) dS_see_74 rfl rfl rfl hi rfl hk6 ?_
    refine o_top (dec (gr vr (x (ky w)) (dp w (ky w)))) ((hy _ hk6).1.trans (by simp [sY, hk6, hj6])) ?_
    refine o_iload_n dS_see_75 rfl ?_
    refine m_callV M_S_greater [.inl (dec (gr vr (x (ky w)) (dp w (ky w)))), .inl (nI w)] [.inl (nI (ky w)), .inr (some (ad 15 i))] dS_see_76 mk_S_greater in_S_greater se_S_greater rfl (by decide) rfl rfl ml_S_179 rfl rfl rfl (Nat.le_of_ble_eq_true rfl) rfl ?_
    refine c_greater (a := gr vr (x (ky w)) (dp w (ky w))) (c := w + 1) hW.mm hW.m4 hW.ver hW.verB (gr_le (hxm _ hk6) (hW.depB hw hk6)) hw ?_
    show Om G M_S_see 79 [(0, .inr (some (ad 0 0))), (1, .inr (some (ad 14 i))), (2, .inl (nI w)), (3, .inr (some (ad 5 w))), (4, .inl (nI j))] [.inl (dec (gr vr (gr vr (x (ky w)) (dp w (ky w))) (w + 1))), .inl (nI (ky w)), .inr (some (ad 15 i))] mu Q
    refine m_iast (ky w) dS_see_79 rfl rfl rfl hi rfl hk6 (fun mu1 hmu1 => ?_)
    refine m_vret dS_see_80 rfl ?_
    subst hj6
    exact k mu1 (hy.step hmu1 (gr_le (gr_le (hxm _ hk6) (hW.depB hw hk6)) hw) (fun q hq => by
      by_cases hqk : q = ky w
      · subst hqk
        simp [sX]
      · simp [sX, sY, hqk, hq])) (mfr_up hmu1 (by simp))
  · skip
    refine o_aload_n dS_see_26 rfl ?_
    refine m_getr dS_see_27 fl_S_65 rfl rfl hi ?_
    refine o_iload dS_see_30 rfl ?_
    refine o_aload_n dS_see_32 rfl ?_
    refine o_aload_n dS_see_33 rfl ?_
    refine m_getr dS_see_34 fl_S_65 rfl rfl hi ?_
    refine o_iload dS_see_37 rfl ?_
    refine m_iald j dS_see_39 rfl rfl rfl hi rfl hb23 ?_
    refine o_top (dec (x j)) ((hy j hb23).1.trans (by simp [sY])) ?_
    refine o_aload_n dS_see_40 rfl ?_
    refine m_getr dS_see_41 fl_S_178 rfl rfl hw4 ?_
    refine o_iload dS_see_44 rfl ?_
    refine m_iald j dS_see_46 rfl rfl rfl hw4 rfl hb23 ?_
    refine o_top (dec (dp w j)) (hW.dep hw hb23) ?_
    refine m_callV M_S_greater [.inl (dec (x j)), .inl (dec (dp w j))] [.inl (nI j), .inr (some (ad 15 i))] dS_see_47 mk_S_greater in_S_greater se_S_greater rfl (by decide) rfl rfl ml_S_179 rfl rfl rfl (Nat.le_of_ble_eq_true rfl) rfl ?_
    refine c_greater (a := x j) (c := dp w j) hW.mm hW.m4 hW.ver hW.verB (hxm j hb23) (hW.depB hw hb23) ?_
    show Om G M_S_see 50 [(0, .inr (some (ad 0 0))), (1, .inr (some (ad 14 i))), (2, .inl (nI w)), (3, .inr (some (ad 5 w))), (4, .inl (nI j))] [.inl (dec (gr vr (x j) (dp w j))), .inl (nI j), .inr (some (ad 15 i))] mu Q
    refine m_iast j dS_see_50 rfl rfl rfl hi rfl hb23 (fun mu1 hmu1 => ?_)
    refine o_iinc (nI (j + 1)) [(0, _), (1, _), (2, _), (3, _), (4, _)] dS_see_51 rfl (nInc _) rfl rfl ?_
    refine o_goto 19 dS_see_54 rfl ?_
    have hf1 := mfr_up (L := [(15, i)]) hmu1 (by simp)
    exact l_see (hW.fr hf1 rfl) hi hw (j + 1) (by omega) hxm (hy.step hmu1 (gr_le (hxm j hb23) (hW.depB hw hb23)) (fun q hq => by
      by_cases hqj : q = j
      · subst hqj
        simp [sY]
      · by_cases hql : q < j
        · simp [sY, hqj, hql, Nat.lt_succ_of_lt hql]
        · have h3 : ¬ q < j + 1 := by omega
          simp [sY, hqj, hql, h3])) (fun mu' h1 h2 => k mu' h1 (hf1.tr h2))
termination_by 6 - j
theorem c_see {G : oG} {mu : oMu} {Q : oPm} {m : Nat} {ky vr nd : Nat → Nat} {dp : Nat → Nat → Nat} (hW : wOk mu m ky vr nd dp) {i a : Nat} {x : Nat → Nat} (hi : i < 6) (ha : a ≤ m) (hx : xOk mu 15 i m x) (kf : a = 0 → Q none mu) (kt : ∀ w, w < m → a = w + 1 → ∀ mu' : oMu, xOk mu' 15 i m (sX x (dp w) vr (ky w) w) → mfr [(15, i)] mu mu' → Q none mu') : Om G M_S_see 0 [(0, .inr (some (ad 0 0))), (1, .inr (some (ad 14 i))), (2, .inl (dec a))] [] mu Q := by
  refine o_aload_n dS_see_0 rfl ?_
  refine o_iload_n dS_see_1 rfl ?_
  refine m_callV M_S_isWrite [.inl (dec a)] [] dS_see_2 mk_S_isWrite in_S_isWrite se_S_isWrite rfl (by decide) rfl rfl ml_S_123 rfl rfl rfl (Nat.le_of_ble_eq_true rfl) rfl ?_
  refine c_isWriteD hW.mm hW.m4 ha (fun w hw e => ?_) (fun e => ?_)
  · skip
    subst e
    have hm4 := hW.m4
    show Om G M_S_see 5 [(0, .inr (some (ad 0 0))), (1, .inr (some (ad 14 i))), (2, .inl (nI w))] [.inl (nI 1)] mu Q
    refine n_if_ne 9 dS_see_5 rfl (by omega) (fun _ => ?_) (fun h => absurd h (by decide))
    refine o_aload_n dS_see_9 rfl ?_
    refine m_getr dS_see_10 fl_S_11 rfl rfl (by decide) ?_
    refine o_iload_n dS_see_13 rfl ?_
    refine m_aald w dS_see_14 rfl rfl rfl (by decide) rfl (sh_q1 (by omega)) ?_
    refine o_astore_n [(0, _), (1, _), (2, _), (3, _)] dS_see_15 rfl rfl ?_
    refine o_iconst (nI 0) dS_see_16 rfl ?_
    refine o_istore [(0, _), (1, _), (2, _), (3, _), (4, _)] dS_see_17 rfl rfl ?_
    exact l_see hW hi hw 0 (by omega) (fun q hq => (hx q hq).2) (by rw [sY_0]; exact hx) (kt w hw rfl)
  · skip
    subst e
    show Om G M_S_see 5 [(0, .inr (some (ad 0 0))), (1, .inr (some (ad 14 i))), (2, .inl (dec 0))] [.inl (nI 0)] mu Q
    refine n_if_ne 9 dS_see_5 rfl (by omega) (fun h => absurd h (by decide)) (fun _ => ?_)
    refine m_vret dS_see_8 rfl ?_
    exact kf rfl
def covB (x : Nat → Nat) (dp : Nat → Nat → Nat) (k : Nat) : Nat → Bool
  | 0 => false
  | q + 1 => covB x dp k q || (!(q == k) && !(x q == 0) && (dp (x q - 1) k == x k))
def nearB (x : Nat → Nat) (dp : Nat → Nat → Nat) : Nat → Nat
  | 0 => 0
  | k + 1 => if x k ≠ 0 ∧ covB x dp k 6 = false then nearB x dp k ||| 1 <<< k else nearB x dp k
theorem dec_inj {a b m : Nat} (ha : a ≤ m) (hb : b ≤ m) (hm : m ≤ 40) : dec a = dec b ↔ a = b := by
  constructor
  · intro h
    cases a with
    | zero =>
      cases b with
      | zero => rfl
      | succ b => exact (dec_nI (a := 0) (Nat.zero_le _) hm (by omega : b < m) h).symm ▸ rfl
    | succ a =>
      exact (dec_nI hb hm (by omega : a < m) h.symm).symm
  · intro h
    rw [h]
set_option maxRecDepth 100000 in
theorem b_or : ∀ s, s < 64 → ∀ k, k < 6 → nI s ||| (nI 1 <<< (nI k &&& 31)) = nI (s ||| 1 <<< k) ∧ s ||| 1 <<< k < 64 := by decide +kernel
theorem nearB_lt {x : Nat → Nat} {dp : Nat → Nat → Nat} : ∀ k, k ≤ 6 → nearB x dp k < 64
  | 0, _ => (by decide : 0 < 64)
  | k + 1, hk => by
    have ih := nearB_lt (x := x) (dp := dp) k (by omega)
    rw [nearB]
    split
    · exact (b_or _ ih k (by omega)).2
    · exact ih
theorem covB_mono {x : Nat → Nat} {dp : Nat → Nat → Nat} {k : Nat} : ∀ (q n : Nat), covB x dp k q = true → covB x dp k (q + n) = true
  | _, 0, h => h
  | q, n + 1, h => by
    show covB x dp k (q + n + 1) = true
    rw [covB, covB_mono q n h]
    rfl
theorem l_isCovered {G : oG} {mu : oMu} {Q : oPm} {m : Nat} {ky vr nd : Nat → Nat} {dp : Nat → Nat → Nat} (hW : wOk mu m ky vr nd dp) {i q : Nat} {x : Nat → Nat} (hi : i < 6) (hq : q < 6) (hx : xOk mu 15 i m x) (j : Nat) (hj : j ≤ 6) (hcv : covB x dp q j = false) (kt : covB x dp q 6 = true → Q (some (.inl (nI 1))) mu) (kf : covB x dp q 6 = false → Q (some (.inl (nI 0))) mu) : Om G M_S_isCovered 2 [(0, .inr (some (ad 0 0))), (1, .inr (some (ad 15 i))), (2, .inl (nI q)), (3, .inl (nI j))] [] mu Q := by
  refine o_iload_n dS_isCovered_2 rfl ?_
  refine o_bipush (nI 6) dS_isCovered_3 rfl ?_
  refine n_icmp_ge 53 dS_isCovered_5 rfl (by omega) (by omega) (fun hb5 => ?_) (fun hb5 => ?_)
  · skip
    have hj6 : j = 6 := by omega
    refine o_iconst (nI 0) dS_isCovered_53 rfl ?_
    refine m_zret dS_isCovered_54 rfl rfl ?_
    subst hj6
    exact kf hcv
  · skip
    refine o_aload_n dS_isCovered_8 rfl ?_
    refine o_iload_n dS_isCovered_9 rfl ?_
    refine m_iald j dS_isCovered_10 rfl rfl rfl hi rfl hb5 ?_
    refine o_top (dec (x j)) (hx j hb5).1 ?_
    refine o_istore [(0, _), (1, _), (2, _), (3, _), (4, _)] dS_isCovered_11 rfl rfl ?_
    refine o_iload_n dS_isCovered_13 rfl ?_
    refine o_iload_n dS_isCovered_14 rfl ?_
    have hx1 := hx j hb5
    refine n_icmp_eq 47 dS_isCovered_15 rfl (by omega) (by omega) (fun hb15 => ?_) (fun hb15 => ?_)
    · skip
      refine o_iinc (nI (j + 1)) [(0, _), (1, _), (2, _), (3, _), (4, _)] dS_isCovered_47 rfl (nInc _) rfl rfl ?_
      refine o_goto 2 dS_isCovered_50 rfl ?_
      refine o_lv [(0, _), (1, _), (2, _), (3, _)] [0, 1, 2, 3] rfl ?_
      exact l_isCovered hW hi hq hx (j + 1) (by omega) (by rw [covB, hcv]; first | (simp [hb15]; done) | (simp [e]; done) | (rw [e]; simp; exact fun _ z => hb42 z)) kt kf
    · skip
      refine o_aload_n dS_isCovered_18 rfl ?_
      refine o_iload dS_isCovered_19 rfl ?_
      refine m_callV M_S_isWrite [.inl (dec (x j))] [] dS_isCovered_21 mk_S_isWrite in_S_isWrite se_S_isWrite rfl (by decide) rfl rfl ml_S_123 rfl rfl rfl (Nat.le_of_ble_eq_true rfl) rfl ?_
      refine c_isWriteD hW.mm hW.m4 (hx j hb5).2 (fun w hw e => ?_) (fun e => ?_)
      · skip
        rw [e]
        have hm4 := hW.m4
        show Om G M_S_isCovered 24 [(0, .inr (some (ad 0 0))), (1, .inr (some (ad 15 i))), (2, .inl (nI q)), (3, .inl (nI j)), (4, .inl (nI w))] [.inl (nI 1)] mu Q
        refine n_if_eq 47 dS_isCovered_24 rfl (by omega) (fun h => absurd h (by decide)) (fun _ => ?_)
        refine o_aload_n dS_isCovered_27 rfl ?_
        refine m_getr dS_isCovered_28 fl_S_11 rfl rfl (by decide) ?_
        refine o_iload dS_isCovered_31 rfl ?_
        refine m_aald w dS_isCovered_33 rfl rfl rfl (by decide) rfl (sh_q1 (by omega)) ?_
        refine m_getr dS_isCovered_34 fl_S_178 rfl rfl (show w < 40 by omega) ?_
        refine o_iload_n dS_isCovered_37 rfl ?_
        refine m_iald q dS_isCovered_38 rfl rfl rfl (show w < 40 by omega) rfl hq ?_
        refine o_top (dec (dp w q)) (hW.dep hw hq) ?_
        refine o_aload_n dS_isCovered_39 rfl ?_
        refine o_iload_n dS_isCovered_40 rfl ?_
        refine m_iald q dS_isCovered_41 rfl rfl rfl hi rfl hq ?_
        refine o_top (dec (x q)) (hx q hq).1 ?_
        refine o_icmp_ne 47 dS_isCovered_42 rfl (fun hb42 => ?_) (fun hb42 => ?_)
        · skip
          have hb42 := fun z => hb42 ((dec_inj (hW.depB hw hq) (hx q hq).2 hW.m4).mpr z)
          refine o_iinc (nI (j + 1)) [(0, _), (1, _), (2, _), (3, _), (4, _)] dS_isCovered_47 rfl (nInc _) rfl rfl ?_
          refine o_goto 2 dS_isCovered_50 rfl ?_
          refine o_lv [(0, _), (1, _), (2, _), (3, _)] [0, 1, 2, 3] rfl ?_
          exact l_isCovered hW hi hq hx (j + 1) (by omega) (by rw [covB, hcv]; first | (simp [hb15]; done) | (simp [e]; done) | (rw [e]; simp; exact fun _ z => hb42 z)) kt kf
        · skip
          have hb42 := (dec_inj (hW.depB hw hq) (hx q hq).2 hW.m4).mp hb42
          refine o_iconst (nI 1) dS_isCovered_45 rfl ?_
          refine m_zret dS_isCovered_46 rfl rfl ?_
          refine kt ?_
          have h1 : covB x dp q (j + 1) = true := by
            rw [covB, hcv, e]
            simp [hb15, hb42]
          have h2 := covB_mono (j + 1) (5 - j) h1
          rw [show j + 1 + (5 - j) = 6 by omega] at h2
          exact h2
      · skip
        rw [e]
        show Om G M_S_isCovered 24 [(0, .inr (some (ad 0 0))), (1, .inr (some (ad 15 i))), (2, .inl (nI q)), (3, .inl (nI j)), (4, .inl (dec 0))] [.inl (nI 0)] mu Q
        refine n_if_eq 47 dS_isCovered_24 rfl (by omega) (fun _ => ?_) (fun h => absurd h (by decide))
        refine o_iinc (nI (j + 1)) [(0, _), (1, _), (2, _), (3, _), (4, _)] dS_isCovered_47 rfl (nInc _) rfl rfl ?_
        refine o_goto 2 dS_isCovered_50 rfl ?_
        refine o_lv [(0, _), (1, _), (2, _), (3, _)] [0, 1, 2, 3] rfl ?_
        exact l_isCovered hW hi hq hx (j + 1) (by omega) (by rw [covB, hcv]; first | (simp [hb15]; done) | (simp [e]; done) | (rw [e]; simp; exact fun _ z => hb42 z)) kt kf
termination_by 6 - j
theorem c_isCovered {G : oG} {mu : oMu} {Q : oPm} {m : Nat} {ky vr nd : Nat → Nat} {dp : Nat → Nat → Nat} (hW : wOk mu m ky vr nd dp) {i q : Nat} {x : Nat → Nat} (hi : i < 6) (hq : q < 6) (hx : xOk mu 15 i m x) (kt : covB x dp q 6 = true → Q (some (.inl (nI 1))) mu) (kf : covB x dp q 6 = false → Q (some (.inl (nI 0))) mu) : Om G M_S_isCovered 0 [(0, .inr (some (ad 0 0))), (1, .inr (some (ad 15 i))), (2, .inl (nI q))] [] mu Q := by
  refine o_iconst (nI 0) dS_isCovered_0 rfl ?_
  refine o_istore_n [(0, _), (1, _), (2, _), (3, _)] dS_isCovered_1 rfl rfl ?_
  exact l_isCovered hW hi hq hx 0 (by omega) rfl kt kf
theorem l_nearestKeys {G : oG} {mu : oMu} {Q : oPm} {m : Nat} {ky vr nd : Nat → Nat} {dp : Nat → Nat → Nat} (hW : wOk mu m ky vr nd dp) {i : Nat} {x : Nat → Nat} (hi : i < 6) (hx : xOk mu 15 i m x) (j : Nat) (hj : j ≤ 6) (k : Q (some (.inl (nI (nearB x dp 6)))) mu) : Om G M_S_nearestKeys 4 [(0, .inr (some (ad 0 0))), (1, .inr (some (ad 15 i))), (2, .inl (nI (nearB x dp j))), (3, .inl (nI j))] [] mu Q := by
  refine o_iload_n dS_nearestKeys_4 rfl ?_
  refine o_bipush (nI 6) dS_nearestKeys_5 rfl ?_
  refine n_icmp_ge 41 dS_nearestKeys_7 rfl (by omega) (by omega) (fun hb7 => ?_) (fun hb7 => ?_)
  · skip
    have hj6 : j = 6 := by omega
    refine o_iload_n dS_nearestKeys_41 rfl ?_
    refine m_iret dS_nearestKeys_42 rfl ?_
    subst hj6
    exact k
  · skip
    refine o_aload_n dS_nearestKeys_10 rfl ?_
    refine o_aload_n dS_nearestKeys_11 rfl ?_
    refine o_iload_n dS_nearestKeys_12 rfl ?_
    refine m_iald j dS_nearestKeys_13 rfl rfl rfl hi rfl hb7 ?_
    refine o_top (dec (x j)) (hx j hb7).1 ?_
    refine m_callV M_S_isWrite [.inl (dec (x j))] [] dS_nearestKeys_14 mk_S_isWrite in_S_isWrite se_S_isWrite rfl (by decide) rfl rfl ml_S_123 rfl rfl rfl (Nat.le_of_ble_eq_true rfl) rfl ?_
    refine c_isWriteD hW.mm hW.m4 (hx j hb7).2 (fun w hw e => ?_) (fun e => ?_)
    · skip
      show Om G M_S_nearestKeys 17 [(0, .inr (some (ad 0 0))), (1, .inr (some (ad 15 i))), (2, .inl (nI (nearB x dp j))), (3, .inl (nI j))] [.inl (nI 1)] mu Q
      refine n_if_eq 35 dS_nearestKeys_17 rfl (by omega) (fun h => absurd h (by decide)) (fun _ => ?_)
      refine o_aload_n dS_nearestKeys_20 rfl ?_
      refine o_aload_n dS_nearestKeys_21 rfl ?_
      refine o_iload_n dS_nearestKeys_22 rfl ?_
      refine m_callV M_S_isCovered [.inr (some (ad 15 i)), .inl (nI j)] [] dS_nearestKeys_23 mk_S_isCovered in_S_isCovered se_S_isCovered rfl (by decide) rfl rfl ml_S_182 rfl rfl rfl (Nat.le_of_ble_eq_true rfl) rfl ?_
      refine c_isCovered hW hi hb7 hx (fun hcv => ?_) (fun hcv => ?_)
      · skip
        show Om G M_S_nearestKeys 26 [(0, .inr (some (ad 0 0))), (1, .inr (some (ad 15 i))), (2, .inl (nI (nearB x dp j))), (3, .inl (nI j))] [.inl (nI 1)] mu Q
        refine n_if_ne 35 dS_nearestKeys_26 rfl (by omega) (fun _ => ?_) (fun h => absurd h (by decide))
        refine o_iinc (nI (j + 1)) [(0, _), (1, _), (2, _), (3, _)] dS_nearestKeys_35 rfl (nInc _) rfl rfl ?_
        refine o_goto 4 dS_nearestKeys_38 rfl ?_
        rw [show nearB x dp j = nearB x dp (j + 1) by rw [nearB, if_neg (by first | exact fun z => z.1 e | (intro z; rw [hcv] at z; exact absurd z.2 (by decide)))]]
        exact l_nearestKeys hW hi hx (j + 1) (by omega) k
      · skip
        show Om G M_S_nearestKeys 26 [(0, .inr (some (ad 0 0))), (1, .inr (some (ad 15 i))), (2, .inl (nI (nearB x dp j))), (3, .inl (nI j))] [.inl (nI 0)] mu Q
        refine n_if_ne 35 dS_nearestKeys_26 rfl (by omega) (fun h => absurd h (by decide)) (fun _ => ?_)
        refine o_iload_n dS_nearestKeys_29 rfl ?_
        refine o_iconst (nI 1) dS_nearestKeys_30 rfl ?_
        refine o_iload_n dS_nearestKeys_31 rfl ?_
        refine o_ishl dS_nearestKeys_32 ?_
        refine o_ior dS_nearestKeys_33 ?_
        refine o_top (nI (nearB x dp j ||| 1 <<< j)) (b_or _ (nearB_lt j hj) j hb7).1 ?_
        refine o_istore_n [(0, _), (1, _), (2, _), (3, _)] dS_nearestKeys_34 rfl rfl ?_
        refine o_iinc (nI (j + 1)) [(0, _), (1, _), (2, _), (3, _)] dS_nearestKeys_35 rfl (nInc _) rfl rfl ?_
        refine o_goto 4 dS_nearestKeys_38 rfl ?_
        rw [show nearB x dp j ||| 1 <<< j = nearB x dp (j + 1) by rw [nearB, if_pos ⟨by omega, hcv⟩]]
        exact l_nearestKeys hW hi hx (j + 1) (by omega) k
    · skip
      show Om G M_S_nearestKeys 17 [(0, .inr (some (ad 0 0))), (1, .inr (some (ad 15 i))), (2, .inl (nI (nearB x dp j))), (3, .inl (nI j))] [.inl (nI 0)] mu Q
      refine n_if_eq 35 dS_nearestKeys_17 rfl (by omega) (fun _ => ?_) (fun h => absurd h (by decide))
      refine o_iinc (nI (j + 1)) [(0, _), (1, _), (2, _), (3, _)] dS_nearestKeys_35 rfl (nInc _) rfl rfl ?_
      refine o_goto 4 dS_nearestKeys_38 rfl ?_
      rw [show nearB x dp j = nearB x dp (j + 1) by rw [nearB, if_neg (by first | exact fun z => z.1 e | (intro z; rw [hcv] at z; exact absurd z.2 (by decide)))]]
      exact l_nearestKeys hW hi hx (j + 1) (by omega) k
termination_by 6 - j
theorem c_nearestKeys {G : oG} {mu : oMu} {Q : oPm} {m : Nat} {ky vr nd : Nat → Nat} {dp : Nat → Nat → Nat} (hW : wOk mu m ky vr nd dp) {i : Nat} {x : Nat → Nat} (hi : i < 6) (hx : xOk mu 15 i m x) (k : Q (some (.inl (nI (nearB x dp 6)))) mu) : Om G M_S_nearestKeys 0 [(0, .inr (some (ad 0 0))), (1, .inr (some (ad 15 i)))] [] mu Q := by
  refine o_iconst (nI 0) dS_nearestKeys_0 rfl ?_
  refine o_istore_n [(0, _), (1, _), (2, _)] dS_nearestKeys_1 rfl rfl ?_
  refine o_iconst (nI 0) dS_nearestKeys_2 rfl ?_
  refine o_istore_n [(0, _), (1, _), (2, _), (3, _)] dS_nearestKeys_3 rfl rfl ?_
  exact l_nearestKeys hW hi hx 0 (by omega) k
