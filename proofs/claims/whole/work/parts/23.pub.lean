/-! The relation of the class's cells to numbers; lists. -/
def rowOk (mu : oMu) (t t' q : Nat) (L : List Nat) : Prop := mu t q 1 = nI L.length ∧ L.length ≤ 40 ∧ ∀ j, j < L.length → mu t' q j = nI (L.getD j 0)
def ReC (mu : oMu) (m : Nat) (ky vr nd : Nat → Nat) (dp : Nat → Nat → Nat) (vl : Nat → Int32) (sn ck : Nat → Nat → Nat) (wt fl : Nat → List Nat) (x h d : Nat → Nat → Nat) (s l r : Nat → Nat) : Prop :=
  wOk mu m ky vr nd dp ∧ (∀ w, w < m → mu 5 w 2 = vl w) ∧
  (∀ c, c < 3 → sOk mu c (sn c) ∧ xOk mu 9 c m (fun k => latN (sn c) ky vr k m) ∧ ∀ p, p < 2 → mu 10 c p = nI (ck c p)) ∧
  (∀ q, q < 6 → rowOk mu 12 13 q (wt q)) ∧ (∀ q, q < 9 → rowOk mu 18 19 q (fl q)) ∧
  ∀ i, i < 6 → (mu 14 i 0 = nI (i % 3) ∧ mu 14 i 4 = nI (s i) ∧ mu 14 i 5 = nI (l i) ∧ mu 14 i 6 = nI (r i)) ∧ xOk mu 15 i m (x i) ∧ xOk mu 16 i m (h i) ∧ xOk mu 17 i m (d i)
section RCS
variable {mu : oMu} {m : Nat} {ky vr nd : Nat → Nat} {dp : Nat → Nat → Nat} {vl : Nat → Int32} {sn ck : Nat → Nat → Nat} {wt fl : Nat → List Nat} {x h d : Nat → Nat → Nat} {s l r : Nat → Nat}
theorem ReC.fw (hC : ReC mu m ky vr nd dp vl sn ck wt fl x h d s l r) : wOk mu m ky vr nd dp := hC.1
theorem ReC.fv (hC : ReC mu m ky vr nd dp vl sn ck wt fl x h d s l r) {w : Nat} (hw : w < m) : mu 5 w 2 = vl w := hC.2.1 w hw
theorem ReC.fsn (hC : ReC mu m ky vr nd dp vl sn ck wt fl x h d s l r) {c : Nat} (hc : c < 3) : sOk mu c (sn c) := (hC.2.2.1 c hc).1
theorem ReC.fnw (hC : ReC mu m ky vr nd dp vl sn ck wt fl x h d s l r) {c : Nat} (hc : c < 3) : xOk mu 9 c m (fun k => latN (sn c) ky vr k m) := (hC.2.2.1 c hc).2.1
theorem ReC.fck (hC : ReC mu m ky vr nd dp vl sn ck wt fl x h d s l r) {c p : Nat} (hc : c < 3) (hp : p < 2) : mu 10 c p = nI (ck c p) := (hC.2.2.1 c hc).2.2 p hp
theorem ReC.fwt (hC : ReC mu m ky vr nd dp vl sn ck wt fl x h d s l r) {q : Nat} (hq : q < 6) : rowOk mu 12 13 q (wt q) := hC.2.2.2.1 q hq
theorem ReC.ffl (hC : ReC mu m ky vr nd dp vl sn ck wt fl x h d s l r) {q : Nat} (hq : q < 9) : rowOk mu 18 19 q (fl q) := hC.2.2.2.2.1 q hq
theorem ReC.fce (hC : ReC mu m ky vr nd dp vl sn ck wt fl x h d s l r) {i : Nat} (hi : i < 6) : mu 14 i 0 = nI (i % 3) := (hC.2.2.2.2.2 i hi).1.1
theorem ReC.fse (hC : ReC mu m ky vr nd dp vl sn ck wt fl x h d s l r) {i : Nat} (hi : i < 6) : mu 14 i 4 = nI (s i) := (hC.2.2.2.2.2 i hi).1.2.1
theorem ReC.fle (hC : ReC mu m ky vr nd dp vl sn ck wt fl x h d s l r) {i : Nat} (hi : i < 6) : mu 14 i 5 = nI (l i) := (hC.2.2.2.2.2 i hi).1.2.2.1
theorem ReC.fro (hC : ReC mu m ky vr nd dp vl sn ck wt fl x h d s l r) {i : Nat} (hi : i < 6) : mu 14 i 6 = nI (r i) := (hC.2.2.2.2.2 i hi).1.2.2.2
theorem ReC.fx (hC : ReC mu m ky vr nd dp vl sn ck wt fl x h d s l r) {i : Nat} (hi : i < 6) : xOk mu 15 i m (x i) := (hC.2.2.2.2.2 i hi).2.1
theorem ReC.fh (hC : ReC mu m ky vr nd dp vl sn ck wt fl x h d s l r) {i : Nat} (hi : i < 6) : xOk mu 16 i m (h i) := (hC.2.2.2.2.2 i hi).2.2.1
theorem ReC.fd (hC : ReC mu m ky vr nd dp vl sn ck wt fl x h d s l r) {i : Nat} (hi : i < 6) : xOk mu 17 i m (d i) := (hC.2.2.2.2.2 i hi).2.2.2
end RCS
theorem rng (x : Int32) (n : Nat) (hn : n < 2147483648) : (∃ j, j < n ∧ x = nI j) ∨ ∀ j, j < n → ¬ x = nI j := by
  by_cases h : ∃ j, j < n ∧ x = nI j
  · exact Or.inl h
  · exact Or.inr fun j hj e => h ⟨j, hj, e⟩
theorem c_isClient_y {G : oG} {mu : oMu} {Q : oPm} {j : Nat} (hj : j < 6) (k : Q (some (.inl (nI 1))) mu) : Om G M_S_isClient 0 [(0, .inl (nI j))] [] mu Q := c_isClient (fun _ _ _ => k) (fun h => absurd rfl (h j hj))
theorem c_isClient_n {G : oG} {mu : oMu} {Q : oPm} {x : Int32} (h : ∀ j, j < 6 → ¬ x = nI j) (k : Q (some (.inl (nI 0))) mu) : Om G M_S_isClient 0 [(0, .inl x)] [] mu Q := c_isClient (fun j hj e => absurd e (h j hj)) (fun _ => k)
theorem c_isKey_y {G : oG} {mu : oMu} {Q : oPm} {j : Nat} (hj : j < 6) (k : Q (some (.inl (nI 1))) mu) : Om G M_S_isKey 0 [(0, .inl (nI j))] [] mu Q := c_isKey (fun _ _ _ => k) (fun h => absurd rfl (h j hj))
theorem c_isKey_n {G : oG} {mu : oMu} {Q : oPm} {x : Int32} (h : ∀ j, j < 6 → ¬ x = nI j) (k : Q (some (.inl (nI 0))) mu) : Om G M_S_isKey 0 [(0, .inl x)] [] mu Q := c_isKey (fun j hj e => absurd e (h j hj)) (fun _ => k)
theorem c_isCenter_y {G : oG} {mu : oMu} {Q : oPm} {j : Nat} (hj : j < 3) (k : Q (some (.inl (nI 1))) mu) : Om G M_S_isCenter 0 [(0, .inl (nI j))] [] mu Q := c_isCenter (fun _ _ _ => k) (fun h => absurd rfl (h j hj))
theorem c_isCenter_n {G : oG} {mu : oMu} {Q : oPm} {x : Int32} (h : ∀ j, j < 3 → ¬ x = nI j) (k : Q (some (.inl (nI 0))) mu) : Om G M_S_isCenter 0 [(0, .inl x)] [] mu Q := c_isCenter (fun j hj e => absurd e (h j hj)) (fun _ => k)
theorem c_isPartition_y {G : oG} {mu : oMu} {Q : oPm} {j : Nat} (hj : j < 2) (k : Q (some (.inl (nI 1))) mu) : Om G M_S_isPartition 0 [(0, .inl (nI j))] [] mu Q := c_isPartition (fun _ _ _ => k) (fun h => absurd rfl (h j hj))
theorem c_isPartition_n {G : oG} {mu : oMu} {Q : oPm} {x : Int32} (h : ∀ j, j < 2 → ¬ x = nI j) (k : Q (some (.inl (nI 0))) mu) : Om G M_S_isPartition 0 [(0, .inl x)] [] mu Q := c_isPartition (fun j hj e => absurd e (h j hj)) (fun _ => k)
theorem c_isWrite_y {G : oG} {mu : oMu} {Q : oPm} {w m : Nat} (hm : mu 0 0 4 = nI m) (hm4 : m ≤ 40) (hw : w < m) (k : Q (some (.inl (nI 1))) mu) : Om G M_S_isWrite 0 [(0, .inr (some (ad 0 0))), (1, .inl (nI w))] [] mu Q := c_isWrite hm hm4 (fun _ _ _ => k) (fun h => absurd rfl (h w hw))
theorem c_isWrite_n {G : oG} {mu : oMu} {Q : oPm} {x : Int32} {m : Nat} (hm : mu 0 0 4 = nI m) (hm4 : m ≤ 40) (h : ∀ j, j < m → ¬ x = nI j) (k : Q (some (.inl (nI 0))) mu) : Om G M_S_isWrite 0 [(0, .inr (some (ad 0 0))), (1, .inl x)] [] mu Q := c_isWrite hm hm4 (fun j hj e => absurd e (h j hj)) (fun _ => k)
theorem c_at_y {G : oG} {mu : oMu} {Q : oPm} {q j : Nat} {L : List Nat} (hq : q < 9) (hr : rowOk mu 18 19 q L) (hj : j < L.length) (k : Q (some (.inl (nI (L.getD j 0)))) mu) : Om G M_R_at 0 [(0, .inr (some (ad 18 q))), (1, .inl (nI j))] [] mu Q :=
  c_at_18 hq hr.1 hr.2.1 (fun z hz e => by
    have hzj : z = j := ((nI_eq (by have := hr.2.1; omega) (by have := hr.2.1; omega)).mp e).symm
    subst hzj
    rw [hr.2.2 z hz]
    exact k) (fun h => absurd rfl (h j hj))
theorem c_at_n {G : oG} {mu : oMu} {Q : oPm} {q : Nat} {x : Int32} {L : List Nat} (hq : q < 9) (hr : rowOk mu 18 19 q L) (h : ∀ j, j < L.length → ¬ x = nI j) (k : Q (some (.inl (-4))) mu) : Om G M_R_at 0 [(0, .inr (some (ad 18 q))), (1, .inl x)] [] mu Q :=
  c_at_18 hq hr.1 hr.2.1 (fun z hz e => absurd e (h z hz)) (fun _ => k)
theorem c_wat_y {G : oG} {mu : oMu} {Q : oPm} {q j : Nat} {L : List Nat} (hq : q < 6) (hr : rowOk mu 12 13 q L) (hj : j < L.length) (k : Q (some (.inl (nI (L.getD j 0)))) mu) : Om G M_R_at 0 [(0, .inr (some (ad 12 q))), (1, .inl (nI j))] [] mu Q :=
  c_at_12 hq hr.1 hr.2.1 (fun z hz e => by
    have hzj : z = j := ((nI_eq (by have := hr.2.1; omega) (by have := hr.2.1; omega)).mp e).symm
    subst hzj
    rw [hr.2.2 z hz]
    exact k) (fun h => absurd rfl (h j hj))
theorem c_wat_n {G : oG} {mu : oMu} {Q : oPm} {q : Nat} {x : Int32} {L : List Nat} (hq : q < 6) (hr : rowOk mu 12 13 q L) (h : ∀ j, j < L.length → ¬ x = nI j) (k : Q (some (.inl (-4))) mu) : Om G M_R_at 0 [(0, .inr (some (ad 12 q))), (1, .inl x)] [] mu Q :=
  c_at_12 hq hr.1 hr.2.1 (fun z hz e => absurd e (h z hz)) (fun _ => k)
theorem C_got_b1 {G : oG} {mu : oMu} {Q : oPm} {a b : Int32} (ha : ∀ j, j < 6 → ¬ a = nI j) (k : Q (some (.inl (-1))) mu) : Om G M_S_got 0 [(0, .inr (some (ad 0 0))), (1, .inl a), (2, .inl b)] [] mu Q := by
  refine o_iload_n dS_got_0 rfl ?_
  refine m_callS M_S_isClient [.inl a] [] dS_got_1 mk_S_isClient st_S_isClient ml_S_39 rfl rfl rfl (Nat.le_of_ble_eq_true rfl) rfl ?_
  refine c_isClient_n ha ?_
  show Om G M_S_got 4 [(0, .inr (some (ad 0 0))), (1, .inl a), (2, .inl b)] [.inl (nI 0)] mu Q
  refine n_if_eq 28 dS_got_4 rfl (by omega) (fun _ => ?_) (fun h => absurd h (by decide))
  refine o_iconst (-1) dS_got_28 rfl ?_
  refine m_iret dS_got_29 rfl ?_
  exact k
theorem C_got_b2 {G : oG} {mu : oMu} {Q : oPm} {i : Nat} {b : Int32} (hi : i < 6) (hb : ∀ j, j < 6 → ¬ b = nI j) (k : Q (some (.inl (-1))) mu) : Om G M_S_got 0 [(0, .inr (some (ad 0 0))), (1, .inl (nI i)), (2, .inl b)] [] mu Q := by
  refine o_iload_n dS_got_0 rfl ?_
  refine m_callS M_S_isClient [.inl (nI i)] [] dS_got_1 mk_S_isClient st_S_isClient ml_S_39 rfl rfl rfl (Nat.le_of_ble_eq_true rfl) rfl ?_
  refine c_isClient_y hi ?_
  show Om G M_S_got 4 [(0, .inr (some (ad 0 0))), (1, .inl (nI i)), (2, .inl b)] [.inl (nI 1)] mu Q
  refine n_if_eq 28 dS_got_4 rfl (by omega) (fun h => absurd h (by decide)) (fun _ => ?_)
  refine o_iload_n dS_got_7 rfl ?_
  refine m_callS M_S_isKey [.inl b] [] dS_got_8 mk_S_isKey st_S_isKey ml_S_43 rfl rfl rfl (Nat.le_of_ble_eq_true rfl) rfl ?_
  refine c_isKey_n hb ?_
  show Om G M_S_got 11 [(0, .inr (some (ad 0 0))), (1, .inl (nI i)), (2, .inl b)] [.inl (nI 0)] mu Q
  refine n_if_eq 28 dS_got_11 rfl (by omega) (fun _ => ?_) (fun h => absurd h (by decide))
  refine o_iconst (-1) dS_got_28 rfl ?_
  refine m_iret dS_got_29 rfl ?_
  exact k
theorem C_got {G : oG} {mu : oMu} {Q : oPm} {m : Nat} {ky vr nd : Nat → Nat} {dp : Nat → Nat → Nat} {vl : Nat → Int32} {sn ck : Nat → Nat → Nat} {wt fl : Nat → List Nat} {x h d : Nat → Nat → Nat} {s l r : Nat → Nat} (hC : ReC mu m ky vr nd dp vl sn ck wt fl x h d s l r) {i q : Nat} (hi : i < 6) (hq : q < 6) (k : Q (some (.inl (dec (h i q)))) mu) : Om G M_S_got 0 [(0, .inr (some (ad 0 0))), (1, .inl (nI i)), (2, .inl (nI q))] [] mu Q := by
  refine o_iload_n dS_got_0 rfl ?_
  refine m_callS M_S_isClient [.inl (nI i)] [] dS_got_1 mk_S_isClient st_S_isClient ml_S_39 rfl rfl rfl (Nat.le_of_ble_eq_true rfl) rfl ?_
  refine c_isClient_y hi ?_
  show Om G M_S_got 4 [(0, .inr (some (ad 0 0))), (1, .inl (nI i)), (2, .inl (nI q))] [.inl (nI 1)] mu Q
  refine n_if_eq 28 dS_got_4 rfl (by omega) (fun h => absurd h (by decide)) (fun _ => ?_)
  refine o_iload_n dS_got_7 rfl ?_
  refine m_callS M_S_isKey [.inl (nI q)] [] dS_got_8 mk_S_isKey st_S_isKey ml_S_43 rfl rfl rfl (Nat.le_of_ble_eq_true rfl) rfl ?_
  refine c_isKey_y hq ?_
  show Om G M_S_got 11 [(0, .inr (some (ad 0 0))), (1, .inl (nI i)), (2, .inl (nI q))] [.inl (nI 1)] mu Q
  refine n_if_eq 28 dS_got_11 rfl (by omega) (fun h => absurd h (by decide)) (fun _ => ?_)
  refine o_aload_n dS_got_14 rfl ?_
  refine m_getr dS_got_15 fl_S_23 rfl rfl (by decide) ?_
  refine o_iload_n dS_got_18 rfl ?_
  refine m_aald i dS_got_19 rfl rfl rfl (by decide) rfl (sh_q3 hi) ?_
  refine m_getr dS_got_20 fl_S_116 rfl rfl hi ?_
  refine o_iload_n dS_got_23 rfl ?_
  refine m_iald q dS_got_24 rfl rfl rfl hi rfl hq ?_
  refine o_top (dec (h i q)) (hC.fh hi q hq).1 ?_
  refine o_goto 29 dS_got_25 rfl ?_
  refine m_iret dS_got_29 rfl ?_
  exact k
theorem C_latest_b1 {G : oG} {mu : oMu} {Q : oPm} {a b : Int32} (ha : ∀ j, j < 3 → ¬ a = nI j) (k : Q (some (.inl (-1))) mu) : Om G M_S_latest 0 [(0, .inr (some (ad 0 0))), (1, .inl a), (2, .inl b)] [] mu Q := by
  refine o_iload_n dS_latest_0 rfl ?_
  refine m_callS M_S_isCenter [.inl a] [] dS_latest_1 mk_S_isCenter st_S_isCenter ml_S_150 rfl rfl rfl (Nat.le_of_ble_eq_true rfl) rfl ?_
  refine c_isCenter_n ha ?_
  show Om G M_S_latest 4 [(0, .inr (some (ad 0 0))), (1, .inl a), (2, .inl b)] [.inl (nI 0)] mu Q
  refine n_if_eq 28 dS_latest_4 rfl (by omega) (fun _ => ?_) (fun h => absurd h (by decide))
  refine o_iconst (-1) dS_latest_28 rfl ?_
  refine m_iret dS_latest_29 rfl ?_
  exact k
theorem C_latest_b2 {G : oG} {mu : oMu} {Q : oPm} {i : Nat} {b : Int32} (hi : i < 3) (hb : ∀ j, j < 6 → ¬ b = nI j) (k : Q (some (.inl (-1))) mu) : Om G M_S_latest 0 [(0, .inr (some (ad 0 0))), (1, .inl (nI i)), (2, .inl b)] [] mu Q := by
  refine o_iload_n dS_latest_0 rfl ?_
  refine m_callS M_S_isCenter [.inl (nI i)] [] dS_latest_1 mk_S_isCenter st_S_isCenter ml_S_150 rfl rfl rfl (Nat.le_of_ble_eq_true rfl) rfl ?_
  refine c_isCenter_y hi ?_
  show Om G M_S_latest 4 [(0, .inr (some (ad 0 0))), (1, .inl (nI i)), (2, .inl b)] [.inl (nI 1)] mu Q
  refine n_if_eq 28 dS_latest_4 rfl (by omega) (fun h => absurd h (by decide)) (fun _ => ?_)
  refine o_iload_n dS_latest_7 rfl ?_
  refine m_callS M_S_isKey [.inl b] [] dS_latest_8 mk_S_isKey st_S_isKey ml_S_43 rfl rfl rfl (Nat.le_of_ble_eq_true rfl) rfl ?_
  refine c_isKey_n hb ?_
  show Om G M_S_latest 11 [(0, .inr (some (ad 0 0))), (1, .inl (nI i)), (2, .inl b)] [.inl (nI 0)] mu Q
  refine n_if_eq 28 dS_latest_11 rfl (by omega) (fun _ => ?_) (fun h => absurd h (by decide))
  refine o_iconst (-1) dS_latest_28 rfl ?_
  refine m_iret dS_latest_29 rfl ?_
  exact k
theorem C_latest {G : oG} {mu : oMu} {Q : oPm} {m : Nat} {ky vr nd : Nat → Nat} {dp : Nat → Nat → Nat} {vl : Nat → Int32} {sn ck : Nat → Nat → Nat} {wt fl : Nat → List Nat} {x h d : Nat → Nat → Nat} {s l r : Nat → Nat} (hC : ReC mu m ky vr nd dp vl sn ck wt fl x h d s l r) {i q : Nat} (hi : i < 3) (hq : q < 6) (k : Q (some (.inl (dec (latN (sn i) ky vr q m)))) mu) : Om G M_S_latest 0 [(0, .inr (some (ad 0 0))), (1, .inl (nI i)), (2, .inl (nI q))] [] mu Q := by
  refine o_iload_n dS_latest_0 rfl ?_
  refine m_callS M_S_isCenter [.inl (nI i)] [] dS_latest_1 mk_S_isCenter st_S_isCenter ml_S_150 rfl rfl rfl (Nat.le_of_ble_eq_true rfl) rfl ?_
  refine c_isCenter_y hi ?_
  show Om G M_S_latest 4 [(0, .inr (some (ad 0 0))), (1, .inl (nI i)), (2, .inl (nI q))] [.inl (nI 1)] mu Q
  refine n_if_eq 28 dS_latest_4 rfl (by omega) (fun h => absurd h (by decide)) (fun _ => ?_)
  refine o_iload_n dS_latest_7 rfl ?_
  refine m_callS M_S_isKey [.inl (nI q)] [] dS_latest_8 mk_S_isKey st_S_isKey ml_S_43 rfl rfl rfl (Nat.le_of_ble_eq_true rfl) rfl ?_
  refine c_isKey_y hq ?_
  show Om G M_S_latest 11 [(0, .inr (some (ad 0 0))), (1, .inl (nI i)), (2, .inl (nI q))] [.inl (nI 1)] mu Q
  refine n_if_eq 28 dS_latest_11 rfl (by omega) (fun h => absurd h (by decide)) (fun _ => ?_)
  refine o_aload_n dS_latest_14 rfl ?_
  refine m_getr dS_latest_15 fl_S_17 rfl rfl (by decide) ?_
  refine o_iload_n dS_latest_18 rfl ?_
  refine m_aald i dS_latest_19 rfl rfl rfl (by decide) rfl (sh_q2 hi) ?_
  refine m_getr dS_latest_20 fl_S_88 rfl rfl hi ?_
  refine o_iload_n dS_latest_23 rfl ?_
  refine m_iald q dS_latest_24 rfl rfl rfl hi rfl hq ?_
  refine o_top (dec (latN (sn i) ky vr q m)) (hC.fnw hi q hq).1 ?_
  refine o_goto 29 dS_latest_25 rfl ?_
  refine m_iret dS_latest_29 rfl ?_
  exact k
theorem C_clock_b1 {G : oG} {mu : oMu} {Q : oPm} {a b : Int32} (ha : ∀ j, j < 3 → ¬ a = nI j) (k : Q (some (.inl (-1))) mu) : Om G M_S_clock 0 [(0, .inr (some (ad 0 0))), (1, .inl a), (2, .inl b)] [] mu Q := by
  refine o_iload_n dS_clock_0 rfl ?_
  refine m_callS M_S_isCenter [.inl a] [] dS_clock_1 mk_S_isCenter st_S_isCenter ml_S_150 rfl rfl rfl (Nat.le_of_ble_eq_true rfl) rfl ?_
  refine c_isCenter_n ha ?_
  show Om G M_S_clock 4 [(0, .inr (some (ad 0 0))), (1, .inl a), (2, .inl b)] [.inl (nI 0)] mu Q
  refine n_if_eq 28 dS_clock_4 rfl (by omega) (fun _ => ?_) (fun h => absurd h (by decide))
  refine o_iconst (-1) dS_clock_28 rfl ?_
  refine m_iret dS_clock_29 rfl ?_
  exact k
theorem C_clock_b2 {G : oG} {mu : oMu} {Q : oPm} {i : Nat} {b : Int32} (hi : i < 3) (hb : ∀ j, j < 2 → ¬ b = nI j) (k : Q (some (.inl (-1))) mu) : Om G M_S_clock 0 [(0, .inr (some (ad 0 0))), (1, .inl (nI i)), (2, .inl b)] [] mu Q := by
  refine o_iload_n dS_clock_0 rfl ?_
  refine m_callS M_S_isCenter [.inl (nI i)] [] dS_clock_1 mk_S_isCenter st_S_isCenter ml_S_150 rfl rfl rfl (Nat.le_of_ble_eq_true rfl) rfl ?_
  refine c_isCenter_y hi ?_
  show Om G M_S_clock 4 [(0, .inr (some (ad 0 0))), (1, .inl (nI i)), (2, .inl b)] [.inl (nI 1)] mu Q
  refine n_if_eq 28 dS_clock_4 rfl (by omega) (fun h => absurd h (by decide)) (fun _ => ?_)
  refine o_iload_n dS_clock_7 rfl ?_
  refine m_callS M_S_isPartition [.inl b] [] dS_clock_8 mk_S_isPartition st_S_isPartition ml_S_153 rfl rfl rfl (Nat.le_of_ble_eq_true rfl) rfl ?_
  refine c_isPartition_n hb ?_
  show Om G M_S_clock 11 [(0, .inr (some (ad 0 0))), (1, .inl (nI i)), (2, .inl b)] [.inl (nI 0)] mu Q
  refine n_if_eq 28 dS_clock_11 rfl (by omega) (fun _ => ?_) (fun h => absurd h (by decide))
  refine o_iconst (-1) dS_clock_28 rfl ?_
  refine m_iret dS_clock_29 rfl ?_
  exact k
theorem C_clock {G : oG} {mu : oMu} {Q : oPm} {m : Nat} {ky vr nd : Nat → Nat} {dp : Nat → Nat → Nat} {vl : Nat → Int32} {sn ck : Nat → Nat → Nat} {wt fl : Nat → List Nat} {x h d : Nat → Nat → Nat} {s l r : Nat → Nat} (hC : ReC mu m ky vr nd dp vl sn ck wt fl x h d s l r) {i q : Nat} (hi : i < 3) (hq : q < 2) (k : Q (some (.inl (nI (ck i q)))) mu) : Om G M_S_clock 0 [(0, .inr (some (ad 0 0))), (1, .inl (nI i)), (2, .inl (nI q))] [] mu Q := by
  refine o_iload_n dS_clock_0 rfl ?_
  refine m_callS M_S_isCenter [.inl (nI i)] [] dS_clock_1 mk_S_isCenter st_S_isCenter ml_S_150 rfl rfl rfl (Nat.le_of_ble_eq_true rfl) rfl ?_
  refine c_isCenter_y hi ?_
  show Om G M_S_clock 4 [(0, .inr (some (ad 0 0))), (1, .inl (nI i)), (2, .inl (nI q))] [.inl (nI 1)] mu Q
  refine n_if_eq 28 dS_clock_4 rfl (by omega) (fun h => absurd h (by decide)) (fun _ => ?_)
  refine o_iload_n dS_clock_7 rfl ?_
  refine m_callS M_S_isPartition [.inl (nI q)] [] dS_clock_8 mk_S_isPartition st_S_isPartition ml_S_153 rfl rfl rfl (Nat.le_of_ble_eq_true rfl) rfl ?_
  refine c_isPartition_y hq ?_
  show Om G M_S_clock 11 [(0, .inr (some (ad 0 0))), (1, .inl (nI i)), (2, .inl (nI q))] [.inl (nI 1)] mu Q
  refine n_if_eq 28 dS_clock_11 rfl (by omega) (fun h => absurd h (by decide)) (fun _ => ?_)
  refine o_aload_n dS_clock_14 rfl ?_
  refine m_getr dS_clock_15 fl_S_17 rfl rfl (by decide) ?_
  refine o_iload_n dS_clock_18 rfl ?_
  refine m_aald i dS_clock_19 rfl rfl rfl (by decide) rfl (sh_q2 hi) ?_
  refine m_getr dS_clock_20 fl_S_132 rfl rfl hi ?_
  refine o_iload_n dS_clock_23 rfl ?_
  refine m_iald q dS_clock_24 rfl rfl rfl hi rfl hq ?_
  refine o_top (nI (ck i q)) (hC.fck hi hq) ?_
  refine o_goto 29 dS_clock_25 rfl ?_
  refine m_iret dS_clock_29 rfl ?_
  exact k
theorem C_context_b1 {G : oG} {mu : oMu} {Q : oPm} {a b : Int32} (ha : ∀ j, j < 6 → ¬ a = nI j) (k : Q (some (.inl (-1))) mu) : Om G M_S_context 0 [(0, .inr (some (ad 0 0))), (1, .inl a), (2, .inl b)] [] mu Q := by
  refine o_iload_n dS_context_0 rfl ?_
  refine m_callS M_S_isClient [.inl a] [] dS_context_1 mk_S_isClient st_S_isClient ml_S_39 rfl rfl rfl (Nat.le_of_ble_eq_true rfl) rfl ?_
  refine c_isClient_n ha ?_
  show Om G M_S_context 4 [(0, .inr (some (ad 0 0))), (1, .inl a), (2, .inl b)] [.inl (nI 0)] mu Q
  refine n_if_eq 28 dS_context_4 rfl (by omega) (fun _ => ?_) (fun h => absurd h (by decide))
  refine o_iconst (-1) dS_context_28 rfl ?_
  refine m_iret dS_context_29 rfl ?_
  exact k
theorem C_context_b2 {G : oG} {mu : oMu} {Q : oPm} {i : Nat} {b : Int32} (hi : i < 6) (hb : ∀ j, j < 6 → ¬ b = nI j) (k : Q (some (.inl (-1))) mu) : Om G M_S_context 0 [(0, .inr (some (ad 0 0))), (1, .inl (nI i)), (2, .inl b)] [] mu Q := by
  refine o_iload_n dS_context_0 rfl ?_
  refine m_callS M_S_isClient [.inl (nI i)] [] dS_context_1 mk_S_isClient st_S_isClient ml_S_39 rfl rfl rfl (Nat.le_of_ble_eq_true rfl) rfl ?_
  refine c_isClient_y hi ?_
  show Om G M_S_context 4 [(0, .inr (some (ad 0 0))), (1, .inl (nI i)), (2, .inl b)] [.inl (nI 1)] mu Q
  refine n_if_eq 28 dS_context_4 rfl (by omega) (fun h => absurd h (by decide)) (fun _ => ?_)
  refine o_iload_n dS_context_7 rfl ?_
  refine m_callS M_S_isKey [.inl b] [] dS_context_8 mk_S_isKey st_S_isKey ml_S_43 rfl rfl rfl (Nat.le_of_ble_eq_true rfl) rfl ?_
  refine c_isKey_n hb ?_
  show Om G M_S_context 11 [(0, .inr (some (ad 0 0))), (1, .inl (nI i)), (2, .inl b)] [.inl (nI 0)] mu Q
  refine n_if_eq 28 dS_context_11 rfl (by omega) (fun _ => ?_) (fun h => absurd h (by decide))
  refine o_iconst (-1) dS_context_28 rfl ?_
  refine m_iret dS_context_29 rfl ?_
  exact k
theorem C_context {G : oG} {mu : oMu} {Q : oPm} {m : Nat} {ky vr nd : Nat → Nat} {dp : Nat → Nat → Nat} {vl : Nat → Int32} {sn ck : Nat → Nat → Nat} {wt fl : Nat → List Nat} {x h d : Nat → Nat → Nat} {s l r : Nat → Nat} (hC : ReC mu m ky vr nd dp vl sn ck wt fl x h d s l r) {i q : Nat} (hi : i < 6) (hq : q < 6) (k : Q (some (.inl (dec (x i q)))) mu) : Om G M_S_context 0 [(0, .inr (some (ad 0 0))), (1, .inl (nI i)), (2, .inl (nI q))] [] mu Q := by
  refine o_iload_n dS_context_0 rfl ?_
  refine m_callS M_S_isClient [.inl (nI i)] [] dS_context_1 mk_S_isClient st_S_isClient ml_S_39 rfl rfl rfl (Nat.le_of_ble_eq_true rfl) rfl ?_
  refine c_isClient_y hi ?_
  show Om G M_S_context 4 [(0, .inr (some (ad 0 0))), (1, .inl (nI i)), (2, .inl (nI q))] [.inl (nI 1)] mu Q
  refine n_if_eq 28 dS_context_4 rfl (by omega) (fun h => absurd h (by decide)) (fun _ => ?_)
  refine o_iload_n dS_context_7 rfl ?_
  refine m_callS M_S_isKey [.inl (nI q)] [] dS_context_8 mk_S_isKey st_S_isKey ml_S_43 rfl rfl rfl (Nat.le_of_ble_eq_true rfl) rfl ?_
  refine c_isKey_y hq ?_
  show Om G M_S_context 11 [(0, .inr (some (ad 0 0))), (1, .inl (nI i)), (2, .inl (nI q))] [.inl (nI 1)] mu Q
  refine n_if_eq 28 dS_context_11 rfl (by omega) (fun h => absurd h (by decide)) (fun _ => ?_)
  refine o_aload_n dS_context_14 rfl ?_
  refine m_getr dS_context_15 fl_S_23 rfl rfl (by decide) ?_
  refine o_iload_n dS_context_18 rfl ?_
  refine m_aald i dS_context_19 rfl rfl rfl (by decide) rfl (sh_q3 hi) ?_
  refine m_getr dS_context_20 fl_S_65 rfl rfl hi ?_
  refine o_iload_n dS_context_23 rfl ?_
  refine m_iald q dS_context_24 rfl rfl rfl hi rfl hq ?_
  refine o_top (dec (x i q)) (hC.fx hi q hq).1 ?_
  refine o_goto 29 dS_context_25 rfl ?_
  refine m_iret dS_context_29 rfl ?_
  exact k
theorem C_flight_b1 {G : oG} {mu : oMu} {Q : oPm} {a b : Int32} (ha : ∀ j, j < 3 → ¬ a = nI j) (k : Q (some (.inl (nI 0))) mu) : Om G M_S_flight 0 [(0, .inr (some (ad 0 0))), (1, .inl a), (2, .inl b)] [] mu Q := by
  refine o_iload_n dS_flight_0 rfl ?_
  refine m_callS M_S_isCenter [.inl a] [] dS_flight_1 mk_S_isCenter st_S_isCenter ml_S_150 rfl rfl rfl (Nat.le_of_ble_eq_true rfl) rfl ?_
  refine c_isCenter_n ha ?_
  show Om G M_S_flight 4 [(0, .inr (some (ad 0 0))), (1, .inl a), (2, .inl b)] [.inl (nI 0)] mu Q
  refine n_if_eq 30 dS_flight_4 rfl (by omega) (fun _ => ?_) (fun h => absurd h (by decide))
  refine o_iconst (nI 0) dS_flight_30 rfl ?_
  refine m_iret dS_flight_31 rfl ?_
  exact k
theorem C_flight_b2 {G : oG} {mu : oMu} {Q : oPm} {i : Nat} {b : Int32} (hi : i < 3) (hb : ∀ j, j < 3 → ¬ b = nI j) (k : Q (some (.inl (nI 0))) mu) : Om G M_S_flight 0 [(0, .inr (some (ad 0 0))), (1, .inl (nI i)), (2, .inl b)] [] mu Q := by
  refine o_iload_n dS_flight_0 rfl ?_
  refine m_callS M_S_isCenter [.inl (nI i)] [] dS_flight_1 mk_S_isCenter st_S_isCenter ml_S_150 rfl rfl rfl (Nat.le_of_ble_eq_true rfl) rfl ?_
  refine c_isCenter_y hi ?_
  show Om G M_S_flight 4 [(0, .inr (some (ad 0 0))), (1, .inl (nI i)), (2, .inl b)] [.inl (nI 1)] mu Q
  refine n_if_eq 30 dS_flight_4 rfl (by omega) (fun h => absurd h (by decide)) (fun _ => ?_)
  refine o_iload_n dS_flight_7 rfl ?_
  refine m_callS M_S_isCenter [.inl b] [] dS_flight_8 mk_S_isCenter st_S_isCenter ml_S_150 rfl rfl rfl (Nat.le_of_ble_eq_true rfl) rfl ?_
  refine c_isCenter_n hb ?_
  show Om G M_S_flight 11 [(0, .inr (some (ad 0 0))), (1, .inl (nI i)), (2, .inl b)] [.inl (nI 0)] mu Q
  refine n_if_eq 30 dS_flight_11 rfl (by omega) (fun _ => ?_) (fun h => absurd h (by decide))
  refine o_iconst (nI 0) dS_flight_30 rfl ?_
  refine m_iret dS_flight_31 rfl ?_
  exact k
theorem C_flight {G : oG} {mu : oMu} {Q : oPm} {m : Nat} {ky vr nd : Nat → Nat} {dp : Nat → Nat → Nat} {vl : Nat → Int32} {sn ck : Nat → Nat → Nat} {wt fl : Nat → List Nat} {x h d : Nat → Nat → Nat} {s l r : Nat → Nat} (hC : ReC mu m ky vr nd dp vl sn ck wt fl x h d s l r) {i q : Nat} (hi : i < 3) (hq : q < 3) (k : Q (some (.inl (nI (fl (i * 3 + q)).length))) mu) : Om G M_S_flight 0 [(0, .inr (some (ad 0 0))), (1, .inl (nI i)), (2, .inl (nI q))] [] mu Q := by
  refine o_iload_n dS_flight_0 rfl ?_
  refine m_callS M_S_isCenter [.inl (nI i)] [] dS_flight_1 mk_S_isCenter st_S_isCenter ml_S_150 rfl rfl rfl (Nat.le_of_ble_eq_true rfl) rfl ?_
  refine c_isCenter_y hi ?_
  show Om G M_S_flight 4 [(0, .inr (some (ad 0 0))), (1, .inl (nI i)), (2, .inl (nI q))] [.inl (nI 1)] mu Q
  refine n_if_eq 30 dS_flight_4 rfl (by omega) (fun h => absurd h (by decide)) (fun _ => ?_)
  refine o_iload_n dS_flight_7 rfl ?_
  refine m_callS M_S_isCenter [.inl (nI q)] [] dS_flight_8 mk_S_isCenter st_S_isCenter ml_S_150 rfl rfl rfl (Nat.le_of_ble_eq_true rfl) rfl ?_
  refine c_isCenter_y hq ?_
  show Om G M_S_flight 11 [(0, .inr (some (ad 0 0))), (1, .inl (nI i)), (2, .inl (nI q))] [.inl (nI 1)] mu Q
  refine n_if_eq 30 dS_flight_11 rfl (by omega) (fun h => absurd h (by decide)) (fun _ => ?_)
  refine o_aload_n dS_flight_14 rfl ?_
  refine m_getr dS_flight_15 fl_S_29 rfl rfl (by decide) ?_
  refine o_iload_n dS_flight_18 rfl ?_
  refine o_iconst (nI 3) dS_flight_19 rfl ?_
  refine o_imul dS_flight_20 ?_
  refine o_top _ (pk_mul _ _) ?_
  refine o_iload_n dS_flight_21 rfl ?_
  refine o_iadd dS_flight_22 ?_
  refine o_top _ (nI_add _ _) ?_
  refine m_aald (i * 3 + q) dS_flight_23 rfl rfl rfl (by decide) rfl (sh_q4 (by omega)) ?_
  refine m_geti dS_flight_24 fl_S_156 rfl rfl (show i * 3 + q < 9 by omega) ?_
  refine o_top (nI ((fl (i * 3 + q)).length)) (hC.ffl (by omega)).1 ?_
  refine o_goto 31 dS_flight_27 rfl ?_
  refine m_iret dS_flight_31 rfl ?_
  exact k
theorem C_pending_b1 {G : oG} {mu : oMu} {Q : oPm} {a b : Int32} (ha : ∀ j, j < 3 → ¬ a = nI j) (k : Q (some (.inl (-1))) mu) : Om G M_S_pending 0 [(0, .inr (some (ad 0 0))), (1, .inl a), (2, .inl b)] [] mu Q := by
  refine o_iload_n dS_pending_0 rfl ?_
  refine m_callS M_S_isCenter [.inl a] [] dS_pending_1 mk_S_isCenter st_S_isCenter ml_S_150 rfl rfl rfl (Nat.le_of_ble_eq_true rfl) rfl ?_
  refine c_isCenter_n ha ?_
  show Om G M_S_pending 4 [(0, .inr (some (ad 0 0))), (1, .inl a), (2, .inl b)] [.inl (nI 0)] mu Q
  refine n_if_eq 14 dS_pending_4 rfl (by omega) (fun _ => ?_) (fun h => absurd h (by decide))
  refine o_iconst (-1) dS_pending_14 rfl ?_
  refine m_iret dS_pending_15 rfl ?_
  exact k
theorem C_pending_b2 {G : oG} {mu : oMu} {Q : oPm} {i : Nat} {b : Int32} (hi : i < 3) (hb : ∀ j, j < 2 → ¬ b = nI j) (k : Q (some (.inl (-1))) mu) : Om G M_S_pending 0 [(0, .inr (some (ad 0 0))), (1, .inl (nI i)), (2, .inl b)] [] mu Q := by
  refine o_iload_n dS_pending_0 rfl ?_
  refine m_callS M_S_isCenter [.inl (nI i)] [] dS_pending_1 mk_S_isCenter st_S_isCenter ml_S_150 rfl rfl rfl (Nat.le_of_ble_eq_true rfl) rfl ?_
  refine c_isCenter_y hi ?_
  show Om G M_S_pending 4 [(0, .inr (some (ad 0 0))), (1, .inl (nI i)), (2, .inl b)] [.inl (nI 1)] mu Q
  refine n_if_eq 14 dS_pending_4 rfl (by omega) (fun h => absurd h (by decide)) (fun _ => ?_)
  refine o_iload_n dS_pending_7 rfl ?_
  refine m_callS M_S_isPartition [.inl b] [] dS_pending_8 mk_S_isPartition st_S_isPartition ml_S_153 rfl rfl rfl (Nat.le_of_ble_eq_true rfl) rfl ?_
  refine c_isPartition_n hb ?_
  show Om G M_S_pending 11 [(0, .inr (some (ad 0 0))), (1, .inl (nI i)), (2, .inl b)] [.inl (nI 0)] mu Q
  refine n_if_ne 16 dS_pending_11 rfl (by omega) (fun h => absurd h (by decide)) (fun _ => ?_)
  refine o_iconst (-1) dS_pending_14 rfl ?_
  refine m_iret dS_pending_15 rfl ?_
  exact k
theorem C_pending {G : oG} {mu : oMu} {Q : oPm} {m : Nat} {ky vr nd : Nat → Nat} {dp : Nat → Nat → Nat} {vl : Nat → Int32} {sn ck : Nat → Nat → Nat} {wt fl : Nat → List Nat} {x h d : Nat → Nat → Nat} {s l r : Nat → Nat} (hC : ReC mu m ky vr nd dp vl sn ck wt fl x h d s l r) {i q : Nat} (hi : i < 3) (hq : q < 2) (k : Q (some (.inl (nI (wt (2 * i + q)).length))) mu) : Om G M_S_pending 0 [(0, .inr (some (ad 0 0))), (1, .inl (nI i)), (2, .inl (nI q))] [] mu Q := by
  refine o_iload_n dS_pending_0 rfl ?_
  refine m_callS M_S_isCenter [.inl (nI i)] [] dS_pending_1 mk_S_isCenter st_S_isCenter ml_S_150 rfl rfl rfl (Nat.le_of_ble_eq_true rfl) rfl ?_
  refine c_isCenter_y hi ?_
  show Om G M_S_pending 4 [(0, .inr (some (ad 0 0))), (1, .inl (nI i)), (2, .inl (nI q))] [.inl (nI 1)] mu Q
  refine n_if_eq 14 dS_pending_4 rfl (by omega) (fun h => absurd h (by decide)) (fun _ => ?_)
  refine o_iload_n dS_pending_7 rfl ?_
  refine m_callS M_S_isPartition [.inl (nI q)] [] dS_pending_8 mk_S_isPartition st_S_isPartition ml_S_153 rfl rfl rfl (Nat.le_of_ble_eq_true rfl) rfl ?_
  refine c_isPartition_y hq ?_
  show Om G M_S_pending 11 [(0, .inr (some (ad 0 0))), (1, .inl (nI i)), (2, .inl (nI q))] [.inl (nI 1)] mu Q
  refine n_if_ne 16 dS_pending_11 rfl (by omega) (fun _ => ?_) (fun h => absurd h (by decide))
  refine o_aload_n dS_pending_16 rfl ?_
  refine m_getr dS_pending_17 fl_S_17 rfl rfl (by decide) ?_
  refine o_iload_n dS_pending_20 rfl ?_
  refine m_aald i dS_pending_21 rfl rfl rfl (by decide) rfl (sh_q2 hi) ?_
  refine m_getr dS_pending_22 fl_S_144 rfl rfl hi ?_
  refine o_iload_n dS_pending_25 rfl ?_
  refine m_aald q dS_pending_26 rfl rfl rfl hi rfl (sh_wait (by omega)) ?_
  refine m_geti dS_pending_27 fl_S_156 rfl rfl (show 2 * i + q < 6 by omega) ?_
  refine o_top (nI ((wt (2 * i + q)).length)) (hC.fwt (by omega)).1 ?_
  refine m_iret dS_pending_30 rfl ?_
  exact k
theorem C_sent_b1 {G : oG} {mu : oMu} {Q : oPm} {a b : Int32} {z3 : Int32} (ha : ∀ j, j < 3 → ¬ a = nI j) (k : Q (some (.inl (-4))) mu) : Om G M_S_sent 0 [(0, .inr (some (ad 0 0))), (1, .inl a), (2, .inl b), (3, .inl z3)] [] mu Q := by
  refine o_iload_n dS_sent_0 rfl ?_
  refine m_callS M_S_isCenter [.inl a] [] dS_sent_1 mk_S_isCenter st_S_isCenter ml_S_150 rfl rfl rfl (Nat.le_of_ble_eq_true rfl) rfl ?_
  refine c_isCenter_n ha ?_
  show Om G M_S_sent 4 [(0, .inr (some (ad 0 0))), (1, .inl a), (2, .inl b), (3, .inl z3)] [.inl (nI 0)] mu Q
  refine n_if_eq 31 dS_sent_4 rfl (by omega) (fun _ => ?_) (fun h => absurd h (by decide))
  refine o_bipush (-4) dS_sent_31 rfl ?_
  refine m_iret dS_sent_33 rfl ?_
  exact k
theorem C_sent_b2 {G : oG} {mu : oMu} {Q : oPm} {i : Nat} {b : Int32} {z3 : Int32} (hi : i < 3) (hb : ∀ j, j < 3 → ¬ b = nI j) (k : Q (some (.inl (-4))) mu) : Om G M_S_sent 0 [(0, .inr (some (ad 0 0))), (1, .inl (nI i)), (2, .inl b), (3, .inl z3)] [] mu Q := by
  refine o_iload_n dS_sent_0 rfl ?_
  refine m_callS M_S_isCenter [.inl (nI i)] [] dS_sent_1 mk_S_isCenter st_S_isCenter ml_S_150 rfl rfl rfl (Nat.le_of_ble_eq_true rfl) rfl ?_
  refine c_isCenter_y hi ?_
  show Om G M_S_sent 4 [(0, .inr (some (ad 0 0))), (1, .inl (nI i)), (2, .inl b), (3, .inl z3)] [.inl (nI 1)] mu Q
  refine n_if_eq 31 dS_sent_4 rfl (by omega) (fun h => absurd h (by decide)) (fun _ => ?_)
  refine o_iload_n dS_sent_7 rfl ?_
  refine m_callS M_S_isCenter [.inl b] [] dS_sent_8 mk_S_isCenter st_S_isCenter ml_S_150 rfl rfl rfl (Nat.le_of_ble_eq_true rfl) rfl ?_
  refine c_isCenter_n hb ?_
  show Om G M_S_sent 11 [(0, .inr (some (ad 0 0))), (1, .inl (nI i)), (2, .inl b), (3, .inl z3)] [.inl (nI 0)] mu Q
  refine n_if_eq 31 dS_sent_11 rfl (by omega) (fun _ => ?_) (fun h => absurd h (by decide))
  refine o_bipush (-4) dS_sent_31 rfl ?_
  refine m_iret dS_sent_33 rfl ?_
  exact k
theorem C_sent_y {G : oG} {mu : oMu} {Q : oPm} {m : Nat} {ky vr nd : Nat → Nat} {dp : Nat → Nat → Nat} {vl : Nat → Int32} {sn ck : Nat → Nat → Nat} {wt fl : Nat → List Nat} {x h d : Nat → Nat → Nat} {s l r : Nat → Nat} (hC : ReC mu m ky vr nd dp vl sn ck wt fl x h d s l r) {i q : Nat} (hi : i < 3) (hq : q < 3) {j : Nat} (hj : j < (fl (i * 3 + q)).length) (k : Q (some (.inl (nI ((fl (i * 3 + q)).getD j 0)))) mu) : Om G M_S_sent 0 [(0, .inr (some (ad 0 0))), (1, .inl (nI i)), (2, .inl (nI q)), (3, .inl (nI j))] [] mu Q := by
  refine o_iload_n dS_sent_0 rfl ?_
  refine m_callS M_S_isCenter [.inl (nI i)] [] dS_sent_1 mk_S_isCenter st_S_isCenter ml_S_150 rfl rfl rfl (Nat.le_of_ble_eq_true rfl) rfl ?_
  refine c_isCenter_y hi ?_
  show Om G M_S_sent 4 [(0, .inr (some (ad 0 0))), (1, .inl (nI i)), (2, .inl (nI q)), (3, .inl (nI j))] [.inl (nI 1)] mu Q
  refine n_if_eq 31 dS_sent_4 rfl (by omega) (fun h => absurd h (by decide)) (fun _ => ?_)
  refine o_iload_n dS_sent_7 rfl ?_
  refine m_callS M_S_isCenter [.inl (nI q)] [] dS_sent_8 mk_S_isCenter st_S_isCenter ml_S_150 rfl rfl rfl (Nat.le_of_ble_eq_true rfl) rfl ?_
  refine c_isCenter_y hq ?_
  show Om G M_S_sent 11 [(0, .inr (some (ad 0 0))), (1, .inl (nI i)), (2, .inl (nI q)), (3, .inl (nI j))] [.inl (nI 1)] mu Q
  refine n_if_eq 31 dS_sent_11 rfl (by omega) (fun h => absurd h (by decide)) (fun _ => ?_)
  refine o_aload_n dS_sent_14 rfl ?_
  refine m_getr dS_sent_15 fl_S_29 rfl rfl (by decide) ?_
  refine o_iload_n dS_sent_18 rfl ?_
  refine o_iconst (nI 3) dS_sent_19 rfl ?_
  refine o_imul dS_sent_20 ?_
  refine o_top _ (pk_mul _ _) ?_
  refine o_iload_n dS_sent_21 rfl ?_
  refine o_iadd dS_sent_22 ?_
  refine o_top _ (nI_add _ _) ?_
  refine m_aald (i * 3 + q) dS_sent_23 rfl rfl rfl (by decide) rfl (sh_q4 (by omega)) ?_
  refine o_iload_n dS_sent_24 rfl ?_
  refine m_callV M_R_at [.inl (nI j)] [] dS_sent_25 mk_R_at in_R_at se_R_at rfl (show i * 3 + q < 9 by omega) rfl rfl ml_S_159 rfl rfl rfl (Nat.le_of_ble_eq_true rfl) rfl ?_
  refine c_at_y (by omega) (hC.ffl (by omega)) hj ?_
  show Om G M_S_sent 28 [(0, .inr (some (ad 0 0))), (1, .inl (nI i)), (2, .inl (nI q)), (3, .inl (nI j))] [.inl (nI ((fl (i * 3 + q)).getD j 0))] mu Q
  refine o_goto 33 dS_sent_28 rfl ?_
  refine m_iret dS_sent_33 rfl ?_
  exact k
theorem C_sent_n {G : oG} {mu : oMu} {Q : oPm} {m : Nat} {ky vr nd : Nat → Nat} {dp : Nat → Nat → Nat} {vl : Nat → Int32} {sn ck : Nat → Nat → Nat} {wt fl : Nat → List Nat} {x h d : Nat → Nat → Nat} {s l r : Nat → Nat} (hC : ReC mu m ky vr nd dp vl sn ck wt fl x h d s l r) {i q : Nat} (hi : i < 3) (hq : q < 3) {z : Int32} (hj : ∀ j, j < (fl (i * 3 + q)).length → ¬ z = nI j) (k : Q (some (.inl (-4))) mu) : Om G M_S_sent 0 [(0, .inr (some (ad 0 0))), (1, .inl (nI i)), (2, .inl (nI q)), (3, .inl z)] [] mu Q := by
  refine o_iload_n dS_sent_0 rfl ?_
  refine m_callS M_S_isCenter [.inl (nI i)] [] dS_sent_1 mk_S_isCenter st_S_isCenter ml_S_150 rfl rfl rfl (Nat.le_of_ble_eq_true rfl) rfl ?_
  refine c_isCenter_y hi ?_
  show Om G M_S_sent 4 [(0, .inr (some (ad 0 0))), (1, .inl (nI i)), (2, .inl (nI q)), (3, .inl z)] [.inl (nI 1)] mu Q
  refine n_if_eq 31 dS_sent_4 rfl (by omega) (fun h => absurd h (by decide)) (fun _ => ?_)
  refine o_iload_n dS_sent_7 rfl ?_
  refine m_callS M_S_isCenter [.inl (nI q)] [] dS_sent_8 mk_S_isCenter st_S_isCenter ml_S_150 rfl rfl rfl (Nat.le_of_ble_eq_true rfl) rfl ?_
  refine c_isCenter_y hq ?_
  show Om G M_S_sent 11 [(0, .inr (some (ad 0 0))), (1, .inl (nI i)), (2, .inl (nI q)), (3, .inl z)] [.inl (nI 1)] mu Q
  refine n_if_eq 31 dS_sent_11 rfl (by omega) (fun h => absurd h (by decide)) (fun _ => ?_)
  refine o_aload_n dS_sent_14 rfl ?_
  refine m_getr dS_sent_15 fl_S_29 rfl rfl (by decide) ?_
  refine o_iload_n dS_sent_18 rfl ?_
  refine o_iconst (nI 3) dS_sent_19 rfl ?_
  refine o_imul dS_sent_20 ?_
  refine o_top _ (pk_mul _ _) ?_
  refine o_iload_n dS_sent_21 rfl ?_
  refine o_iadd dS_sent_22 ?_
  refine o_top _ (nI_add _ _) ?_
  refine m_aald (i * 3 + q) dS_sent_23 rfl rfl rfl (by decide) rfl (sh_q4 (by omega)) ?_
  refine o_iload_n dS_sent_24 rfl ?_
  refine m_callV M_R_at [.inl z] [] dS_sent_25 mk_R_at in_R_at se_R_at rfl (show i * 3 + q < 9 by omega) rfl rfl ml_S_159 rfl rfl rfl (Nat.le_of_ble_eq_true rfl) rfl ?_
  refine c_at_n (by omega) (hC.ffl (by omega)) hj ?_
  show Om G M_S_sent 28 [(0, .inr (some (ad 0 0))), (1, .inl (nI i)), (2, .inl (nI q)), (3, .inl z)] [.inl (-4)] mu Q
  refine o_goto 33 dS_sent_28 rfl ?_
  refine m_iret dS_sent_33 rfl ?_
  exact k
theorem C_lacks_b1 {G : oG} {mu : oMu} {Q : oPm} {a b : Int32} {z3 : Int32} (ha : ∀ j, j < 3 → ¬ a = nI j) (k : Q (some (.inl (-4))) mu) : Om G M_S_lacks 0 [(0, .inr (some (ad 0 0))), (1, .inl a), (2, .inl b), (3, .inl z3)] [] mu Q := by
  refine o_iload_n dS_lacks_0 rfl ?_
  refine m_callS M_S_isCenter [.inl a] [] dS_lacks_1 mk_S_isCenter st_S_isCenter ml_S_150 rfl rfl rfl (Nat.le_of_ble_eq_true rfl) rfl ?_
  refine c_isCenter_n ha ?_
  show Om G M_S_lacks 4 [(0, .inr (some (ad 0 0))), (1, .inl a), (2, .inl b), (3, .inl z3)] [.inl (nI 0)] mu Q
  refine n_if_eq 14 dS_lacks_4 rfl (by omega) (fun _ => ?_) (fun h => absurd h (by decide))
  refine o_bipush (-4) dS_lacks_14 rfl ?_
  refine m_iret dS_lacks_16 rfl ?_
  exact k
theorem C_lacks_b2 {G : oG} {mu : oMu} {Q : oPm} {i : Nat} {b : Int32} {z3 : Int32} (hi : i < 3) (hb : ∀ j, j < 2 → ¬ b = nI j) (k : Q (some (.inl (-4))) mu) : Om G M_S_lacks 0 [(0, .inr (some (ad 0 0))), (1, .inl (nI i)), (2, .inl b), (3, .inl z3)] [] mu Q := by
  refine o_iload_n dS_lacks_0 rfl ?_
  refine m_callS M_S_isCenter [.inl (nI i)] [] dS_lacks_1 mk_S_isCenter st_S_isCenter ml_S_150 rfl rfl rfl (Nat.le_of_ble_eq_true rfl) rfl ?_
  refine c_isCenter_y hi ?_
  show Om G M_S_lacks 4 [(0, .inr (some (ad 0 0))), (1, .inl (nI i)), (2, .inl b), (3, .inl z3)] [.inl (nI 1)] mu Q
  refine n_if_eq 14 dS_lacks_4 rfl (by omega) (fun h => absurd h (by decide)) (fun _ => ?_)
  refine o_iload_n dS_lacks_7 rfl ?_
  refine m_callS M_S_isPartition [.inl b] [] dS_lacks_8 mk_S_isPartition st_S_isPartition ml_S_153 rfl rfl rfl (Nat.le_of_ble_eq_true rfl) rfl ?_
  refine c_isPartition_n hb ?_
  show Om G M_S_lacks 11 [(0, .inr (some (ad 0 0))), (1, .inl (nI i)), (2, .inl b), (3, .inl z3)] [.inl (nI 0)] mu Q
  refine n_if_ne 17 dS_lacks_11 rfl (by omega) (fun h => absurd h (by decide)) (fun _ => ?_)
  refine o_bipush (-4) dS_lacks_14 rfl ?_
  refine m_iret dS_lacks_16 rfl ?_
  exact k
theorem C_lacks_n {G : oG} {mu : oMu} {Q : oPm} {m : Nat} {ky vr nd : Nat → Nat} {dp : Nat → Nat → Nat} {vl : Nat → Int32} {sn ck : Nat → Nat → Nat} {wt fl : Nat → List Nat} {x h d : Nat → Nat → Nat} {s l r : Nat → Nat} (hC : ReC mu m ky vr nd dp vl sn ck wt fl x h d s l r) {i q : Nat} (hi : i < 3) (hq : q < 2) {z : Int32} (hj : ∀ j, j < (wt (2 * i + q)).length → ¬ z = nI j) (k : Q (some (.inl (-4))) mu) : Om G M_S_lacks 0 [(0, .inr (some (ad 0 0))), (1, .inl (nI i)), (2, .inl (nI q)), (3, .inl z)] [] mu Q := by
  refine o_iload_n dS_lacks_0 rfl ?_
  refine m_callS M_S_isCenter [.inl (nI i)] [] dS_lacks_1 mk_S_isCenter st_S_isCenter ml_S_150 rfl rfl rfl (Nat.le_of_ble_eq_true rfl) rfl ?_
  refine c_isCenter_y hi ?_
  show Om G M_S_lacks 4 [(0, .inr (some (ad 0 0))), (1, .inl (nI i)), (2, .inl (nI q)), (3, .inl z)] [.inl (nI 1)] mu Q
  refine n_if_eq 14 dS_lacks_4 rfl (by omega) (fun h => absurd h (by decide)) (fun _ => ?_)
  refine o_iload_n dS_lacks_7 rfl ?_
  refine m_callS M_S_isPartition [.inl (nI q)] [] dS_lacks_8 mk_S_isPartition st_S_isPartition ml_S_153 rfl rfl rfl (Nat.le_of_ble_eq_true rfl) rfl ?_
  refine c_isPartition_y hq ?_
  show Om G M_S_lacks 11 [(0, .inr (some (ad 0 0))), (1, .inl (nI i)), (2, .inl (nI q)), (3, .inl z)] [.inl (nI 1)] mu Q
  refine n_if_ne 17 dS_lacks_11 rfl (by omega) (fun _ => ?_) (fun h => absurd h (by decide))
  refine o_aload_n dS_lacks_17 rfl ?_
  refine m_getr dS_lacks_18 fl_S_17 rfl rfl (by decide) ?_
  refine o_iload_n dS_lacks_21 rfl ?_
  refine m_aald i dS_lacks_22 rfl rfl rfl (by decide) rfl (sh_q2 hi) ?_
  refine m_getr dS_lacks_23 fl_S_144 rfl rfl hi ?_
  refine o_iload_n dS_lacks_26 rfl ?_
  refine m_aald q dS_lacks_27 rfl rfl rfl hi rfl (sh_wait (by omega)) ?_
  refine o_iload_n dS_lacks_28 rfl ?_
  refine m_callV M_R_at [.inl z] [] dS_lacks_29 mk_R_at in_R_at se_R_at rfl (show 2 * i + q < 6 by omega) rfl rfl ml_S_159 rfl rfl rfl (Nat.le_of_ble_eq_true rfl) rfl ?_
  refine c_wat_n (by omega) (hC.fwt (by omega)) hj ?_
  show Om G M_S_lacks 32 [(0, .inr (some (ad 0 0))), (1, .inl (nI i)), (2, .inl (nI q)), (3, .inl z)] [.inl (-4)] mu Q
  refine o_istore [(0, _), (1, _), (2, _), (3, _), (4, _)] dS_lacks_32 rfl rfl ?_
  refine o_aload_n dS_lacks_34 rfl ?_
  refine o_iload dS_lacks_35 rfl ?_
  refine m_callV M_S_isWrite [.inl (-4)] [] dS_lacks_37 mk_S_isWrite in_S_isWrite se_S_isWrite rfl (by decide) rfl rfl ml_S_123 rfl rfl rfl (Nat.le_of_ble_eq_true rfl) rfl ?_
  refine c_isWrite_n hC.fw.mm hC.fw.m4 (fun j hj9 e => by have h9 := nI_pos (show j < 2 ^ 31 by have := hC.fw.m4; omega); rw [← e] at h9; exact h9 (by decide)) ?_
  show Om G M_S_lacks 40 [(0, .inr (some (ad 0 0))), (1, .inl (nI i)), (2, .inl (nI q)), (3, .inl z), (4, .inl (-4))] [.inl (nI 0)] mu Q
  refine n_if_eq 53 dS_lacks_40 rfl (by omega) (fun _ => ?_) (fun h => absurd h (by decide))
  refine o_bipush (-4) dS_lacks_53 rfl ?_
  refine m_iret dS_lacks_55 rfl ?_
  exact k
theorem C_lacks_y {G : oG} {mu : oMu} {Q : oPm} {m : Nat} {ky vr nd : Nat → Nat} {dp : Nat → Nat → Nat} {vl : Nat → Int32} {sn ck : Nat → Nat → Nat} {wt fl : Nat → List Nat} {x h d : Nat → Nat → Nat} {s l r : Nat → Nat} (hC : ReC mu m ky vr nd dp vl sn ck wt fl x h d s l r) {i q : Nat} (hi : i < 3) (hq : q < 2) {j w : Nat} (hj : j < (wt (2 * i + q)).length) (hw : (wt (2 * i + q)).getD j 0 = w) (hwm : w < m) (k : Q (some (.inl (nI (misN (nd w) (dp w) (sn i) 6)))) mu) : Om G M_S_lacks 0 [(0, .inr (some (ad 0 0))), (1, .inl (nI i)), (2, .inl (nI q)), (3, .inl (nI j))] [] mu Q := by
  refine o_iload_n dS_lacks_0 rfl ?_
  refine m_callS M_S_isCenter [.inl (nI i)] [] dS_lacks_1 mk_S_isCenter st_S_isCenter ml_S_150 rfl rfl rfl (Nat.le_of_ble_eq_true rfl) rfl ?_
  refine c_isCenter_y hi ?_
  show Om G M_S_lacks 4 [(0, .inr (some (ad 0 0))), (1, .inl (nI i)), (2, .inl (nI q)), (3, .inl (nI j))] [.inl (nI 1)] mu Q
  refine n_if_eq 14 dS_lacks_4 rfl (by omega) (fun h => absurd h (by decide)) (fun _ => ?_)
  refine o_iload_n dS_lacks_7 rfl ?_
  refine m_callS M_S_isPartition [.inl (nI q)] [] dS_lacks_8 mk_S_isPartition st_S_isPartition ml_S_153 rfl rfl rfl (Nat.le_of_ble_eq_true rfl) rfl ?_
  refine c_isPartition_y hq ?_
  show Om G M_S_lacks 11 [(0, .inr (some (ad 0 0))), (1, .inl (nI i)), (2, .inl (nI q)), (3, .inl (nI j))] [.inl (nI 1)] mu Q
  refine n_if_ne 17 dS_lacks_11 rfl (by omega) (fun _ => ?_) (fun h => absurd h (by decide))
  refine o_aload_n dS_lacks_17 rfl ?_
  refine m_getr dS_lacks_18 fl_S_17 rfl rfl (by decide) ?_
  refine o_iload_n dS_lacks_21 rfl ?_
  refine m_aald i dS_lacks_22 rfl rfl rfl (by decide) rfl (sh_q2 hi) ?_
  refine m_getr dS_lacks_23 fl_S_144 rfl rfl hi ?_
  refine o_iload_n dS_lacks_26 rfl ?_
  refine m_aald q dS_lacks_27 rfl rfl rfl hi rfl (sh_wait (by omega)) ?_
  refine o_iload_n dS_lacks_28 rfl ?_
  refine m_callV M_R_at [.inl (nI j)] [] dS_lacks_29 mk_R_at in_R_at se_R_at rfl (show 2 * i + q < 6 by omega) rfl rfl ml_S_159 rfl rfl rfl (Nat.le_of_ble_eq_true rfl) rfl ?_
  refine c_wat_y (by omega) (hC.fwt (by omega)) hj ?_
  show Om G M_S_lacks 32 [(0, .inr (some (ad 0 0))), (1, .inl (nI i)), (2, .inl (nI q)), (3, .inl (nI j))] [.inl (nI ((wt (2 * i + q)).getD j 0))] mu Q
  rw [hw]
  show Om G M_S_lacks 32 [(0, .inr (some (ad 0 0))), (1, .inl (nI i)), (2, .inl (nI q)), (3, .inl (nI j))] [.inl (nI w)] mu Q
  refine o_istore [(0, _), (1, _), (2, _), (3, _), (4, _)] dS_lacks_32 rfl rfl ?_
  refine o_aload_n dS_lacks_34 rfl ?_
  refine o_iload dS_lacks_35 rfl ?_
  refine m_callV M_S_isWrite [.inl (nI w)] [] dS_lacks_37 mk_S_isWrite in_S_isWrite se_S_isWrite rfl (by decide) rfl rfl ml_S_123 rfl rfl rfl (Nat.le_of_ble_eq_true rfl) rfl ?_
  refine c_isWrite_y hC.fw.mm hC.fw.m4 hwm ?_
  show Om G M_S_lacks 40 [(0, .inr (some (ad 0 0))), (1, .inl (nI i)), (2, .inl (nI q)), (3, .inl (nI j)), (4, .inl (nI w))] [.inl (nI 1)] mu Q
  refine n_if_eq 53 dS_lacks_40 rfl (by omega) (fun h => absurd h (by decide)) (fun _ => ?_)
  refine o_aload_n dS_lacks_43 rfl ?_
  refine o_iload_n dS_lacks_44 rfl ?_
  refine o_iload dS_lacks_45 rfl ?_
  refine m_callV M_S_missingNeeds [.inl (nI i), .inl (nI w)] [] dS_lacks_47 mk_S_missingNeeds in_S_missingNeeds se_S_missingNeeds rfl (by decide) rfl rfl ml_S_162 rfl rfl rfl (Nat.le_of_ble_eq_true rfl) rfl ?_
  refine c_missingNeeds hC.fw hi hwm (hC.fsn hi) ?_
  show Om G M_S_lacks 50 [(0, .inr (some (ad 0 0))), (1, .inl (nI i)), (2, .inl (nI q)), (3, .inl (nI j)), (4, .inl (nI w))] [.inl (nI (misN (nd w) (dp w) (sn i) 6))] mu Q
  refine o_goto 55 dS_lacks_50 rfl ?_
  refine m_iret dS_lacks_55 rfl ?_
  exact k
theorem C_rounds_b1 {G : oG} {mu : oMu} {Q : oPm} {a : Int32} (ha : ∀ j, j < 6 → ¬ a = nI j) (k : Q (some (.inl (-1))) mu) : Om G M_S_rounds 0 [(0, .inr (some (ad 0 0))), (1, .inl a)] [] mu Q := by
  refine o_iload_n dS_rounds_0 rfl ?_
  refine m_callS M_S_isClient [.inl a] [] dS_rounds_1 mk_S_isClient st_S_isClient ml_S_39 rfl rfl rfl (Nat.le_of_ble_eq_true rfl) rfl ?_
  refine c_isClient_n ha ?_
  show Om G M_S_rounds 4 [(0, .inr (some (ad 0 0))), (1, .inl a)] [.inl (nI 0)] mu Q
  refine n_if_eq 19 dS_rounds_4 rfl (by omega) (fun _ => ?_) (fun h => absurd h (by decide))
  refine o_iconst (-1) dS_rounds_19 rfl ?_
  refine m_iret dS_rounds_20 rfl ?_
  exact k
theorem C_rounds {G : oG} {mu : oMu} {Q : oPm} {m : Nat} {ky vr nd : Nat → Nat} {dp : Nat → Nat → Nat} {vl : Nat → Int32} {sn ck : Nat → Nat → Nat} {wt fl : Nat → List Nat} {x h d : Nat → Nat → Nat} {s l r : Nat → Nat} (hC : ReC mu m ky vr nd dp vl sn ck wt fl x h d s l r) {i : Nat} (hi : i < 6) (k : Q (some (.inl (nI (r i)))) mu) : Om G M_S_rounds 0 [(0, .inr (some (ad 0 0))), (1, .inl (nI i))] [] mu Q := by
  refine o_iload_n dS_rounds_0 rfl ?_
  refine m_callS M_S_isClient [.inl (nI i)] [] dS_rounds_1 mk_S_isClient st_S_isClient ml_S_39 rfl rfl rfl (Nat.le_of_ble_eq_true rfl) rfl ?_
  refine c_isClient_y hi ?_
  show Om G M_S_rounds 4 [(0, .inr (some (ad 0 0))), (1, .inl (nI i))] [.inl (nI 1)] mu Q
  refine n_if_eq 19 dS_rounds_4 rfl (by omega) (fun h => absurd h (by decide)) (fun _ => ?_)
  refine o_aload_n dS_rounds_7 rfl ?_
  refine m_getr dS_rounds_8 fl_S_23 rfl rfl (by decide) ?_
  refine o_iload_n dS_rounds_11 rfl ?_
  refine m_aald i dS_rounds_12 rfl rfl rfl (by decide) rfl (sh_q3 hi) ?_
  refine m_geti dS_rounds_13 fl_S_101 rfl rfl hi ?_
  refine o_top (nI (r i)) (hC.fro hi) ?_
  refine o_goto 20 dS_rounds_16 rfl ?_
  refine m_iret dS_rounds_20 rfl ?_
  exact k
theorem C_nearest_b1 {G : oG} {mu : oMu} {Q : oPm} {a : Int32} (ha : ∀ j, j < 6 → ¬ a = nI j) (k : Q (some (.inl (-1))) mu) : Om G M_S_nearest 0 [(0, .inr (some (ad 0 0))), (1, .inl a)] [] mu Q := by
  refine o_iload_n dS_nearest_0 rfl ?_
  refine m_callS M_S_isClient [.inl a] [] dS_nearest_1 mk_S_isClient st_S_isClient ml_S_39 rfl rfl rfl (Nat.le_of_ble_eq_true rfl) rfl ?_
  refine c_isClient_n ha ?_
  show Om G M_S_nearest 4 [(0, .inr (some (ad 0 0))), (1, .inl a)] [.inl (nI 0)] mu Q
  refine n_if_eq 23 dS_nearest_4 rfl (by omega) (fun _ => ?_) (fun h => absurd h (by decide))
  refine o_iconst (-1) dS_nearest_23 rfl ?_
  refine m_iret dS_nearest_24 rfl ?_
  exact k
theorem C_nearest {G : oG} {mu : oMu} {Q : oPm} {m : Nat} {ky vr nd : Nat → Nat} {dp : Nat → Nat → Nat} {vl : Nat → Int32} {sn ck : Nat → Nat → Nat} {wt fl : Nat → List Nat} {x h d : Nat → Nat → Nat} {s l r : Nat → Nat} (hC : ReC mu m ky vr nd dp vl sn ck wt fl x h d s l r) {i : Nat} (hi : i < 6) (k : Q (some (.inl (nI (nearB (x i) dp 6)))) mu) : Om G M_S_nearest 0 [(0, .inr (some (ad 0 0))), (1, .inl (nI i))] [] mu Q := by
  refine o_iload_n dS_nearest_0 rfl ?_
  refine m_callS M_S_isClient [.inl (nI i)] [] dS_nearest_1 mk_S_isClient st_S_isClient ml_S_39 rfl rfl rfl (Nat.le_of_ble_eq_true rfl) rfl ?_
  refine c_isClient_y hi ?_
  show Om G M_S_nearest 4 [(0, .inr (some (ad 0 0))), (1, .inl (nI i))] [.inl (nI 1)] mu Q
  refine n_if_eq 23 dS_nearest_4 rfl (by omega) (fun h => absurd h (by decide)) (fun _ => ?_)
  refine o_aload_n dS_nearest_7 rfl ?_
  refine o_aload_n dS_nearest_8 rfl ?_
  refine m_getr dS_nearest_9 fl_S_23 rfl rfl (by decide) ?_
  refine o_iload_n dS_nearest_12 rfl ?_
  refine m_aald i dS_nearest_13 rfl rfl rfl (by decide) rfl (sh_q3 hi) ?_
  refine m_getr dS_nearest_14 fl_S_65 rfl rfl hi ?_
  refine m_callV M_S_nearestKeys [.inr (some (ad 15 i))] [] dS_nearest_17 mk_S_nearestKeys in_S_nearestKeys se_S_nearestKeys rfl (by decide) rfl rfl ml_S_69 rfl rfl rfl (Nat.le_of_ble_eq_true rfl) rfl ?_
  refine c_nearestKeys hC.fw hi (hC.fx hi) ?_
  show Om G M_S_nearest 20 [(0, .inr (some (ad 0 0))), (1, .inl (nI i))] [.inl (nI (nearB (x i) dp 6))] mu Q
  refine o_goto 24 dS_nearest_20 rfl ?_
  refine m_iret dS_nearest_24 rfl ?_
  exact k
theorem C_dependency_b1 {G : oG} {mu : oMu} {Q : oPm} {m : Nat} {ky vr nd : Nat → Nat} {dp : Nat → Nat → Nat} {vl : Nat → Int32} {sn ck : Nat → Nat → Nat} {wt fl : Nat → List Nat} {x h d : Nat → Nat → Nat} {s l r : Nat → Nat} (hC : ReC mu m ky vr nd dp vl sn ck wt fl x h d s l r) {a b : Int32} (ha : ∀ j, j < m → ¬ a = nI j) (k : Q (some (.inl (-1))) mu) : Om G M_S_dependency 0 [(0, .inr (some (ad 0 0))), (1, .inl a), (2, .inl b)] [] mu Q := by
  refine o_aload_n dS_dependency_0 rfl ?_
  refine o_iload_n dS_dependency_1 rfl ?_
  refine m_callV M_S_isWrite [.inl a] [] dS_dependency_2 mk_S_isWrite in_S_isWrite se_S_isWrite rfl (by decide) rfl rfl ml_S_123 rfl rfl rfl (Nat.le_of_ble_eq_true rfl) rfl ?_
  refine c_isWrite_n hC.fw.mm hC.fw.m4 ha ?_
  show Om G M_S_dependency 5 [(0, .inr (some (ad 0 0))), (1, .inl a), (2, .inl b)] [.inl (nI 0)] mu Q
  refine n_if_eq 29 dS_dependency_5 rfl (by omega) (fun _ => ?_) (fun h => absurd h (by decide))
  refine o_iconst (-1) dS_dependency_29 rfl ?_
  refine m_iret dS_dependency_30 rfl ?_
  exact k
theorem C_dependency_b2 {G : oG} {mu : oMu} {Q : oPm} {m : Nat} {ky vr nd : Nat → Nat} {dp : Nat → Nat → Nat} {vl : Nat → Int32} {sn ck : Nat → Nat → Nat} {wt fl : Nat → List Nat} {x h d : Nat → Nat → Nat} {s l r : Nat → Nat} (hC : ReC mu m ky vr nd dp vl sn ck wt fl x h d s l r) {w : Nat} {b : Int32} (hw : w < m) (hb : ∀ j, j < 6 → ¬ b = nI j) (k : Q (some (.inl (-1))) mu) : Om G M_S_dependency 0 [(0, .inr (some (ad 0 0))), (1, .inl (nI w)), (2, .inl b)] [] mu Q := by
  refine o_aload_n dS_dependency_0 rfl ?_
  refine o_iload_n dS_dependency_1 rfl ?_
  refine m_callV M_S_isWrite [.inl (nI w)] [] dS_dependency_2 mk_S_isWrite in_S_isWrite se_S_isWrite rfl (by decide) rfl rfl ml_S_123 rfl rfl rfl (Nat.le_of_ble_eq_true rfl) rfl ?_
  refine c_isWrite_y hC.fw.mm hC.fw.m4 hw ?_
  show Om G M_S_dependency 5 [(0, .inr (some (ad 0 0))), (1, .inl (nI w)), (2, .inl b)] [.inl (nI 1)] mu Q
  refine n_if_eq 29 dS_dependency_5 rfl (by omega) (fun h => absurd h (by decide)) (fun _ => ?_)
  refine o_iload_n dS_dependency_8 rfl ?_
  refine m_callS M_S_isKey [.inl b] [] dS_dependency_9 mk_S_isKey st_S_isKey ml_S_43 rfl rfl rfl (Nat.le_of_ble_eq_true rfl) rfl ?_
  refine c_isKey_n hb ?_
  show Om G M_S_dependency 12 [(0, .inr (some (ad 0 0))), (1, .inl (nI w)), (2, .inl b)] [.inl (nI 0)] mu Q
  refine n_if_eq 29 dS_dependency_12 rfl (by omega) (fun _ => ?_) (fun h => absurd h (by decide))
  refine o_iconst (-1) dS_dependency_29 rfl ?_
  refine m_iret dS_dependency_30 rfl ?_
  exact k
theorem C_dependency {G : oG} {mu : oMu} {Q : oPm} {m : Nat} {ky vr nd : Nat → Nat} {dp : Nat → Nat → Nat} {vl : Nat → Int32} {sn ck : Nat → Nat → Nat} {wt fl : Nat → List Nat} {x h d : Nat → Nat → Nat} {s l r : Nat → Nat} (hC : ReC mu m ky vr nd dp vl sn ck wt fl x h d s l r) {w q : Nat} (hw : w < m) (hq : q < 6) (k : Q (some (.inl (dec (dp w q)))) mu) : Om G M_S_dependency 0 [(0, .inr (some (ad 0 0))), (1, .inl (nI w)), (2, .inl (nI q))] [] mu Q := by
  have hm4 := hC.fw.m4
  refine o_aload_n dS_dependency_0 rfl ?_
  refine o_iload_n dS_dependency_1 rfl ?_
  refine m_callV M_S_isWrite [.inl (nI w)] [] dS_dependency_2 mk_S_isWrite in_S_isWrite se_S_isWrite rfl (by decide) rfl rfl ml_S_123 rfl rfl rfl (Nat.le_of_ble_eq_true rfl) rfl ?_
  refine c_isWrite_y hC.fw.mm hC.fw.m4 hw ?_
  show Om G M_S_dependency 5 [(0, .inr (some (ad 0 0))), (1, .inl (nI w)), (2, .inl (nI q))] [.inl (nI 1)] mu Q
  refine n_if_eq 29 dS_dependency_5 rfl (by omega) (fun h => absurd h (by decide)) (fun _ => ?_)
  refine o_iload_n dS_dependency_8 rfl ?_
  refine m_callS M_S_isKey [.inl (nI q)] [] dS_dependency_9 mk_S_isKey st_S_isKey ml_S_43 rfl rfl rfl (Nat.le_of_ble_eq_true rfl) rfl ?_
  refine c_isKey_y hq ?_
  show Om G M_S_dependency 12 [(0, .inr (some (ad 0 0))), (1, .inl (nI w)), (2, .inl (nI q))] [.inl (nI 1)] mu Q
  refine n_if_eq 29 dS_dependency_12 rfl (by omega) (fun h => absurd h (by decide)) (fun _ => ?_)
  refine o_aload_n dS_dependency_15 rfl ?_
  refine m_getr dS_dependency_16 fl_S_11 rfl rfl (by decide) ?_
  refine o_iload_n dS_dependency_19 rfl ?_
  refine m_aald w dS_dependency_20 rfl rfl rfl (by decide) rfl (sh_q1 (by omega)) ?_
  refine m_getr dS_dependency_21 fl_S_178 rfl rfl (show w < 40 by omega) ?_
  refine o_iload_n dS_dependency_24 rfl ?_
  refine m_iald q dS_dependency_25 rfl rfl rfl (show w < 40 by omega) rfl hq ?_
  refine o_top (dec (dp w q)) (hC.fw.dep hw hq) ?_
  refine o_goto 30 dS_dependency_26 rfl ?_
  refine m_iret dS_dependency_30 rfl ?_
  exact k
theorem C_visible_b1 {G : oG} {mu : oMu} {Q : oPm} {m : Nat} {a b : Int32} (hm : mu 0 0 4 = nI m) (hm4 : m ≤ 40) (ha : ∀ j, j < 3 → ¬ a = nI j) (k : Q (some (.inl (nI 0))) mu) : Om G M_S_visible 0 [(0, .inr (some (ad 0 0))), (1, .inl a), (2, .inl b)] [] mu Q :=
  c_visible hm hm4 (fun _ => k) (fun c hc e => absurd e (ha c hc)) (fun c hc e => absurd e (ha c hc)) (fun c hc e => absurd e (ha c hc))
theorem C_visible_b2 {G : oG} {mu : oMu} {Q : oPm} {m i : Nat} {b : Int32} (hm : mu 0 0 4 = nI m) (hm4 : m ≤ 40) (hb : ∀ j, j < m → ¬ b = nI j) (k : Q (some (.inl (nI 0))) mu) : Om G M_S_visible 0 [(0, .inr (some (ad 0 0))), (1, .inl (nI i)), (2, .inl b)] [] mu Q :=
  c_visible hm hm4 (fun _ => k) (fun _ _ _ _ => k) (fun c hc e w hw e' => absurd e' (hb w hw)) (fun c hc e w hw e' => absurd e' (hb w hw))
theorem C_visible {G : oG} {mu : oMu} {Q : oPm} {m i w : Nat} {sn : Nat → Nat} (hm : mu 0 0 4 = nI m) (hm4 : m ≤ 40) (hi : i < 3) (hw : w < m) (hs : sOk mu i sn) (k : Q (some (.inl (nI (sn w)))) mu) : Om G M_S_visible 0 [(0, .inr (some (ad 0 0))), (1, .inl (nI i)), (2, .inl (nI w))] [] mu Q := by
  have h1 := hs w (by omega)
  refine c_visible hm hm4 (fun h => absurd rfl (h i hi)) (fun c hc e h => absurd rfl (h w hw)) (fun c hc e u hu e' hz => ?_) (fun c hc e u hu e' hz => ?_)
  · obtain rfl : i = c := (nI_eq (by omega) (by omega)).mp e
    obtain rfl : w = u := (nI_eq (by omega) (by omega)).mp e'
    rw [(hs.z (by omega)).mp hz] at k
    exact k
  · obtain rfl : i = c := (nI_eq (by omega) (by omega)).mp e
    obtain rfl : w = u := (nI_eq (by omega) (by omega)).mp e'
    have h2 : ¬ sn w = 0 := fun z => hz ((hs.z (by omega)).mpr z)
    rw [show sn w = 1 by omega] at k
    exact k
