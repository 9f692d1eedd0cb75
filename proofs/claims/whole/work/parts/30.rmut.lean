/-! The reference's get, begin, read. -/
def cseg (i : Nat) (mu mu' : oMu) : Prop := (∀ t z, ¬ (32 ≤ t ∧ t ≤ 38 ∧ z = 0) → mu' t z = mu t z) ∧ (∀ t j, 33 ≤ t → t ≤ 36 → ¬ j = i → mu' t 0 j = mu t 0 j) ∧ ∀ t j, t = 32 ∨ t = 37 ∨ t = 38 → ¬ (6 * i ≤ j ∧ j < 6 * i + 6) → mu' t 0 j = mu t 0 j
theorem cseg.tr {i : Nat} {a b c : oMu} (h1 : cseg i a b) (h2 : cseg i b c) : cseg i a c := ⟨fun t z h => (h2.1 t z h).trans (h1.1 t z h), fun t j p q r => (h2.2.1 t j p q r).trans (h1.2.1 t j p q r), fun t j p q => (h2.2.2 t j p q).trans (h1.2.2 t j p q)⟩
theorem cseg_fs {i : Nat} {mu mu' : oMu} (h : mfs 32 (6 * i) 6 mu mu') : cseg i mu mu' := ⟨fun t z hz => h.1 t z (fun y => hz (by omega)), fun t j p q _ => by rw [h.1 t 0 (by omega)], fun t j p q => by
  rcases p with rfl | rfl | rfl
  · exact h.2 j q
  · rw [h.1 37 0 (by omega)]
  · rw [h.1 38 0 (by omega)]⟩
theorem cseg_1 {i t : Nat} {v : Int32} {mu mu' : oMu} (h : mu' = up2 mu t 0 (upd (mu t 0) i v)) (h1 : 33 ≤ t) (h2 : t ≤ 36) : cseg i mu mu' := by
  subst h
  refine ⟨fun t' z hz => if_neg (fun y => hz (by omega)), fun t' j p q hj => ?_, fun t' j p q => ?_⟩
  · by_cases e : t' = t
    · subst e; rw [up2_s]; simp [upd, hj]
    · rw [up2_t e]
  · rw [up2_t (by omega)]
theorem cseg_6 {i t k : Nat} {v : Int32} {mu mu' : oMu} (h : mu' = up2 mu t 0 (upd (mu t 0) (6 * i + k) v)) (h1 : t = 32 ∨ t = 37 ∨ t = 38) (h2 : k < 6) : cseg i mu mu' := by
  subst h
  refine ⟨fun t' z hz => if_neg (fun y => hz (by omega)), fun t' j p q hj => ?_, fun t' j p q => ?_⟩
  · rw [up2_t (by omega)]
  · by_cases e : t' = t
    · subst e; rw [up2_s]
      have hj : ¬ j = 6 * i + k := by omega
      simp [upd, hj]
    · rw [up2_t e]
theorem cseg.lt {i : Nat} {mu mu' : oMu} (h : cseg i mu mu') : mlt mu mu' := fun t z ht => h.1 t z (by omega)
theorem cseg.v {i : Nat} {mu mu' : oMu} {m : Nat} {ky vr nd : Nat → Nat} {dp : Nat → Nat → Nat} (h : cseg i mu mu') (hV : vOk mu m ky vr nd dp) : vOk mu' m ky vr nd dp := hV.mv (h.1 20 0 (by omega)) (h.1 21 0 (by omega)) (h.1 23 0 (by omega)) (h.1 24 0 (by omega)) (h.1 25 0 (by omega))
theorem mlt.tr {a b c : oMu} (h1 : mlt a b) (h2 : mlt b c) : mlt a c := fun t i h => (h2 t i h).trans (h1 t i h)
theorem yOk.ne {mu mu' : oMu} {t i m : Nat} {x : Nat → Nat} (h : yOk mu t i m x) (e : mu' t 0 = mu t 0) : yOk mu' t i m x := fun k hk => by rw [e]; exact h k hk
theorem ReR.cli {mu mu' : oMu} {m : Nat} {ky vr nd : Nat → Nat} {dp : Nat → Nat → Nat} {vl : Nat → Int32} {sn ck : Nat → Nat → Nat} {wt fl : Nat → List Nat} {x h d : Nat → Nat → Nat} {s l r ph : Nat → Nat} {i : Nat} {X Hh D : Nat → Nat} {S' L' R' P' : Nat} (hC : ReR mu m ky vr nd dp vl sn ck wt fl x h d s l r ph) (hi : i < 6) (hf : cseg i mu mu') (h3 : mu' 33 0 i = nI P') (h4 : mu' 34 0 i = nI S') (h6 : mu' 36 0 i = nI L') (h5 : mu' 35 0 i = nI R') (hX : yOk mu' 32 i m X) (hH : yOk mu' 37 i m Hh) (hD : yOk mu' 38 i m D) : ReR mu' m ky vr nd dp vl sn ck wt fl (va_up x i X) (va_up h i Hh) (va_up d i D) (va_up s i S') (va_up l i L') (va_up r i R') (va_up ph i P') := by
  have f : ∀ t, ¬ (32 ≤ t ∧ t ≤ 38) → mu' t 0 = mu t 0 := fun t ht => hf.1 t 0 (by omega)
  refine ⟨hf.v hC.fw, fun w hw => by rw [f 22 (by decide)]; exact hC.fv hw, fun c hc => ⟨fun w hw => by rw [f 26 (by decide)]; exact hC.fsn hc w hw, fun p hp => by rw [f 27 (by decide)]; exact hC.fck hc hp⟩, fun q hq => ?_, fun q hq => ?_, fun j hj => ?_⟩
  · have h9 := hC.fwt hq
    unfold lineOk at h9 ⊢
    rw [f 28 (by decide), f 29 (by decide)]
    exact h9
  · have h9 := hC.ffl hq
    unfold lineOk at h9 ⊢
    rw [f 30 (by decide), f 31 (by decide)]
    exact h9
  · by_cases e : j = i
    · subst e
      simp only [va_s]
      exact ⟨⟨h3, h4, h6, h5⟩, hX, hH, hD⟩
    · simp only [va_n e]
      rw [hf.2.1 33 j (by decide) (by decide) e, hf.2.1 34 j (by decide) (by decide) e, hf.2.1 35 j (by decide) (by decide) e, hf.2.1 36 j (by decide) (by decide) e]
      refine ⟨(hC.2.2.2.2.2 j hj).1, fun k hk => ?_, fun k hk => ?_, fun k hk => ?_⟩
      · rw [hf.2.2 32 _ (by simp) (by omega)]; exact hC.fx hj k hk
      · rw [hf.2.2 37 _ (by simp) (by omega)]; exact hC.fh hj k hk
      · rw [hf.2.2 38 _ (by simp) (by omega)]; exact hC.fd hj k hk
theorem r_open_y {G : oG} {mu : oMu} {Q : oPm} {i p : Nat} (hi : i < 6) (hp : mu 33 0 i = nI p) (hp4 : p < 4) (h : p = 1 ∨ p = 2) (k : Q (some (.inl (nI 1))) mu) : Om G M_N_open 0 [(0, .inr (some (ad 20 0))), (1, .inl (nI i))] [] mu Q := r_open hi hp hp4 (fun _ => k) (fun z => absurd h z)
theorem r_open_n {G : oG} {mu : oMu} {Q : oPm} {i p : Nat} (hi : i < 6) (hp : mu 33 0 i = nI p) (hp4 : p < 4) (h : ¬ (p = 1 ∨ p = 2)) (k : Q (some (.inl (nI 0))) mu) : Om G M_N_open 0 [(0, .inr (some (ad 20 0))), (1, .inl (nI i))] [] mu Q := r_open hi hp hp4 (fun z => absurd z h) (fun _ => k)
theorem R_get_b1 {G : oG} {mu : oMu} {Q : oPm} {a b : Int32} (ha : ∀ j, j < 6 → ¬ a = nI j) (k : Q (some (.inl (-1))) mu) : Om G M_N_get 0 [(0, .inr (some (ad 20 0))), (1, .inl a), (2, .inl b)] [] mu Q := by
  refine o_iload_n dN_get_0 rfl ?_
  refine o_bipush (nI 6) dN_get_1 rfl ?_
  refine m_callS M_N_out [.inl a, .inl (nI 6)] [] dN_get_3 mk_N_out st_N_out ml_N_73 rfl rfl rfl (Nat.le_of_ble_eq_true rfl) rfl ?_
  refine r_out_n (by decide) ha ?_
  show Om G M_N_get 6 [(0, .inr (some (ad 20 0))), (1, .inl a), (2, .inl b)] [.inl (nI 1)] mu Q
  refine n_if_ne 18 dN_get_6 rfl (by omega) (fun _ => ?_) (fun h => absurd h (by decide))
  refine o_iconst (-1) dN_get_18 rfl ?_
  refine m_iret dN_get_19 rfl ?_
  exact k
theorem R_get_b2 {G : oG} {mu : oMu} {Q : oPm} {i : Nat} {b : Int32} (hi : i < 6) (hb : ∀ j, j < 6 → ¬ b = nI j) (k : Q (some (.inl (-1))) mu) : Om G M_N_get 0 [(0, .inr (some (ad 20 0))), (1, .inl (nI i)), (2, .inl b)] [] mu Q := by
  refine o_iload_n dN_get_0 rfl ?_
  refine o_bipush (nI 6) dN_get_1 rfl ?_
  refine m_callS M_N_out [.inl (nI i), .inl (nI 6)] [] dN_get_3 mk_N_out st_N_out ml_N_73 rfl rfl rfl (Nat.le_of_ble_eq_true rfl) rfl ?_
  refine r_out_y (by decide) hi ?_
  show Om G M_N_get 6 [(0, .inr (some (ad 20 0))), (1, .inl (nI i)), (2, .inl b)] [.inl (nI 0)] mu Q
  refine n_if_ne 18 dN_get_6 rfl (by omega) (fun h => absurd h (by decide)) (fun _ => ?_)
  refine o_iload_n dN_get_9 rfl ?_
  refine o_bipush (nI 6) dN_get_10 rfl ?_
  refine m_callS M_N_out [.inl b, .inl (nI 6)] [] dN_get_12 mk_N_out st_N_out ml_N_73 rfl rfl rfl (Nat.le_of_ble_eq_true rfl) rfl ?_
  refine r_out_n (by decide) hb ?_
  show Om G M_N_get 15 [(0, .inr (some (ad 20 0))), (1, .inl (nI i)), (2, .inl b)] [.inl (nI 1)] mu Q
  refine n_if_eq 20 dN_get_15 rfl (by omega) (fun h => absurd h (by decide)) (fun _ => ?_)
  refine o_iconst (-1) dN_get_18 rfl ?_
  refine m_iret dN_get_19 rfl ?_
  exact k
theorem R_get_busy {G : oG} {mu : oMu} {Q : oPm} {m : Nat} {ky vr nd : Nat → Nat} {dp : Nat → Nat → Nat} {vl : Nat → Int32} {sn ck : Nat → Nat → Nat} {wt fl : Nat → List Nat} {x h d : Nat → Nat → Nat} {s l r ph : Nat → Nat} (hC : ReR mu m ky vr nd dp vl sn ck wt fl x h d s l r ph) {i q : Nat} (hi : i < 6) (hp4 : ph i < 4) (hq : q < 6) (hop : ph i = 1 ∨ ph i = 2) (k : Q (some (.inl (-2))) mu) : Om G M_N_get 0 [(0, .inr (some (ad 20 0))), (1, .inl (nI i)), (2, .inl (nI q))] [] mu Q := by
  refine o_iload_n dN_get_0 rfl ?_
  refine o_bipush (nI 6) dN_get_1 rfl ?_
  refine m_callS M_N_out [.inl (nI i), .inl (nI 6)] [] dN_get_3 mk_N_out st_N_out ml_N_73 rfl rfl rfl (Nat.le_of_ble_eq_true rfl) rfl ?_
  refine r_out_y (by decide) hi ?_
  show Om G M_N_get 6 [(0, .inr (some (ad 20 0))), (1, .inl (nI i)), (2, .inl (nI q))] [.inl (nI 0)] mu Q
  refine n_if_ne 18 dN_get_6 rfl (by omega) (fun h => absurd h (by decide)) (fun _ => ?_)
  refine o_iload_n dN_get_9 rfl ?_
  refine o_bipush (nI 6) dN_get_10 rfl ?_
  refine m_callS M_N_out [.inl (nI q), .inl (nI 6)] [] dN_get_12 mk_N_out st_N_out ml_N_73 rfl rfl rfl (Nat.le_of_ble_eq_true rfl) rfl ?_
  refine r_out_y (by decide) hq ?_
  show Om G M_N_get 15 [(0, .inr (some (ad 20 0))), (1, .inl (nI i)), (2, .inl (nI q))] [.inl (nI 0)] mu Q
  refine n_if_eq 20 dN_get_15 rfl (by omega) (fun _ => ?_) (fun h => absurd h (by decide))
  refine o_aload_n dN_get_20 rfl ?_
  refine o_iload_n dN_get_21 rfl ?_
  refine m_callV M_N_open [.inl (nI i)] [] dN_get_22 mk_N_open in_N_open se_N_open rfl (by decide) rfl rfl ml_N_77 rfl rfl rfl (Nat.le_of_ble_eq_true rfl) rfl ?_
  refine r_open_y hi (hC.fph hi) hp4 hop ?_
  show Om G M_N_get 25 [(0, .inr (some (ad 20 0))), (1, .inl (nI i)), (2, .inl (nI q))] [.inl (nI 1)] mu Q
  refine n_if_eq 31 dN_get_25 rfl (by omega) (fun h => absurd h (by decide)) (fun _ => ?_)
  refine o_bipush (-2) dN_get_28 rfl ?_
  refine m_iret dN_get_30 rfl ?_
  exact k
theorem R_get_none {G : oG} {mu : oMu} {Q : oPm} {m : Nat} {ky vr nd : Nat → Nat} {dp : Nat → Nat → Nat} {vl : Nat → Int32} {sn ck : Nat → Nat → Nat} {wt fl : Nat → List Nat} {x h d : Nat → Nat → Nat} {s l r ph : Nat → Nat} (hC : ReR mu m ky vr nd dp vl sn ck wt fl x h d s l r ph) {i q : Nat} (hi : i < 6) (hp4 : ph i < 4) (hq : q < 6) (hop : ¬ (ph i = 1 ∨ ph i = 2)) (hz : latN (sn (i % 3)) ky vr q m = 0) (k : Q (some (.inl (-4))) mu) : Om G M_N_get 0 [(0, .inr (some (ad 20 0))), (1, .inl (nI i)), (2, .inl (nI q))] [] mu Q := by
  refine o_iload_n dN_get_0 rfl ?_
  refine o_bipush (nI 6) dN_get_1 rfl ?_
  refine m_callS M_N_out [.inl (nI i), .inl (nI 6)] [] dN_get_3 mk_N_out st_N_out ml_N_73 rfl rfl rfl (Nat.le_of_ble_eq_true rfl) rfl ?_
  refine r_out_y (by decide) hi ?_
  show Om G M_N_get 6 [(0, .inr (some (ad 20 0))), (1, .inl (nI i)), (2, .inl (nI q))] [.inl (nI 0)] mu Q
  refine n_if_ne 18 dN_get_6 rfl (by omega) (fun h => absurd h (by decide)) (fun _ => ?_)
  refine o_iload_n dN_get_9 rfl ?_
  refine o_bipush (nI 6) dN_get_10 rfl ?_
  refine m_callS M_N_out [.inl (nI q), .inl (nI 6)] [] dN_get_12 mk_N_out st_N_out ml_N_73 rfl rfl rfl (Nat.le_of_ble_eq_true rfl) rfl ?_
  refine r_out_y (by decide) hq ?_
  show Om G M_N_get 15 [(0, .inr (some (ad 20 0))), (1, .inl (nI i)), (2, .inl (nI q))] [.inl (nI 0)] mu Q
  refine n_if_eq 20 dN_get_15 rfl (by omega) (fun _ => ?_) (fun h => absurd h (by decide))
  refine o_aload_n dN_get_20 rfl ?_
  refine o_iload_n dN_get_21 rfl ?_
  refine m_callV M_N_open [.inl (nI i)] [] dN_get_22 mk_N_open in_N_open se_N_open rfl (by decide) rfl rfl ml_N_77 rfl rfl rfl (Nat.le_of_ble_eq_true rfl) rfl ?_
  refine r_open_n hi (hC.fph hi) hp4 hop ?_
  show Om G M_N_get 25 [(0, .inr (some (ad 20 0))), (1, .inl (nI i)), (2, .inl (nI q))] [.inl (nI 0)] mu Q
  refine n_if_eq 31 dN_get_25 rfl (by omega) (fun _ => ?_) (fun h => absurd h (by decide))
  refine o_aload_n dN_get_31 rfl ?_
  refine o_iload_n dN_get_32 rfl ?_
  refine o_iconst (nI 3) dN_get_33 rfl ?_
  refine o_irem dN_get_34 (by decide) ?_
  refine o_top _ (pk_rem (by omega) (by decide) (by decide)) ?_
  refine o_iload_n dN_get_35 rfl ?_
  refine m_callV M_N_latestOf [.inl (nI (i % 3)), .inl (nI q)] [] dN_get_36 mk_N_latestOf in_N_latestOf se_N_latestOf rfl (by decide) rfl rfl ml_N_93 rfl rfl rfl (Nat.le_of_ble_eq_true rfl) rfl ?_
  refine r_latestOf hC.fw (show i % 3 < 3 by omega) hq (hC.fsn (by omega)) ?_
  show Om G M_N_get 39 [(0, .inr (some (ad 20 0))), (1, .inl (nI i)), (2, .inl (nI q))] [.inl (nI (latN (sn (i % 3)) ky vr q m))] mu Q
  refine o_istore_n [(0, _), (1, _), (2, _), (3, _)] dN_get_39 rfl rfl ?_
  refine o_iload_n dN_get_40 rfl ?_
  have hle9 := latN_le (sn := sn (i % 3)) (ky := ky) (vr := vr) (q := q) m
  have hm4 := hC.fw.m4
  refine n_if_ne 47 dN_get_41 rfl (by omega) (fun h => absurd hz h) (fun hb41 => ?_)
  refine o_bipush (-4) dN_get_44 rfl ?_
  refine m_iret dN_get_46 rfl ?_
  exact k
theorem R_get {G : oG} {mu : oMu} {Q : oPm} {m : Nat} {ky vr nd : Nat → Nat} {dp : Nat → Nat → Nat} {vl : Nat → Int32} {sn ck : Nat → Nat → Nat} {wt fl : Nat → List Nat} {x h d : Nat → Nat → Nat} {s l r ph : Nat → Nat} (hC : ReR mu m ky vr nd dp vl sn ck wt fl x h d s l r ph) {i q w : Nat} (hi : i < 6) (hp4 : ph i < 4) (hq : q < 6) (hop : ¬ (ph i = 1 ∨ ph i = 2)) (hw : w < m) (hz : latN (sn (i % 3)) ky vr q m = w + 1) (k : ∀ mu' : oMu, ReR mu' m ky vr nd dp vl sn ck wt fl (va_up x i (sX (x i) (dp w) vr (ky w) w)) h d s l r ph → mlt mu mu' → Q (some (.inl (nI w))) mu') : Om G M_N_get 0 [(0, .inr (some (ad 20 0))), (1, .inl (nI i)), (2, .inl (nI q))] [] mu Q := by
  refine o_iload_n dN_get_0 rfl ?_
  refine o_bipush (nI 6) dN_get_1 rfl ?_
  refine m_callS M_N_out [.inl (nI i), .inl (nI 6)] [] dN_get_3 mk_N_out st_N_out ml_N_73 rfl rfl rfl (Nat.le_of_ble_eq_true rfl) rfl ?_
  refine r_out_y (by decide) hi ?_
  show Om G M_N_get 6 [(0, .inr (some (ad 20 0))), (1, .inl (nI i)), (2, .inl (nI q))] [.inl (nI 0)] mu Q
  refine n_if_ne 18 dN_get_6 rfl (by omega) (fun h => absurd h (by decide)) (fun _ => ?_)
  refine o_iload_n dN_get_9 rfl ?_
  refine o_bipush (nI 6) dN_get_10 rfl ?_
  refine m_callS M_N_out [.inl (nI q), .inl (nI 6)] [] dN_get_12 mk_N_out st_N_out ml_N_73 rfl rfl rfl (Nat.le_of_ble_eq_true rfl) rfl ?_
  refine r_out_y (by decide) hq ?_
  show Om G M_N_get 15 [(0, .inr (some (ad 20 0))), (1, .inl (nI i)), (2, .inl (nI q))] [.inl (nI 0)] mu Q
  refine n_if_eq 20 dN_get_15 rfl (by omega) (fun _ => ?_) (fun h => absurd h (by decide))
  refine o_aload_n dN_get_20 rfl ?_
  refine o_iload_n dN_get_21 rfl ?_
  refine m_callV M_N_open [.inl (nI i)] [] dN_get_22 mk_N_open in_N_open se_N_open rfl (by decide) rfl rfl ml_N_77 rfl rfl rfl (Nat.le_of_ble_eq_true rfl) rfl ?_
  refine r_open_n hi (hC.fph hi) hp4 hop ?_
  show Om G M_N_get 25 [(0, .inr (some (ad 20 0))), (1, .inl (nI i)), (2, .inl (nI q))] [.inl (nI 0)] mu Q
  refine n_if_eq 31 dN_get_25 rfl (by omega) (fun _ => ?_) (fun h => absurd h (by decide))
  refine o_aload_n dN_get_31 rfl ?_
  refine o_iload_n dN_get_32 rfl ?_
  refine o_iconst (nI 3) dN_get_33 rfl ?_
  refine o_irem dN_get_34 (by decide) ?_
  refine o_top _ (pk_rem (by omega) (by decide) (by decide)) ?_
  refine o_iload_n dN_get_35 rfl ?_
  refine m_callV M_N_latestOf [.inl (nI (i % 3)), .inl (nI q)] [] dN_get_36 mk_N_latestOf in_N_latestOf se_N_latestOf rfl (by decide) rfl rfl ml_N_93 rfl rfl rfl (Nat.le_of_ble_eq_true rfl) rfl ?_
  refine r_latestOf hC.fw (show i % 3 < 3 by omega) hq (hC.fsn (by omega)) ?_
  show Om G M_N_get 39 [(0, .inr (some (ad 20 0))), (1, .inl (nI i)), (2, .inl (nI q))] [.inl (nI (latN (sn (i % 3)) ky vr q m))] mu Q
  rw [hz]
  show Om G M_N_get 39 [(0, .inr (some (ad 20 0))), (1, .inl (nI i)), (2, .inl (nI q))] [.inl (nI (w + 1))] mu Q
  have hm4 := hC.fw.m4
  refine o_istore_n [(0, _), (1, _), (2, _), (3, _)] dN_get_39 rfl rfl ?_
  refine o_iload_n dN_get_40 rfl ?_
  refine n_if_ne 47 dN_get_41 rfl (by omega) (fun hb41 => ?_) (fun h => absurd h (by omega))
  refine o_aload_n dN_get_47 rfl ?_
  refine o_iload_n dN_get_48 rfl ?_
  refine o_iload_n dN_get_49 rfl ?_
  refine o_iconst (nI 1) dN_get_50 rfl ?_
  refine o_isub dN_get_51 ?_
  refine o_top (nI w) (pk_sub (show 1 ≤ w + 1 by omega)) ?_
  refine m_callV M_N_see [.inl (nI i), .inl (nI w)] [] dN_get_52 mk_N_see in_N_see se_N_see rfl (by decide) rfl rfl ml_N_89 rfl rfl rfl (Nat.le_of_ble_eq_true rfl) rfl ?_
  refine r_see hC.fw hi hw (hC.fx hi) (fun mu1 hx1 hf1 => ?_)
  show Om G M_N_get 55 [(0, .inr (some (ad 20 0))), (1, .inl (nI i)), (2, .inl (nI q)), (3, .inl (nI (w + 1)))] [] mu1 Q
  refine o_iload_n dN_get_55 rfl ?_
  refine o_iconst (nI 1) dN_get_56 rfl ?_
  refine o_isub dN_get_57 ?_
  refine o_top (nI w) (pk_sub (show 1 ≤ w + 1 by omega)) ?_
  refine m_iret dN_get_58 rfl ?_
  have hs1 := cseg_fs hf1
  refine k mu1 ?_ hs1.lt
  have hz9 := hC.cli (i := i) (X := sX (x i) (dp w) vr (ky w) w) (Hh := h i) (D := d i) (S' := s i) (L' := l i) (R' := r i) (P' := ph i) hi hs1 (by rw [hf1.1 33 0 (by omega)]; exact hC.fph hi) (by rw [hf1.1 34 0 (by omega)]; exact hC.fse hi) (by rw [hf1.1 36 0 (by omega)]; exact hC.fle hi) (by rw [hf1.1 35 0 (by omega)]; exact hC.fro hi) hx1 ((hC.fh hi).ne (hf1.1 37 0 (by omega))) ((hC.fd hi).ne (hf1.1 38 0 (by omega)))
  rw [va_self (f := h) rfl, va_self (f := d) rfl, va_self (f := s) rfl, va_self (f := l) rfl, va_self (f := r) rfl, va_self (f := ph) rfl] at hz9
  exact hz9
theorem R_begin_b1 {G : oG} {mu : oMu} {Q : oPm} {a b : Int32} (ha : ∀ j, j < 6 → ¬ a = nI j) (k : Q (some (.inl (nI 0))) mu) : Om G M_N_begin 0 [(0, .inr (some (ad 20 0))), (1, .inl a), (2, .inl b)] [] mu Q := by
  refine o_iload_n dN_begin_0 rfl ?_
  refine o_bipush (nI 6) dN_begin_1 rfl ?_
  refine m_callS M_N_out [.inl a, .inl (nI 6)] [] dN_begin_3 mk_N_out st_N_out ml_N_73 rfl rfl rfl (Nat.le_of_ble_eq_true rfl) rfl ?_
  refine r_out_n (by decide) ha ?_
  show Om G M_N_begin 6 [(0, .inr (some (ad 20 0))), (1, .inl a), (2, .inl b)] [.inl (nI 1)] mu Q
  refine n_if_ne 20 dN_begin_6 rfl (by omega) (fun _ => ?_) (fun h => absurd h (by decide))
  refine o_iconst (nI 0) dN_begin_20 rfl ?_
  refine m_zret dN_begin_21 rfl rfl ?_
  exact k
theorem R_begin_b2 {G : oG} {mu : oMu} {Q : oPm} {i : Nat} {b : Int32} (hi : i < 6) (hb : ∀ j, 1 ≤ j → j < 64 → ¬ b = nI j) (k : Q (some (.inl (nI 0))) mu) : Om G M_N_begin 0 [(0, .inr (some (ad 20 0))), (1, .inl (nI i)), (2, .inl b)] [] mu Q := by
  refine o_iload_n dN_begin_0 rfl ?_
  refine o_bipush (nI 6) dN_begin_1 rfl ?_
  refine m_callS M_N_out [.inl (nI i), .inl (nI 6)] [] dN_begin_3 mk_N_out st_N_out ml_N_73 rfl rfl rfl (Nat.le_of_ble_eq_true rfl) rfl ?_
  refine r_out_y (by decide) hi ?_
  show Om G M_N_begin 6 [(0, .inr (some (ad 20 0))), (1, .inl (nI i)), (2, .inl b)] [.inl (nI 0)] mu Q
  refine n_if_ne 20 dN_begin_6 rfl (by omega) (fun h => absurd h (by decide)) (fun _ => ?_)
  refine o_iload_n dN_begin_9 rfl ?_
  refine o_iconst (nI 1) dN_begin_10 rfl ?_
  refine o_icmp_lt 20 dN_begin_11 rfl (fun hb11 => ?_) (fun hb11 => ?_)
  · skip
    refine o_iconst (nI 0) dN_begin_20 rfl ?_
    refine m_zret dN_begin_21 rfl rfl ?_
    exact k
  · skip
    refine o_iload_n dN_begin_14 rfl ?_
    refine o_bipush (nI 63) dN_begin_15 rfl ?_
    refine o_icmp_le 22 dN_begin_17 rfl (fun h => by obtain ⟨j, h1, h2, e⟩ := set_in hb11 (fun z => Int32.lt_irrefl (Int32.lt_of_lt_of_le z h)); exact absurd e (hb j h1 h2)) (fun hb17 => ?_)
    refine o_iconst (nI 0) dN_begin_20 rfl ?_
    refine m_zret dN_begin_21 rfl rfl ?_
    exact k
theorem R_begin_busy {G : oG} {mu : oMu} {Q : oPm} {m : Nat} {ky vr nd : Nat → Nat} {dp : Nat → Nat → Nat} {vl : Nat → Int32} {sn ck : Nat → Nat → Nat} {wt fl : Nat → List Nat} {x h d : Nat → Nat → Nat} {s l r ph : Nat → Nat} (hC : ReR mu m ky vr nd dp vl sn ck wt fl x h d s l r ph) {i q : Nat} (hi : i < 6) (hp4 : ph i < 4) (hq : 1 ≤ q) (hq2 : q < 64) (hop : ph i = 1 ∨ ph i = 2) (k : Q (some (.inl (nI 0))) mu) : Om G M_N_begin 0 [(0, .inr (some (ad 20 0))), (1, .inl (nI i)), (2, .inl (nI q))] [] mu Q := by
  refine o_iload_n dN_begin_0 rfl ?_
  refine o_bipush (nI 6) dN_begin_1 rfl ?_
  refine m_callS M_N_out [.inl (nI i), .inl (nI 6)] [] dN_begin_3 mk_N_out st_N_out ml_N_73 rfl rfl rfl (Nat.le_of_ble_eq_true rfl) rfl ?_
  refine r_out_y (by decide) hi ?_
  show Om G M_N_begin 6 [(0, .inr (some (ad 20 0))), (1, .inl (nI i)), (2, .inl (nI q))] [.inl (nI 0)] mu Q
  refine n_if_ne 20 dN_begin_6 rfl (by omega) (fun h => absurd h (by decide)) (fun _ => ?_)
  refine o_iload_n dN_begin_9 rfl ?_
  refine o_iconst (nI 1) dN_begin_10 rfl ?_
  refine n_icmp_lt 20 dN_begin_11 rfl (by omega) (by omega) (fun h => absurd h (by omega)) (fun hb11 => ?_)
  refine o_iload_n dN_begin_14 rfl ?_
  refine o_bipush (nI 63) dN_begin_15 rfl ?_
  refine n_icmp_le 22 dN_begin_17 rfl (by omega) (by omega) (fun hb17 => ?_) (fun h => absurd h (by omega))
  refine o_aload_n dN_begin_22 rfl ?_
  refine o_iload_n dN_begin_23 rfl ?_
  refine m_callV M_N_open [.inl (nI i)] [] dN_begin_24 mk_N_open in_N_open se_N_open rfl (by decide) rfl rfl ml_N_77 rfl rfl rfl (Nat.le_of_ble_eq_true rfl) rfl ?_
  refine r_open_y hi (hC.fph hi) hp4 hop ?_
  show Om G M_N_begin 27 [(0, .inr (some (ad 20 0))), (1, .inl (nI i)), (2, .inl (nI q))] [.inl (nI 1)] mu Q
  refine n_if_eq 32 dN_begin_27 rfl (by omega) (fun h => absurd h (by decide)) (fun _ => ?_)
  refine o_iconst (nI 0) dN_begin_30 rfl ?_
  refine m_zret dN_begin_31 rfl rfl ?_
  exact k
theorem l_rbegin {G : oG} {mu : oMu} {Q : oPm} {i q : Nat} (hi : i < 6) (j : Nat) (hj : j ≤ 6) (hh : ∀ z, z < j → mu 37 0 (6 * i + z) = nI 0) (k : ∀ mu' : oMu, (∀ z, z < 6 → mu' 37 0 (6 * i + z) = nI 0) → (∀ t z, ¬ (t = 37 ∧ z = 0) → mu' t z = mu t z) → cseg i mu mu' → Q (some (.inl (nI 1))) mu') : Om G M_N_begin 62 [(0, .inr (some (ad 20 0))), (1, .inl (nI i)), (2, .inl (nI q)), (3, .inl (nI j))] [] mu Q := by
  refine o_iload_n dN_begin_62 rfl ?_
  refine o_bipush (nI 6) dN_begin_63 rfl ?_
  refine n_icmp_ge 86 dN_begin_65 rfl (by omega) (by omega) (fun hb65 => ?_) (fun hb65 => ?_)
  · skip
    have hj6 : j = 6 := by omega
    refine o_iconst (nI 1) dN_begin_86 rfl ?_
    refine m_zret dN_begin_87 rfl rfl ?_
    subst hj6
    exact k mu hh (fun _ _ _ => rfl) ⟨fun _ _ _ => rfl, fun _ _ _ _ _ => rfl, fun _ _ _ _ => rfl⟩
  · skip
    refine o_aload_n dN_begin_68 rfl ?_
    refine m_getr dN_begin_69 fl_N_59 rfl rfl (by decide) ?_
    refine o_bipush (nI 6) dN_begin_72 rfl ?_
    refine o_iload_n dN_begin_74 rfl ?_
    refine o_imul dN_begin_75 ?_
    refine o_top _ (pk_mul _ _) ?_
    refine o_iload_n dN_begin_76 rfl ?_
    refine o_iadd dN_begin_77 ?_
    refine o_top _ (nI_add _ _) ?_
    refine o_iconst (nI 0) dN_begin_78 rfl ?_
    refine m_iast (6 * i + j) dN_begin_79 rfl rfl rfl (by decide) rfl (by omega) (fun mu1 hmu1 => ?_)
    refine o_iinc (nI (j + 1)) [(0, _), (1, _), (2, _), (3, _)] dN_begin_80 rfl (nInc _) rfl rfl ?_
    refine o_goto 62 dN_begin_83 rfl ?_
    have hs1 := cseg_6 (i := i) hmu1 (by simp) hb65
    have hn1 : ∀ t z, ¬ (t = 37 ∧ z = 0) → mu1 t z = mu t z := fun t z hz => by rw [hmu1]; exact if_neg hz
    exact l_rbegin hi (j + 1) (by omega) (fun z hz => by
      rw [hmu1, up2_s]
      by_cases e : z = j
      · simp [upd, e]
      · have e2 : ¬ 6 * i + z = 6 * i + j := by omega
        simp only [upd, e2, if_false]
        exact hh z (by omega)) (fun mu' a b c => k mu' a (fun t z hz => (b t z hz).trans (hn1 t z hz)) (hs1.tr c))
termination_by 6 - j
theorem R_begin {G : oG} {mu : oMu} {Q : oPm} {m : Nat} {ky vr nd : Nat → Nat} {dp : Nat → Nat → Nat} {vl : Nat → Int32} {sn ck : Nat → Nat → Nat} {wt fl : Nat → List Nat} {x h d : Nat → Nat → Nat} {s l r ph : Nat → Nat} (hC : ReR mu m ky vr nd dp vl sn ck wt fl x h d s l r ph) {i q : Nat} (hi : i < 6) (hp4 : ph i < 4) (hq : 1 ≤ q) (hq2 : q < 64) (hop : ¬ (ph i = 1 ∨ ph i = 2)) (k : ∀ mu' : oMu, ReR mu' m ky vr nd dp vl sn ck wt fl x (va_up h i (fun _ => 0)) d (va_up s i q) (va_up l i q) (va_up r i 1) (va_up ph i 1) → mlt mu mu' → Q (some (.inl (nI 1))) mu') : Om G M_N_begin 0 [(0, .inr (some (ad 20 0))), (1, .inl (nI i)), (2, .inl (nI q))] [] mu Q := by
  refine o_iload_n dN_begin_0 rfl ?_
  refine o_bipush (nI 6) dN_begin_1 rfl ?_
  refine m_callS M_N_out [.inl (nI i), .inl (nI 6)] [] dN_begin_3 mk_N_out st_N_out ml_N_73 rfl rfl rfl (Nat.le_of_ble_eq_true rfl) rfl ?_
  refine r_out_y (by decide) hi ?_
  show Om G M_N_begin 6 [(0, .inr (some (ad 20 0))), (1, .inl (nI i)), (2, .inl (nI q))] [.inl (nI 0)] mu Q
  refine n_if_ne 20 dN_begin_6 rfl (by omega) (fun h => absurd h (by decide)) (fun _ => ?_)
  refine o_iload_n dN_begin_9 rfl ?_
  refine o_iconst (nI 1) dN_begin_10 rfl ?_
  refine n_icmp_lt 20 dN_begin_11 rfl (by omega) (by omega) (fun h => absurd h (by omega)) (fun hb11 => ?_)
  refine o_iload_n dN_begin_14 rfl ?_
  refine o_bipush (nI 63) dN_begin_15 rfl ?_
  refine n_icmp_le 22 dN_begin_17 rfl (by omega) (by omega) (fun hb17 => ?_) (fun h => absurd h (by omega))
  refine o_aload_n dN_begin_22 rfl ?_
  refine o_iload_n dN_begin_23 rfl ?_
  refine m_callV M_N_open [.inl (nI i)] [] dN_begin_24 mk_N_open in_N_open se_N_open rfl (by decide) rfl rfl ml_N_77 rfl rfl rfl (Nat.le_of_ble_eq_true rfl) rfl ?_
  refine r_open_n hi (hC.fph hi) hp4 hop ?_
  show Om G M_N_begin 27 [(0, .inr (some (ad 20 0))), (1, .inl (nI i)), (2, .inl (nI q))] [.inl (nI 0)] mu Q
  refine n_if_eq 32 dN_begin_27 rfl (by omega) (fun _ => ?_) (fun h => absurd h (by decide))
  refine o_aload_n dN_begin_32 rfl ?_
  refine m_getr dN_begin_33 fl_N_47 rfl rfl (by decide) ?_
  refine o_iload_n dN_begin_36 rfl ?_
  refine o_iconst (nI 1) dN_begin_37 rfl ?_
  refine m_iast i dN_begin_38 rfl rfl rfl (by decide) rfl hi (fun mu1 hmu1 => ?_)
  refine o_aload_n dN_begin_39 rfl ?_
  refine m_getr dN_begin_40 fl_N_50 rfl rfl (by decide) ?_
  refine o_iload_n dN_begin_43 rfl ?_
  refine o_iload_n dN_begin_44 rfl ?_
  refine m_iast i dN_begin_45 rfl rfl rfl (by decide) rfl hi (fun mu2 hmu2 => ?_)
  refine o_aload_n dN_begin_46 rfl ?_
  refine m_getr dN_begin_47 fl_N_53 rfl rfl (by decide) ?_
  refine o_iload_n dN_begin_50 rfl ?_
  refine o_iconst (nI 1) dN_begin_51 rfl ?_
  refine m_iast i dN_begin_52 rfl rfl rfl (by decide) rfl hi (fun mu3 hmu3 => ?_)
  refine o_aload_n dN_begin_53 rfl ?_
  refine m_getr dN_begin_54 fl_N_56 rfl rfl (by decide) ?_
  refine o_iload_n dN_begin_57 rfl ?_
  refine o_iload_n dN_begin_58 rfl ?_
  refine m_iast i dN_begin_59 rfl rfl rfl (by decide) rfl hi (fun mu4 hmu4 => ?_)
  refine o_iconst (nI 0) dN_begin_60 rfl ?_
  refine o_istore_n [(0, _), (1, _), (2, _), (3, _)] dN_begin_61 rfl rfl ?_
  have hs4 := (((cseg_1 (i := i) hmu1 (by decide) (by decide)).tr (cseg_1 hmu2 (by decide) (by decide))).tr (cseg_1 hmu3 (by decide) (by decide))).tr (cseg_1 hmu4 (by decide) (by decide))
  refine l_rbegin hi 0 (by omega) (fun z hz => absurd hz (by omega)) (fun mu5 h37 hn5 hs5 => ?_)
  have hs := hs4.tr hs5
  refine k mu5 ?_ hs.lt
  have hz9 := hC.cli (i := i) (X := x i) (Hh := fun _ => 0) (D := d i) (S' := q) (L' := q) (R' := 1) (P' := 1) hi hs (by rw [hn5 33 0 (by decide), hmu4, up2_t (by decide), hmu3, up2_t (by decide), hmu2, up2_t (by decide), hmu1, up2_s]; simp [upd]) (by rw [hn5 34 0 (by decide), hmu4, up2_t (by decide), hmu3, up2_t (by decide), hmu2, up2_s]; simp [upd]) (by rw [hn5 36 0 (by decide), hmu4, up2_s]; simp [upd]) (by rw [hn5 35 0 (by decide), hmu4, up2_t (by decide), hmu3, up2_s]; simp [upd]) ((hC.fx hi).ne (by rw [hn5 32 0 (by decide), hmu4, up2_t (by decide), hmu3, up2_t (by decide), hmu2, up2_t (by decide), hmu1, up2_t (by decide)])) (fun z hz => ⟨h37 z hz, Nat.zero_le _⟩) ((hC.fd hi).ne (by rw [hn5 38 0 (by decide), hmu4, up2_t (by decide), hmu3, up2_t (by decide), hmu2, up2_t (by decide), hmu1, up2_t (by decide)]))
  rw [va_self (f := x) rfl, va_self (f := d) rfl] at hz9
  exact hz9
