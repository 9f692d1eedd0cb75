/-! Class and reference side by side: the calls that change something. -/
theorem Inv.cli {m : Nat} {ky vr nd : Nat → Nat} {dp : Nat → Nat → Nat} {sn ck : Nat → Nat → Nat} {wt fl : Nat → List Nat} {h : Nat → Nat → Nat} {s l r ph : Nat → Nat} {i S' L' R' P' : Nat} {Hh : Nat → Nat} (hI : Inv m ky vr nd dp sn ck wt fl h s l r ph) (h1 : S' < 64 ∧ L' < 64 ∧ R' < 3 ∧ P' < 4) (h2 : ∀ k, k < 6 → L'.testBit k = true → S'.testBit k = true) (h3 : ∀ k, k < 6 → ¬ Hh k = 0 → S'.testBit k = true) (h4 : L' = 0 ↔ ¬ (P' = 1 ∨ P' = 2)) (h5 : P' = 1 → R' = 1) (h6 : P' = 2 → R' = 2) : Inv m ky vr nd dp sn ck wt fl (va_up h i Hh) (va_up s i S') (va_up l i L') (va_up r i R') (va_up ph i P') := by
  refine ⟨hI.1, hI.2.1, hI.2.2.1, hI.2.2.2.1, hI.2.2.2.2.1, hI.2.2.2.2.2.1, hI.2.2.2.2.2.2.1, fun j hj => ?_⟩
  by_cases e : j = i
  · subst e
    simp only [va_s]
    exact ⟨h1, h2, h3, h4, h5, h6⟩
  · simp only [va_n e]
    exact hI.2.2.2.2.2.2.2 j hj
set_option maxRecDepth 100000 in
theorem b_orb : ∀ s, s < 64 → ∀ j, j < 6 → ∀ k, k < 6 → (s ||| 1 <<< j).testBit k = (s.testBit k || j == k) := by decide +kernel
theorem nearB_bit {x : Nat → Nat} {dp : Nat → Nat → Nat} {k : Nat} (hk : k < 6) : ∀ n, n ≤ 6 → (nearB x dp n).testBit k = true → ¬ x k = 0
  | 0, _, h => by simp [nearB] at h
  | n + 1, hn, h => by
    have ih := nearB_bit (x := x) (dp := dp) hk n (by omega)
    rw [nearB] at h
    by_cases hc : x n ≠ 0 ∧ covB x dp n 6 = false
    · rw [if_pos hc, b_orb _ (nearB_lt n (by omega)) n (by omega) k hk, Bool.or_eq_true] at h
      rcases h with h | h
      · exact ih h
      · have e : n = k := by simpa using h
        rw [← e]
        exact hc.1
    · rw [if_neg hc] at h
      exact ih h
theorem secN_bit {h vr : Nat → Nat} {dp : Nat → Nat → Nat} {s k : Nat} (hk : k < 6) : ∀ n, n ≤ 6 → (secN h dp vr s n).testBit k = true → s.testBit k = true
  | 0, _, h1 => by simp [secN] at h1
  | n + 1, hn, h1 => by
    have ih := secN_bit (h := h) (vr := vr) (dp := dp) (s := s) hk n (by omega)
    rw [secN] at h1
    by_cases hc : s.testBit n = true ∧ ¬ dueN h dp vr n 6 = h n
    · rw [if_pos hc, b_orb _ (secN_lt n (by omega)) n (by omega) k hk, Bool.or_eq_true] at h1
      rcases h1 with h1 | h1
      · exact ih h1
      · have e : n = k := by simpa using h1
        rw [← e]
        exact hc.1
    · rw [if_neg hc] at h1
      exact ih h1
theorem clr_bit {l j k : Nat} (h : (clr l j).testBit k = true) : l.testBit k = true := by
  unfold clr at h
  rw [Nat.testBit_and, Bool.and_eq_true] at h
  exact h.1
theorem tmx_le {t0 m : Nat} {x vr : Nat → Nat} (h0 : t0 ≤ m) (hx : ∀ k, k < 6 → x k ≤ m) (hv : ∀ w, w < m → vr w / 4 ≤ m) : ∀ k, k ≤ 6 → t0 ≤ tmx t0 x vr k ∧ tmx t0 x vr k ≤ m
  | 0, _ => ⟨Nat.le_refl _, h0⟩
  | k + 1, hk => by
    have ih := tmx_le h0 hx hv k (by omega)
    rw [tmx]
    split
    · exact ih
    · split
      · have h1 := hx k (by omega)
        have h2 := hv (x k - 1) (by omega)
        omega
      · exact ih
theorem P_get {G : oG} {mu : oMu} {Q : oPm} (hRel : Rel mu) (a b : Int32) (k : ∀ (z : Int32) (mu1 : oMu), (∀ Q' : oPm, (∀ mu2 : oMu, Rel mu2 → Q' (some (.inl z)) mu2) → Om G M_N_get 0 [(0, .inr (some (ad 20 0))), (1, .inl a), (2, .inl b)] [] mu1 Q') → Q (some (.inl z)) mu1) : Om G M_S_get 0 [(0, .inr (some (ad 0 0))), (1, .inl a), (2, .inl b)] [] mu Q := by
  obtain ⟨m, ky, vr, nd, dp, vl, sn, ck, wt, fl, x, h, d, s, l, r, ph, hC, hN, hI⟩ := id hRel
  have hm4 := hC.fw.m4
  rcases rng a 6 (by decide) with ⟨i, hi, rfl⟩ | ha
  · rcases rng b 6 (by decide) with ⟨q, hq, rfl⟩ | hb
    · have hT := hI.2.2.2.2.2.2.2 i hi
      by_cases hl0 : l i = 0
      · have hop := hT.2.2.2.1.mp hl0
        refine C_get hC hi hT.1.2.1 hq hl0 (fun e => k _ mu fun Q' h9 => R_get_none hN hi hT.1.2.2.2 hq hop e (h9 mu hRel)) (fun w hw e mu1 hC1 hg => k _ mu1 fun Q' h9 => R_get (hN.gt hg) hi hT.1.2.2.2 hq hop hw e (fun mu2 hN2 hl2 => h9 mu2 ⟨_, _, _, _, _, _, _, _, _, _, _, _, _, _, _, _, _, hC1.lt hl2, hN2, hI⟩))
      · have hop : ph i = 1 ∨ ph i = 2 := Classical.byContradiction fun z => hl0 (hT.2.2.2.1.mpr z)
        exact C_get_busy hC hi hT.1.2.1 hq hl0 (k _ mu fun Q' h9 => R_get_busy hN hi hT.1.2.2.2 hq hop (h9 mu hRel))
    · exact C_get_b2 hi hb (k _ mu fun Q' h9 => R_get_b2 hi hb (h9 mu hRel))
  · exact C_get_b1 ha (k _ mu fun Q' h9 => R_get_b1 ha (h9 mu hRel))
theorem P_begin {G : oG} {mu : oMu} {Q : oPm} (hRel : Rel mu) (a b : Int32) (k : ∀ (z : Int32) (mu1 : oMu), (∀ Q' : oPm, (∀ mu2 : oMu, Rel mu2 → Q' (some (.inl z)) mu2) → Om G M_N_begin 0 [(0, .inr (some (ad 20 0))), (1, .inl a), (2, .inl b)] [] mu1 Q') → Q (some (.inl z)) mu1) : Om G M_S_begin 0 [(0, .inr (some (ad 0 0))), (1, .inl a), (2, .inl b)] [] mu Q := by
  obtain ⟨m, ky, vr, nd, dp, vl, sn, ck, wt, fl, x, h, d, s, l, r, ph, hC, hN, hI⟩ := id hRel
  have hm4 := hC.fw.m4
  rcases rng a 6 (by decide) with ⟨i, hi, rfl⟩ | ha
  · by_cases hb : ∃ q, 1 ≤ q ∧ q < 64 ∧ b = nI q
    · obtain ⟨q, hq, hq2, rfl⟩ := hb
      have hT := hI.2.2.2.2.2.2.2 i hi
      by_cases hl0 : l i = 0
      · have hop := hT.2.2.2.1.mp hl0
        refine C_begin hC hi hT.1.2.1 hq hq2 hl0 (fun mu1 hC1 hg => k _ mu1 fun Q' h9 => R_begin (hN.gt hg) hi hT.1.2.2.2 hq hq2 hop (fun mu2 hN2 hl2 => h9 mu2 ⟨_, _, _, _, _, _, _, _, _, _, _, _, _, _, _, _, _, hC1.lt hl2, hN2, ?_⟩))
        exact hI.cli ⟨hq2, hq2, by decide, by decide⟩ (fun _ _ z => z) (fun _ _ z => absurd rfl z) ⟨fun z => absurd z (by omega), fun z => absurd (Or.inl rfl) z⟩ (fun _ => rfl) (fun z => absurd z (by decide))
      · have hop : ph i = 1 ∨ ph i = 2 := Classical.byContradiction fun z => hl0 (hT.2.2.2.1.mpr z)
        exact C_begin_busy hC hi hT.1.2.1 hq hq2 hl0 (k _ mu fun Q' h9 => R_begin_busy hN hi hT.1.2.2.2 hq hq2 hop (h9 mu hRel))
    · have hb2 : ∀ j, 1 ≤ j → j < 64 → ¬ b = nI j := fun j h1 h2 e => hb ⟨j, h1, h2, e⟩
      exact C_begin_b2 hi hb2 (k _ mu fun Q' h9 => R_begin_b2 hi hb2 (h9 mu hRel))
  · exact C_begin_b1 ha (k _ mu fun Q' h9 => R_begin_b1 ha (h9 mu hRel))
theorem P_read {G : oG} {mu : oMu} {Q : oPm} (hRel : Rel mu) (a : Int32) (k : ∀ (z : Int32) (mu1 : oMu), (∀ Q' : oPm, (∀ mu2 : oMu, Rel mu2 → Q' (some (.inl z)) mu2) → Om G M_N_read 0 [(0, .inr (some (ad 20 0))), (1, .inl a)] [] mu1 Q') → Q (some (.inl z)) mu1) : Om G M_S_read 0 [(0, .inr (some (ad 0 0))), (1, .inl a)] [] mu Q := by
  obtain ⟨m, ky, vr, nd, dp, vl, sn, ck, wt, fl, x, h, d, s, l, r, ph, hC, hN, hI⟩ := id hRel
  have hm4 := hC.fw.m4
  rcases rng a 6 (by decide) with ⟨i, hi, rfl⟩ | ha
  · have hT := hI.2.2.2.2.2.2.2 i hi
    by_cases hl0 : l i = 0
    · have hop := hT.2.2.2.1.mp hl0
      exact C_read_closed hC hi hT.1.2.1 hl0 (k _ mu fun Q' h9 => R_read_closed hN hi hT.1.2.2.2 hop (h9 mu hRel))
    · have hop : ph i = 1 ∨ ph i = 2 := Classical.byContradiction fun z => hl0 (hT.2.2.2.1.mpr z)
      have hr : r i = 1 ↔ ph i = 1 := ⟨fun z => by
        rcases hop with y | y
        · exact y
        · have := hT.2.2.2.2.2 y
          omega, hT.2.2.2.2.1⟩
      have hin : ∀ j, lowB (l i) j → ∀ z, z < 6 → ¬ rdH m ky vr sn h d r i j z = 0 → (s i).testBit z = true := fun j hlow z hz hne => by
        by_cases e : z = j
        · rw [e]
          exact hT.2.1 j hlow.1 hlow.2.1
        · unfold rdH at hne
          rw [va_n e] at hne
          exact hT.2.2.1 z hz hne
      refine C_read hC hi hT.1.2.1 hl0 hT.1.2.2.1 hT.1.1 (fun j hlow hnz mu1 hC1 hg => ?_) (fun j hlow hz hr1 hS mu1 hC1 hg => ?_) (fun j hlow hz hr1 hS mu1 hC1 hg => ?_) (fun j hlow hz hr1 mu1 hC1 hg => ?_)
      · refine k _ mu1 fun Q' h9 => R_read (hN.gt hg) hi hT.1.2.2.2 hop hlow hT.1.2.1 hT.1.1 hr (hin j hlow) (fun _ mu2 hN2 hl2 => h9 mu2 ⟨_, _, _, _, _, _, _, _, _, _, _, _, _, _, _, _, _, hC1.lt hl2, hN2, ?_⟩) (fun z => absurd z hnz) (fun z => absurd z hnz) (fun z => absurd z hnz)
        have h8 := hI.cli (i := i) (S' := s i) (L' := clr (l i) j) (R' := r i) (P' := ph i) (Hh := rdH m ky vr sn h d r i j) ⟨hT.1.1, clr_lt hT.1.2.1 hlow.1, hT.1.2.2.1, hT.1.2.2.2⟩ (fun z hz y => hT.2.1 z hz (clr_bit y)) (hin j hlow) ⟨fun z => absurd z hnz, fun z => absurd hop z⟩ hT.2.2.2.2.1 hT.2.2.2.2.2
        rw [va_self (f := s) rfl, va_self (f := r) rfl, va_self (f := ph) rfl] at h8
        exact h8
      · refine k _ mu1 fun Q' h9 => R_read (hN.gt hg) hi hT.1.2.2.2 hop hlow hT.1.2.1 hT.1.1 hr (hin j hlow) (fun z => absurd hz z) (fun _ _ _ mu2 hN2 hl2 => h9 mu2 ⟨_, _, _, _, _, _, _, _, _, _, _, _, _, _, _, _, _, hC1.lt hl2, hN2, ?_⟩) (fun _ _ z => absurd hS z) (fun _ z => absurd hr1 z)
        have h8 := hI.cli (i := i) (S' := s i) (L' := 0) (R' := r i) (P' := 3) (Hh := rdH m ky vr sn h d r i j) ⟨hT.1.1, by decide, hT.1.2.2.1, by decide⟩ (fun z hz y => by simp at y) (hin j hlow) ⟨fun _ => by decide, fun _ => rfl⟩ (fun z => absurd z (by decide)) (fun z => absurd z (by decide))
        rw [va_self (f := s) rfl, va_self (f := r) rfl] at h8
        exact h8
      · refine k _ mu1 fun Q' h9 => R_read (hN.gt hg) hi hT.1.2.2.2 hop hlow hT.1.2.1 hT.1.1 hr (hin j hlow) (fun z => absurd hz z) (fun _ _ z => absurd z hS) (fun _ _ _ mu2 hN2 hl2 => h9 mu2 ⟨_, _, _, _, _, _, _, _, _, _, _, _, _, _, _, _, _, hC1.lt hl2, hN2, ?_⟩) (fun _ z => absurd hr1 z)
        have h8 := hI.cli (i := i) (S' := s i) (L' := secN (rdH m ky vr sn h d r i j) dp vr (s i) 6) (R' := 2) (P' := 2) (Hh := rdH m ky vr sn h d r i j) ⟨hT.1.1, secN_lt 6 (Nat.le_refl _), by decide, by decide⟩ (fun z hz y => secN_bit hz 6 (Nat.le_refl _) y) (hin j hlow) ⟨fun z => absurd z hS, fun z => absurd (Or.inr rfl) z⟩ (fun z => absurd z (by decide)) (fun _ => rfl)
        rw [va_self (f := s) rfl] at h8
        exact h8
      · refine k _ mu1 fun Q' h9 => R_read (hN.gt hg) hi hT.1.2.2.2 hop hlow hT.1.2.1 hT.1.1 hr (hin j hlow) (fun z => absurd hz z) (fun _ z => absurd z hr1) (fun _ z => absurd z hr1) (fun _ _ mu2 hN2 hl2 => h9 mu2 ⟨_, _, _, _, _, _, _, _, _, _, _, _, _, _, _, _, _, hC1.lt hl2, hN2, ?_⟩)
        have h8 := hI.cli (i := i) (S' := s i) (L' := 0) (R' := r i) (P' := 3) (Hh := rdH m ky vr sn h d r i j) ⟨hT.1.1, by decide, hT.1.2.2.1, by decide⟩ (fun z hz y => by simp at y) (hin j hlow) ⟨fun _ => by decide, fun _ => rfl⟩ (fun z => absurd z (by decide)) (fun z => absurd z (by decide))
        rw [va_self (f := s) rfl, va_self (f := r) rfl] at h8
        exact h8
  · exact C_read_b1 ha (k _ mu fun Q' h9 => R_read_b1 ha (h9 mu hRel))
theorem P_serve {G : oG} {mu : oMu} {Q : oPm} (hRel : Rel mu) (a b : Int32) (k : ∀ (z : Int32) (mu1 : oMu), (∀ Q' : oPm, (∀ mu2 : oMu, Rel mu2 → Q' (some (.inl z)) mu2) → Om G M_N_serve 0 [(0, .inr (some (ad 20 0))), (1, .inl a), (2, .inl b)] [] mu1 Q') → Q (some (.inl z)) mu1) : Om G M_S_serve 0 [(0, .inr (some (ad 0 0))), (1, .inl a), (2, .inl b)] [] mu Q := by
  obtain ⟨m, ky, vr, nd, dp, vl, sn, ck, wt, fl, x, h, d, s, l, r, ph, hC, hN, hI⟩ := id hRel
  have hm4 := hC.fw.m4
  rcases rng a 3 (by decide) with ⟨i, hi, rfl⟩ | ha
  · rcases rng b 2 (by decide) with ⟨q, hq, rfl⟩ | hb
    · have hq6 : 2 * i + q < 6 := by omega
      have hL := hI.2.2.2.2.1.1 _ hq6
      refine C_serve hC hi hq hI.2.1 hL (fun mu1 hC1 hg => k _ mu1 fun Q' h9 => R_serve (hN.gt hg) hi hq (fun w hw => (hI.1 w hw).2.2.2) hL (fun mu2 hN2 hl2 => h9 mu2 ⟨_, _, _, _, _, _, _, _, _, _, _, _, _, _, _, _, _, hC1.lt hl2, hN2, ?_⟩))
      refine ⟨hI.1, hI.2.1, hI.2.2.1, fun c hc w hw hw2 => ?_, ⟨fun z hz e he => ?_, hI.2.2.2.2.1.2⟩, hI.2.2.2.2.2.1, fun t ht => ?_, hI.2.2.2.2.2.2.2⟩
      · by_cases ec : c = i
        · subst ec
          rw [va_s]
          rcases svs_sn (nd := nd) (dp := dp) (sn := sn c) hL _ (Nat.le_refl _) w with h1 | h1
          · rw [h1]
            exact hI.2.2.2.1 c hc w hw hw2
          · exact absurd h1.2 (by omega)
        · rw [va_n ec]
          exact hI.2.2.2.1 c hc w hw hw2
      · by_cases ez : z = 2 * i + q
        · rw [ez, va_s] at he
          exact svs_mem hL _ (Nat.le_refl _) e he
        · rw [va_n ez] at he
          exact hI.2.2.2.2.1.1 z hz e he
      · have h7 := hI.2.2.2.2.2.2.1 t ht
        have h8 := svs_len (nd := nd) (dp := dp) (L := wt (2 * i + q)) (sn := sn i) (wt (2 * i + q)).length
        have h5 : ∀ z, (va_up wt (2 * i + q) (svs nd dp (wt (2 * i + q)) (sn i) (wt (2 * i + q)).length).2 z).length ≤ (wt z).length := fun z => by
          by_cases ez : z = 2 * i + q
          · rw [ez, va_s]
            exact h8
          · rw [va_n ez]
            exact Nat.le_refl _
        have h6 := h5 (2 * t)
        have h4 := h5 (2 * t + 1)
        omega
    · exact C_serve_b2 hi hb (k _ mu fun Q' h9 => R_serve_b2 hi hb (h9 mu hRel))
  · exact C_serve_b1 ha (k _ mu fun Q' h9 => R_serve_b1 ha (h9 mu hRel))
theorem P_deliver {G : oG} {mu : oMu} {Q : oPm} (hRel : Rel mu) (a b v : Int32) (k : ∀ (z : Int32) (mu1 : oMu), (∀ Q' : oPm, (∀ mu2 : oMu, Rel mu2 → Q' (some (.inl z)) mu2) → Om G M_N_deliver 0 [(0, .inr (some (ad 20 0))), (1, .inl a), (2, .inl b), (3, .inl v)] [] mu1 Q') → Q (some (.inl z)) mu1) : Om G M_S_deliver 0 [(0, .inr (some (ad 0 0))), (1, .inl a), (2, .inl b), (3, .inl v)] [] mu Q := by
  obtain ⟨m, ky, vr, nd, dp, vl, sn, ck, wt, fl, x, h, d, s, l, r, ph, hC, hN, hI⟩ := id hRel
  have hm4 := hC.fw.m4
  rcases rng a 3 (by decide) with ⟨i, hi, rfl⟩ | ha
  · rcases rng b 3 (by decide) with ⟨q, hq, rfl⟩ | hb
    · have hl4 := (hC.ffl (show i * 3 + q < 9 by omega)).2.1
      by_cases e : i = q
      · subst e
        have e0 : fl (i * 3 + i) = [] := hI.2.2.2.2.2.1 _ (by omega) (by omega)
        exact C_deliver_n hC hi hi (fun j hj => absurd hj (by rw [e0]; simp)) (k _ mu fun Q' h9 => R_deliver_e hi (h9 mu hRel))
      · have e3 : i * 3 + q = 3 * i + q := by omega
        rcases rng v (fl (i * 3 + q)).length (by omega) with ⟨j, hj, rfl⟩ | hj
        · have hfm := hI.2.2.2.2.1.2 _ (show i * 3 + q < 9 by omega)
          have hwm := getD_mem hfm hj
          generalize hw : (fl (i * 3 + q)).getD j 0 = w at hwm
          have hck : ∀ p, p < 2 → ck q p < 1000 := fun p hp => by have := hI.2.2.1 q hq p hp; omega
          have hsum := hI.2.2.2.2.2.2.1 q hq
          have hfl3 : (fl (i * 3 + q)).length ≤ (fl q).length + (fl (3 + q)).length + (fl (6 + q)).length := by
            have hi3 : i = 0 ∨ i = 1 ∨ i = 2 := by omega
            rcases hi3 with rfl | rfl | rfl
            · rw [show 0 * 3 + q = q by omega]; omega
            · rw [show 1 * 3 + q = 3 + q by omega]; omega
            · rw [show 2 * 3 + q = 6 + q by omega]; omega
          have hwl : (wt (2 * q + ky w % 2)).length < 40 := by
            have h2 : ky w % 2 = 0 ∨ ky w % 2 = 1 := by omega
            rcases h2 with h2 | h2
            · rw [h2, Nat.add_zero]; omega
            · rw [h2]; omega
          refine C_deliver hC hi hq hj hw hwm hck hwl (fun mu1 hC1 hg => k _ mu1 fun Q' h9 => R_deliver (hN.gt hg) hi hq e (by rw [← e3]; exact hj) (by rw [← e3]; exact hw) hwm hck hwl (fun mu2 hN2 hl2 => h9 mu2 ?_))
          rw [← e3] at hN2
          refine ⟨_, _, _, _, _, _, _, _, _, _, _, _, _, _, _, _, _, hC1.lt hl2, hN2, ?_⟩
          have hmx : ck q (ky w % 2) ≤ mx (ck q (ky w % 2)) (vr w / 4) ∧ mx (ck q (ky w % 2)) (vr w / 4) ≤ m := by
            have h1 := hI.2.2.1 q hq (ky w % 2) (by omega)
            have h2 := (hI.1 w hwm).2.2.1
            unfold mx
            split <;> omega
          have hcu : ∀ c p, ck c p ≤ va_up ck q (va_up (ck q) (ky w % 2) (mx (ck q (ky w % 2)) (vr w / 4))) c p := fun c p => by
            by_cases ec : c = q
            · subst ec
              rw [va_s]
              by_cases ep : p = ky w % 2
              · rw [ep, va_s]
                exact hmx.1
              · rw [va_n ep]
                exact Nat.le_refl _
            · rw [va_n ec]
              exact Nat.le_refl _
          have hel : ((fl (i * 3 + q)).eraseIdx j).length = (fl (i * 3 + q)).length - 1 := by rw [List.length_eraseIdx, if_pos hj]
          refine ⟨fun u hu => ⟨(hI.1 u hu).1, Nat.le_trans (hI.1 u hu).2.1 (hcu _ _), (hI.1 u hu).2.2⟩, hI.2.1, fun c hc p hp => ?_, hI.2.2.2.1, ⟨fun z hz y hy => ?_, fun z hz y hy => ?_⟩, fun z hz hzd => ?_, fun t ht => ?_, hI.2.2.2.2.2.2.2⟩
          · by_cases ec : c = q
            · subst ec
              rw [va_s]
              by_cases ep : p = ky w % 2
              · rw [ep, va_s]
                exact hmx.2
              · rw [va_n ep]
                exact hI.2.2.1 c hc p hp
            · rw [va_n ec]
              exact hI.2.2.1 c hc p hp
          · by_cases ez : z = 2 * q + ky w % 2
            · rw [ez, va_s] at hy
              rcases List.mem_append.mp hy with h1 | h1
              · exact hI.2.2.2.2.1.1 _ (by omega) y h1
              · rw [List.mem_singleton.mp h1]
                exact hwm
            · rw [va_n ez] at hy
              exact hI.2.2.2.2.1.1 z hz y hy
          · by_cases ez : z = i * 3 + q
            · rw [ez, va_s] at hy
              exact hfm y (List.mem_of_mem_eraseIdx hy)
            · rw [va_n ez] at hy
              exact hI.2.2.2.2.1.2 z hz y hy
          · have ez : ¬ z = i * 3 + q := by omega
            rw [va_n ez]
            exact hI.2.2.2.2.2.1 z hz hzd
          · have h7 := hI.2.2.2.2.2.2.1 t ht
            by_cases et : t = q
            · subst et
              have hww : (va_up wt (2 * t + ky w % 2) (wt (2 * t + ky w % 2) ++ [w]) (2 * t)).length + (va_up wt (2 * t + ky w % 2) (wt (2 * t + ky w % 2) ++ [w]) (2 * t + 1)).length = (wt (2 * t)).length + (wt (2 * t + 1)).length + 1 := by
                have h2 : ky w % 2 = 0 ∨ ky w % 2 = 1 := by omega
                rcases h2 with h2 | h2
                · rw [h2, Nat.add_zero, va_s, va_n (by omega)]
                  simp
                  omega
                · rw [h2, va_s, va_n (by omega)]
                  simp
                  omega
              have hff : (va_up fl (i * 3 + t) ((fl (i * 3 + t)).eraseIdx j) t).length + (va_up fl (i * 3 + t) ((fl (i * 3 + t)).eraseIdx j) (3 + t)).length + (va_up fl (i * 3 + t) ((fl (i * 3 + t)).eraseIdx j) (6 + t)).length + 1 = (fl t).length + (fl (3 + t)).length + (fl (6 + t)).length := by
                have hi3 : i = 0 ∨ i = 1 ∨ i = 2 := by omega
                rcases hi3 with rfl | rfl | rfl
                · rw [show 0 * 3 + t = t by omega] at hel hj ⊢
                  rw [va_s, va_n (by omega), va_n (by omega), hel]
                  omega
                · rw [show 1 * 3 + t = 3 + t by omega] at hel hj ⊢
                  rw [va_s, va_n (by omega), va_n (by omega), hel]
                  omega
                · rw [show 2 * 3 + t = 6 + t by omega] at hel hj ⊢
                  rw [va_s, va_n (by omega), va_n (by omega), hel]
                  omega
              omega
            · rw [va_n (by omega), va_n (by omega), va_n (by omega), va_n (by omega), va_n (by omega)]
              exact h7
        · exact C_deliver_n hC hi hq hj (k _ mu fun Q' h9 => R_deliver_n hN hi hq e (by rw [← e3]; exact hj) (h9 mu hRel))
    · exact C_deliver_b2 hC hi hb (k _ mu fun Q' h9 => R_deliver_b2 hi hb (h9 mu hRel))
  · exact C_deliver_b1 hC ha (k _ mu fun Q' h9 => R_deliver_b1 ha (h9 mu hRel))
theorem P_put {G : oG} {mu : oMu} {Q : oPm} (hRel : Rel mu) (a b v : Int32) (k : ∀ (z : Int32) (mu1 : oMu), (∀ Q' : oPm, (∀ mu2 : oMu, Rel mu2 → Q' (some (.inl z)) mu2) → Om G M_N_put 0 [(0, .inr (some (ad 20 0))), (1, .inl a), (2, .inl b), (3, .inl v)] [] mu1 Q') → Q (some (.inl z)) mu1) : Om G M_S_put 0 [(0, .inr (some (ad 0 0))), (1, .inl a), (2, .inl b), (3, .inl v)] [] mu Q := by
  obtain ⟨m, ky, vr, nd, dp, vl, sn, ck, wt, fl, x, h, d, s, l, r, ph, hC, hN, hI⟩ := id hRel
  have hm4 := hC.fw.m4
  rcases rng a 6 (by decide) with ⟨i, hi, rfl⟩ | ha
  · rcases rng b 6 (by decide) with ⟨q, hq, rfl⟩ | hb
    · have hT := hI.2.2.2.2.2.2.2 i hi
      by_cases hl0 : l i = 0
      · have hop := hT.2.2.2.1.mp hl0
        by_cases hm : m = 40
        · exact C_put_full hC hi hT.1.2.1 hq hl0 hm (k _ mu fun Q' h9 => R_put_full hN hi hT.1.2.2.2 hq hop hm (h9 mu hRel))
        · have hm2 : m < 40 := by omega
          have hc3 : i % 3 < 3 := by omega
          have hck1 := hI.2.2.1 (i % 3) hc3 (q % 2) (by omega)
          have hTm := tmx_le (vr := vr) (x := x i) hck1 (fun z hz => (hC.fx hi z hz).2) (fun w hw => (hI.1 w hw).2.2.1) 6 (Nat.le_refl _)
          have hfl : ∀ z, z < 9 → (fl z).length < 40 := fun z hz => by
            have h7 := hI.2.2.2.2.2.2.1 (z % 3) (by omega)
            have hz3 : z = z % 3 ∨ z = 3 + z % 3 ∨ z = 6 + z % 3 := by omega
            rcases hz3 with e | e | e
            · rw [e]; omega
            · rw [e]; omega
            · rw [e]; omega
          refine C_put hC hi hT.1.2.1 hq hl0 hm2 (by omega) (by omega) hI.2.2.2.1 hfl (fun mu1 hC1 hg => k _ mu1 fun Q' h9 => R_put (hN.gt hg) hi hT.1.2.2.2 hq hop hm2 (by omega) (by omega) hfl (fun mu2 hN2 hl2 => h9 mu2 ⟨_, _, _, _, _, _, _, _, _, _, _, _, _, _, _, _, _, hC1.lt hl2, hN2, ?_⟩))
          have hV4 : (4 * (tmx (ck (i % 3) (q % 2)) (x i) vr 6 + 1) + i % 3) / 4 = tmx (ck (i % 3) (q % 2)) (x i) vr 6 + 1 := by omega
          have hVm : (4 * (tmx (ck (i % 3) (q % 2)) (x i) vr 6 + 1) + i % 3) % 4 = i % 3 := by omega
          generalize hVe : (4 * (tmx (ck (i % 3) (q % 2)) (x i) vr 6 + 1) + i % 3) = V at hV4 hVm ⊢
          generalize hTe : tmx (ck (i % 3) (q % 2)) (x i) vr 6 = T at hV4 hTm hVe ⊢
          have hcu : ∀ c p, ck c p ≤ va_up ck (i % 3) (va_up (ck (i % 3)) (q % 2) (T + 1)) c p := fun c p => by
            by_cases ec : c = i % 3
            · subst ec
              rw [va_s]
              by_cases ep : p = q % 2
              · rw [ep, va_s]
                omega
              · rw [va_n ep]
                exact Nat.le_refl _
            · rw [va_n ec]
              exact Nat.le_refl _
          have hnew : ∀ u, u < m → ky u = q → ¬ vr u = V := fun u hu hku e => by
            have h1 := hI.1 u hu
            rw [e, hV4, hVm, hku] at h1
            omega
          refine ⟨fun u hu => ?_, fun u w hu hw huw hk => ?_, fun c hc p hp => ?_, fun c hc w hw hw2 => ?_, ⟨fun z hz e he => Nat.lt_succ_of_lt (hI.2.2.2.2.1.1 z hz e he), fun z hz e he => ?_⟩, fun z hz hzd => ?_, fun t ht => ?_, hI.2.2.2.2.2.2.2⟩
          · by_cases e : u = m
            · subst e
              simp only [va_s]
              rw [hV4, hVm, va_s, va_s]
              exact ⟨hc3, Nat.le_refl _, by omega, fun z hz => nearB_bit hz 6 (Nat.le_refl _)⟩
            · simp only [va_n e]
              have h1 := hI.1 u (by omega)
              exact ⟨h1.1, Nat.le_trans h1.2.1 (hcu _ _), by omega, h1.2.2.2⟩
          · by_cases e1 : u = m
            · subst e1
              rw [va_s, va_n (fun z => huw z.symm)] at hk ⊢
              exact fun z => hnew w (by omega) hk.symm z.symm
            · by_cases e2 : w = m
              · subst e2
                rw [va_s, va_n e1] at hk ⊢
                exact hnew u (by omega) hk
              · rw [va_n e1, va_n e2] at hk ⊢
                exact hI.2.1 u w (by omega) (by omega) huw hk
          · by_cases ec : c = i % 3
            · subst ec
              rw [va_s]
              by_cases ep : p = q % 2
              · rw [ep, va_s]
                omega
              · rw [va_n ep]
                have := hI.2.2.1 _ hc p hp
                omega
            · rw [va_n ec]
              have := hI.2.2.1 _ hc p hp
              omega
          · by_cases ec : c = i % 3
            · subst ec
              rw [va_s, va_n (by omega)]
              exact hI.2.2.2.1 _ hc w (by omega) hw2
            · rw [va_n ec]
              exact hI.2.2.2.1 _ hc w (by omega) hw2
          · unfold flP at he
            split at he
            · rcases List.mem_append.mp he with h1 | h1
              · exact Nat.lt_succ_of_lt (hI.2.2.2.2.1.2 z hz e h1)
              · rw [List.mem_singleton.mp h1]
                exact Nat.lt_succ_self _
            · exact Nat.lt_succ_of_lt (hI.2.2.2.2.1.2 z hz e he)
          · unfold flP
            rw [if_neg (by omega)]
            exact hI.2.2.2.2.2.1 z hz hzd
          · have h7 := hI.2.2.2.2.2.2.1 t ht
            have hle : ∀ z, (flP fl (i % 3) m z).length = (fl z).length + (if z / 3 = i % 3 ∧ ¬ z % 3 = i % 3 then 1 else 0) := fun z => by
              unfold flP
              split
              · simp
              · simp
            rw [hle t, hle (3 + t), hle (6 + t)]
            have a1 : (if t / 3 = i % 3 ∧ ¬ t % 3 = i % 3 then 1 else 0) + (if (3 + t) / 3 = i % 3 ∧ ¬ (3 + t) % 3 = i % 3 then 1 else 0) + (if (6 + t) / 3 = i % 3 ∧ ¬ (6 + t) % 3 = i % 3 then 1 else 0) ≤ 1 := by
              split <;> split <;> split <;> omega
            omega
      · have hop : ph i = 1 ∨ ph i = 2 := Classical.byContradiction fun z => hl0 (hT.2.2.2.1.mpr z)
        exact C_put_busy hC hi hT.1.2.1 hq hl0 (k _ mu fun Q' h9 => R_put_busy hN hi hT.1.2.2.2 hq hop (h9 mu hRel))
    · exact C_put_b2 hi hb (k _ mu fun Q' h9 => R_put_b2 hi hb (h9 mu hRel))
  · exact C_put_b1 ha (k _ mu fun Q' h9 => R_put_b1 ha (h9 mu hRel))
