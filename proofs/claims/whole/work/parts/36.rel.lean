/-! Class and reference side by side: the invariant, and each call of both. -/
def Inv (m : Nat) (ky vr nd : Nat → Nat) (dp : Nat → Nat → Nat) (sn ck : Nat → Nat → Nat) (wt fl : Nat → List Nat) (h : Nat → Nat → Nat) (s l r ph : Nat → Nat) : Prop :=
  (∀ w, w < m → vr w % 4 < 3 ∧ vr w / 4 ≤ ck (vr w % 4) (ky w % 2) ∧ vr w / 4 ≤ m ∧ ∀ k, k < 6 → (nd w).testBit k = true → ¬ dp w k = 0) ∧
  (∀ u v, u < m → v < m → ¬ u = v → ky u = ky v → ¬ vr u = vr v) ∧
  (∀ c, c < 3 → ∀ p, p < 2 → ck c p ≤ m) ∧
  (∀ c, c < 3 → ∀ w, m ≤ w → w < 40 → sn c w = 0) ∧
  ((∀ q, q < 6 → ∀ e ∈ wt q, e < m) ∧ ∀ q, q < 9 → ∀ e ∈ fl q, e < m) ∧
  (∀ q, q < 9 → q / 3 = q % 3 → fl q = []) ∧
  (∀ t, t < 3 → (fl t).length + (fl (3 + t)).length + (fl (6 + t)).length + (wt (2 * t)).length + (wt (2 * t + 1)).length ≤ m) ∧
  ∀ i, i < 6 → (s i < 64 ∧ l i < 64 ∧ r i < 3 ∧ ph i < 4) ∧ (∀ k, k < 6 → (l i).testBit k = true → (s i).testBit k = true) ∧ (∀ k, k < 6 → ¬ h i k = 0 → (s i).testBit k = true) ∧ (l i = 0 ↔ ¬ (ph i = 1 ∨ ph i = 2)) ∧ (ph i = 1 → r i = 1) ∧ (ph i = 2 → r i = 2)
def Rel (mu : oMu) : Prop := ∃ (m : Nat) (ky vr nd : Nat → Nat) (dp : Nat → Nat → Nat) (vl : Nat → Int32) (sn ck : Nat → Nat → Nat) (wt fl : Nat → List Nat) (x h d : Nat → Nat → Nat) (s l r ph : Nat → Nat), ReC mu m ky vr nd dp vl sn ck wt fl x h d s l r ∧ ReR mu m ky vr nd dp vl sn ck wt fl x h d s l r ph ∧ Inv m ky vr nd dp sn ck wt fl h s l r ph
theorem ReR.gt {mu mu' : oMu} {m : Nat} {ky vr nd : Nat → Nat} {dp : Nat → Nat → Nat} {vl : Nat → Int32} {sn ck : Nat → Nat → Nat} {wt fl : Nat → List Nat} {x h d : Nat → Nat → Nat} {s l r ph : Nat → Nat} (hR : ReR mu m ky vr nd dp vl sn ck wt fl x h d s l r ph) (hg : mgt mu mu') : ReR mu' m ky vr nd dp vl sn ck wt fl x h d s l r ph := by
  have e : ∀ t, 20 ≤ t → mu' t = mu t := fun t ht => funext fun i => hg t i ht
  unfold ReR vOk tOk lineOk yOk at hR ⊢
  rw [e 20 (by decide), e 21 (by decide), e 22 (by decide), e 23 (by decide), e 24 (by decide), e 25 (by decide), e 26 (by decide), e 27 (by decide), e 28 (by decide), e 29 (by decide), e 30 (by decide), e 31 (by decide), e 32 (by decide), e 33 (by decide), e 34 (by decide), e 35 (by decide), e 36 (by decide), e 37 (by decide), e 38 (by decide)]
  exact hR
theorem ReC.lt {mu mu' : oMu} {m : Nat} {ky vr nd : Nat → Nat} {dp : Nat → Nat → Nat} {vl : Nat → Int32} {sn ck : Nat → Nat → Nat} {wt fl : Nat → List Nat} {x h d : Nat → Nat → Nat} {s l r : Nat → Nat} (hR : ReC mu m ky vr nd dp vl sn ck wt fl x h d s l r) (hg : mlt mu mu') : ReC mu' m ky vr nd dp vl sn ck wt fl x h d s l r := by
  have e : ∀ t, t < 20 → mu' t = mu t := fun t ht => funext fun i => hg t i ht
  unfold ReC wOk sOk xOk rowOk at hR ⊢
  rw [e 0 (by decide), e 5 (by decide), e 6 (by decide), e 8 (by decide), e 9 (by decide), e 10 (by decide), e 12 (by decide), e 13 (by decide), e 14 (by decide), e 15 (by decide), e 16 (by decide), e 17 (by decide), e 18 (by decide), e 19 (by decide)]
  exact hR
theorem P_got {G : oG} {mu : oMu} {Q : oPm} (hRel : Rel mu) (a b : Int32) (k : ∀ (z : Int32) (mu1 : oMu), (∀ Q' : oPm, (∀ mu2 : oMu, Rel mu2 → Q' (some (.inl z)) mu2) → Om G M_N_got 0 [(0, .inr (some (ad 20 0))), (1, .inl a), (2, .inl b)] [] mu1 Q') → Q (some (.inl z)) mu1) : Om G M_S_got 0 [(0, .inr (some (ad 0 0))), (1, .inl a), (2, .inl b)] [] mu Q := by
  obtain ⟨m, ky, vr, nd, dp, vl, sn, ck, wt, fl, x, h, d, s, l, r, ph, hC, hN, hI⟩ := id hRel
  have hm4 := hC.fw.m4
  rcases rng a 6 (by decide) with ⟨i, hi, rfl⟩ | ha
  · rcases rng b 6 (by decide) with ⟨q, hq, rfl⟩ | hb
    · exact C_got hC hi hq (k _ mu fun Q' h9 => R_got hN hi hq (h9 mu hRel))
    · exact C_got_b2 hi hb (k _ mu fun Q' h9 => R_got_b2 hi hb (h9 mu hRel))
  · exact C_got_b1 ha (k _ mu fun Q' h9 => R_got_b1 ha (h9 mu hRel))
theorem P_context {G : oG} {mu : oMu} {Q : oPm} (hRel : Rel mu) (a b : Int32) (k : ∀ (z : Int32) (mu1 : oMu), (∀ Q' : oPm, (∀ mu2 : oMu, Rel mu2 → Q' (some (.inl z)) mu2) → Om G M_N_context 0 [(0, .inr (some (ad 20 0))), (1, .inl a), (2, .inl b)] [] mu1 Q') → Q (some (.inl z)) mu1) : Om G M_S_context 0 [(0, .inr (some (ad 0 0))), (1, .inl a), (2, .inl b)] [] mu Q := by
  obtain ⟨m, ky, vr, nd, dp, vl, sn, ck, wt, fl, x, h, d, s, l, r, ph, hC, hN, hI⟩ := id hRel
  have hm4 := hC.fw.m4
  rcases rng a 6 (by decide) with ⟨i, hi, rfl⟩ | ha
  · rcases rng b 6 (by decide) with ⟨q, hq, rfl⟩ | hb
    · exact C_context hC hi hq (k _ mu fun Q' h9 => R_context hN hi hq (h9 mu hRel))
    · exact C_context_b2 hi hb (k _ mu fun Q' h9 => R_context_b2 hi hb (h9 mu hRel))
  · exact C_context_b1 ha (k _ mu fun Q' h9 => R_context_b1 ha (h9 mu hRel))
theorem P_clock {G : oG} {mu : oMu} {Q : oPm} (hRel : Rel mu) (a b : Int32) (k : ∀ (z : Int32) (mu1 : oMu), (∀ Q' : oPm, (∀ mu2 : oMu, Rel mu2 → Q' (some (.inl z)) mu2) → Om G M_N_clock 0 [(0, .inr (some (ad 20 0))), (1, .inl a), (2, .inl b)] [] mu1 Q') → Q (some (.inl z)) mu1) : Om G M_S_clock 0 [(0, .inr (some (ad 0 0))), (1, .inl a), (2, .inl b)] [] mu Q := by
  obtain ⟨m, ky, vr, nd, dp, vl, sn, ck, wt, fl, x, h, d, s, l, r, ph, hC, hN, hI⟩ := id hRel
  have hm4 := hC.fw.m4
  rcases rng a 3 (by decide) with ⟨i, hi, rfl⟩ | ha
  · rcases rng b 2 (by decide) with ⟨q, hq, rfl⟩ | hb
    · exact C_clock hC hi hq (k _ mu fun Q' h9 => R_clock hN hi hq (h9 mu hRel))
    · exact C_clock_b2 hi hb (k _ mu fun Q' h9 => R_clock_b2 hi hb (h9 mu hRel))
  · exact C_clock_b1 ha (k _ mu fun Q' h9 => R_clock_b1 ha (h9 mu hRel))
theorem P_pending {G : oG} {mu : oMu} {Q : oPm} (hRel : Rel mu) (a b : Int32) (k : ∀ (z : Int32) (mu1 : oMu), (∀ Q' : oPm, (∀ mu2 : oMu, Rel mu2 → Q' (some (.inl z)) mu2) → Om G M_N_pending 0 [(0, .inr (some (ad 20 0))), (1, .inl a), (2, .inl b)] [] mu1 Q') → Q (some (.inl z)) mu1) : Om G M_S_pending 0 [(0, .inr (some (ad 0 0))), (1, .inl a), (2, .inl b)] [] mu Q := by
  obtain ⟨m, ky, vr, nd, dp, vl, sn, ck, wt, fl, x, h, d, s, l, r, ph, hC, hN, hI⟩ := id hRel
  have hm4 := hC.fw.m4
  rcases rng a 3 (by decide) with ⟨i, hi, rfl⟩ | ha
  · rcases rng b 2 (by decide) with ⟨q, hq, rfl⟩ | hb
    · exact C_pending hC hi hq (k _ mu fun Q' h9 => R_pending hN hi hq (h9 mu hRel))
    · exact C_pending_b2 hi hb (k _ mu fun Q' h9 => R_pending_b2 hi hb (h9 mu hRel))
  · exact C_pending_b1 ha (k _ mu fun Q' h9 => R_pending_b1 ha (h9 mu hRel))
theorem P_latest {G : oG} {mu : oMu} {Q : oPm} (hRel : Rel mu) (a b : Int32) (k : ∀ (z : Int32) (mu1 : oMu), (∀ Q' : oPm, (∀ mu2 : oMu, Rel mu2 → Q' (some (.inl z)) mu2) → Om G M_N_latest 0 [(0, .inr (some (ad 20 0))), (1, .inl a), (2, .inl b)] [] mu1 Q') → Q (some (.inl z)) mu1) : Om G M_S_latest 0 [(0, .inr (some (ad 0 0))), (1, .inl a), (2, .inl b)] [] mu Q := by
  obtain ⟨m, ky, vr, nd, dp, vl, sn, ck, wt, fl, x, h, d, s, l, r, ph, hC, hN, hI⟩ := id hRel
  have hm4 := hC.fw.m4
  rcases rng a 3 (by decide) with ⟨i, hi, rfl⟩ | ha
  · rcases rng b 6 (by decide) with ⟨q, hq, rfl⟩ | hb
    · exact C_latest hC hi hq (k _ mu fun Q' h9 => R_latest hN hi hq (h9 mu hRel))
    · exact C_latest_b2 hi hb (k _ mu fun Q' h9 => R_latest_b2 hi hb (h9 mu hRel))
  · exact C_latest_b1 ha (k _ mu fun Q' h9 => R_latest_b1 ha (h9 mu hRel))
theorem P_flight {G : oG} {mu : oMu} {Q : oPm} (hRel : Rel mu) (a b : Int32) (k : ∀ (z : Int32) (mu1 : oMu), (∀ Q' : oPm, (∀ mu2 : oMu, Rel mu2 → Q' (some (.inl z)) mu2) → Om G M_N_flight 0 [(0, .inr (some (ad 20 0))), (1, .inl a), (2, .inl b)] [] mu1 Q') → Q (some (.inl z)) mu1) : Om G M_S_flight 0 [(0, .inr (some (ad 0 0))), (1, .inl a), (2, .inl b)] [] mu Q := by
  obtain ⟨m, ky, vr, nd, dp, vl, sn, ck, wt, fl, x, h, d, s, l, r, ph, hC, hN, hI⟩ := id hRel
  have hm4 := hC.fw.m4
  rcases rng a 3 (by decide) with ⟨i, hi, rfl⟩ | ha
  · rcases rng b 3 (by decide) with ⟨q, hq, rfl⟩ | hb
    · by_cases e : i = q
      · subst e
        refine C_flight hC hi hi (k _ mu fun Q' h9 => R_flight_e hi ?_)
        have e0 : fl (i * 3 + i) = [] := hI.2.2.2.2.2.1 _ (by omega) (by omega)
        have h8 := h9 mu hRel
        rw [e0] at h8
        exact h8
      · refine C_flight hC hi hq (k _ mu fun Q' h9 => R_flight hN hi hq e ?_)
        have h8 := h9 mu hRel
        rw [Nat.mul_comm i 3] at h8
        exact h8
    · exact C_flight_b2 hi hb (k _ mu fun Q' h9 => R_flight_b2 hi hb (h9 mu hRel))
  · exact C_flight_b1 ha (k _ mu fun Q' h9 => R_flight_b1 ha (h9 mu hRel))
theorem P_rounds {G : oG} {mu : oMu} {Q : oPm} (hRel : Rel mu) (a : Int32) (k : ∀ (z : Int32) (mu1 : oMu), (∀ Q' : oPm, (∀ mu2 : oMu, Rel mu2 → Q' (some (.inl z)) mu2) → Om G M_N_rounds 0 [(0, .inr (some (ad 20 0))), (1, .inl a)] [] mu1 Q') → Q (some (.inl z)) mu1) : Om G M_S_rounds 0 [(0, .inr (some (ad 0 0))), (1, .inl a)] [] mu Q := by
  obtain ⟨m, ky, vr, nd, dp, vl, sn, ck, wt, fl, x, h, d, s, l, r, ph, hC, hN, hI⟩ := id hRel
  have hm4 := hC.fw.m4
  rcases rng a 6 (by decide) with ⟨i, hi, rfl⟩ | ha
  · exact C_rounds hC hi (k _ mu fun Q' h9 => R_rounds hN hi (h9 mu hRel))
  · exact C_rounds_b1 ha (k _ mu fun Q' h9 => R_rounds_b1 ha (h9 mu hRel))
theorem P_nearest {G : oG} {mu : oMu} {Q : oPm} (hRel : Rel mu) (a : Int32) (k : ∀ (z : Int32) (mu1 : oMu), (∀ Q' : oPm, (∀ mu2 : oMu, Rel mu2 → Q' (some (.inl z)) mu2) → Om G M_N_nearest 0 [(0, .inr (some (ad 20 0))), (1, .inl a)] [] mu1 Q') → Q (some (.inl z)) mu1) : Om G M_S_nearest 0 [(0, .inr (some (ad 0 0))), (1, .inl a)] [] mu Q := by
  obtain ⟨m, ky, vr, nd, dp, vl, sn, ck, wt, fl, x, h, d, s, l, r, ph, hC, hN, hI⟩ := id hRel
  have hm4 := hC.fw.m4
  rcases rng a 6 (by decide) with ⟨i, hi, rfl⟩ | ha
  · exact C_nearest hC hi (k _ mu fun Q' h9 => R_nearest hN hi (h9 mu hRel))
  · exact C_nearest_b1 ha (k _ mu fun Q' h9 => R_nearest_b1 ha (h9 mu hRel))
theorem P_dependency {G : oG} {mu : oMu} {Q : oPm} (hRel : Rel mu) (a b : Int32) (k : ∀ (z : Int32) (mu1 : oMu), (∀ Q' : oPm, (∀ mu2 : oMu, Rel mu2 → Q' (some (.inl z)) mu2) → Om G M_N_dependency 0 [(0, .inr (some (ad 20 0))), (1, .inl a), (2, .inl b)] [] mu1 Q') → Q (some (.inl z)) mu1) : Om G M_S_dependency 0 [(0, .inr (some (ad 0 0))), (1, .inl a), (2, .inl b)] [] mu Q := by
  obtain ⟨m, ky, vr, nd, dp, vl, sn, ck, wt, fl, x, h, d, s, l, r, ph, hC, hN, hI⟩ := id hRel
  have hm4 := hC.fw.m4
  rcases rng a m (by omega) with ⟨w, hw, rfl⟩ | ha
  · rcases rng b 6 (by decide) with ⟨q, hq, rfl⟩ | hb
    · exact C_dependency hC hw hq (k _ mu fun Q' h9 => R_dependency hN hw hq (h9 mu hRel))
    · exact C_dependency_b2 hC hw hb (k _ mu fun Q' h9 => R_dependency_b2 hN hw hb (h9 mu hRel))
  · exact C_dependency_b1 hC ha (k _ mu fun Q' h9 => R_dependency_b1 hN ha (h9 mu hRel))
theorem P_visible {G : oG} {mu : oMu} {Q : oPm} (hRel : Rel mu) (a b : Int32) (k : ∀ (z : Int32) (mu1 : oMu), (∀ Q' : oPm, (∀ mu2 : oMu, Rel mu2 → Q' (some (.inl z)) mu2) → Om G M_N_visible 0 [(0, .inr (some (ad 20 0))), (1, .inl a), (2, .inl b)] [] mu1 Q') → Q (some (.inl z)) mu1) : Om G M_S_visible 0 [(0, .inr (some (ad 0 0))), (1, .inl a), (2, .inl b)] [] mu Q := by
  obtain ⟨m, ky, vr, nd, dp, vl, sn, ck, wt, fl, x, h, d, s, l, r, ph, hC, hN, hI⟩ := id hRel
  have hm4 := hC.fw.m4
  rcases rng a 3 (by decide) with ⟨i, hi, rfl⟩ | ha
  · rcases rng b m (by omega) with ⟨w, hw, rfl⟩ | hb
    · exact C_visible hC.fw.mm hm4 hi hw (hC.fsn hi) (k _ mu fun Q' h9 => R_visible hN hi hw (h9 mu hRel))
    · exact C_visible_b2 hC.fw.mm hm4 hb (k _ mu fun Q' h9 => R_visible_b2 hN hi hb (h9 mu hRel))
  · exact C_visible_b1 hC.fw.mm hm4 ha (k _ mu fun Q' h9 => R_visible_b1 ha (h9 mu hRel))
theorem P_about {G : oG} {mu : oMu} {Q : oPm} (hRel : Rel mu) (a b : Int32) (k : ∀ (z : Int32) (mu1 : oMu), (∀ Q' : oPm, (∀ mu2 : oMu, Rel mu2 → Q' (some (.inl z)) mu2) → Om G M_N_about 0 [(0, .inr (some (ad 20 0))), (1, .inl a), (2, .inl b)] [] mu1 Q') → Q (some (.inl z)) mu1) : Om G M_S_about 0 [(0, .inr (some (ad 0 0))), (1, .inl a), (2, .inl b)] [] mu Q := by
  obtain ⟨m, ky, vr, nd, dp, vl, sn, ck, wt, fl, x, h, d, s, l, r, ph, hC, hN, hI⟩ := id hRel
  have hm4 := hC.fw.m4
  rcases rng a m (by omega) with ⟨w, hw, rfl⟩ | ha
  · rcases rng b 4 (by decide) with ⟨q, hq, rfl⟩ | hb
    · match q, hq with
      | 0, _ => exact C_about_0 hC hw (k _ mu fun Q' h9 => R_about_0 hN hw (h9 mu hRel))
      | 1, _ => exact C_about_1 hC hw (k _ mu fun Q' h9 => R_about_1 hN hw (h9 mu hRel))
      | 2, _ => exact C_about_2 hC hw (k _ mu fun Q' h9 => R_about_2 hN hw (h9 mu hRel))
      | 3, _ => exact C_about_3 hC hw (k _ mu fun Q' h9 => R_about_3 hN hw (h9 mu hRel))
    · exact C_about_o hC hw hb (k _ mu fun Q' h9 => R_about_o hN hw hb (h9 mu hRel))
  · exact C_about_b1 hC ha (k _ mu fun Q' h9 => R_about_b1 hN ha (h9 mu hRel))
theorem P_sent {G : oG} {mu : oMu} {Q : oPm} (hRel : Rel mu) (a b v : Int32) (k : ∀ (z : Int32) (mu1 : oMu), (∀ Q' : oPm, (∀ mu2 : oMu, Rel mu2 → Q' (some (.inl z)) mu2) → Om G M_N_sent 0 [(0, .inr (some (ad 20 0))), (1, .inl a), (2, .inl b), (3, .inl v)] [] mu1 Q') → Q (some (.inl z)) mu1) : Om G M_S_sent 0 [(0, .inr (some (ad 0 0))), (1, .inl a), (2, .inl b), (3, .inl v)] [] mu Q := by
  obtain ⟨m, ky, vr, nd, dp, vl, sn, ck, wt, fl, x, h, d, s, l, r, ph, hC, hN, hI⟩ := id hRel
  have hm4 := hC.fw.m4
  rcases rng a 3 (by decide) with ⟨i, hi, rfl⟩ | ha
  · rcases rng b 3 (by decide) with ⟨q, hq, rfl⟩ | hb
    · have hl4 := (hC.ffl (show i * 3 + q < 9 by omega)).2.1
      by_cases e : i = q
      · subst e
        have e0 : fl (i * 3 + i) = [] := hI.2.2.2.2.2.1 _ (by omega) (by omega)
        exact C_sent_n hC hi hi (fun j hj => absurd hj (by rw [e0]; simp)) (k _ mu fun Q' h9 => R_sent_e hi (h9 mu hRel))
      · have e3 : fl (i * 3 + q) = fl (3 * i + q) := by rw [Nat.mul_comm i 3]
        rcases rng v (fl (i * 3 + q)).length (by omega) with ⟨j, hj, rfl⟩ | hj
        · refine C_sent_y hC hi hq hj (k _ mu fun Q' h9 => R_sent_y hN hi hq e (by rw [← e3]; exact hj) ?_)
          rw [← e3]
          exact h9 mu hRel
        · exact C_sent_n hC hi hq hj (k _ mu fun Q' h9 => R_sent_n hN hi hq e (by rw [← e3]; exact hj) (h9 mu hRel))
    · exact C_sent_b2 hi hb (k _ mu fun Q' h9 => R_sent_b2 hi hb (h9 mu hRel))
  · exact C_sent_b1 ha (k _ mu fun Q' h9 => R_sent_b1 ha (h9 mu hRel))
theorem P_lacks {G : oG} {mu : oMu} {Q : oPm} (hRel : Rel mu) (a b v : Int32) (k : ∀ (z : Int32) (mu1 : oMu), (∀ Q' : oPm, (∀ mu2 : oMu, Rel mu2 → Q' (some (.inl z)) mu2) → Om G M_N_lacks 0 [(0, .inr (some (ad 20 0))), (1, .inl a), (2, .inl b), (3, .inl v)] [] mu1 Q') → Q (some (.inl z)) mu1) : Om G M_S_lacks 0 [(0, .inr (some (ad 0 0))), (1, .inl a), (2, .inl b), (3, .inl v)] [] mu Q := by
  obtain ⟨m, ky, vr, nd, dp, vl, sn, ck, wt, fl, x, h, d, s, l, r, ph, hC, hN, hI⟩ := id hRel
  have hm4 := hC.fw.m4
  rcases rng a 3 (by decide) with ⟨i, hi, rfl⟩ | ha
  · rcases rng b 2 (by decide) with ⟨q, hq, rfl⟩ | hb
    · have hl4 := (hC.fwt (show 2 * i + q < 6 by omega)).2.1
      rcases rng v (wt (2 * i + q)).length (by omega) with ⟨j, hj, rfl⟩ | hj
      · have hwm := getD_mem (hI.2.2.2.2.1.1 _ (show 2 * i + q < 6 by omega)) hj
        exact C_lacks_y hC hi hq hj rfl hwm (k _ mu fun Q' h9 => R_lacks_y hN hi hq hj rfl hwm (hI.1 _ hwm).2.2.2 (h9 mu hRel))
      · exact C_lacks_n hC hi hq hj (k _ mu fun Q' h9 => R_lacks_n hN hi hq hj (h9 mu hRel))
    · exact C_lacks_b2 hi hb (k _ mu fun Q' h9 => R_lacks_b2 hi hb (h9 mu hRel))
  · exact C_lacks_b1 ha (k _ mu fun Q' h9 => R_lacks_b1 ha (h9 mu hRel))
