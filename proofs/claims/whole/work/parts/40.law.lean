/-! The law: both constructors' heap is the start memory; each call of the script; the loop. -/
def mu0 : oMu := fun t i => match t with
  | 6 => nwF
  | 9 => nwF
  | 14 => fun k => if k = 0 then nI (i % 3) else 0
  | 15 => nwF
  | 16 => nwF
  | 17 => nwF
  | _ => fun _ => 0
def M_Ln (nq : String) : oM := (⟨RL, nq, yL_law.desc⟩, cL_law, 4, some .boolean, 7, 226)
theorem nwF_x {k : Nat} (h : k < 6) : nwF k = dec 0 := if_pos h
theorem Rel_0 : Rel mu0 := by
  refine ⟨0, fun _ => 0, fun _ => 0, fun _ => 0, fun _ _ => 0, fun _ => 0, fun _ _ => 0, fun _ _ => 0, fun _ => [], fun _ => [], fun _ _ => 0, fun _ _ => 0, fun _ _ => 0, fun _ => 0, fun _ => 0, fun _ => 0, fun _ => 0, ?_, ?_, ?_⟩
  · refine ⟨⟨rfl, Nat.zero_le _, fun w hw => absurd hw (Nat.not_lt_zero w)⟩, fun w hw => absurd hw (Nat.not_lt_zero w), fun c hc => ⟨fun w hw => ⟨rfl, (show (0 : Nat) < 2 by decide)⟩, fun k hk => ⟨nwF_x hk, Nat.zero_le _⟩, fun p hp => rfl⟩, fun q hq => ⟨rfl, Nat.zero_le _, fun j hj => absurd hj (Nat.not_lt_zero j)⟩, fun q hq => ⟨rfl, Nat.zero_le _, fun j hj => absurd hj (Nat.not_lt_zero j)⟩, fun i hi => ⟨⟨(show (if (0 : Nat) = 0 then nI (i % 3) else 0) = nI (i % 3) from if_pos rfl), rfl, rfl, rfl⟩, fun k hk => ⟨nwF_x hk, Nat.zero_le _⟩, fun k hk => ⟨nwF_x hk, Nat.zero_le _⟩, fun k hk => ⟨nwF_x hk, Nat.zero_le _⟩⟩⟩
  · refine ⟨⟨rfl, Nat.zero_le _, fun w hw => absurd hw (Nat.not_lt_zero w)⟩, fun w hw => absurd hw (Nat.not_lt_zero w), fun c hc => ⟨fun w hw => ⟨rfl, (show (0 : Nat) < 2 by decide)⟩, fun p hp => rfl⟩, fun q hq => ⟨rfl, Nat.zero_le _, fun j hj => absurd hj (Nat.not_lt_zero j)⟩, fun q hq => ⟨rfl, Nat.zero_le _, fun j hj => absurd hj (Nat.not_lt_zero j)⟩, fun i hi => ⟨⟨rfl, rfl, rfl, rfl⟩, fun k hk => ⟨rfl, Nat.zero_le _⟩, fun k hk => ⟨rfl, Nat.zero_le _⟩, fun k hk => ⟨rfl, Nat.zero_le _⟩⟩⟩
  · refine ⟨fun w hw => absurd hw (Nat.not_lt_zero w), fun u v hu => absurd hu (Nat.not_lt_zero u), fun c hc p hp => Nat.le_refl 0, fun c hc w h1 h2 => rfl, ⟨fun q hq e he => absurd he (List.not_mem_nil), fun q hq e he => absurd he (List.not_mem_nil)⟩, fun q hq h => rfl, fun t ht => Nat.le_refl 0, fun i hi => ⟨⟨(show (0 : Nat) < 64 by decide), (show (0 : Nat) < 64 by decide), (show (0 : Nat) < 3 by decide), (show (0 : Nat) < 4 by decide)⟩, fun k hk h => h, fun k hk h => absurd rfl h, (show (0 : Nat) = 0 ↔ ¬ ((0 : Nat) = 1 ∨ (0 : Nat) = 2) by decide), fun (h : (0 : Nat) = 1) => absurd h (by decide), fun (h : (0 : Nat) = 2) => absurd h (by decide)⟩⟩
theorem k_heap {H0 H : oH} (hS : SI 40 3 6 9 H0) (m0 : H.2 155 = some (.inr (.inr (ciModel, [.inl 0, .inr (some 156), .inr (some 157), .inr (some 158), .inr (some 159), .inr (some 160), .inr (some 161), .inr (some 162), .inr (some 163), .inr (some 164), .inr (some 165), .inr (some 166), .inr (some 167), .inr (some 168), .inr (some 169), .inr (some 170), .inr (some 171), .inr (some 172), .inr (some 173)])))) (m1 : H.2 156 = some (.inl (tyInt, 40, fun _ => 0))) (m2 : H.2 157 = some (.inl (tyInt, 40, fun _ => 0))) (m3 : H.2 158 = some (.inl (tyInt, 40, fun _ => 0))) (m4 : H.2 159 = some (.inl (tyInt, 240, fun _ => 0))) (m5 : H.2 160 = some (.inl (tyInt, 40, fun _ => 0))) (m6 : H.2 161 = some (.inl (tyBool, 120, fun _ => 0))) (m7 : H.2 162 = some (.inl (tyInt, 6, fun _ => 0))) (m8 : H.2 163 = some (.inl (tyInt, 6, fun _ => 0))) (m9 : H.2 164 = some (.inl (tyInt, 240, fun _ => 0))) (m10 : H.2 165 = some (.inl (tyInt, 9, fun _ => 0))) (m11 : H.2 166 = some (.inl (tyInt, 360, fun _ => 0))) (m12 : H.2 167 = some (.inl (tyInt, 36, fun _ => 0))) (m13 : H.2 168 = some (.inl (tyInt, 6, fun _ => 0))) (m14 : H.2 169 = some (.inl (tyInt, 6, fun _ => 0))) (m15 : H.2 170 = some (.inl (tyInt, 6, fun _ => 0))) (m16 : H.2 171 = some (.inl (tyInt, 6, fun _ => 0))) (m17 : H.2 172 = some (.inl (tyInt, 36, fun _ => 0))) (m18 : H.2 173 = some (.inl (tyInt, 36, fun _ => 0))) (hq : ∀ q, q < 155 → H.2 q = H0.2 q) : ∀ t i, i < cnt t → H.2 (ad t i) = some (oCt (sh t i) (mu0 t i)) := by
  obtain ⟨h0, h1, h2, h3, h4, h5, hW, hC, hK, hR⟩ := hS
  intro t i hi
  match t, hi with
  | 0, _ => exact (hq 1 (by decide)).trans h1
  | 1, _ => exact ((hq 2 (by decide)).trans h2).trans (by rw [rF_end]; rfl)
  | 2, _ => exact ((hq 3 (by decide)).trans h3).trans (by rw [rF_end]; rfl)
  | 3, _ => exact ((hq 4 (by decide)).trans h4).trans (by rw [rF_end]; rfl)
  | 4, _ => exact ((hq 5 (by decide)).trans h5).trans (by rw [rF_end]; rfl)
  | 5, hi =>
    have hi : i < 40 := hi
    have h9 := (hq (6 + 2 * i) (by omega)).trans ((hW i hi).1)
    rw [show 6 + 2 * i + 1 = ad 6 i by show _ = 7 + 2 * i; omega] at h9
    exact h9.trans rfl
  | 6, hi =>
    have hi : i < 40 := hi
    have h9 := (hq (6 + 2 * i + 1) (by omega)).trans ((hW i hi).2)
    rw [show 6 + 2 * i + 1 = ad 6 i by show _ = 7 + 2 * i; omega] at h9
    exact h9.trans rfl
  | 7, hi =>
    have hi : i < 3 := hi
    have h9 := (hq (86 + 9 * i) (by omega)).trans ((hC i hi).1)
    rw [show 86 + 9 * i + 1 = ad 8 i by show _ = 87 + 9 * i; omega] at h9
    rw [show 86 + 9 * i + 2 = ad 9 i by show _ = 88 + 9 * i; omega] at h9
    rw [show 86 + 9 * i + 3 = ad 10 i by show _ = 89 + 9 * i; omega] at h9
    rw [show 86 + 9 * i + 4 = ad 11 i by show _ = 90 + 9 * i; omega] at h9
    exact h9.trans rfl
  | 8, hi =>
    have hi : i < 3 := hi
    have h9 := (hq (86 + 9 * i + 1) (by omega)).trans ((hC i hi).2.1)
    rw [show 86 + 9 * i + 1 = ad 8 i by show _ = 87 + 9 * i; omega] at h9
    exact h9.trans rfl
  | 9, hi =>
    have hi : i < 3 := hi
    have h9 := (hq (86 + 9 * i + 2) (by omega)).trans ((hC i hi).2.2.1)
    rw [show 86 + 9 * i + 2 = ad 9 i by show _ = 88 + 9 * i; omega] at h9
    exact h9.trans rfl
  | 10, hi =>
    have hi : i < 3 := hi
    have h9 := (hq (86 + 9 * i + 3) (by omega)).trans ((hC i hi).2.2.2.1)
    rw [show 86 + 9 * i + 3 = ad 10 i by show _ = 89 + 9 * i; omega] at h9
    exact h9.trans rfl
  | 11, hi =>
    have hi : i < 3 := hi
    have h9 := (hq (86 + 9 * i + 4) (by omega)).trans ((hC i hi).2.2.2.2.1)
    rw [show 86 + 9 * i + 4 = ad 11 i by show _ = 90 + 9 * i; omega, show 86 + 9 * i + 5 = ad 12 (2 * i) by show _ = 91 + 9 * (2 * i / 2) + 2 * (2 * i % 2); omega, show 86 + 9 * i + 7 = ad 12 (2 * i + 1) by show _ = 91 + 9 * ((2 * i + 1) / 2) + 2 * ((2 * i + 1) % 2); omega] at h9
    have ef : (va_up (va_up (fun _ => none) 0 (some (ad 12 (2 * i)))) 1 (some (ad 12 (2 * i + 1))) : Nat → Option Nat) = fun j => [ad 12 (2 * i), ad 12 (2 * i + 1)][j]? := by
      funext j
      match j with
      | 0 => rfl
      | 1 => rfl
      | j + 2 => rfl
    rw [ef] at h9
    exact h9
  | 12, hi =>
    have hi : i < 6 := hi
    rcases Nat.mod_two_eq_zero_or_one i with hm | hm
    · have h9 := (hq (86 + 9 * (i / 2) + 5) (by omega)).trans ((hC (i / 2) (by omega)).2.2.2.2.2.1)
      rw [show 86 + 9 * (i / 2) + 5 = ad 12 i by show _ = 91 + 9 * (i / 2) + 2 * (i % 2); omega, show 86 + 9 * (i / 2) + 6 = ad 13 i by show _ = 92 + 9 * (i / 2) + 2 * (i % 2); omega] at h9
      exact h9.trans rfl
    · have h9 := (hq (86 + 9 * (i / 2) + 7) (by omega)).trans ((hC (i / 2) (by omega)).2.2.2.2.2.2.2.1)
      rw [show 86 + 9 * (i / 2) + 7 = ad 12 i by show _ = 91 + 9 * (i / 2) + 2 * (i % 2); omega, show 86 + 9 * (i / 2) + 8 = ad 13 i by show _ = 92 + 9 * (i / 2) + 2 * (i % 2); omega] at h9
      exact h9.trans rfl
  | 13, hi =>
    have hi : i < 6 := hi
    rcases Nat.mod_two_eq_zero_or_one i with hm | hm
    · have h9 := (hq (86 + 9 * (i / 2) + 6) (by omega)).trans ((hC (i / 2) (by omega)).2.2.2.2.2.2.1)
      rw [show 86 + 9 * (i / 2) + 6 = ad 13 i by show _ = 92 + 9 * (i / 2) + 2 * (i % 2); omega] at h9
      exact h9.trans rfl
    · have h9 := (hq (86 + 9 * (i / 2) + 8) (by omega)).trans ((hC (i / 2) (by omega)).2.2.2.2.2.2.2.2)
      rw [show 86 + 9 * (i / 2) + 8 = ad 13 i by show _ = 92 + 9 * (i / 2) + 2 * (i % 2); omega] at h9
      exact h9.trans rfl
  | 14, hi =>
    have hi : i < 6 := hi
    have h9 := (hq (113 + 4 * i) (by omega)).trans ((hK i hi).1)
    rw [show 113 + 4 * i + 1 = ad 15 i by show _ = 114 + 4 * i; omega] at h9
    rw [show 113 + 4 * i + 2 = ad 16 i by show _ = 115 + 4 * i; omega] at h9
    rw [show 113 + 4 * i + 3 = ad 17 i by show _ = 116 + 4 * i; omega] at h9
    exact h9.trans rfl
  | 15, hi =>
    have hi : i < 6 := hi
    have h9 := (hq (113 + 4 * i + 1) (by omega)).trans ((hK i hi).2.1)
    rw [show 113 + 4 * i + 1 = ad 15 i by show _ = 114 + 4 * i; omega] at h9
    exact h9.trans rfl
  | 16, hi =>
    have hi : i < 6 := hi
    have h9 := (hq (113 + 4 * i + 2) (by omega)).trans ((hK i hi).2.2.1)
    rw [show 113 + 4 * i + 2 = ad 16 i by show _ = 115 + 4 * i; omega] at h9
    exact h9.trans rfl
  | 17, hi =>
    have hi : i < 6 := hi
    have h9 := (hq (113 + 4 * i + 3) (by omega)).trans ((hK i hi).2.2.2)
    rw [show 113 + 4 * i + 3 = ad 17 i by show _ = 116 + 4 * i; omega] at h9
    exact h9.trans rfl
  | 18, hi =>
    have hi : i < 9 := hi
    have h9 := (hq (137 + 2 * i) (by omega)).trans ((hR i hi).1)
    rw [show 137 + 2 * i + 1 = ad 19 i by show _ = 138 + 2 * i; omega] at h9
    exact h9.trans rfl
  | 19, hi =>
    have hi : i < 9 := hi
    have h9 := (hq (137 + 2 * i + 1) (by omega)).trans ((hR i hi).2)
    rw [show 137 + 2 * i + 1 = ad 19 i by show _ = 138 + 2 * i; omega] at h9
    exact h9.trans rfl
  | 20, _ => exact m0
  | 21, _ => exact m1
  | 22, _ => exact m2
  | 23, _ => exact m3
  | 24, _ => exact m4
  | 25, _ => exact m5
  | 26, _ => exact m6
  | 27, _ => exact m7
  | 28, _ => exact m8
  | 29, _ => exact m9
  | 30, _ => exact m10
  | 31, _ => exact m11
  | 32, _ => exact m12
  | 33, _ => exact m13
  | 34, _ => exact m14
  | 35, _ => exact m15
  | 36, _ => exact m16
  | 37, _ => exact m17
  | 38, _ => exact m18
  | t + 39, hi => exact absurd (cnt_lt hi) (by omega)
theorem k_enc {H : oH} (h : ∀ t i, i < cnt t → H.2 (ad t i) = some (oCt (sh t i) (mu0 t i))) : ∀ r c, (oHm mu0).2 r = some c → H.2 r = some c := by
  intro r c hr
  have hr : enc mu0 r = some c := hr
  unfold enc at hr
  cases hn : nm r with
  | none => rw [hn] at hr; cases hr
  | some q =>
    obtain ⟨t, i⟩ := q
    rw [hn] at hr
    have e := nm_some hn
    rw [← e.2, h t i e.1]
    exact hr
theorem L_c0 {nq : String} {G : oG} {mu : oMu} {Q : oPm} {i : Nat} (hN9 : oN G < 2147483648) (hi : i + 4 ≤ oN G) (hRel : Rel mu) (k : ∀ mu2 : oMu, Rel mu2 → Om G (M_Ln nq) 761 [(0, .inr (some 0)), (1, .inr (some (ad 0 0))), (2, .inr (some (ad 20 0))), (3, .inl (nI i))] [] mu2 Q) : Om G (M_Ln nq) 124 [(0, .inr (some 0)), (1, .inr (some (ad 0 0))), (2, .inr (some (ad 20 0))), (3, .inl (nI i))] [] mu Q := by
  refine o_aload_n dL_law_124 rfl ?_
  refine o_aload_n dL_law_125 rfl ?_
  refine o_iload_n dL_law_126 rfl ?_
  refine o_iconst (nI 1) dL_law_127 rfl ?_
  refine o_iadd dL_law_128 ?_
  refine o_sld (i + 1) dL_law_129 hN9 (nI_add i 1) (by omega) ?_
  refine o_aload_n dL_law_130 rfl ?_
  refine o_iload_n dL_law_131 rfl ?_
  refine o_iconst (nI 2) dL_law_132 rfl ?_
  refine o_iadd dL_law_133 ?_
  refine o_sld (i + 2) dL_law_134 hN9 (nI_add i 2) (by omega) ?_
  refine o_aload_n dL_law_135 rfl ?_
  refine o_iload_n dL_law_136 rfl ?_
  refine o_iconst (nI 3) dL_law_137 rfl ?_
  refine o_iadd dL_law_138 ?_
  refine o_sld (i + 3) dL_law_139 hN9 (nI_add i 3) (by omega) ?_
  refine m_callV M_S_put [.inl (oX G (i + 1)), .inl (oX G (i + 2)), .inl (oX G (i + 3))] [] dL_law_140 mk_S_put in_S_put se_S_put rfl (by decide) rfl rfl ml_L_13 rfl rfl rfl (Nat.le_of_ble_eq_true rfl) rfl ?_
  refine P_put hRel _ _ _ (fun z mu1 hn => ?_)
  show Om G (M_Ln nq) 143 [(0, .inr (some 0)), (1, .inr (some (ad 0 0))), (2, .inr (some (ad 20 0))), (3, .inl (nI i))] [.inl z] mu1 Q
  refine o_aload_n dL_law_143 rfl ?_
  refine o_aload_n dL_law_144 rfl ?_
  refine o_iload_n dL_law_145 rfl ?_
  refine o_iconst (nI 1) dL_law_146 rfl ?_
  refine o_iadd dL_law_147 ?_
  refine o_sld (i + 1) dL_law_148 hN9 (nI_add i 1) (by omega) ?_
  refine o_aload_n dL_law_149 rfl ?_
  refine o_iload_n dL_law_150 rfl ?_
  refine o_iconst (nI 2) dL_law_151 rfl ?_
  refine o_iadd dL_law_152 ?_
  refine o_sld (i + 2) dL_law_153 hN9 (nI_add i 2) (by omega) ?_
  refine o_aload_n dL_law_154 rfl ?_
  refine o_iload_n dL_law_155 rfl ?_
  refine o_iconst (nI 3) dL_law_156 rfl ?_
  refine o_iadd dL_law_157 ?_
  refine o_sld (i + 3) dL_law_158 hN9 (nI_add i 3) (by omega) ?_
  refine m_callV M_N_put [.inl (oX G (i + 1)), .inl (oX G (i + 2)), .inl (oX G (i + 3))] [.inl z] dL_law_159 mk_N_put in_N_put se_N_put rfl (by decide) rfl rfl ml_L_17 rfl rfl rfl (Nat.le_of_ble_eq_true rfl) rfl ?_
  refine hn _ (fun mu2 hR2 => ?_)
  show Om G (M_Ln nq) 162 [(0, .inr (some 0)), (1, .inr (some (ad 0 0))), (2, .inr (some (ad 20 0))), (3, .inl (nI i))] [.inl z, .inl z] mu2 Q
  exact o_icmp_eq 761 dL_law_162 rfl (fun _ => k mu2 hR2) (fun h => absurd rfl h)
theorem L_c1 {nq : String} {G : oG} {mu : oMu} {Q : oPm} {i : Nat} (hN9 : oN G < 2147483648) (hi : i + 4 ≤ oN G) (hRel : Rel mu) (k : ∀ mu2 : oMu, Rel mu2 → Om G (M_Ln nq) 761 [(0, .inr (some 0)), (1, .inr (some (ad 0 0))), (2, .inr (some (ad 20 0))), (3, .inl (nI i))] [] mu2 Q) : Om G (M_Ln nq) 167 [(0, .inr (some 0)), (1, .inr (some (ad 0 0))), (2, .inr (some (ad 20 0))), (3, .inl (nI i))] [] mu Q := by
  refine o_aload_n dL_law_167 rfl ?_
  refine o_aload_n dL_law_168 rfl ?_
  refine o_iload_n dL_law_169 rfl ?_
  refine o_iconst (nI 1) dL_law_170 rfl ?_
  refine o_iadd dL_law_171 ?_
  refine o_sld (i + 1) dL_law_172 hN9 (nI_add i 1) (by omega) ?_
  refine o_aload_n dL_law_173 rfl ?_
  refine o_iload_n dL_law_174 rfl ?_
  refine o_iconst (nI 2) dL_law_175 rfl ?_
  refine o_iadd dL_law_176 ?_
  refine o_sld (i + 2) dL_law_177 hN9 (nI_add i 2) (by omega) ?_
  refine m_callV M_S_get [.inl (oX G (i + 1)), .inl (oX G (i + 2))] [] dL_law_178 mk_S_get in_S_get se_S_get rfl (by decide) rfl rfl ml_L_18 rfl rfl rfl (Nat.le_of_ble_eq_true rfl) rfl ?_
  refine P_get hRel _ _ (fun z mu1 hn => ?_)
  show Om G (M_Ln nq) 181 [(0, .inr (some 0)), (1, .inr (some (ad 0 0))), (2, .inr (some (ad 20 0))), (3, .inl (nI i))] [.inl z] mu1 Q
  refine o_aload_n dL_law_181 rfl ?_
  refine o_aload_n dL_law_182 rfl ?_
  refine o_iload_n dL_law_183 rfl ?_
  refine o_iconst (nI 1) dL_law_184 rfl ?_
  refine o_iadd dL_law_185 ?_
  refine o_sld (i + 1) dL_law_186 hN9 (nI_add i 1) (by omega) ?_
  refine o_aload_n dL_law_187 rfl ?_
  refine o_iload_n dL_law_188 rfl ?_
  refine o_iconst (nI 2) dL_law_189 rfl ?_
  refine o_iadd dL_law_190 ?_
  refine o_sld (i + 2) dL_law_191 hN9 (nI_add i 2) (by omega) ?_
  refine m_callV M_N_get [.inl (oX G (i + 1)), .inl (oX G (i + 2))] [.inl z] dL_law_192 mk_N_get in_N_get se_N_get rfl (by decide) rfl rfl ml_L_22 rfl rfl rfl (Nat.le_of_ble_eq_true rfl) rfl ?_
  refine hn _ (fun mu2 hR2 => ?_)
  show Om G (M_Ln nq) 195 [(0, .inr (some 0)), (1, .inr (some (ad 0 0))), (2, .inr (some (ad 20 0))), (3, .inl (nI i))] [.inl z, .inl z] mu2 Q
  exact o_icmp_eq 761 dL_law_195 rfl (fun _ => k mu2 hR2) (fun h => absurd rfl h)
theorem L_c2 {nq : String} {G : oG} {mu : oMu} {Q : oPm} {i : Nat} (hN9 : oN G < 2147483648) (hi : i + 4 ≤ oN G) (hRel : Rel mu) (k : ∀ mu2 : oMu, Rel mu2 → Om G (M_Ln nq) 761 [(0, .inr (some 0)), (1, .inr (some (ad 0 0))), (2, .inr (some (ad 20 0))), (3, .inl (nI i))] [] mu2 Q) : Om G (M_Ln nq) 200 [(0, .inr (some 0)), (1, .inr (some (ad 0 0))), (2, .inr (some (ad 20 0))), (3, .inl (nI i))] [] mu Q := by
  refine o_aload_n dL_law_200 rfl ?_
  refine o_aload_n dL_law_201 rfl ?_
  refine o_iload_n dL_law_202 rfl ?_
  refine o_iconst (nI 1) dL_law_203 rfl ?_
  refine o_iadd dL_law_204 ?_
  refine o_sld (i + 1) dL_law_205 hN9 (nI_add i 1) (by omega) ?_
  refine o_aload_n dL_law_206 rfl ?_
  refine o_iload_n dL_law_207 rfl ?_
  refine o_iconst (nI 2) dL_law_208 rfl ?_
  refine o_iadd dL_law_209 ?_
  refine o_sld (i + 2) dL_law_210 hN9 (nI_add i 2) (by omega) ?_
  refine m_callV M_S_begin [.inl (oX G (i + 1)), .inl (oX G (i + 2))] [] dL_law_211 mk_S_begin in_S_begin se_S_begin rfl (by decide) rfl rfl ml_L_23 rfl rfl rfl (Nat.le_of_ble_eq_true rfl) rfl ?_
  refine P_begin hRel _ _ (fun z mu1 hn => ?_)
  show Om G (M_Ln nq) 214 [(0, .inr (some 0)), (1, .inr (some (ad 0 0))), (2, .inr (some (ad 20 0))), (3, .inl (nI i))] [.inl z] mu1 Q
  refine o_aload_n dL_law_214 rfl ?_
  refine o_aload_n dL_law_215 rfl ?_
  refine o_iload_n dL_law_216 rfl ?_
  refine o_iconst (nI 1) dL_law_217 rfl ?_
  refine o_iadd dL_law_218 ?_
  refine o_sld (i + 1) dL_law_219 hN9 (nI_add i 1) (by omega) ?_
  refine o_aload_n dL_law_220 rfl ?_
  refine o_iload_n dL_law_221 rfl ?_
  refine o_iconst (nI 2) dL_law_222 rfl ?_
  refine o_iadd dL_law_223 ?_
  refine o_sld (i + 2) dL_law_224 hN9 (nI_add i 2) (by omega) ?_
  refine m_callV M_N_begin [.inl (oX G (i + 1)), .inl (oX G (i + 2))] [.inl z] dL_law_225 mk_N_begin in_N_begin se_N_begin rfl (by decide) rfl rfl ml_L_27 rfl rfl rfl (Nat.le_of_ble_eq_true rfl) rfl ?_
  refine hn _ (fun mu2 hR2 => ?_)
  show Om G (M_Ln nq) 228 [(0, .inr (some 0)), (1, .inr (some (ad 0 0))), (2, .inr (some (ad 20 0))), (3, .inl (nI i))] [.inl z, .inl z] mu2 Q
  exact o_icmp_eq 761 dL_law_228 rfl (fun _ => k mu2 hR2) (fun h => absurd rfl h)
theorem L_c3 {nq : String} {G : oG} {mu : oMu} {Q : oPm} {i : Nat} (hN9 : oN G < 2147483648) (hi : i + 4 ≤ oN G) (hRel : Rel mu) (k : ∀ mu2 : oMu, Rel mu2 → Om G (M_Ln nq) 761 [(0, .inr (some 0)), (1, .inr (some (ad 0 0))), (2, .inr (some (ad 20 0))), (3, .inl (nI i))] [] mu2 Q) : Om G (M_Ln nq) 233 [(0, .inr (some 0)), (1, .inr (some (ad 0 0))), (2, .inr (some (ad 20 0))), (3, .inl (nI i))] [] mu Q := by
  refine o_aload_n dL_law_233 rfl ?_
  refine o_aload_n dL_law_234 rfl ?_
  refine o_iload_n dL_law_235 rfl ?_
  refine o_iconst (nI 1) dL_law_236 rfl ?_
  refine o_iadd dL_law_237 ?_
  refine o_sld (i + 1) dL_law_238 hN9 (nI_add i 1) (by omega) ?_
  refine m_callV M_S_read [.inl (oX G (i + 1))] [] dL_law_239 mk_S_read in_S_read se_S_read rfl (by decide) rfl rfl ml_L_28 rfl rfl rfl (Nat.le_of_ble_eq_true rfl) rfl ?_
  refine P_read hRel _ (fun z mu1 hn => ?_)
  show Om G (M_Ln nq) 242 [(0, .inr (some 0)), (1, .inr (some (ad 0 0))), (2, .inr (some (ad 20 0))), (3, .inl (nI i))] [.inl z] mu1 Q
  refine o_aload_n dL_law_242 rfl ?_
  refine o_aload_n dL_law_243 rfl ?_
  refine o_iload_n dL_law_244 rfl ?_
  refine o_iconst (nI 1) dL_law_245 rfl ?_
  refine o_iadd dL_law_246 ?_
  refine o_sld (i + 1) dL_law_247 hN9 (nI_add i 1) (by omega) ?_
  refine m_callV M_N_read [.inl (oX G (i + 1))] [.inl z] dL_law_248 mk_N_read in_N_read se_N_read rfl (by decide) rfl rfl ml_L_32 rfl rfl rfl (Nat.le_of_ble_eq_true rfl) rfl ?_
  refine hn _ (fun mu2 hR2 => ?_)
  show Om G (M_Ln nq) 251 [(0, .inr (some 0)), (1, .inr (some (ad 0 0))), (2, .inr (some (ad 20 0))), (3, .inl (nI i))] [.inl z, .inl z] mu2 Q
  exact o_icmp_eq 761 dL_law_251 rfl (fun _ => k mu2 hR2) (fun h => absurd rfl h)
theorem L_c4 {nq : String} {G : oG} {mu : oMu} {Q : oPm} {i : Nat} (hN9 : oN G < 2147483648) (hi : i + 4 ≤ oN G) (hRel : Rel mu) (k : ∀ mu2 : oMu, Rel mu2 → Om G (M_Ln nq) 761 [(0, .inr (some 0)), (1, .inr (some (ad 0 0))), (2, .inr (some (ad 20 0))), (3, .inl (nI i))] [] mu2 Q) : Om G (M_Ln nq) 256 [(0, .inr (some 0)), (1, .inr (some (ad 0 0))), (2, .inr (some (ad 20 0))), (3, .inl (nI i))] [] mu Q := by
  refine o_aload_n dL_law_256 rfl ?_
  refine o_aload_n dL_law_257 rfl ?_
  refine o_iload_n dL_law_258 rfl ?_
  refine o_iconst (nI 1) dL_law_259 rfl ?_
  refine o_iadd dL_law_260 ?_
  refine o_sld (i + 1) dL_law_261 hN9 (nI_add i 1) (by omega) ?_
  refine o_aload_n dL_law_262 rfl ?_
  refine o_iload_n dL_law_263 rfl ?_
  refine o_iconst (nI 2) dL_law_264 rfl ?_
  refine o_iadd dL_law_265 ?_
  refine o_sld (i + 2) dL_law_266 hN9 (nI_add i 2) (by omega) ?_
  refine m_callV M_S_got [.inl (oX G (i + 1)), .inl (oX G (i + 2))] [] dL_law_267 mk_S_got in_S_got se_S_got rfl (by decide) rfl rfl ml_L_33 rfl rfl rfl (Nat.le_of_ble_eq_true rfl) rfl ?_
  refine P_got hRel _ _ (fun z mu1 hn => ?_)
  show Om G (M_Ln nq) 270 [(0, .inr (some 0)), (1, .inr (some (ad 0 0))), (2, .inr (some (ad 20 0))), (3, .inl (nI i))] [.inl z] mu1 Q
  refine o_aload_n dL_law_270 rfl ?_
  refine o_aload_n dL_law_271 rfl ?_
  refine o_iload_n dL_law_272 rfl ?_
  refine o_iconst (nI 1) dL_law_273 rfl ?_
  refine o_iadd dL_law_274 ?_
  refine o_sld (i + 1) dL_law_275 hN9 (nI_add i 1) (by omega) ?_
  refine o_aload_n dL_law_276 rfl ?_
  refine o_iload_n dL_law_277 rfl ?_
  refine o_iconst (nI 2) dL_law_278 rfl ?_
  refine o_iadd dL_law_279 ?_
  refine o_sld (i + 2) dL_law_280 hN9 (nI_add i 2) (by omega) ?_
  refine m_callV M_N_got [.inl (oX G (i + 1)), .inl (oX G (i + 2))] [.inl z] dL_law_281 mk_N_got in_N_got se_N_got rfl (by decide) rfl rfl ml_L_36 rfl rfl rfl (Nat.le_of_ble_eq_true rfl) rfl ?_
  refine hn _ (fun mu2 hR2 => ?_)
  show Om G (M_Ln nq) 284 [(0, .inr (some 0)), (1, .inr (some (ad 0 0))), (2, .inr (some (ad 20 0))), (3, .inl (nI i))] [.inl z, .inl z] mu2 Q
  exact o_icmp_eq 761 dL_law_284 rfl (fun _ => k mu2 hR2) (fun h => absurd rfl h)
theorem L_c5 {nq : String} {G : oG} {mu : oMu} {Q : oPm} {i : Nat} (hN9 : oN G < 2147483648) (hi : i + 4 ≤ oN G) (hRel : Rel mu) (k : ∀ mu2 : oMu, Rel mu2 → Om G (M_Ln nq) 761 [(0, .inr (some 0)), (1, .inr (some (ad 0 0))), (2, .inr (some (ad 20 0))), (3, .inl (nI i))] [] mu2 Q) : Om G (M_Ln nq) 289 [(0, .inr (some 0)), (1, .inr (some (ad 0 0))), (2, .inr (some (ad 20 0))), (3, .inl (nI i))] [] mu Q := by
  refine o_aload_n dL_law_289 rfl ?_
  refine o_aload_n dL_law_290 rfl ?_
  refine o_iload_n dL_law_291 rfl ?_
  refine o_iconst (nI 1) dL_law_292 rfl ?_
  refine o_iadd dL_law_293 ?_
  refine o_sld (i + 1) dL_law_294 hN9 (nI_add i 1) (by omega) ?_
  refine m_callV M_S_rounds [.inl (oX G (i + 1))] [] dL_law_295 mk_S_rounds in_S_rounds se_S_rounds rfl (by decide) rfl rfl ml_L_37 rfl rfl rfl (Nat.le_of_ble_eq_true rfl) rfl ?_
  refine P_rounds hRel _ (fun z mu1 hn => ?_)
  show Om G (M_Ln nq) 298 [(0, .inr (some 0)), (1, .inr (some (ad 0 0))), (2, .inr (some (ad 20 0))), (3, .inl (nI i))] [.inl z] mu1 Q
  refine o_aload_n dL_law_298 rfl ?_
  refine o_aload_n dL_law_299 rfl ?_
  refine o_iload_n dL_law_300 rfl ?_
  refine o_iconst (nI 1) dL_law_301 rfl ?_
  refine o_iadd dL_law_302 ?_
  refine o_sld (i + 1) dL_law_303 hN9 (nI_add i 1) (by omega) ?_
  refine m_callV M_N_rounds [.inl (oX G (i + 1))] [.inl z] dL_law_304 mk_N_rounds in_N_rounds se_N_rounds rfl (by decide) rfl rfl ml_L_40 rfl rfl rfl (Nat.le_of_ble_eq_true rfl) rfl ?_
  refine hn _ (fun mu2 hR2 => ?_)
  show Om G (M_Ln nq) 307 [(0, .inr (some 0)), (1, .inr (some (ad 0 0))), (2, .inr (some (ad 20 0))), (3, .inl (nI i))] [.inl z, .inl z] mu2 Q
  exact o_icmp_eq 761 dL_law_307 rfl (fun _ => k mu2 hR2) (fun h => absurd rfl h)
theorem L_c6 {nq : String} {G : oG} {mu : oMu} {Q : oPm} {i : Nat} (hN9 : oN G < 2147483648) (hi : i + 4 ≤ oN G) (hRel : Rel mu) (k : ∀ mu2 : oMu, Rel mu2 → Om G (M_Ln nq) 761 [(0, .inr (some 0)), (1, .inr (some (ad 0 0))), (2, .inr (some (ad 20 0))), (3, .inl (nI i))] [] mu2 Q) : Om G (M_Ln nq) 312 [(0, .inr (some 0)), (1, .inr (some (ad 0 0))), (2, .inr (some (ad 20 0))), (3, .inl (nI i))] [] mu Q := by
  refine o_aload_n dL_law_312 rfl ?_
  refine o_aload_n dL_law_313 rfl ?_
  refine o_iload_n dL_law_314 rfl ?_
  refine o_iconst (nI 1) dL_law_315 rfl ?_
  refine o_iadd dL_law_316 ?_
  refine o_sld (i + 1) dL_law_317 hN9 (nI_add i 1) (by omega) ?_
  refine o_aload_n dL_law_318 rfl ?_
  refine o_iload_n dL_law_319 rfl ?_
  refine o_iconst (nI 2) dL_law_320 rfl ?_
  refine o_iadd dL_law_321 ?_
  refine o_sld (i + 2) dL_law_322 hN9 (nI_add i 2) (by omega) ?_
  refine o_aload_n dL_law_323 rfl ?_
  refine o_iload_n dL_law_324 rfl ?_
  refine o_iconst (nI 3) dL_law_325 rfl ?_
  refine o_iadd dL_law_326 ?_
  refine o_sld (i + 3) dL_law_327 hN9 (nI_add i 3) (by omega) ?_
  refine m_callV M_S_deliver [.inl (oX G (i + 1)), .inl (oX G (i + 2)), .inl (oX G (i + 3))] [] dL_law_328 mk_S_deliver in_S_deliver se_S_deliver rfl (by decide) rfl rfl ml_L_41 rfl rfl rfl (Nat.le_of_ble_eq_true rfl) rfl ?_
  refine P_deliver hRel _ _ _ (fun z mu1 hn => ?_)
  show Om G (M_Ln nq) 331 [(0, .inr (some 0)), (1, .inr (some (ad 0 0))), (2, .inr (some (ad 20 0))), (3, .inl (nI i))] [.inl z] mu1 Q
  refine o_aload_n dL_law_331 rfl ?_
  refine o_aload_n dL_law_332 rfl ?_
  refine o_iload_n dL_law_333 rfl ?_
  refine o_iconst (nI 1) dL_law_334 rfl ?_
  refine o_iadd dL_law_335 ?_
  refine o_sld (i + 1) dL_law_336 hN9 (nI_add i 1) (by omega) ?_
  refine o_aload_n dL_law_337 rfl ?_
  refine o_iload_n dL_law_338 rfl ?_
  refine o_iconst (nI 2) dL_law_339 rfl ?_
  refine o_iadd dL_law_340 ?_
  refine o_sld (i + 2) dL_law_341 hN9 (nI_add i 2) (by omega) ?_
  refine o_aload_n dL_law_342 rfl ?_
  refine o_iload_n dL_law_343 rfl ?_
  refine o_iconst (nI 3) dL_law_344 rfl ?_
  refine o_iadd dL_law_345 ?_
  refine o_sld (i + 3) dL_law_346 hN9 (nI_add i 3) (by omega) ?_
  refine m_callV M_N_deliver [.inl (oX G (i + 1)), .inl (oX G (i + 2)), .inl (oX G (i + 3))] [.inl z] dL_law_347 mk_N_deliver in_N_deliver se_N_deliver rfl (by decide) rfl rfl ml_L_45 rfl rfl rfl (Nat.le_of_ble_eq_true rfl) rfl ?_
  refine hn _ (fun mu2 hR2 => ?_)
  show Om G (M_Ln nq) 350 [(0, .inr (some 0)), (1, .inr (some (ad 0 0))), (2, .inr (some (ad 20 0))), (3, .inl (nI i))] [.inl z, .inl z] mu2 Q
  exact o_icmp_eq 761 dL_law_350 rfl (fun _ => k mu2 hR2) (fun h => absurd rfl h)
theorem L_c7 {nq : String} {G : oG} {mu : oMu} {Q : oPm} {i : Nat} (hN9 : oN G < 2147483648) (hi : i + 4 ≤ oN G) (hRel : Rel mu) (k : ∀ mu2 : oMu, Rel mu2 → Om G (M_Ln nq) 761 [(0, .inr (some 0)), (1, .inr (some (ad 0 0))), (2, .inr (some (ad 20 0))), (3, .inl (nI i))] [] mu2 Q) : Om G (M_Ln nq) 355 [(0, .inr (some 0)), (1, .inr (some (ad 0 0))), (2, .inr (some (ad 20 0))), (3, .inl (nI i))] [] mu Q := by
  refine o_aload_n dL_law_355 rfl ?_
  refine o_aload_n dL_law_356 rfl ?_
  refine o_iload_n dL_law_357 rfl ?_
  refine o_iconst (nI 1) dL_law_358 rfl ?_
  refine o_iadd dL_law_359 ?_
  refine o_sld (i + 1) dL_law_360 hN9 (nI_add i 1) (by omega) ?_
  refine o_aload_n dL_law_361 rfl ?_
  refine o_iload_n dL_law_362 rfl ?_
  refine o_iconst (nI 2) dL_law_363 rfl ?_
  refine o_iadd dL_law_364 ?_
  refine o_sld (i + 2) dL_law_365 hN9 (nI_add i 2) (by omega) ?_
  refine m_callV M_S_serve [.inl (oX G (i + 1)), .inl (oX G (i + 2))] [] dL_law_366 mk_S_serve in_S_serve se_S_serve rfl (by decide) rfl rfl ml_L_46 rfl rfl rfl (Nat.le_of_ble_eq_true rfl) rfl ?_
  refine P_serve hRel _ _ (fun z mu1 hn => ?_)
  show Om G (M_Ln nq) 369 [(0, .inr (some 0)), (1, .inr (some (ad 0 0))), (2, .inr (some (ad 20 0))), (3, .inl (nI i))] [.inl z] mu1 Q
  refine o_aload_n dL_law_369 rfl ?_
  refine o_aload_n dL_law_370 rfl ?_
  refine o_iload_n dL_law_371 rfl ?_
  refine o_iconst (nI 1) dL_law_372 rfl ?_
  refine o_iadd dL_law_373 ?_
  refine o_sld (i + 1) dL_law_374 hN9 (nI_add i 1) (by omega) ?_
  refine o_aload_n dL_law_375 rfl ?_
  refine o_iload_n dL_law_376 rfl ?_
  refine o_iconst (nI 2) dL_law_377 rfl ?_
  refine o_iadd dL_law_378 ?_
  refine o_sld (i + 2) dL_law_379 hN9 (nI_add i 2) (by omega) ?_
  refine m_callV M_N_serve [.inl (oX G (i + 1)), .inl (oX G (i + 2))] [.inl z] dL_law_380 mk_N_serve in_N_serve se_N_serve rfl (by decide) rfl rfl ml_L_49 rfl rfl rfl (Nat.le_of_ble_eq_true rfl) rfl ?_
  refine hn _ (fun mu2 hR2 => ?_)
  show Om G (M_Ln nq) 383 [(0, .inr (some 0)), (1, .inr (some (ad 0 0))), (2, .inr (some (ad 20 0))), (3, .inl (nI i))] [.inl z, .inl z] mu2 Q
  exact o_icmp_eq 761 dL_law_383 rfl (fun _ => k mu2 hR2) (fun h => absurd rfl h)
theorem L_c8 {nq : String} {G : oG} {mu : oMu} {Q : oPm} {i : Nat} (hN9 : oN G < 2147483648) (hi : i + 4 ≤ oN G) (hRel : Rel mu) (k : ∀ mu2 : oMu, Rel mu2 → Om G (M_Ln nq) 761 [(0, .inr (some 0)), (1, .inr (some (ad 0 0))), (2, .inr (some (ad 20 0))), (3, .inl (nI i))] [] mu2 Q) : Om G (M_Ln nq) 388 [(0, .inr (some 0)), (1, .inr (some (ad 0 0))), (2, .inr (some (ad 20 0))), (3, .inl (nI i))] [] mu Q := by
  refine o_aload_n dL_law_388 rfl ?_
  refine o_aload_n dL_law_389 rfl ?_
  refine o_iload_n dL_law_390 rfl ?_
  refine o_iconst (nI 1) dL_law_391 rfl ?_
  refine o_iadd dL_law_392 ?_
  refine o_sld (i + 1) dL_law_393 hN9 (nI_add i 1) (by omega) ?_
  refine o_aload_n dL_law_394 rfl ?_
  refine o_iload_n dL_law_395 rfl ?_
  refine o_iconst (nI 2) dL_law_396 rfl ?_
  refine o_iadd dL_law_397 ?_
  refine o_sld (i + 2) dL_law_398 hN9 (nI_add i 2) (by omega) ?_
  refine m_callV M_S_flight [.inl (oX G (i + 1)), .inl (oX G (i + 2))] [] dL_law_399 mk_S_flight in_S_flight se_S_flight rfl (by decide) rfl rfl ml_L_50 rfl rfl rfl (Nat.le_of_ble_eq_true rfl) rfl ?_
  refine P_flight hRel _ _ (fun z mu1 hn => ?_)
  show Om G (M_Ln nq) 402 [(0, .inr (some 0)), (1, .inr (some (ad 0 0))), (2, .inr (some (ad 20 0))), (3, .inl (nI i))] [.inl z] mu1 Q
  refine o_aload_n dL_law_402 rfl ?_
  refine o_aload_n dL_law_403 rfl ?_
  refine o_iload_n dL_law_404 rfl ?_
  refine o_iconst (nI 1) dL_law_405 rfl ?_
  refine o_iadd dL_law_406 ?_
  refine o_sld (i + 1) dL_law_407 hN9 (nI_add i 1) (by omega) ?_
  refine o_aload_n dL_law_408 rfl ?_
  refine o_iload_n dL_law_409 rfl ?_
  refine o_iconst (nI 2) dL_law_410 rfl ?_
  refine o_iadd dL_law_411 ?_
  refine o_sld (i + 2) dL_law_412 hN9 (nI_add i 2) (by omega) ?_
  refine m_callV M_N_flight [.inl (oX G (i + 1)), .inl (oX G (i + 2))] [.inl z] dL_law_413 mk_N_flight in_N_flight se_N_flight rfl (by decide) rfl rfl ml_L_53 rfl rfl rfl (Nat.le_of_ble_eq_true rfl) rfl ?_
  refine hn _ (fun mu2 hR2 => ?_)
  show Om G (M_Ln nq) 416 [(0, .inr (some 0)), (1, .inr (some (ad 0 0))), (2, .inr (some (ad 20 0))), (3, .inl (nI i))] [.inl z, .inl z] mu2 Q
  exact o_icmp_eq 761 dL_law_416 rfl (fun _ => k mu2 hR2) (fun h => absurd rfl h)
theorem L_c9 {nq : String} {G : oG} {mu : oMu} {Q : oPm} {i : Nat} (hN9 : oN G < 2147483648) (hi : i + 4 ≤ oN G) (hRel : Rel mu) (k : ∀ mu2 : oMu, Rel mu2 → Om G (M_Ln nq) 761 [(0, .inr (some 0)), (1, .inr (some (ad 0 0))), (2, .inr (some (ad 20 0))), (3, .inl (nI i))] [] mu2 Q) : Om G (M_Ln nq) 421 [(0, .inr (some 0)), (1, .inr (some (ad 0 0))), (2, .inr (some (ad 20 0))), (3, .inl (nI i))] [] mu Q := by
  refine o_aload_n dL_law_421 rfl ?_
  refine o_aload_n dL_law_422 rfl ?_
  refine o_iload_n dL_law_423 rfl ?_
  refine o_iconst (nI 1) dL_law_424 rfl ?_
  refine o_iadd dL_law_425 ?_
  refine o_sld (i + 1) dL_law_426 hN9 (nI_add i 1) (by omega) ?_
  refine o_aload_n dL_law_427 rfl ?_
  refine o_iload_n dL_law_428 rfl ?_
  refine o_iconst (nI 2) dL_law_429 rfl ?_
  refine o_iadd dL_law_430 ?_
  refine o_sld (i + 2) dL_law_431 hN9 (nI_add i 2) (by omega) ?_
  refine o_aload_n dL_law_432 rfl ?_
  refine o_iload_n dL_law_433 rfl ?_
  refine o_iconst (nI 3) dL_law_434 rfl ?_
  refine o_iadd dL_law_435 ?_
  refine o_sld (i + 3) dL_law_436 hN9 (nI_add i 3) (by omega) ?_
  refine m_callV M_S_sent [.inl (oX G (i + 1)), .inl (oX G (i + 2)), .inl (oX G (i + 3))] [] dL_law_437 mk_S_sent in_S_sent se_S_sent rfl (by decide) rfl rfl ml_L_54 rfl rfl rfl (Nat.le_of_ble_eq_true rfl) rfl ?_
  refine P_sent hRel _ _ _ (fun z mu1 hn => ?_)
  show Om G (M_Ln nq) 440 [(0, .inr (some 0)), (1, .inr (some (ad 0 0))), (2, .inr (some (ad 20 0))), (3, .inl (nI i))] [.inl z] mu1 Q
  refine o_aload_n dL_law_440 rfl ?_
  refine o_aload_n dL_law_441 rfl ?_
  refine o_iload_n dL_law_442 rfl ?_
  refine o_iconst (nI 1) dL_law_443 rfl ?_
  refine o_iadd dL_law_444 ?_
  refine o_sld (i + 1) dL_law_445 hN9 (nI_add i 1) (by omega) ?_
  refine o_aload_n dL_law_446 rfl ?_
  refine o_iload_n dL_law_447 rfl ?_
  refine o_iconst (nI 2) dL_law_448 rfl ?_
  refine o_iadd dL_law_449 ?_
  refine o_sld (i + 2) dL_law_450 hN9 (nI_add i 2) (by omega) ?_
  refine o_aload_n dL_law_451 rfl ?_
  refine o_iload_n dL_law_452 rfl ?_
  refine o_iconst (nI 3) dL_law_453 rfl ?_
  refine o_iadd dL_law_454 ?_
  refine o_sld (i + 3) dL_law_455 hN9 (nI_add i 3) (by omega) ?_
  refine m_callV M_N_sent [.inl (oX G (i + 1)), .inl (oX G (i + 2)), .inl (oX G (i + 3))] [.inl z] dL_law_456 mk_N_sent in_N_sent se_N_sent rfl (by decide) rfl rfl ml_L_57 rfl rfl rfl (Nat.le_of_ble_eq_true rfl) rfl ?_
  refine hn _ (fun mu2 hR2 => ?_)
  show Om G (M_Ln nq) 459 [(0, .inr (some 0)), (1, .inr (some (ad 0 0))), (2, .inr (some (ad 20 0))), (3, .inl (nI i))] [.inl z, .inl z] mu2 Q
  exact o_icmp_eq 761 dL_law_459 rfl (fun _ => k mu2 hR2) (fun h => absurd rfl h)
theorem L_c10 {nq : String} {G : oG} {mu : oMu} {Q : oPm} {i : Nat} (hN9 : oN G < 2147483648) (hi : i + 4 ≤ oN G) (hRel : Rel mu) (k : ∀ mu2 : oMu, Rel mu2 → Om G (M_Ln nq) 761 [(0, .inr (some 0)), (1, .inr (some (ad 0 0))), (2, .inr (some (ad 20 0))), (3, .inl (nI i))] [] mu2 Q) : Om G (M_Ln nq) 464 [(0, .inr (some 0)), (1, .inr (some (ad 0 0))), (2, .inr (some (ad 20 0))), (3, .inl (nI i))] [] mu Q := by
  refine o_aload_n dL_law_464 rfl ?_
  refine o_aload_n dL_law_465 rfl ?_
  refine o_iload_n dL_law_466 rfl ?_
  refine o_iconst (nI 1) dL_law_467 rfl ?_
  refine o_iadd dL_law_468 ?_
  refine o_sld (i + 1) dL_law_469 hN9 (nI_add i 1) (by omega) ?_
  refine o_aload_n dL_law_470 rfl ?_
  refine o_iload_n dL_law_471 rfl ?_
  refine o_iconst (nI 2) dL_law_472 rfl ?_
  refine o_iadd dL_law_473 ?_
  refine o_sld (i + 2) dL_law_474 hN9 (nI_add i 2) (by omega) ?_
  refine m_callV M_S_pending [.inl (oX G (i + 1)), .inl (oX G (i + 2))] [] dL_law_475 mk_S_pending in_S_pending se_S_pending rfl (by decide) rfl rfl ml_L_58 rfl rfl rfl (Nat.le_of_ble_eq_true rfl) rfl ?_
  refine P_pending hRel _ _ (fun z mu1 hn => ?_)
  show Om G (M_Ln nq) 478 [(0, .inr (some 0)), (1, .inr (some (ad 0 0))), (2, .inr (some (ad 20 0))), (3, .inl (nI i))] [.inl z] mu1 Q
  refine o_aload_n dL_law_478 rfl ?_
  refine o_aload_n dL_law_479 rfl ?_
  refine o_iload_n dL_law_480 rfl ?_
  refine o_iconst (nI 1) dL_law_481 rfl ?_
  refine o_iadd dL_law_482 ?_
  refine o_sld (i + 1) dL_law_483 hN9 (nI_add i 1) (by omega) ?_
  refine o_aload_n dL_law_484 rfl ?_
  refine o_iload_n dL_law_485 rfl ?_
  refine o_iconst (nI 2) dL_law_486 rfl ?_
  refine o_iadd dL_law_487 ?_
  refine o_sld (i + 2) dL_law_488 hN9 (nI_add i 2) (by omega) ?_
  refine m_callV M_N_pending [.inl (oX G (i + 1)), .inl (oX G (i + 2))] [.inl z] dL_law_489 mk_N_pending in_N_pending se_N_pending rfl (by decide) rfl rfl ml_L_61 rfl rfl rfl (Nat.le_of_ble_eq_true rfl) rfl ?_
  refine hn _ (fun mu2 hR2 => ?_)
  show Om G (M_Ln nq) 492 [(0, .inr (some 0)), (1, .inr (some (ad 0 0))), (2, .inr (some (ad 20 0))), (3, .inl (nI i))] [.inl z, .inl z] mu2 Q
  exact o_icmp_eq 761 dL_law_492 rfl (fun _ => k mu2 hR2) (fun h => absurd rfl h)
theorem L_c11 {nq : String} {G : oG} {mu : oMu} {Q : oPm} {i : Nat} (hN9 : oN G < 2147483648) (hi : i + 4 ≤ oN G) (hRel : Rel mu) (k : ∀ mu2 : oMu, Rel mu2 → Om G (M_Ln nq) 761 [(0, .inr (some 0)), (1, .inr (some (ad 0 0))), (2, .inr (some (ad 20 0))), (3, .inl (nI i))] [] mu2 Q) : Om G (M_Ln nq) 497 [(0, .inr (some 0)), (1, .inr (some (ad 0 0))), (2, .inr (some (ad 20 0))), (3, .inl (nI i))] [] mu Q := by
  refine o_aload_n dL_law_497 rfl ?_
  refine o_aload_n dL_law_498 rfl ?_
  refine o_iload_n dL_law_499 rfl ?_
  refine o_iconst (nI 1) dL_law_500 rfl ?_
  refine o_iadd dL_law_501 ?_
  refine o_sld (i + 1) dL_law_502 hN9 (nI_add i 1) (by omega) ?_
  refine o_aload_n dL_law_503 rfl ?_
  refine o_iload_n dL_law_504 rfl ?_
  refine o_iconst (nI 2) dL_law_505 rfl ?_
  refine o_iadd dL_law_506 ?_
  refine o_sld (i + 2) dL_law_507 hN9 (nI_add i 2) (by omega) ?_
  refine o_aload_n dL_law_508 rfl ?_
  refine o_iload_n dL_law_509 rfl ?_
  refine o_iconst (nI 3) dL_law_510 rfl ?_
  refine o_iadd dL_law_511 ?_
  refine o_sld (i + 3) dL_law_512 hN9 (nI_add i 3) (by omega) ?_
  refine m_callV M_S_lacks [.inl (oX G (i + 1)), .inl (oX G (i + 2)), .inl (oX G (i + 3))] [] dL_law_513 mk_S_lacks in_S_lacks se_S_lacks rfl (by decide) rfl rfl ml_L_62 rfl rfl rfl (Nat.le_of_ble_eq_true rfl) rfl ?_
  refine P_lacks hRel _ _ _ (fun z mu1 hn => ?_)
  show Om G (M_Ln nq) 516 [(0, .inr (some 0)), (1, .inr (some (ad 0 0))), (2, .inr (some (ad 20 0))), (3, .inl (nI i))] [.inl z] mu1 Q
  refine o_aload_n dL_law_516 rfl ?_
  refine o_aload_n dL_law_517 rfl ?_
  refine o_iload_n dL_law_518 rfl ?_
  refine o_iconst (nI 1) dL_law_519 rfl ?_
  refine o_iadd dL_law_520 ?_
  refine o_sld (i + 1) dL_law_521 hN9 (nI_add i 1) (by omega) ?_
  refine o_aload_n dL_law_522 rfl ?_
  refine o_iload_n dL_law_523 rfl ?_
  refine o_iconst (nI 2) dL_law_524 rfl ?_
  refine o_iadd dL_law_525 ?_
  refine o_sld (i + 2) dL_law_526 hN9 (nI_add i 2) (by omega) ?_
  refine o_aload_n dL_law_527 rfl ?_
  refine o_iload_n dL_law_528 rfl ?_
  refine o_iconst (nI 3) dL_law_529 rfl ?_
  refine o_iadd dL_law_530 ?_
  refine o_sld (i + 3) dL_law_531 hN9 (nI_add i 3) (by omega) ?_
  refine m_callV M_N_lacks [.inl (oX G (i + 1)), .inl (oX G (i + 2)), .inl (oX G (i + 3))] [.inl z] dL_law_532 mk_N_lacks in_N_lacks se_N_lacks rfl (by decide) rfl rfl ml_L_65 rfl rfl rfl (Nat.le_of_ble_eq_true rfl) rfl ?_
  refine hn _ (fun mu2 hR2 => ?_)
  show Om G (M_Ln nq) 535 [(0, .inr (some 0)), (1, .inr (some (ad 0 0))), (2, .inr (some (ad 20 0))), (3, .inl (nI i))] [.inl z, .inl z] mu2 Q
  exact o_icmp_eq 761 dL_law_535 rfl (fun _ => k mu2 hR2) (fun h => absurd rfl h)
theorem L_c12 {nq : String} {G : oG} {mu : oMu} {Q : oPm} {i : Nat} (hN9 : oN G < 2147483648) (hi : i + 4 ≤ oN G) (hRel : Rel mu) (k : ∀ mu2 : oMu, Rel mu2 → Om G (M_Ln nq) 761 [(0, .inr (some 0)), (1, .inr (some (ad 0 0))), (2, .inr (some (ad 20 0))), (3, .inl (nI i))] [] mu2 Q) : Om G (M_Ln nq) 540 [(0, .inr (some 0)), (1, .inr (some (ad 0 0))), (2, .inr (some (ad 20 0))), (3, .inl (nI i))] [] mu Q := by
  refine o_aload_n dL_law_540 rfl ?_
  refine o_aload_n dL_law_541 rfl ?_
  refine o_iload_n dL_law_542 rfl ?_
  refine o_iconst (nI 1) dL_law_543 rfl ?_
  refine o_iadd dL_law_544 ?_
  refine o_sld (i + 1) dL_law_545 hN9 (nI_add i 1) (by omega) ?_
  refine o_aload_n dL_law_546 rfl ?_
  refine o_iload_n dL_law_547 rfl ?_
  refine o_iconst (nI 2) dL_law_548 rfl ?_
  refine o_iadd dL_law_549 ?_
  refine o_sld (i + 2) dL_law_550 hN9 (nI_add i 2) (by omega) ?_
  refine m_callV M_S_latest [.inl (oX G (i + 1)), .inl (oX G (i + 2))] [] dL_law_551 mk_S_latest in_S_latest se_S_latest rfl (by decide) rfl rfl ml_L_66 rfl rfl rfl (Nat.le_of_ble_eq_true rfl) rfl ?_
  refine P_latest hRel _ _ (fun z mu1 hn => ?_)
  show Om G (M_Ln nq) 554 [(0, .inr (some 0)), (1, .inr (some (ad 0 0))), (2, .inr (some (ad 20 0))), (3, .inl (nI i))] [.inl z] mu1 Q
  refine o_aload_n dL_law_554 rfl ?_
  refine o_aload_n dL_law_555 rfl ?_
  refine o_iload_n dL_law_556 rfl ?_
  refine o_iconst (nI 1) dL_law_557 rfl ?_
  refine o_iadd dL_law_558 ?_
  refine o_sld (i + 1) dL_law_559 hN9 (nI_add i 1) (by omega) ?_
  refine o_aload_n dL_law_560 rfl ?_
  refine o_iload_n dL_law_561 rfl ?_
  refine o_iconst (nI 2) dL_law_562 rfl ?_
  refine o_iadd dL_law_563 ?_
  refine o_sld (i + 2) dL_law_564 hN9 (nI_add i 2) (by omega) ?_
  refine m_callV M_N_latest [.inl (oX G (i + 1)), .inl (oX G (i + 2))] [.inl z] dL_law_565 mk_N_latest in_N_latest se_N_latest rfl (by decide) rfl rfl ml_L_69 rfl rfl rfl (Nat.le_of_ble_eq_true rfl) rfl ?_
  refine hn _ (fun mu2 hR2 => ?_)
  show Om G (M_Ln nq) 568 [(0, .inr (some 0)), (1, .inr (some (ad 0 0))), (2, .inr (some (ad 20 0))), (3, .inl (nI i))] [.inl z, .inl z] mu2 Q
  exact o_icmp_eq 761 dL_law_568 rfl (fun _ => k mu2 hR2) (fun h => absurd rfl h)
theorem L_c13 {nq : String} {G : oG} {mu : oMu} {Q : oPm} {i : Nat} (hN9 : oN G < 2147483648) (hi : i + 4 ≤ oN G) (hRel : Rel mu) (k : ∀ mu2 : oMu, Rel mu2 → Om G (M_Ln nq) 761 [(0, .inr (some 0)), (1, .inr (some (ad 0 0))), (2, .inr (some (ad 20 0))), (3, .inl (nI i))] [] mu2 Q) : Om G (M_Ln nq) 573 [(0, .inr (some 0)), (1, .inr (some (ad 0 0))), (2, .inr (some (ad 20 0))), (3, .inl (nI i))] [] mu Q := by
  refine o_aload_n dL_law_573 rfl ?_
  refine o_aload_n dL_law_574 rfl ?_
  refine o_iload_n dL_law_575 rfl ?_
  refine o_iconst (nI 1) dL_law_576 rfl ?_
  refine o_iadd dL_law_577 ?_
  refine o_sld (i + 1) dL_law_578 hN9 (nI_add i 1) (by omega) ?_
  refine o_aload_n dL_law_579 rfl ?_
  refine o_iload_n dL_law_580 rfl ?_
  refine o_iconst (nI 2) dL_law_581 rfl ?_
  refine o_iadd dL_law_582 ?_
  refine o_sld (i + 2) dL_law_583 hN9 (nI_add i 2) (by omega) ?_
  refine m_callV M_S_visible [.inl (oX G (i + 1)), .inl (oX G (i + 2))] [] dL_law_584 mk_S_visible in_S_visible se_S_visible rfl (by decide) rfl rfl ml_L_70 rfl rfl rfl (Nat.le_of_ble_eq_true rfl) rfl ?_
  refine P_visible hRel _ _ (fun z mu1 hn => ?_)
  show Om G (M_Ln nq) 587 [(0, .inr (some 0)), (1, .inr (some (ad 0 0))), (2, .inr (some (ad 20 0))), (3, .inl (nI i))] [.inl z] mu1 Q
  refine o_aload_n dL_law_587 rfl ?_
  refine o_aload_n dL_law_588 rfl ?_
  refine o_iload_n dL_law_589 rfl ?_
  refine o_iconst (nI 1) dL_law_590 rfl ?_
  refine o_iadd dL_law_591 ?_
  refine o_sld (i + 1) dL_law_592 hN9 (nI_add i 1) (by omega) ?_
  refine o_aload_n dL_law_593 rfl ?_
  refine o_iload_n dL_law_594 rfl ?_
  refine o_iconst (nI 2) dL_law_595 rfl ?_
  refine o_iadd dL_law_596 ?_
  refine o_sld (i + 2) dL_law_597 hN9 (nI_add i 2) (by omega) ?_
  refine m_callV M_N_visible [.inl (oX G (i + 1)), .inl (oX G (i + 2))] [.inl z] dL_law_598 mk_N_visible in_N_visible se_N_visible rfl (by decide) rfl rfl ml_L_73 rfl rfl rfl (Nat.le_of_ble_eq_true rfl) rfl ?_
  refine hn _ (fun mu2 hR2 => ?_)
  show Om G (M_Ln nq) 601 [(0, .inr (some 0)), (1, .inr (some (ad 0 0))), (2, .inr (some (ad 20 0))), (3, .inl (nI i))] [.inl z, .inl z] mu2 Q
  exact o_icmp_eq 761 dL_law_601 rfl (fun _ => k mu2 hR2) (fun h => absurd rfl h)
theorem L_c14 {nq : String} {G : oG} {mu : oMu} {Q : oPm} {i : Nat} (hN9 : oN G < 2147483648) (hi : i + 4 ≤ oN G) (hRel : Rel mu) (k : ∀ mu2 : oMu, Rel mu2 → Om G (M_Ln nq) 761 [(0, .inr (some 0)), (1, .inr (some (ad 0 0))), (2, .inr (some (ad 20 0))), (3, .inl (nI i))] [] mu2 Q) : Om G (M_Ln nq) 606 [(0, .inr (some 0)), (1, .inr (some (ad 0 0))), (2, .inr (some (ad 20 0))), (3, .inl (nI i))] [] mu Q := by
  refine o_aload_n dL_law_606 rfl ?_
  refine o_aload_n dL_law_607 rfl ?_
  refine o_iload_n dL_law_608 rfl ?_
  refine o_iconst (nI 1) dL_law_609 rfl ?_
  refine o_iadd dL_law_610 ?_
  refine o_sld (i + 1) dL_law_611 hN9 (nI_add i 1) (by omega) ?_
  refine o_aload_n dL_law_612 rfl ?_
  refine o_iload_n dL_law_613 rfl ?_
  refine o_iconst (nI 2) dL_law_614 rfl ?_
  refine o_iadd dL_law_615 ?_
  refine o_sld (i + 2) dL_law_616 hN9 (nI_add i 2) (by omega) ?_
  refine m_callV M_S_clock [.inl (oX G (i + 1)), .inl (oX G (i + 2))] [] dL_law_617 mk_S_clock in_S_clock se_S_clock rfl (by decide) rfl rfl ml_L_74 rfl rfl rfl (Nat.le_of_ble_eq_true rfl) rfl ?_
  refine P_clock hRel _ _ (fun z mu1 hn => ?_)
  show Om G (M_Ln nq) 620 [(0, .inr (some 0)), (1, .inr (some (ad 0 0))), (2, .inr (some (ad 20 0))), (3, .inl (nI i))] [.inl z] mu1 Q
  refine o_aload_n dL_law_620 rfl ?_
  refine o_aload_n dL_law_621 rfl ?_
  refine o_iload_n dL_law_622 rfl ?_
  refine o_iconst (nI 1) dL_law_623 rfl ?_
  refine o_iadd dL_law_624 ?_
  refine o_sld (i + 1) dL_law_625 hN9 (nI_add i 1) (by omega) ?_
  refine o_aload_n dL_law_626 rfl ?_
  refine o_iload_n dL_law_627 rfl ?_
  refine o_iconst (nI 2) dL_law_628 rfl ?_
  refine o_iadd dL_law_629 ?_
  refine o_sld (i + 2) dL_law_630 hN9 (nI_add i 2) (by omega) ?_
  refine m_callV M_N_clock [.inl (oX G (i + 1)), .inl (oX G (i + 2))] [.inl z] dL_law_631 mk_N_clock in_N_clock se_N_clock rfl (by decide) rfl rfl ml_L_77 rfl rfl rfl (Nat.le_of_ble_eq_true rfl) rfl ?_
  refine hn _ (fun mu2 hR2 => ?_)
  show Om G (M_Ln nq) 634 [(0, .inr (some 0)), (1, .inr (some (ad 0 0))), (2, .inr (some (ad 20 0))), (3, .inl (nI i))] [.inl z, .inl z] mu2 Q
  exact o_icmp_eq 761 dL_law_634 rfl (fun _ => k mu2 hR2) (fun h => absurd rfl h)
theorem L_c15 {nq : String} {G : oG} {mu : oMu} {Q : oPm} {i : Nat} (hN9 : oN G < 2147483648) (hi : i + 4 ≤ oN G) (hRel : Rel mu) (k : ∀ mu2 : oMu, Rel mu2 → Om G (M_Ln nq) 761 [(0, .inr (some 0)), (1, .inr (some (ad 0 0))), (2, .inr (some (ad 20 0))), (3, .inl (nI i))] [] mu2 Q) : Om G (M_Ln nq) 639 [(0, .inr (some 0)), (1, .inr (some (ad 0 0))), (2, .inr (some (ad 20 0))), (3, .inl (nI i))] [] mu Q := by
  refine o_aload_n dL_law_639 rfl ?_
  refine o_aload_n dL_law_640 rfl ?_
  refine o_iload_n dL_law_641 rfl ?_
  refine o_iconst (nI 1) dL_law_642 rfl ?_
  refine o_iadd dL_law_643 ?_
  refine o_sld (i + 1) dL_law_644 hN9 (nI_add i 1) (by omega) ?_
  refine o_aload_n dL_law_645 rfl ?_
  refine o_iload_n dL_law_646 rfl ?_
  refine o_iconst (nI 2) dL_law_647 rfl ?_
  refine o_iadd dL_law_648 ?_
  refine o_sld (i + 2) dL_law_649 hN9 (nI_add i 2) (by omega) ?_
  refine m_callV M_S_context [.inl (oX G (i + 1)), .inl (oX G (i + 2))] [] dL_law_650 mk_S_context in_S_context se_S_context rfl (by decide) rfl rfl ml_L_78 rfl rfl rfl (Nat.le_of_ble_eq_true rfl) rfl ?_
  refine P_context hRel _ _ (fun z mu1 hn => ?_)
  show Om G (M_Ln nq) 653 [(0, .inr (some 0)), (1, .inr (some (ad 0 0))), (2, .inr (some (ad 20 0))), (3, .inl (nI i))] [.inl z] mu1 Q
  refine o_aload_n dL_law_653 rfl ?_
  refine o_aload_n dL_law_654 rfl ?_
  refine o_iload_n dL_law_655 rfl ?_
  refine o_iconst (nI 1) dL_law_656 rfl ?_
  refine o_iadd dL_law_657 ?_
  refine o_sld (i + 1) dL_law_658 hN9 (nI_add i 1) (by omega) ?_
  refine o_aload_n dL_law_659 rfl ?_
  refine o_iload_n dL_law_660 rfl ?_
  refine o_iconst (nI 2) dL_law_661 rfl ?_
  refine o_iadd dL_law_662 ?_
  refine o_sld (i + 2) dL_law_663 hN9 (nI_add i 2) (by omega) ?_
  refine m_callV M_N_context [.inl (oX G (i + 1)), .inl (oX G (i + 2))] [.inl z] dL_law_664 mk_N_context in_N_context se_N_context rfl (by decide) rfl rfl ml_L_81 rfl rfl rfl (Nat.le_of_ble_eq_true rfl) rfl ?_
  refine hn _ (fun mu2 hR2 => ?_)
  show Om G (M_Ln nq) 667 [(0, .inr (some 0)), (1, .inr (some (ad 0 0))), (2, .inr (some (ad 20 0))), (3, .inl (nI i))] [.inl z, .inl z] mu2 Q
  exact o_icmp_eq 761 dL_law_667 rfl (fun _ => k mu2 hR2) (fun h => absurd rfl h)
theorem L_c16 {nq : String} {G : oG} {mu : oMu} {Q : oPm} {i : Nat} (hN9 : oN G < 2147483648) (hi : i + 4 ≤ oN G) (hRel : Rel mu) (k : ∀ mu2 : oMu, Rel mu2 → Om G (M_Ln nq) 761 [(0, .inr (some 0)), (1, .inr (some (ad 0 0))), (2, .inr (some (ad 20 0))), (3, .inl (nI i))] [] mu2 Q) : Om G (M_Ln nq) 672 [(0, .inr (some 0)), (1, .inr (some (ad 0 0))), (2, .inr (some (ad 20 0))), (3, .inl (nI i))] [] mu Q := by
  refine o_aload_n dL_law_672 rfl ?_
  refine o_aload_n dL_law_673 rfl ?_
  refine o_iload_n dL_law_674 rfl ?_
  refine o_iconst (nI 1) dL_law_675 rfl ?_
  refine o_iadd dL_law_676 ?_
  refine o_sld (i + 1) dL_law_677 hN9 (nI_add i 1) (by omega) ?_
  refine m_callV M_S_nearest [.inl (oX G (i + 1))] [] dL_law_678 mk_S_nearest in_S_nearest se_S_nearest rfl (by decide) rfl rfl ml_L_82 rfl rfl rfl (Nat.le_of_ble_eq_true rfl) rfl ?_
  refine P_nearest hRel _ (fun z mu1 hn => ?_)
  show Om G (M_Ln nq) 681 [(0, .inr (some 0)), (1, .inr (some (ad 0 0))), (2, .inr (some (ad 20 0))), (3, .inl (nI i))] [.inl z] mu1 Q
  refine o_aload_n dL_law_681 rfl ?_
  refine o_aload_n dL_law_682 rfl ?_
  refine o_iload_n dL_law_683 rfl ?_
  refine o_iconst (nI 1) dL_law_684 rfl ?_
  refine o_iadd dL_law_685 ?_
  refine o_sld (i + 1) dL_law_686 hN9 (nI_add i 1) (by omega) ?_
  refine m_callV M_N_nearest [.inl (oX G (i + 1))] [.inl z] dL_law_687 mk_N_nearest in_N_nearest se_N_nearest rfl (by decide) rfl rfl ml_L_85 rfl rfl rfl (Nat.le_of_ble_eq_true rfl) rfl ?_
  refine hn _ (fun mu2 hR2 => ?_)
  show Om G (M_Ln nq) 690 [(0, .inr (some 0)), (1, .inr (some (ad 0 0))), (2, .inr (some (ad 20 0))), (3, .inl (nI i))] [.inl z, .inl z] mu2 Q
  exact o_icmp_eq 761 dL_law_690 rfl (fun _ => k mu2 hR2) (fun h => absurd rfl h)
theorem L_c17 {nq : String} {G : oG} {mu : oMu} {Q : oPm} {i : Nat} (hN9 : oN G < 2147483648) (hi : i + 4 ≤ oN G) (hRel : Rel mu) (k : ∀ mu2 : oMu, Rel mu2 → Om G (M_Ln nq) 761 [(0, .inr (some 0)), (1, .inr (some (ad 0 0))), (2, .inr (some (ad 20 0))), (3, .inl (nI i))] [] mu2 Q) : Om G (M_Ln nq) 695 [(0, .inr (some 0)), (1, .inr (some (ad 0 0))), (2, .inr (some (ad 20 0))), (3, .inl (nI i))] [] mu Q := by
  refine o_aload_n dL_law_695 rfl ?_
  refine o_aload_n dL_law_696 rfl ?_
  refine o_iload_n dL_law_697 rfl ?_
  refine o_iconst (nI 1) dL_law_698 rfl ?_
  refine o_iadd dL_law_699 ?_
  refine o_sld (i + 1) dL_law_700 hN9 (nI_add i 1) (by omega) ?_
  refine o_aload_n dL_law_701 rfl ?_
  refine o_iload_n dL_law_702 rfl ?_
  refine o_iconst (nI 2) dL_law_703 rfl ?_
  refine o_iadd dL_law_704 ?_
  refine o_sld (i + 2) dL_law_705 hN9 (nI_add i 2) (by omega) ?_
  refine m_callV M_S_about [.inl (oX G (i + 1)), .inl (oX G (i + 2))] [] dL_law_706 mk_S_about in_S_about se_S_about rfl (by decide) rfl rfl ml_L_86 rfl rfl rfl (Nat.le_of_ble_eq_true rfl) rfl ?_
  refine P_about hRel _ _ (fun z mu1 hn => ?_)
  show Om G (M_Ln nq) 709 [(0, .inr (some 0)), (1, .inr (some (ad 0 0))), (2, .inr (some (ad 20 0))), (3, .inl (nI i))] [.inl z] mu1 Q
  refine o_aload_n dL_law_709 rfl ?_
  refine o_aload_n dL_law_710 rfl ?_
  refine o_iload_n dL_law_711 rfl ?_
  refine o_iconst (nI 1) dL_law_712 rfl ?_
  refine o_iadd dL_law_713 ?_
  refine o_sld (i + 1) dL_law_714 hN9 (nI_add i 1) (by omega) ?_
  refine o_aload_n dL_law_715 rfl ?_
  refine o_iload_n dL_law_716 rfl ?_
  refine o_iconst (nI 2) dL_law_717 rfl ?_
  refine o_iadd dL_law_718 ?_
  refine o_sld (i + 2) dL_law_719 hN9 (nI_add i 2) (by omega) ?_
  refine m_callV M_N_about [.inl (oX G (i + 1)), .inl (oX G (i + 2))] [.inl z] dL_law_720 mk_N_about in_N_about se_N_about rfl (by decide) rfl rfl ml_L_89 rfl rfl rfl (Nat.le_of_ble_eq_true rfl) rfl ?_
  refine hn _ (fun mu2 hR2 => ?_)
  show Om G (M_Ln nq) 723 [(0, .inr (some 0)), (1, .inr (some (ad 0 0))), (2, .inr (some (ad 20 0))), (3, .inl (nI i))] [.inl z, .inl z] mu2 Q
  exact o_icmp_eq 761 dL_law_723 rfl (fun _ => k mu2 hR2) (fun h => absurd rfl h)
theorem L_c18 {nq : String} {G : oG} {mu : oMu} {Q : oPm} {i : Nat} (hN9 : oN G < 2147483648) (hi : i + 4 ≤ oN G) (hRel : Rel mu) (k : ∀ mu2 : oMu, Rel mu2 → Om G (M_Ln nq) 761 [(0, .inr (some 0)), (1, .inr (some (ad 0 0))), (2, .inr (some (ad 20 0))), (3, .inl (nI i))] [] mu2 Q) : Om G (M_Ln nq) 728 [(0, .inr (some 0)), (1, .inr (some (ad 0 0))), (2, .inr (some (ad 20 0))), (3, .inl (nI i))] [] mu Q := by
  refine o_aload_n dL_law_728 rfl ?_
  refine o_aload_n dL_law_729 rfl ?_
  refine o_iload_n dL_law_730 rfl ?_
  refine o_iconst (nI 1) dL_law_731 rfl ?_
  refine o_iadd dL_law_732 ?_
  refine o_sld (i + 1) dL_law_733 hN9 (nI_add i 1) (by omega) ?_
  refine o_aload_n dL_law_734 rfl ?_
  refine o_iload_n dL_law_735 rfl ?_
  refine o_iconst (nI 2) dL_law_736 rfl ?_
  refine o_iadd dL_law_737 ?_
  refine o_sld (i + 2) dL_law_738 hN9 (nI_add i 2) (by omega) ?_
  refine m_callV M_S_dependency [.inl (oX G (i + 1)), .inl (oX G (i + 2))] [] dL_law_739 mk_S_dependency in_S_dependency se_S_dependency rfl (by decide) rfl rfl ml_L_90 rfl rfl rfl (Nat.le_of_ble_eq_true rfl) rfl ?_
  refine P_dependency hRel _ _ (fun z mu1 hn => ?_)
  show Om G (M_Ln nq) 742 [(0, .inr (some 0)), (1, .inr (some (ad 0 0))), (2, .inr (some (ad 20 0))), (3, .inl (nI i))] [.inl z] mu1 Q
  refine o_aload_n dL_law_742 rfl ?_
  refine o_aload_n dL_law_743 rfl ?_
  refine o_iload_n dL_law_744 rfl ?_
  refine o_iconst (nI 1) dL_law_745 rfl ?_
  refine o_iadd dL_law_746 ?_
  refine o_sld (i + 1) dL_law_747 hN9 (nI_add i 1) (by omega) ?_
  refine o_aload_n dL_law_748 rfl ?_
  refine o_iload_n dL_law_749 rfl ?_
  refine o_iconst (nI 2) dL_law_750 rfl ?_
  refine o_iadd dL_law_751 ?_
  refine o_sld (i + 2) dL_law_752 hN9 (nI_add i 2) (by omega) ?_
  refine m_callV M_N_dependency [.inl (oX G (i + 1)), .inl (oX G (i + 2))] [.inl z] dL_law_753 mk_N_dependency in_N_dependency se_N_dependency rfl (by decide) rfl rfl ml_L_93 rfl rfl rfl (Nat.le_of_ble_eq_true rfl) rfl ?_
  refine hn _ (fun mu2 hR2 => ?_)
  show Om G (M_Ln nq) 756 [(0, .inr (some 0)), (1, .inr (some (ad 0 0))), (2, .inr (some (ad 20 0))), (3, .inl (nI i))] [.inl z, .inl z] mu2 Q
  exact o_icmp_eq 761 dL_law_756 rfl (fun _ => k mu2 hR2) (fun h => absurd rfl h)
theorem L_loop {nq : String} {G : oG} {Q : oPm} (hN : oN G ≤ 2048) (hQ : ∀ mu : oMu, Q (some (.inl 1)) mu) : ∀ (t i : Nat) (mu : oMu), oN G ≤ i + t → i ≤ 2048 → Rel mu → Om G (M_Ln nq) 18 [(0, .inr (some 0)), (1, .inr (some (ad 0 0))), (2, .inr (some (ad 20 0))), (3, .inl (nI i))] [] mu Q := by
  have hN9 : oN G < 2147483648 := by omega
  have h9 : ∀ (i : Nat) (mu : oMu), i ≤ 2048 → (i + 4 ≤ oN G → Om G (M_Ln nq) 26 [(0, .inr (some 0)), (1, .inr (some (ad 0 0))), (2, .inr (some (ad 20 0))), (3, .inl (nI i))] [] mu Q) → Om G (M_Ln nq) 18 [(0, .inr (some 0)), (1, .inr (some (ad 0 0))), (2, .inr (some (ad 20 0))), (3, .inl (nI i))] [] mu Q := by
    intro i mu hi k
    refine o_iload_n dL_law_18 rfl ?_
    refine o_aload_n dL_law_19 rfl ?_
    refine o_slen dL_law_20 ?_
    refine o_iconst (nI 4) dL_law_21 rfl ?_
    refine o_isub dL_law_22 ?_
    refine o_icmp_gt 767 dL_law_23 rfl (fun _ => ?_) (fun h => k ?_)
    · refine o_iconst 1 dL_law_767 rfl ?_
      exact m_zret dL_law_768 rfl rfl (hQ mu)
    · rw [Int32.lt_iff_toInt_lt, pk_sub_toInt (by omega) (by decide), nI_toInt (by omega)] at h
      omega
  intro t
  induction t with
  | zero =>
    intro i mu h1 h2 hR
    exact h9 i mu h2 (fun h => absurd h (by omega))
  | succ t ih =>
    intro i mu h1 h2 hR
    refine h9 i mu h2 (fun hi => ?_)
    have kk : ∀ mu2 : oMu, Rel mu2 → Om G (M_Ln nq) 761 [(0, .inr (some 0)), (1, .inr (some (ad 0 0))), (2, .inr (some (ad 20 0))), (3, .inl (nI i))] [] mu2 Q := by
      intro mu2 hR2
      refine o_iinc (nI (i + 4)) [(0, _), (1, _), (2, _), (3, _)] dL_law_761 rfl (nI_add i 4) rfl rfl ?_
      refine o_goto 18 dL_law_764 rfl ?_
      exact ih (i + 4) mu2 (by omega) (by omega) hR2
    refine o_aload_n dL_law_26 rfl ?_
    refine o_iload_n dL_law_27 rfl ?_
    refine o_sld i dL_law_28 hN9 rfl (by omega) ?_
    refine o_bipush 31 dL_law_29 rfl ?_
    refine o_iand dL_law_31 ?_
    rcases rng (oX G i &&& 31) 19 (by decide) with ⟨j, hj, hx⟩ | hx
    · refine o_top (nI j) hx ?_
      clear hx
      match j, hj with
      | 0, _ => exact o_tabIn 124 dL_law_32 (by decide) (by decide) rfl rfl (L_c0 hN9 hi hR kk)
      | 1, _ => exact o_tabIn 167 dL_law_32 (by decide) (by decide) rfl rfl (L_c1 hN9 hi hR kk)
      | 2, _ => exact o_tabIn 200 dL_law_32 (by decide) (by decide) rfl rfl (L_c2 hN9 hi hR kk)
      | 3, _ => exact o_tabIn 233 dL_law_32 (by decide) (by decide) rfl rfl (L_c3 hN9 hi hR kk)
      | 4, _ => exact o_tabIn 256 dL_law_32 (by decide) (by decide) rfl rfl (L_c4 hN9 hi hR kk)
      | 5, _ => exact o_tabIn 289 dL_law_32 (by decide) (by decide) rfl rfl (L_c5 hN9 hi hR kk)
      | 6, _ => exact o_tabIn 312 dL_law_32 (by decide) (by decide) rfl rfl (L_c6 hN9 hi hR kk)
      | 7, _ => exact o_tabIn 355 dL_law_32 (by decide) (by decide) rfl rfl (L_c7 hN9 hi hR kk)
      | 8, _ => exact o_tabIn 388 dL_law_32 (by decide) (by decide) rfl rfl (L_c8 hN9 hi hR kk)
      | 9, _ => exact o_tabIn 421 dL_law_32 (by decide) (by decide) rfl rfl (L_c9 hN9 hi hR kk)
      | 10, _ => exact o_tabIn 464 dL_law_32 (by decide) (by decide) rfl rfl (L_c10 hN9 hi hR kk)
      | 11, _ => exact o_tabIn 497 dL_law_32 (by decide) (by decide) rfl rfl (L_c11 hN9 hi hR kk)
      | 12, _ => exact o_tabIn 540 dL_law_32 (by decide) (by decide) rfl rfl (L_c12 hN9 hi hR kk)
      | 13, _ => exact o_tabIn 573 dL_law_32 (by decide) (by decide) rfl rfl (L_c13 hN9 hi hR kk)
      | 14, _ => exact o_tabIn 606 dL_law_32 (by decide) (by decide) rfl rfl (L_c14 hN9 hi hR kk)
      | 15, _ => exact o_tabIn 639 dL_law_32 (by decide) (by decide) rfl rfl (L_c15 hN9 hi hR kk)
      | 16, _ => exact o_tabIn 672 dL_law_32 (by decide) (by decide) rfl rfl (L_c16 hN9 hi hR kk)
      | 17, _ => exact o_tabIn 695 dL_law_32 (by decide) (by decide) rfl rfl (L_c17 hN9 hi hR kk)
      | 18, _ => exact o_tabIn 728 dL_law_32 (by decide) (by decide) rfl rfl (L_c18 hN9 hi hR kk)
      | j + 19, hj => exact absurd hj (by omega)
    · exact o_tabOut 761 dL_law_32 (sw_out (n := 18) (by decide) hx) rfl (kk mu hR)
theorem L_all {nq : String} {G : oG} (hN : oN G ≤ 2048) : Ok G (M_Ln nq) 0 [(0, .inr (some 0))] [] (0, fun _ => none) (173, 2777) (fun r _ => r = some (.inl 1)) := by
  refine p_new 1 (172, 2772) dL_law_0 rfl (ci := ciStore) (q9 := (RS, TS, 5)) rfl cl_L_7 it_S nt_S rfl (fun H1 a1 b1 c1 => ?_)
  refine o_dup dL_law_3 ?_
  refine o_callI M_S_init [] [.inr (some 1)] (153, 1480) (19, 1292) dL_law_4 mk_S_init in_S_init rfl rfl ml_L_9 rfl rfl rfl (Nat.le_of_ble_eq_true rfl) rfl rfl ?_
  refine k_Store a1 b1 (fun H2 hS => ?_)
  refine Ok.mono (Q := oHQ (fun r _ => r = some (.inl 1))) (fun r H' h => by obtain ⟨mu, -, h⟩ := h; exact h) ?_
  show Ok G (M_Ln nq) 7 [(0, .inr (some 0))] [.inr (some 1)] H2 (19, 1292) (oHQ (fun r _ => r = some (.inl 1)))
  refine o_astore_n [(0, _), (1, _)] dL_law_7 rfl rfl ?_
  refine p_new 155 (18, 1273) dL_law_8 (by rw [hS.1]) (ci := ciModel) (q9 := (RN, TN, 19)) rfl cl_L_10 it_N nt_N rfl (fun H3 a3 b3 c3 => ?_)
  refine o_dup dL_law_11 ?_
  refine o_callI M_N_init [] [.inr (some 155)] (18, 1273) (0, 0) dL_law_12 mk_N_init in_N_init rfl rfl ml_L_12 rfl rfl rfl (Nat.le_of_ble_eq_true rfl) rfl rfl ?_
  refine k_Model a3 b3 (fun H4 a4 m0 m1 m2 m3 m4 m5 m6 m7 m8 m9 m10 m11 m12 m13 m14 m15 m16 m17 m18 hq => ?_)
  show Ok G (M_Ln nq) 15 [(0, .inr (some 0)), (1, .inr (some 1))] [.inr (some 155)] H4 (0, 0) (oHQ (fun r _ => r = some (.inl 1)))
  refine o_astore_n [(0, _), (1, _), (2, _)] dL_law_15 rfl rfl ?_
  refine o_wk (oHm mu0) a4.symm (k_enc (k_heap hS m0 m1 m2 m3 m4 m5 m6 m7 m8 m9 m10 m11 m12 m13 m14 m15 m16 m17 m18 (fun q h => (hq q h).trans (c3 q (by omega))))) ?_
  refine o_iconst (nI 0) dL_law_16 rfl ?_
  refine o_istore_n [(0, _), (1, _), (2, _), (3, _)] dL_law_17 rfl rfl ?_
  exact L_loop hN (fun mu => rfl) (oN G) 0 mu0 (by omega) (by omega) Rel_0
