/-! Constructors. -/
section PR
variable {G : oG} {M : oM} {pc : Nat} {lv : oL} {st : List oU} {H : oH} {b : Nat × Nat} {Q : oP}
theorem p_new {ci idx : Nat} {q9 : vw_C} (z : Nat) (b' : Nat × Nat) (hd : decode (oCd M) pc = .ok (.new idx, 3)) (hz : H.1 + 1 = z) (hcl : vwCl[ci]? = some q9) (hw : Cond.classLink M.1.cls idx q9.1 ∈ oAll) (hi : Cond.instantiable q9.1 q9.2.2 ∈ oAll) (hini : Cond.initialized q9.1 ∈ oAll) (hbb : b = (b'.1 + 1, b'.2 + q9.2.2)) (kk : ∀ H' : oH, H'.1 = z → H'.2 z = some (.inr (.inr (ci, oDef ci))) → (∀ q, ¬ q = z → H'.2 q = H.2 q) → Ok G M (pc + 3) lv (.inr (some z) :: st) H' b' Q) : Ok G M pc lv st H b Q := by
  subst hz
  exact o_new b' hd hcl hw hi hini hbb (kk _ rfl (by simp [oNw, va_up]) (fun q hq => by simp [oNw, va_up, hq]))
theorem p_newi {t : Nat} {i : Int32} (n z : Nat) (b' : Nat × Nat) (hd : decode (oCd M) pc = .ok (.newarray .int, 2)) (hz : H.1 + 1 = z) (ht : oTyL[t]? = some .int) (hw : Cond.arrayClass .int ∈ oAll) (hi : i = nI n) (hN : Nat.ble n 100000 = true) (hbb : b = (b'.1 + 1, b'.2 + n)) (kk : ∀ H' : oH, H'.1 = z → H'.2 z = some (.inl (t, n, fun _ => 0)) → (∀ q, ¬ q = z → H'.2 q = H.2 q) → Ok G M (pc + 2) lv (.inr (some z) :: st) H' b' Q) : Ok G M pc lv (.inl i :: st) H b Q := by
  subst hz
  exact o_newi n b' hd ht hw hi hN hbb (kk _ rfl (by simp [oNw, va_up]) (fun q hq => by simp [oNw, va_up, hq]))
theorem p_newz {t : Nat} {i : Int32} (n z : Nat) (b' : Nat × Nat) (hd : decode (oCd M) pc = .ok (.newarray .boolean, 2)) (hz : H.1 + 1 = z) (ht : oTyL[t]? = some .boolean) (hw : Cond.arrayClass .boolean ∈ oAll) (hi : i = nI n) (hN : Nat.ble n 100000 = true) (hbb : b = (b'.1 + 1, b'.2 + n)) (kk : ∀ H' : oH, H'.1 = z → H'.2 z = some (.inl (t, n, fun _ => 0)) → (∀ q, ¬ q = z → H'.2 q = H.2 q) → Ok G M (pc + 2) lv (.inr (some z) :: st) H' b' Q) : Ok G M pc lv (.inl i :: st) H b Q := by
  subst hz
  exact o_newz n b' hd ht hw hi hN hbb (kk _ rfl (by simp [oNw, va_up]) (fun q hq => by simp [oNw, va_up, hq]))
theorem p_anew {t idx : Nat} {i : Int32} {C : String} (n z : Nat) (b' : Nat × Nat) (hd : decode (oCd M) pc = .ok (.anewarray idx, 3)) (hz : H.1 + 1 = z) (ht : oTyL[t]? = some (.object C)) (hw : Cond.classLink M.1.cls idx C ∈ oAll) (hao : C ∈ oAO) (hi : i = nI n) (hN : Nat.ble n 100000 = true) (hbb : b = (b'.1 + 1, b'.2 + n)) (kk : ∀ H' : oH, H'.1 = z → H'.2 z = some (.inr (.inl (t, n, fun _ => none))) → (∀ q, ¬ q = z → H'.2 q = H.2 q) → Ok G M (pc + 3) lv (.inr (some z) :: st) H' b' Q) : Ok G M pc lv (.inl i :: st) H b Q := by
  subst hz
  exact o_anew n b' hd ht hw hao hi hN hbb (kk _ rfl (by simp [oNw, va_up]) (fun q hq => by simp [oNw, va_up, hq]))
theorem p_putF {ci idx k r : Nat} {ty : FieldType} {fs : List oU} {v : oU} (fs' : List oU) (hd : decode (oCd M) pc = .ok (.putfield idx, 3)) (hf : oFf M.1.cls idx ci k ty) (hini : M.1.name = "<init>") (hfit : oFit ty v) (he : H.2 r = some (.inr (.inr (ci, fs)))) (hln : Nat.blt k fs.length = true) (hfs : fs.set k v = fs') (kk : ∀ H' : oH, H'.1 = H.1 → H'.2 r = some (.inr (.inr (ci, fs'))) → (∀ q, ¬ q = r → H'.2 q = H.2 q) → Ok G M (pc + 3) lv st H' b Q) : Ok G M pc lv (v :: .inr (some r) :: st) H b Q := by
  subst hfs
  exact o_putF hd hf hini hfit he (Nat.le_of_ble_eq_true hln) (kk _ rfl (by simp [oUp, va_up]) (fun q hq => by simp [oUp, va_up, hq]))
theorem p_aast {t n r v ci : Nat} {f : Nat → Option Nat} {fs : List oU} {i : Int32} {q9 : vw_C} (j : Nat) (hd : decode (oCd M) pc = .ok (.aastore, 1)) (he : H.2 r = some (.inr (.inl (t, n, f)))) (hev : H.2 v = some (.inr (.inr (ci, fs)))) (hcl : vwCl[ci]? = some q9) (ht : oTyL[t]? = some (.object q9.1)) (hN : Nat.blt n 2147483648 = true) (hi : i = nI j) (hj : j < n) (kk : ∀ H' : oH, H'.1 = H.1 → H'.2 r = some (.inr (.inl (t, n, va_up f j (some v)))) → (∀ q, ¬ q = r → H'.2 q = H.2 q) → Ok G M (pc + 1) lv st H' b Q) : Ok G M pc lv (.inr (some v) :: .inl i :: .inr (some r) :: st) H b Q :=
  o_aast j hd he hev hcl ht hN hi hj (kk _ rfl (by simp [oUp, va_up]) (fun q hq => by simp [oUp, va_up, hq]))
end PR
def nwF : Nat → Int32 := fun q => if q < 6 then -4 else 0
theorem k_noWrites {G : oG} {H : oH} {Q : oP} (z : Nat) (hz : H.1 + 1 = z) (k : ∀ H' : oH, H'.1 = z → H'.2 z = some (.inl (tyInt, 6, nwF)) → (∀ q, ¬ q = z → H'.2 q = H.2 q) → Q (some (.inr (some z))) H') : Ok G M_S_noWrites 0 [] [] H (1, 6) Q := by
  refine o_bipush (nI 6) dS_noWrites_0 rfl ?_
  refine p_newi 6 z (0, 0) dS_noWrites_2 hz (t := tyInt) rfl wa_i rfl rfl rfl (fun H1 a1 b1 c1 => ?_)
  refine o_astore_n [(0, _)] dS_noWrites_4 rfl rfl ?_
  refine o_aload_n dS_noWrites_5 rfl ?_
  refine o_bipush (-4) dS_noWrites_6 rfl ?_
  refine o_callS M_JA_fill [.inr (some z), .inl (-4)] [] (0, 0) (0, 0) dS_noWrites_8 mk_JA_fill st_JA_fill ml_S_203 rfl rfl rfl (Nat.le_of_ble_eq_true rfl) rfl rfl ?_
  refine j_fill (t := tyInt) (n := 6) rfl rfl b1 ?_
  show Ok G M_S_noWrites 11 [(0, .inr (some z))] [] (oUp H1 z (.inl (tyInt, 6, nwF))) (0, 0) Q
  refine o_aload_n dS_noWrites_11 rfl ?_
  refine o_aret dS_noWrites_12 rfl (Or.inr ⟨_, rfl⟩) ?_
  exact k _ a1 (by simp [oUp, va_up]) (fun q hq => by simp [oUp, va_up, hq]; exact c1 q hq)
theorem k_Row {G : oG} {H : oH} {Q : oP} {r n : Nat} (hn : H.1 = n) (hr : r ≤ n) (he : H.2 r = some (.inr (.inr (ciRow, oDef ciRow)))) (k : ∀ H' : oH, H'.1 = n + 1 → H'.2 r = some (.inr (.inr (ciRow, [.inr (some (n + 1)), .inl 0]))) → H'.2 (n + 1) = some (.inl (tyInt, 40, fun _ => 0)) → (∀ q, ¬ q = r → ¬ q = n + 1 → H'.2 q = H.2 q) → Q none H') : Ok G M_R_init 0 [(0, .inr (some r))] [] H (1, 40) Q := by
  refine o_aload_n dR_init_0 rfl ?_
  refine o_objInit dR_init_1 oi_R_3 wo_i wo_c rfl rfl ?_
  refine o_aload_n dR_init_4 rfl ?_
  refine o_bipush (nI 40) dR_init_5 rfl ?_
  refine p_newi 40 (n + 1) (0, 0) dR_init_7 (by omega) (t := tyInt) rfl wa_i rfl rfl rfl (fun H1 a1 b1 c1 => ?_)
  refine p_putF [.inr (some (n + 1)), .inl 0] dR_init_9 ff_R_9 rfl (oFit_a _ _) (by rw [c1 r (by omega)]; exact he) rfl rfl (fun H2 a2 b2 c2 => ?_)
  refine o_vret dR_init_12 rfl ?_
  exact k H2 (by omega) b2 (by rw [c2 (n + 1) (by omega)]; exact b1) (fun q h1 h2 => (c2 q h1).trans (c1 q h2))
theorem k_Write {G : oG} {H : oH} {Q : oP} {r n : Nat} (hn : H.1 = n) (hr : r ≤ n) (he : H.2 r = some (.inr (.inr (ciWrite, oDef ciWrite)))) (k : ∀ H' : oH, H'.1 = n + 1 → H'.2 r = some (.inr (.inr (ciWrite, [.inr (some (n + 1)), .inl 0, .inl 0, .inl 0, .inl 0, .inl 0]))) → H'.2 (n + 1) = some (.inl (tyInt, 6, nwF)) → (∀ q, ¬ q = r → ¬ q = n + 1 → H'.2 q = H.2 q) → Q none H') : Ok G M_W_init 0 [(0, .inr (some r))] [] H (1, 6) Q := by
  refine o_aload_n dW_init_0 rfl ?_
  refine o_objInit dW_init_1 oi_W_3 wo_i wo_c rfl rfl ?_
  refine o_aload_n dW_init_4 rfl ?_
  refine o_callS M_S_noWrites [] [.inr (some r)] (1, 6) (0, 0) dW_init_5 mk_S_noWrites st_S_noWrites ml_W_9 rfl rfl rfl (Nat.le_of_ble_eq_true rfl) rfl rfl ?_
  refine k_noWrites (n + 1) (by omega) (fun H1 a1 b1 c1 => ?_)
  show Ok G M_W_init 8 [(0, .inr (some r))] [.inr (some (n + 1)), .inr (some r)] H1 (0, 0) Q
  refine p_putF [.inr (some (n + 1)), .inl 0, .inl 0, .inl 0, .inl 0, .inl 0] dW_init_8 ff_W_13 rfl (oFit_a _ _) (by rw [c1 r (by omega)]; exact he) rfl rfl (fun H2 a2 b2 c2 => ?_)
  refine o_vret dW_init_11 rfl ?_
  exact k H2 (by omega) b2 (by rw [c2 (n + 1) (by omega)]; exact b1) (fun q h1 h2 => (c2 q h1).trans (c1 q h2))
theorem k_Client {G : oG} {H : oH} {Q : oP} {r n c : Nat} (hn : H.1 = n) (hr : r ≤ n) (he : H.2 r = some (.inr (.inr (ciClient, oDef ciClient)))) (k : ∀ H' : oH, H'.1 = n + 3 → H'.2 r = some (.inr (.inr (ciClient, [.inl (nI c), .inr (some (n + 1)), .inr (some (n + 2)), .inr (some (n + 3)), .inl 0, .inl 0, .inl 0]))) → H'.2 (n + 1) = some (.inl (tyInt, 6, nwF)) → H'.2 (n + 2) = some (.inl (tyInt, 6, nwF)) → H'.2 (n + 3) = some (.inl (tyInt, 6, nwF)) → (∀ q, ¬ q = r → ¬ q = n + 1 → ¬ q = n + 2 → ¬ q = n + 3 → H'.2 q = H.2 q) → Q none H') : Ok G M_K_init 0 [(0, .inr (some r)), (1, .inl (nI c))] [] H (3, 18) Q := by
  refine o_aload_n dK_init_0 rfl ?_
  refine o_objInit dK_init_1 oi_K_3 wo_i wo_c rfl rfl ?_
  refine o_aload_n dK_init_4 rfl ?_
  refine o_callS M_S_noWrites [] [.inr (some r)] (1, 6) (2, 12) dK_init_5 mk_S_noWrites st_S_noWrites ml_K_9 rfl rfl rfl (Nat.le_of_ble_eq_true rfl) rfl rfl ?_
  refine k_noWrites (n + 1) (by omega) (fun H1 a1 b1 c1 => ?_)
  show Ok G M_K_init 8 [(0, .inr (some r)), (1, .inl (nI c))] [.inr (some (n + 1)), .inr (some r)] H1 (2, 12) Q
  refine p_putF [.inl 0, .inr (some (n + 1)), .inr none, .inr none, .inl 0, .inl 0, .inl 0] dK_init_8 ff_K_13 rfl (oFit_a _ _) (by rw [c1 r (by omega)]; exact he) rfl rfl (fun H2 a2 b2 c2 => ?_)
  refine o_aload_n dK_init_11 rfl ?_
  refine o_callS M_S_noWrites [] [.inr (some r)] (1, 6) (1, 6) dK_init_12 mk_S_noWrites st_S_noWrites ml_K_9 rfl rfl rfl (Nat.le_of_ble_eq_true rfl) rfl rfl ?_
  refine k_noWrites (n + 2) (by omega) (fun H3 a3 b3 c3 => ?_)
  show Ok G M_K_init 15 [(0, .inr (some r)), (1, .inl (nI c))] [.inr (some (n + 2)), .inr (some r)] H3 (1, 6) Q
  refine p_putF [.inl 0, .inr (some (n + 1)), .inr (some (n + 2)), .inr none, .inl 0, .inl 0, .inl 0] dK_init_15 ff_K_19 rfl (oFit_a _ _) (by rw [c3 r (by omega)]; exact b2) rfl rfl (fun H4 a4 b4 c4 => ?_)
  refine o_aload_n dK_init_18 rfl ?_
  refine o_callS M_S_noWrites [] [.inr (some r)] (1, 6) (0, 0) dK_init_19 mk_S_noWrites st_S_noWrites ml_K_9 rfl rfl rfl (Nat.le_of_ble_eq_true rfl) rfl rfl ?_
  refine k_noWrites (n + 3) (by omega) (fun H5 a5 b5 c5 => ?_)
  show Ok G M_K_init 22 [(0, .inr (some r)), (1, .inl (nI c))] [.inr (some (n + 3)), .inr (some r)] H5 (0, 0) Q
  refine p_putF [.inl 0, .inr (some (n + 1)), .inr (some (n + 2)), .inr (some (n + 3)), .inl 0, .inl 0, .inl 0] dK_init_22 ff_K_22 rfl (oFit_a _ _) (by rw [c5 r (by omega)]; exact b4) rfl rfl (fun H6 a6 b6 c6 => ?_)
  refine o_aload_n dK_init_25 rfl ?_
  refine o_iload_n dK_init_26 rfl ?_
  refine p_putF [.inl (nI c), .inr (some (n + 1)), .inr (some (n + 2)), .inr (some (n + 3)), .inl 0, .inl 0, .inl 0] dK_init_27 ff_K_25 rfl (oFit_i _) b6 rfl rfl (fun H7 a7 b7 c7 => ?_)
  refine o_vret dK_init_30 rfl ?_
  exact k H7 (by omega) b7 (by rw [c7 (n + 1) (by omega), c6 (n + 1) (by omega), c5 (n + 1) (by omega), c4 (n + 1) (by omega), c3 (n + 1) (by omega), c2 (n + 1) (by omega)]; exact b1) (by rw [c7 (n + 2) (by omega), c6 (n + 2) (by omega), c5 (n + 2) (by omega), c4 (n + 2) (by omega)]; exact b3) (by rw [c7 (n + 3) (by omega), c6 (n + 3) (by omega)]; exact b5) (fun q h1 h2 h3 h4 => by rw [c7 q (by omega), c6 q (by omega), c5 q (by omega), c4 q (by omega), c3 q (by omega), c2 q (by omega), c1 q (by omega)])
theorem k_Center {G : oG} {H : oH} {Q : oP} {r n : Nat} (hn : H.1 = n) (hr : r ≤ n) (he : H.2 r = some (.inr (.inr (ciCenter, oDef ciCenter)))) (k : ∀ H' : oH, H'.1 = n + 8 → H'.2 r = some (.inr (.inr (ciCenter, [.inr (some (n + 1)), .inr (some (n + 2)), .inr (some (n + 3)), .inr (some (n + 4))]))) → H'.2 (n + 1) = some (.inl (tyBool, 40, fun _ => 0)) → H'.2 (n + 2) = some (.inl (tyInt, 6, nwF)) → H'.2 (n + 3) = some (.inl (tyInt, 2, fun _ => 0)) → H'.2 (n + 4) = some (.inr (.inl (tyRow, 2, (va_up (va_up (fun _ => none) 0 (some (n + 5))) 1 (some (n + 7)))))) → H'.2 (n + 5) = some (.inr (.inr (ciRow, [.inr (some (n + 6)), .inl 0]))) → H'.2 (n + 6) = some (.inl (tyInt, 40, fun _ => 0)) → H'.2 (n + 7) = some (.inr (.inr (ciRow, [.inr (some (n + 8)), .inl 0]))) → H'.2 (n + 8) = some (.inl (tyInt, 40, fun _ => 0)) → (∀ q, ¬ q = r → ¬ (n < q ∧ q ≤ n + 8) → H'.2 q = H.2 q) → Q none H') : Ok G M_C_init 0 [(0, .inr (some r))] [] H (8, 134) Q := by
  refine o_aload_n dC_init_0 rfl ?_
  refine o_objInit dC_init_1 oi_C_3 wo_i wo_c rfl rfl ?_
  refine o_aload_n dC_init_4 rfl ?_
  refine o_bipush (nI 40) dC_init_5 rfl ?_
  refine p_newz 40 (n + 1) (7, 94) dC_init_7 (by omega) (t := tyBool) rfl wa_z rfl rfl rfl (fun H1 a1 b1 c1 => ?_)
  refine p_putF [.inr (some (n + 1)), .inr none, .inr none, .inr none] dC_init_9 ff_C_9 rfl (oFit_a _ _) (by rw [c1 r (by omega)]; exact he) rfl rfl (fun H2 a2 b2 c2 => ?_)
  refine o_aload_n dC_init_12 rfl ?_
  refine o_callS M_S_noWrites [] [.inr (some r)] (1, 6) (6, 88) dC_init_13 mk_S_noWrites st_S_noWrites ml_C_15 rfl rfl rfl (Nat.le_of_ble_eq_true rfl) rfl rfl ?_
  refine k_noWrites (n + 2) (by omega) (fun H3 a3 b3 c3 => ?_)
  show Ok G M_C_init 16 [(0, .inr (some r))] [.inr (some (n + 2)), .inr (some r)] H3 (6, 88) Q
  refine p_putF [.inr (some (n + 1)), .inr (some (n + 2)), .inr none, .inr none] dC_init_16 ff_C_19 rfl (oFit_a _ _) (by rw [c3 r (by omega)]; exact b2) rfl rfl (fun H4 a4 b4 c4 => ?_)
  refine o_aload_n dC_init_19 rfl ?_
  refine o_iconst (nI 2) dC_init_20 rfl ?_
  refine p_newi 2 (n + 3) (5, 86) dC_init_21 (by omega) (t := tyInt) rfl wa_i rfl rfl rfl (fun H5 a5 b5 c5 => ?_)
  refine p_putF [.inr (some (n + 1)), .inr (some (n + 2)), .inr (some (n + 3)), .inr none] dC_init_23 ff_C_23 rfl (oFit_a _ _) (by rw [c5 r (by omega)]; exact b4) rfl rfl (fun H6 a6 b6 c6 => ?_)
  refine o_aload_n dC_init_26 rfl ?_
  refine o_iconst (nI 2) dC_init_27 rfl ?_
  refine p_anew 2 (n + 4) (4, 84) dC_init_28 (by omega) (t := tyRow) rfl cl_C_26 (by decide) rfl rfl rfl (fun H7 a7 b7 c7 => ?_)
  refine p_putF [.inr (some (n + 1)), .inr (some (n + 2)), .inr (some (n + 3)), .inr (some (n + 4))] dC_init_31 ff_C_28 rfl (oFit_a _ _) (by rw [c7 r (by omega)]; exact b6) rfl rfl (fun H8 a8 b8 c8 => ?_)
  refine o_iconst (nI 0) dC_init_34 rfl ?_
  refine o_istore_n [(0, _), (1, _)] dC_init_35 rfl rfl ?_
  refine o_iload_n dC_init_36 rfl ?_
  refine o_iconst (nI 2) dC_init_37 rfl ?_
  refine n_icmp_ge 60 dC_init_38 rfl (by decide) (by decide) (fun h => absurd h (by decide)) (fun _ => ?_)
  refine o_aload_n dC_init_41 rfl ?_
  refine o_get dC_init_42 fl_C_28 b8 (v := .inr (some (n + 4))) rfl ?_
  refine o_iload_n dC_init_45 rfl ?_
  refine p_new (n + 5) (3, 82) dC_init_46 (by omega) (ci := ciRow) rfl cl_C_26 it_R nt_R rfl (fun H9 a9 b9 c9 => ?_)
  refine o_dup dC_init_49 ?_
  refine o_callI M_R_init [] [.inr (some (n + 5)), .inl (nI 0), .inr (some (n + 4))] (1, 40) (2, 42) dC_init_50 mk_R_init in_R_init rfl rfl ml_C_32 rfl rfl rfl (Nat.le_of_ble_eq_true rfl) rfl rfl ?_
  refine k_Row (r := n + 5) (n := n + 5) (by omega) (by omega) b9 (fun H10 a10 b10 d10 c10 => ?_)
  show Ok G M_C_init 53 [(0, .inr (some r)), (1, .inl (nI 0))] [.inr (some (n + 5)), .inl (nI 0), .inr (some (n + 4))] H10 (2, 42) Q
  refine p_aast 0 dC_init_53 (by rw [c10 (n + 4) (by omega) (by omega), c9 (n + 4) (by omega), c8 (n + 4) (by omega)]; exact b7) b10 (q9 := (RR, TR, 2)) rfl rfl rfl rfl (by decide) (fun H11 a11 b11 c11 => ?_)
  refine o_iinc (nI 1) [(0, _), (1, _)] dC_init_54 rfl (nInc _) rfl rfl ?_
  refine o_goto 36 dC_init_57 rfl ?_
  refine o_iload_n dC_init_36 rfl ?_
  refine o_iconst (nI 2) dC_init_37 rfl ?_
  refine n_icmp_ge 60 dC_init_38 rfl (by decide) (by decide) (fun h => absurd h (by decide)) (fun _ => ?_)
  refine o_aload_n dC_init_41 rfl ?_
  refine o_get dC_init_42 fl_C_28 (by rw [c11 r (by omega), c10 r (by omega) (by omega), c9 r (by omega)]; exact b8) (v := .inr (some (n + 4))) rfl ?_
  refine o_iload_n dC_init_45 rfl ?_
  refine p_new (n + 7) (1, 40) dC_init_46 (by omega) (ci := ciRow) rfl cl_C_26 it_R nt_R rfl (fun H12 a12 b12 c12 => ?_)
  refine o_dup dC_init_49 ?_
  refine o_callI M_R_init [] [.inr (some (n + 7)), .inl (nI 1), .inr (some (n + 4))] (1, 40) (0, 0) dC_init_50 mk_R_init in_R_init rfl rfl ml_C_32 rfl rfl rfl (Nat.le_of_ble_eq_true rfl) rfl rfl ?_
  refine k_Row (r := n + 7) (n := n + 7) (by omega) (by omega) b12 (fun H13 a13 b13 d13 c13 => ?_)
  show Ok G M_C_init 53 [(0, .inr (some r)), (1, .inl (nI 1))] [.inr (some (n + 7)), .inl (nI 1), .inr (some (n + 4))] H13 (0, 0) Q
  refine p_aast 1 dC_init_53 (by rw [c13 (n + 4) (by omega) (by omega), c12 (n + 4) (by omega)]; exact b11) b13 (q9 := (RR, TR, 2)) rfl rfl rfl rfl (by decide) (fun H14 a14 b14 c14 => ?_)
  refine o_iinc (nI 2) [(0, _), (1, _)] dC_init_54 rfl (nInc _) rfl rfl ?_
  refine o_goto 36 dC_init_57 rfl ?_
  refine o_iload_n dC_init_36 rfl ?_
  refine o_iconst (nI 2) dC_init_37 rfl ?_
  refine n_icmp_ge 60 dC_init_38 rfl (by decide) (by decide) (fun _ => ?_) (fun h => absurd h (by decide))
  refine o_vret dC_init_60 rfl ?_
  exact k H14 (by omega) (by rw [c14 r (by omega), c13 r (by omega) (by omega), c12 r (by omega), c11 r (by omega), c10 r (by omega) (by omega), c9 r (by omega)]; exact b8) (by rw [c14 (n + 1) (by omega), c13 (n + 1) (by omega) (by omega), c12 (n + 1) (by omega), c11 (n + 1) (by omega), c10 (n + 1) (by omega) (by omega), c9 (n + 1) (by omega), c8 (n + 1) (by omega), c7 (n + 1) (by omega), c6 (n + 1) (by omega), c5 (n + 1) (by omega), c4 (n + 1) (by omega), c3 (n + 1) (by omega), c2 (n + 1) (by omega)]; exact b1) (by rw [c14 (n + 2) (by omega), c13 (n + 2) (by omega) (by omega), c12 (n + 2) (by omega), c11 (n + 2) (by omega), c10 (n + 2) (by omega) (by omega), c9 (n + 2) (by omega), c8 (n + 2) (by omega), c7 (n + 2) (by omega), c6 (n + 2) (by omega), c5 (n + 2) (by omega), c4 (n + 2) (by omega)]; exact b3) (by rw [c14 (n + 3) (by omega), c13 (n + 3) (by omega) (by omega), c12 (n + 3) (by omega), c11 (n + 3) (by omega), c10 (n + 3) (by omega) (by omega), c9 (n + 3) (by omega), c8 (n + 3) (by omega), c7 (n + 3) (by omega), c6 (n + 3) (by omega)]; exact b5) b14 (by rw [c14 (n + 5) (by omega), c13 (n + 5) (by omega) (by omega), c12 (n + 5) (by omega), c11 (n + 5) (by omega)]; exact b10) (by rw [c14 (n + 6) (by omega), c13 (n + 6) (by omega) (by omega), c12 (n + 6) (by omega), c11 (n + 6) (by omega)]; exact d10) (by rw [c14 (n + 7) (by omega)]; exact b13) (by rw [c14 (n + 8) (by omega)]; exact d13) (fun q h1 h2 => by rw [c14 q (by omega), c13 q (by omega) (by omega), c12 q (by omega), c11 q (by omega), c10 q (by omega) (by omega), c9 q (by omega), c8 q (by omega), c7 q (by omega), c6 q (by omega), c5 q (by omega), c4 q (by omega), c3 q (by omega), c2 q (by omega), c1 q (by omega)])
