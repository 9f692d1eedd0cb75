/-! Numbers: compares of naturals; a write or none. -/
def dec (n : Nat) : Int32 := match n with
  | 0 => -4
  | n + 1 => nI n
theorem dec_s (n : Nat) : dec (n + 1) = nI n := rfl
theorem dec_0 : dec 0 = -4 := rfl
theorem nInc (a : Nat) : nI a + Int32.ofInt 1 = nI (a + 1) := nI_1 a
theorem nDec (a : Nat) : nI (a + 1) + Int32.ofInt (-1) = nI a := pk_m1 a
section NM
variable {G : oG} {M : oM} {pc : Nat} {lv : oL} {st : List oU} {H : oH} {b : Nat × Nat} {Q : oP}
theorem n_icmp_ge {a c : Nat} {off : Int} (tgt : Nat) (hd : decode (oCd M) pc = .ok (.if_icmp .ge off, 3)) (ht : (pc : Int) + off = (tgt : Int)) (ha : a < 2147483648) (hc : c < 2147483648) (kt : c ≤ a → Ok G M tgt lv st H b Q) (kf : a < c → Ok G M (pc + 3) lv st H b Q) : Ok G M pc lv (.inl (nI c) :: .inl (nI a) :: st) H b Q :=
  o_icmp_ge tgt hd ht (fun h => kt ((nI_leI hc ha).mp h)) (fun h => kf (Nat.lt_of_not_le fun q => h ((nI_leI hc ha).mpr q)))
theorem n_if_ge {a : Nat} {off : Int} (tgt : Nat) (hd : decode (oCd M) pc = .ok (.ifCond .ge off, 3)) (ht : (pc : Int) + off = (tgt : Int)) (ha : a < 2147483648) (kt : 0 ≤ a → Ok G M tgt lv st H b Q) (kf : a < 0 → Ok G M (pc + 3) lv st H b Q) : Ok G M pc lv (.inl (nI a) :: st) H b Q :=
  have hc : 0 < 2147483648 := by decide
  o_if_ge tgt hd ht (fun h => kt ((nI_leI hc ha).mp h)) (fun h => kf (Nat.lt_of_not_le fun q => h ((nI_leI hc ha).mpr q)))
theorem n_icmp_lt {a c : Nat} {off : Int} (tgt : Nat) (hd : decode (oCd M) pc = .ok (.if_icmp .lt off, 3)) (ht : (pc : Int) + off = (tgt : Int)) (ha : a < 2147483648) (hc : c < 2147483648) (kt : a < c → Ok G M tgt lv st H b Q) (kf : c ≤ a → Ok G M (pc + 3) lv st H b Q) : Ok G M pc lv (.inl (nI c) :: .inl (nI a) :: st) H b Q :=
  o_icmp_lt tgt hd ht (fun h => kt ((nI_ltI ha hc).mp h)) (fun h => kf (Nat.le_of_not_lt fun q => h ((nI_ltI ha hc).mpr q)))
theorem n_if_lt {a : Nat} {off : Int} (tgt : Nat) (hd : decode (oCd M) pc = .ok (.ifCond .lt off, 3)) (ht : (pc : Int) + off = (tgt : Int)) (ha : a < 2147483648) (kt : a < 0 → Ok G M tgt lv st H b Q) (kf : 0 ≤ a → Ok G M (pc + 3) lv st H b Q) : Ok G M pc lv (.inl (nI a) :: st) H b Q :=
  have hc : 0 < 2147483648 := by decide
  o_if_lt tgt hd ht (fun h => kt ((nI_ltI ha hc).mp h)) (fun h => kf (Nat.le_of_not_lt fun q => h ((nI_ltI ha hc).mpr q)))
theorem n_icmp_gt {a c : Nat} {off : Int} (tgt : Nat) (hd : decode (oCd M) pc = .ok (.if_icmp .gt off, 3)) (ht : (pc : Int) + off = (tgt : Int)) (ha : a < 2147483648) (hc : c < 2147483648) (kt : c < a → Ok G M tgt lv st H b Q) (kf : a ≤ c → Ok G M (pc + 3) lv st H b Q) : Ok G M pc lv (.inl (nI c) :: .inl (nI a) :: st) H b Q :=
  o_icmp_gt tgt hd ht (fun h => kt ((nI_ltI hc ha).mp h)) (fun h => kf (Nat.le_of_not_lt fun q => h ((nI_ltI hc ha).mpr q)))
theorem n_if_gt {a : Nat} {off : Int} (tgt : Nat) (hd : decode (oCd M) pc = .ok (.ifCond .gt off, 3)) (ht : (pc : Int) + off = (tgt : Int)) (ha : a < 2147483648) (kt : 0 < a → Ok G M tgt lv st H b Q) (kf : a ≤ 0 → Ok G M (pc + 3) lv st H b Q) : Ok G M pc lv (.inl (nI a) :: st) H b Q :=
  have hc : 0 < 2147483648 := by decide
  o_if_gt tgt hd ht (fun h => kt ((nI_ltI hc ha).mp h)) (fun h => kf (Nat.le_of_not_lt fun q => h ((nI_ltI hc ha).mpr q)))
theorem n_icmp_le {a c : Nat} {off : Int} (tgt : Nat) (hd : decode (oCd M) pc = .ok (.if_icmp .le off, 3)) (ht : (pc : Int) + off = (tgt : Int)) (ha : a < 2147483648) (hc : c < 2147483648) (kt : a ≤ c → Ok G M tgt lv st H b Q) (kf : c < a → Ok G M (pc + 3) lv st H b Q) : Ok G M pc lv (.inl (nI c) :: .inl (nI a) :: st) H b Q :=
  o_icmp_le tgt hd ht (fun h => kt ((nI_leI ha hc).mp h)) (fun h => kf (Nat.lt_of_not_le fun q => h ((nI_leI ha hc).mpr q)))
theorem n_if_le {a : Nat} {off : Int} (tgt : Nat) (hd : decode (oCd M) pc = .ok (.ifCond .le off, 3)) (ht : (pc : Int) + off = (tgt : Int)) (ha : a < 2147483648) (kt : a ≤ 0 → Ok G M tgt lv st H b Q) (kf : 0 < a → Ok G M (pc + 3) lv st H b Q) : Ok G M pc lv (.inl (nI a) :: st) H b Q :=
  have hc : 0 < 2147483648 := by decide
  o_if_le tgt hd ht (fun h => kt ((nI_leI ha hc).mp h)) (fun h => kf (Nat.lt_of_not_le fun q => h ((nI_leI ha hc).mpr q)))
theorem n_icmp_eq {a c : Nat} {off : Int} (tgt : Nat) (hd : decode (oCd M) pc = .ok (.if_icmp .eq off, 3)) (ht : (pc : Int) + off = (tgt : Int)) (ha : a < 2147483648) (hc : c < 2147483648) (kt : a = c → Ok G M tgt lv st H b Q) (kf : ¬ a = c → Ok G M (pc + 3) lv st H b Q) : Ok G M pc lv (.inl (nI c) :: .inl (nI a) :: st) H b Q :=
  o_icmp_eq tgt hd ht (fun h => kt ((nI_eq ha hc).mp h)) (fun h => kf fun q => h ((nI_eq ha hc).mpr q))
theorem n_if_eq {a : Nat} {off : Int} (tgt : Nat) (hd : decode (oCd M) pc = .ok (.ifCond .eq off, 3)) (ht : (pc : Int) + off = (tgt : Int)) (ha : a < 2147483648) (kt : a = 0 → Ok G M tgt lv st H b Q) (kf : ¬ a = 0 → Ok G M (pc + 3) lv st H b Q) : Ok G M pc lv (.inl (nI a) :: st) H b Q :=
  have hc : 0 < 2147483648 := by decide
  o_if_eq tgt hd ht (fun h => kt ((nI_eq ha hc).mp h)) (fun h => kf fun q => h ((nI_eq ha hc).mpr q))
theorem n_icmp_ne {a c : Nat} {off : Int} (tgt : Nat) (hd : decode (oCd M) pc = .ok (.if_icmp .ne off, 3)) (ht : (pc : Int) + off = (tgt : Int)) (ha : a < 2147483648) (hc : c < 2147483648) (kt : ¬ a = c → Ok G M tgt lv st H b Q) (kf : a = c → Ok G M (pc + 3) lv st H b Q) : Ok G M pc lv (.inl (nI c) :: .inl (nI a) :: st) H b Q :=
  o_icmp_ne tgt hd ht (fun h => kt fun q => h ((nI_eq ha hc).mpr q)) (fun h => kf ((nI_eq ha hc).mp h))
theorem n_if_ne {a : Nat} {off : Int} (tgt : Nat) (hd : decode (oCd M) pc = .ok (.ifCond .ne off, 3)) (ht : (pc : Int) + off = (tgt : Int)) (ha : a < 2147483648) (kt : ¬ a = 0 → Ok G M tgt lv st H b Q) (kf : a = 0 → Ok G M (pc + 3) lv st H b Q) : Ok G M pc lv (.inl (nI a) :: st) H b Q :=
  have hc : 0 < 2147483648 := by decide
  o_if_ne tgt hd ht (fun h => kt fun q => h ((nI_eq ha hc).mpr q)) (fun h => kf ((nI_eq ha hc).mp h))
end NM
