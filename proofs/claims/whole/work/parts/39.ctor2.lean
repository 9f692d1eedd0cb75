/-! The constructors of the store and of the reference; the heap that both leave. -/
theorem o_wk {G : oG} {M : oM} {pc : Nat} {lv : oL} {st : List oU} {H : oH} {b : Nat × Nat} {Q : oP} (H0 : oH) (h1 : H0.1 = H.1) (h2 : ∀ r c, H0.2 r = some c → H.2 r = some c) (k : Ok G M pc lv st H0 b Q) : Ok G M pc lv st H b Q := by
  intro p e R s mid args below meth c hp locs cells slots mc ms ls X Y
  refine k p e R s mid args below meth c hp locs cells slots mc ms ls X ⟨Y.1, ⟨Y.2.1.1.trans (by rw [h1]), fun r c hr => ?_⟩, Y.2.2⟩
  have h3 := Y.2.1.2 r c (h2 r c hr)
  rw [h1]
  exact h3
theorem k_Model {G : oG} {H : oH} {Q : oP} (hn : H.1 = 155) (he : H.2 155 = some (.inr (.inr (ciModel, oDef ciModel)))) (k : ∀ H' : oH, H'.1 = 173 → H'.2 155 = some (.inr (.inr (ciModel, [.inl 0, .inr (some 156), .inr (some 157), .inr (some 158), .inr (some 159), .inr (some 160), .inr (some 161), .inr (some 162), .inr (some 163), .inr (some 164), .inr (some 165), .inr (some 166), .inr (some 167), .inr (some 168), .inr (some 169), .inr (some 170), .inr (some 171), .inr (some 172), .inr (some 173)]))) → H'.2 156 = some (.inl (tyInt, 40, fun _ => 0)) → H'.2 157 = some (.inl (tyInt, 40, fun _ => 0)) → H'.2 158 = some (.inl (tyInt, 40, fun _ => 0)) → H'.2 159 = some (.inl (tyInt, 240, fun _ => 0)) → H'.2 160 = some (.inl (tyInt, 40, fun _ => 0)) → H'.2 161 = some (.inl (tyBool, 120, fun _ => 0)) → H'.2 162 = some (.inl (tyInt, 6, fun _ => 0)) → H'.2 163 = some (.inl (tyInt, 6, fun _ => 0)) → H'.2 164 = some (.inl (tyInt, 240, fun _ => 0)) → H'.2 165 = some (.inl (tyInt, 9, fun _ => 0)) → H'.2 166 = some (.inl (tyInt, 360, fun _ => 0)) → H'.2 167 = some (.inl (tyInt, 36, fun _ => 0)) → H'.2 168 = some (.inl (tyInt, 6, fun _ => 0)) → H'.2 169 = some (.inl (tyInt, 6, fun _ => 0)) → H'.2 170 = some (.inl (tyInt, 6, fun _ => 0)) → H'.2 171 = some (.inl (tyInt, 6, fun _ => 0)) → H'.2 172 = some (.inl (tyInt, 36, fun _ => 0)) → H'.2 173 = some (.inl (tyInt, 36, fun _ => 0)) → (∀ q, q < 155 → H'.2 q = H.2 q) → Q none H') : Ok G M_N_init 0 [(0, .inr (some 155))] [] H (18, 1273) Q := by
  refine o_aload_n dN_init_0 rfl ?_
  refine o_objInit dN_init_1 oi_N_1 wo_i wo_c rfl rfl ?_
  refine o_aload_n dN_init_4 rfl ?_
  refine o_bipush (nI 40) dN_init_5 rfl ?_
  refine p_newi 40 156 (17, 1233) dN_init_7 (by rw [hn]) (t := tyInt) rfl wa_i rfl rfl rfl (fun H1 a1 b1 c1 => ?_)
  refine p_putF [.inl 0, .inr (some 156), .inr none, .inr none, .inr none, .inr none, .inr none, .inr none, .inr none, .inr none, .inr none, .inr none, .inr none, .inr none, .inr none, .inr none, .inr none, .inr none, .inr none] dN_init_9 ff_N_7 rfl (oFit_a _ _) (by rw [c1 155 (by decide)]; exact he) rfl rfl (fun H2 a2 b2 c2 => ?_)
  replace a2 := a2.trans a1
  refine o_aload_n dN_init_12 rfl ?_
  refine o_bipush (nI 40) dN_init_13 rfl ?_
  refine p_newi 40 157 (16, 1193) dN_init_15 (by rw [a2]) (t := tyInt) rfl wa_i rfl rfl rfl (fun H3 a3 b3 c3 => ?_)
  refine p_putF [.inl 0, .inr (some 156), .inr (some 157), .inr none, .inr none, .inr none, .inr none, .inr none, .inr none, .inr none, .inr none, .inr none, .inr none, .inr none, .inr none, .inr none, .inr none, .inr none, .inr none] dN_init_17 ff_N_13 rfl (oFit_a _ _) (by rw [c3 155 (by decide)]; exact b2) rfl rfl (fun H4 a4 b4 c4 => ?_)
  replace a4 := a4.trans a3
  refine o_aload_n dN_init_20 rfl ?_
  refine o_bipush (nI 40) dN_init_21 rfl ?_
  refine p_newi 40 158 (15, 1153) dN_init_23 (by rw [a4]) (t := tyInt) rfl wa_i rfl rfl rfl (fun H5 a5 b5 c5 => ?_)
  refine p_putF [.inl 0, .inr (some 156), .inr (some 157), .inr (some 158), .inr none, .inr none, .inr none, .inr none, .inr none, .inr none, .inr none, .inr none, .inr none, .inr none, .inr none, .inr none, .inr none, .inr none, .inr none] dN_init_25 ff_N_16 rfl (oFit_a _ _) (by rw [c5 155 (by decide)]; exact b4) rfl rfl (fun H6 a6 b6 c6 => ?_)
  replace a6 := a6.trans a5
  refine o_aload_n dN_init_28 rfl ?_
  refine o_sipush (nI 240) dN_init_29 rfl ?_
  refine p_newi 240 159 (14, 913) dN_init_32 (by rw [a6]) (t := tyInt) rfl wa_i rfl rfl rfl (fun H7 a7 b7 c7 => ?_)
  refine p_putF [.inl 0, .inr (some 156), .inr (some 157), .inr (some 158), .inr (some 159), .inr none, .inr none, .inr none, .inr none, .inr none, .inr none, .inr none, .inr none, .inr none, .inr none, .inr none, .inr none, .inr none, .inr none] dN_init_34 ff_N_19 rfl (oFit_a _ _) (by rw [c7 155 (by decide)]; exact b6) rfl rfl (fun H8 a8 b8 c8 => ?_)
  replace a8 := a8.trans a7
  refine o_aload_n dN_init_37 rfl ?_
  refine o_bipush (nI 40) dN_init_38 rfl ?_
  refine p_newi 40 160 (13, 873) dN_init_40 (by rw [a8]) (t := tyInt) rfl wa_i rfl rfl rfl (fun H9 a9 b9 c9 => ?_)
  refine p_putF [.inl 0, .inr (some 156), .inr (some 157), .inr (some 158), .inr (some 159), .inr (some 160), .inr none, .inr none, .inr none, .inr none, .inr none, .inr none, .inr none, .inr none, .inr none, .inr none, .inr none, .inr none, .inr none] dN_init_42 ff_N_22 rfl (oFit_a _ _) (by rw [c9 155 (by decide)]; exact b8) rfl rfl (fun H10 a10 b10 c10 => ?_)
  replace a10 := a10.trans a9
  refine o_aload_n dN_init_45 rfl ?_
  refine o_bipush (nI 120) dN_init_46 rfl ?_
  refine p_newz 120 161 (12, 753) dN_init_48 (by rw [a10]) (t := tyBool) rfl wa_z rfl rfl rfl (fun H11 a11 b11 c11 => ?_)
  refine p_putF [.inl 0, .inr (some 156), .inr (some 157), .inr (some 158), .inr (some 159), .inr (some 160), .inr (some 161), .inr none, .inr none, .inr none, .inr none, .inr none, .inr none, .inr none, .inr none, .inr none, .inr none, .inr none, .inr none] dN_init_50 ff_N_25 rfl (oFit_a _ _) (by rw [c11 155 (by decide)]; exact b10) rfl rfl (fun H12 a12 b12 c12 => ?_)
  replace a12 := a12.trans a11
  refine o_aload_n dN_init_53 rfl ?_
  refine o_bipush (nI 6) dN_init_54 rfl ?_
  refine p_newi 6 162 (11, 747) dN_init_56 (by rw [a12]) (t := tyInt) rfl wa_i rfl rfl rfl (fun H13 a13 b13 c13 => ?_)
  refine p_putF [.inl 0, .inr (some 156), .inr (some 157), .inr (some 158), .inr (some 159), .inr (some 160), .inr (some 161), .inr (some 162), .inr none, .inr none, .inr none, .inr none, .inr none, .inr none, .inr none, .inr none, .inr none, .inr none, .inr none] dN_init_58 ff_N_29 rfl (oFit_a _ _) (by rw [c13 155 (by decide)]; exact b12) rfl rfl (fun H14 a14 b14 c14 => ?_)
  replace a14 := a14.trans a13
  refine o_aload_n dN_init_61 rfl ?_
  refine o_bipush (nI 6) dN_init_62 rfl ?_
  refine p_newi 6 163 (10, 741) dN_init_64 (by rw [a14]) (t := tyInt) rfl wa_i rfl rfl rfl (fun H15 a15 b15 c15 => ?_)
  refine p_putF [.inl 0, .inr (some 156), .inr (some 157), .inr (some 158), .inr (some 159), .inr (some 160), .inr (some 161), .inr (some 162), .inr (some 163), .inr none, .inr none, .inr none, .inr none, .inr none, .inr none, .inr none, .inr none, .inr none, .inr none] dN_init_66 ff_N_32 rfl (oFit_a _ _) (by rw [c15 155 (by decide)]; exact b14) rfl rfl (fun H16 a16 b16 c16 => ?_)
  replace a16 := a16.trans a15
  refine o_aload_n dN_init_69 rfl ?_
  refine o_sipush (nI 240) dN_init_70 rfl ?_
  refine p_newi 240 164 (9, 501) dN_init_73 (by rw [a16]) (t := tyInt) rfl wa_i rfl rfl rfl (fun H17 a17 b17 c17 => ?_)
  refine p_putF [.inl 0, .inr (some 156), .inr (some 157), .inr (some 158), .inr (some 159), .inr (some 160), .inr (some 161), .inr (some 162), .inr (some 163), .inr (some 164), .inr none, .inr none, .inr none, .inr none, .inr none, .inr none, .inr none, .inr none, .inr none] dN_init_75 ff_N_35 rfl (oFit_a _ _) (by rw [c17 155 (by decide)]; exact b16) rfl rfl (fun H18 a18 b18 c18 => ?_)
  replace a18 := a18.trans a17
  refine o_aload_n dN_init_78 rfl ?_
  refine o_bipush (nI 9) dN_init_79 rfl ?_
  refine p_newi 9 165 (8, 492) dN_init_81 (by rw [a18]) (t := tyInt) rfl wa_i rfl rfl rfl (fun H19 a19 b19 c19 => ?_)
  refine p_putF [.inl 0, .inr (some 156), .inr (some 157), .inr (some 158), .inr (some 159), .inr (some 160), .inr (some 161), .inr (some 162), .inr (some 163), .inr (some 164), .inr (some 165), .inr none, .inr none, .inr none, .inr none, .inr none, .inr none, .inr none, .inr none] dN_init_83 ff_N_38 rfl (oFit_a _ _) (by rw [c19 155 (by decide)]; exact b18) rfl rfl (fun H20 a20 b20 c20 => ?_)
  replace a20 := a20.trans a19
  refine o_aload_n dN_init_86 rfl ?_
  refine o_sipush (nI 360) dN_init_87 rfl ?_
  refine p_newi 360 166 (7, 132) dN_init_90 (by rw [a20]) (t := tyInt) rfl wa_i rfl rfl rfl (fun H21 a21 b21 c21 => ?_)
  refine p_putF [.inl 0, .inr (some 156), .inr (some 157), .inr (some 158), .inr (some 159), .inr (some 160), .inr (some 161), .inr (some 162), .inr (some 163), .inr (some 164), .inr (some 165), .inr (some 166), .inr none, .inr none, .inr none, .inr none, .inr none, .inr none, .inr none] dN_init_92 ff_N_41 rfl (oFit_a _ _) (by rw [c21 155 (by decide)]; exact b20) rfl rfl (fun H22 a22 b22 c22 => ?_)
  replace a22 := a22.trans a21
  refine o_aload_n dN_init_95 rfl ?_
  refine o_bipush (nI 36) dN_init_96 rfl ?_
  refine p_newi 36 167 (6, 96) dN_init_98 (by rw [a22]) (t := tyInt) rfl wa_i rfl rfl rfl (fun H23 a23 b23 c23 => ?_)
  refine p_putF [.inl 0, .inr (some 156), .inr (some 157), .inr (some 158), .inr (some 159), .inr (some 160), .inr (some 161), .inr (some 162), .inr (some 163), .inr (some 164), .inr (some 165), .inr (some 166), .inr (some 167), .inr none, .inr none, .inr none, .inr none, .inr none, .inr none] dN_init_100 ff_N_44 rfl (oFit_a _ _) (by rw [c23 155 (by decide)]; exact b22) rfl rfl (fun H24 a24 b24 c24 => ?_)
  replace a24 := a24.trans a23
  refine o_aload_n dN_init_103 rfl ?_
  refine o_bipush (nI 6) dN_init_104 rfl ?_
  refine p_newi 6 168 (5, 90) dN_init_106 (by rw [a24]) (t := tyInt) rfl wa_i rfl rfl rfl (fun H25 a25 b25 c25 => ?_)
  refine p_putF [.inl 0, .inr (some 156), .inr (some 157), .inr (some 158), .inr (some 159), .inr (some 160), .inr (some 161), .inr (some 162), .inr (some 163), .inr (some 164), .inr (some 165), .inr (some 166), .inr (some 167), .inr (some 168), .inr none, .inr none, .inr none, .inr none, .inr none] dN_init_108 ff_N_47 rfl (oFit_a _ _) (by rw [c25 155 (by decide)]; exact b24) rfl rfl (fun H26 a26 b26 c26 => ?_)
  replace a26 := a26.trans a25
  refine o_aload_n dN_init_111 rfl ?_
  refine o_bipush (nI 6) dN_init_112 rfl ?_
  refine p_newi 6 169 (4, 84) dN_init_114 (by rw [a26]) (t := tyInt) rfl wa_i rfl rfl rfl (fun H27 a27 b27 c27 => ?_)
  refine p_putF [.inl 0, .inr (some 156), .inr (some 157), .inr (some 158), .inr (some 159), .inr (some 160), .inr (some 161), .inr (some 162), .inr (some 163), .inr (some 164), .inr (some 165), .inr (some 166), .inr (some 167), .inr (some 168), .inr (some 169), .inr none, .inr none, .inr none, .inr none] dN_init_116 ff_N_50 rfl (oFit_a _ _) (by rw [c27 155 (by decide)]; exact b26) rfl rfl (fun H28 a28 b28 c28 => ?_)
  replace a28 := a28.trans a27
  refine o_aload_n dN_init_119 rfl ?_
  refine o_bipush (nI 6) dN_init_120 rfl ?_
  refine p_newi 6 170 (3, 78) dN_init_122 (by rw [a28]) (t := tyInt) rfl wa_i rfl rfl rfl (fun H29 a29 b29 c29 => ?_)
  refine p_putF [.inl 0, .inr (some 156), .inr (some 157), .inr (some 158), .inr (some 159), .inr (some 160), .inr (some 161), .inr (some 162), .inr (some 163), .inr (some 164), .inr (some 165), .inr (some 166), .inr (some 167), .inr (some 168), .inr (some 169), .inr (some 170), .inr none, .inr none, .inr none] dN_init_124 ff_N_53 rfl (oFit_a _ _) (by rw [c29 155 (by decide)]; exact b28) rfl rfl (fun H30 a30 b30 c30 => ?_)
  replace a30 := a30.trans a29
  refine o_aload_n dN_init_127 rfl ?_
  refine o_bipush (nI 6) dN_init_128 rfl ?_
  refine p_newi 6 171 (2, 72) dN_init_130 (by rw [a30]) (t := tyInt) rfl wa_i rfl rfl rfl (fun H31 a31 b31 c31 => ?_)
  refine p_putF [.inl 0, .inr (some 156), .inr (some 157), .inr (some 158), .inr (some 159), .inr (some 160), .inr (some 161), .inr (some 162), .inr (some 163), .inr (some 164), .inr (some 165), .inr (some 166), .inr (some 167), .inr (some 168), .inr (some 169), .inr (some 170), .inr (some 171), .inr none, .inr none] dN_init_132 ff_N_56 rfl (oFit_a _ _) (by rw [c31 155 (by decide)]; exact b30) rfl rfl (fun H32 a32 b32 c32 => ?_)
  replace a32 := a32.trans a31
  refine o_aload_n dN_init_135 rfl ?_
  refine o_bipush (nI 36) dN_init_136 rfl ?_
  refine p_newi 36 172 (1, 36) dN_init_138 (by rw [a32]) (t := tyInt) rfl wa_i rfl rfl rfl (fun H33 a33 b33 c33 => ?_)
  refine p_putF [.inl 0, .inr (some 156), .inr (some 157), .inr (some 158), .inr (some 159), .inr (some 160), .inr (some 161), .inr (some 162), .inr (some 163), .inr (some 164), .inr (some 165), .inr (some 166), .inr (some 167), .inr (some 168), .inr (some 169), .inr (some 170), .inr (some 171), .inr (some 172), .inr none] dN_init_140 ff_N_59 rfl (oFit_a _ _) (by rw [c33 155 (by decide)]; exact b32) rfl rfl (fun H34 a34 b34 c34 => ?_)
  replace a34 := a34.trans a33
  refine o_aload_n dN_init_143 rfl ?_
  refine o_bipush (nI 36) dN_init_144 rfl ?_
  refine p_newi 36 173 (0, 0) dN_init_146 (by rw [a34]) (t := tyInt) rfl wa_i rfl rfl rfl (fun H35 a35 b35 c35 => ?_)
  refine p_putF [.inl 0, .inr (some 156), .inr (some 157), .inr (some 158), .inr (some 159), .inr (some 160), .inr (some 161), .inr (some 162), .inr (some 163), .inr (some 164), .inr (some 165), .inr (some 166), .inr (some 167), .inr (some 168), .inr (some 169), .inr (some 170), .inr (some 171), .inr (some 172), .inr (some 173)] dN_init_148 ff_N_62 rfl (oFit_a _ _) (by rw [c35 155 (by decide)]; exact b34) rfl rfl (fun H36 a36 b36 c36 => ?_)
  replace a36 := a36.trans a35
  refine o_vret dN_init_151 rfl ?_
  exact k H36 a36 b36 (by rw [c36 156 (by decide), c35 156 (by decide), c34 156 (by decide), c33 156 (by decide), c32 156 (by decide), c31 156 (by decide), c30 156 (by decide), c29 156 (by decide), c28 156 (by decide), c27 156 (by decide), c26 156 (by decide), c25 156 (by decide), c24 156 (by decide), c23 156 (by decide), c22 156 (by decide), c21 156 (by decide), c20 156 (by decide), c19 156 (by decide), c18 156 (by decide), c17 156 (by decide), c16 156 (by decide), c15 156 (by decide), c14 156 (by decide), c13 156 (by decide), c12 156 (by decide), c11 156 (by decide), c10 156 (by decide), c9 156 (by decide), c8 156 (by decide), c7 156 (by decide), c6 156 (by decide), c5 156 (by decide), c4 156 (by decide), c3 156 (by decide), c2 156 (by decide)]; exact b1) (by rw [c36 157 (by decide), c35 157 (by decide), c34 157 (by decide), c33 157 (by decide), c32 157 (by decide), c31 157 (by decide), c30 157 (by decide), c29 157 (by decide), c28 157 (by decide), c27 157 (by decide), c26 157 (by decide), c25 157 (by decide), c24 157 (by decide), c23 157 (by decide), c22 157 (by decide), c21 157 (by decide), c20 157 (by decide), c19 157 (by decide), c18 157 (by decide), c17 157 (by decide), c16 157 (by decide), c15 157 (by decide), c14 157 (by decide), c13 157 (by decide), c12 157 (by decide), c11 157 (by decide), c10 157 (by decide), c9 157 (by decide), c8 157 (by decide), c7 157 (by decide), c6 157 (by decide), c5 157 (by decide), c4 157 (by decide)]; exact b3) (by rw [c36 158 (by decide), c35 158 (by decide), c34 158 (by decide), c33 158 (by decide), c32 158 (by decide), c31 158 (by decide), c30 158 (by decide), c29 158 (by decide), c28 158 (by decide), c27 158 (by decide), c26 158 (by decide), c25 158 (by decide), c24 158 (by decide), c23 158 (by decide), c22 158 (by decide), c21 158 (by decide), c20 158 (by decide), c19 158 (by decide), c18 158 (by decide), c17 158 (by decide), c16 158 (by decide), c15 158 (by decide), c14 158 (by decide), c13 158 (by decide), c12 158 (by decide), c11 158 (by decide), c10 158 (by decide), c9 158 (by decide), c8 158 (by decide), c7 158 (by decide), c6 158 (by decide)]; exact b5) (by rw [c36 159 (by decide), c35 159 (by decide), c34 159 (by decide), c33 159 (by decide), c32 159 (by decide), c31 159 (by decide), c30 159 (by decide), c29 159 (by decide), c28 159 (by decide), c27 159 (by decide), c26 159 (by decide), c25 159 (by decide), c24 159 (by decide), c23 159 (by decide), c22 159 (by decide), c21 159 (by decide), c20 159 (by decide), c19 159 (by decide), c18 159 (by decide), c17 159 (by decide), c16 159 (by decide), c15 159 (by decide), c14 159 (by decide), c13 159 (by decide), c12 159 (by decide), c11 159 (by decide), c10 159 (by decide), c9 159 (by decide), c8 159 (by decide)]; exact b7) (by rw [c36 160 (by decide), c35 160 (by decide), c34 160 (by decide), c33 160 (by decide), c32 160 (by decide), c31 160 (by decide), c30 160 (by decide), c29 160 (by decide), c28 160 (by decide), c27 160 (by decide), c26 160 (by decide), c25 160 (by decide), c24 160 (by decide), c23 160 (by decide), c22 160 (by decide), c21 160 (by decide), c20 160 (by decide), c19 160 (by decide), c18 160 (by decide), c17 160 (by decide), c16 160 (by decide), c15 160 (by decide), c14 160 (by decide), c13 160 (by decide), c12 160 (by decide), c11 160 (by decide), c10 160 (by decide)]; exact b9) (by rw [c36 161 (by decide), c35 161 (by decide), c34 161 (by decide), c33 161 (by decide), c32 161 (by decide), c31 161 (by decide), c30 161 (by decide), c29 161 (by decide), c28 161 (by decide), c27 161 (by decide), c26 161 (by decide), c25 161 (by decide), c24 161 (by decide), c23 161 (by decide), c22 161 (by decide), c21 161 (by decide), c20 161 (by decide), c19 161 (by decide), c18 161 (by decide), c17 161 (by decide), c16 161 (by decide), c15 161 (by decide), c14 161 (by decide), c13 161 (by decide), c12 161 (by decide)]; exact b11) (by rw [c36 162 (by decide), c35 162 (by decide), c34 162 (by decide), c33 162 (by decide), c32 162 (by decide), c31 162 (by decide), c30 162 (by decide), c29 162 (by decide), c28 162 (by decide), c27 162 (by decide), c26 162 (by decide), c25 162 (by decide), c24 162 (by decide), c23 162 (by decide), c22 162 (by decide), c21 162 (by decide), c20 162 (by decide), c19 162 (by decide), c18 162 (by decide), c17 162 (by decide), c16 162 (by decide), c15 162 (by decide), c14 162 (by decide)]; exact b13) (by rw [c36 163 (by decide), c35 163 (by decide), c34 163 (by decide), c33 163 (by decide), c32 163 (by decide), c31 163 (by decide), c30 163 (by decide), c29 163 (by decide), c28 163 (by decide), c27 163 (by decide), c26 163 (by decide), c25 163 (by decide), c24 163 (by decide), c23 163 (by decide), c22 163 (by decide), c21 163 (by decide), c20 163 (by decide), c19 163 (by decide), c18 163 (by decide), c17 163 (by decide), c16 163 (by decide)]; exact b15) (by rw [c36 164 (by decide), c35 164 (by decide), c34 164 (by decide), c33 164 (by decide), c32 164 (by decide), c31 164 (by decide), c30 164 (by decide), c29 164 (by decide), c28 164 (by decide), c27 164 (by decide), c26 164 (by decide), c25 164 (by decide), c24 164 (by decide), c23 164 (by decide), c22 164 (by decide), c21 164 (by decide), c20 164 (by decide), c19 164 (by decide), c18 164 (by decide)]; exact b17) (by rw [c36 165 (by decide), c35 165 (by decide), c34 165 (by decide), c33 165 (by decide), c32 165 (by decide), c31 165 (by decide), c30 165 (by decide), c29 165 (by decide), c28 165 (by decide), c27 165 (by decide), c26 165 (by decide), c25 165 (by decide), c24 165 (by decide), c23 165 (by decide), c22 165 (by decide), c21 165 (by decide), c20 165 (by decide)]; exact b19) (by rw [c36 166 (by decide), c35 166 (by decide), c34 166 (by decide), c33 166 (by decide), c32 166 (by decide), c31 166 (by decide), c30 166 (by decide), c29 166 (by decide), c28 166 (by decide), c27 166 (by decide), c26 166 (by decide), c25 166 (by decide), c24 166 (by decide), c23 166 (by decide), c22 166 (by decide)]; exact b21) (by rw [c36 167 (by decide), c35 167 (by decide), c34 167 (by decide), c33 167 (by decide), c32 167 (by decide), c31 167 (by decide), c30 167 (by decide), c29 167 (by decide), c28 167 (by decide), c27 167 (by decide), c26 167 (by decide), c25 167 (by decide), c24 167 (by decide)]; exact b23) (by rw [c36 168 (by decide), c35 168 (by decide), c34 168 (by decide), c33 168 (by decide), c32 168 (by decide), c31 168 (by decide), c30 168 (by decide), c29 168 (by decide), c28 168 (by decide), c27 168 (by decide), c26 168 (by decide)]; exact b25) (by rw [c36 169 (by decide), c35 169 (by decide), c34 169 (by decide), c33 169 (by decide), c32 169 (by decide), c31 169 (by decide), c30 169 (by decide), c29 169 (by decide), c28 169 (by decide)]; exact b27) (by rw [c36 170 (by decide), c35 170 (by decide), c34 170 (by decide), c33 170 (by decide), c32 170 (by decide), c31 170 (by decide), c30 170 (by decide)]; exact b29) (by rw [c36 171 (by decide), c35 171 (by decide), c34 171 (by decide), c33 171 (by decide), c32 171 (by decide)]; exact b31) (by rw [c36 172 (by decide), c35 172 (by decide), c34 172 (by decide)]; exact b33) (by rw [c36 173 (by decide)]; exact b35) (fun q hq => by rw [c36 q (by omega), c35 q (by omega), c34 q (by omega), c33 q (by omega), c32 q (by omega), c31 q (by omega), c30 q (by omega), c29 q (by omega), c28 q (by omega), c27 q (by omega), c26 q (by omega), c25 q (by omega), c24 q (by omega), c23 q (by omega), c22 q (by omega), c21 q (by omega), c20 q (by omega), c19 q (by omega), c18 q (by omega), c17 q (by omega), c16 q (by omega), c15 q (by omega), c14 q (by omega), c13 q (by omega), c12 q (by omega), c11 q (by omega), c10 q (by omega), c9 q (by omega), c8 q (by omega), c7 q (by omega), c6 q (by omega), c5 q (by omega), c4 q (by omega), c3 q (by omega), c2 q (by omega), c1 q (by omega)])
def rF (g : Nat → Nat) (j : Nat) : Nat → Option Nat := fun q => if q < j then some (g q) else none
theorem rF_0 (g : Nat → Nat) : rF g 0 = fun _ => none := funext fun q => if_neg (Nat.not_lt_zero q)
theorem rF_up {g : Nat → Nat} {j v : Nat} (h : g j = v) : va_up (rF g j) j (some v) = rF g (j + 1) := by
  subst h
  funext q
  by_cases e : q = j
  · subst e
    simp [va_up, rF]
  · have h1 : va_up (rF g j) j (some (g j)) q = rF g j q := by simp [va_up, e]
    rw [h1]
    unfold rF
    by_cases h2 : q < j
    · rw [if_pos h2, if_pos (by omega)]
    · rw [if_neg h2, if_neg (by omega)]
theorem rF_end (g : Nat → Nat) (n : Nat) : rF g n = fun j => ((List.range n).map g)[j]? := by
  funext q
  unfold rF
  by_cases h : q < n
  · rw [if_pos h, List.getElem?_map, List.getElem?_range h]
    rfl
  · rw [if_neg h]
    symm
    rw [List.getElem?_eq_none_iff, List.length_map, List.length_range]
    omega
def cW (H : oH) (z : Nat) : Prop := H.2 z = some (.inr (.inr (ciWrite, [.inr (some (z + 1)), .inl 0, .inl 0, .inl 0, .inl 0, .inl 0]))) ∧ H.2 (z + 1) = some (.inl (tyInt, 6, nwF))
def cC (H : oH) (z : Nat) : Prop := H.2 z = some (.inr (.inr (ciCenter, [.inr (some (z + 1)), .inr (some (z + 2)), .inr (some (z + 3)), .inr (some (z + 4))]))) ∧ H.2 (z + 1) = some (.inl (tyBool, 40, fun _ => 0)) ∧ H.2 (z + 2) = some (.inl (tyInt, 6, nwF)) ∧ H.2 (z + 3) = some (.inl (tyInt, 2, fun _ => 0)) ∧ H.2 (z + 4) = some (.inr (.inl (tyRow, 2, (va_up (va_up (fun _ => none) 0 (some (z + 5))) 1 (some (z + 7)))))) ∧ H.2 (z + 5) = some (.inr (.inr (ciRow, [.inr (some (z + 6)), .inl 0]))) ∧ H.2 (z + 6) = some (.inl (tyInt, 40, fun _ => 0)) ∧ H.2 (z + 7) = some (.inr (.inr (ciRow, [.inr (some (z + 8)), .inl 0]))) ∧ H.2 (z + 8) = some (.inl (tyInt, 40, fun _ => 0))
def cK (H : oH) (z c : Nat) : Prop := H.2 z = some (.inr (.inr (ciClient, [.inl (nI c), .inr (some (z + 1)), .inr (some (z + 2)), .inr (some (z + 3)), .inl 0, .inl 0, .inl 0]))) ∧ H.2 (z + 1) = some (.inl (tyInt, 6, nwF)) ∧ H.2 (z + 2) = some (.inl (tyInt, 6, nwF)) ∧ H.2 (z + 3) = some (.inl (tyInt, 6, nwF))
def cR (H : oH) (z : Nat) : Prop := H.2 z = some (.inr (.inr (ciRow, [.inr (some (z + 1)), .inl 0]))) ∧ H.2 (z + 1) = some (.inl (tyInt, 40, fun _ => 0))
theorem cW.to {H H' : oH} {z : Nat} (h : cW H z) (e : ∀ q, z ≤ q → q ≤ z + 1 → H'.2 q = H.2 q) : cW H' z := ⟨(e z (by omega) (by omega)).trans h.1, (e (z + 1) (by omega) (by omega)).trans h.2⟩
theorem cR.to {H H' : oH} {z : Nat} (h : cR H z) (e : ∀ q, z ≤ q → q ≤ z + 1 → H'.2 q = H.2 q) : cR H' z := ⟨(e z (by omega) (by omega)).trans h.1, (e (z + 1) (by omega) (by omega)).trans h.2⟩
theorem cK.to {H H' : oH} {z c : Nat} (h : cK H z c) (e : ∀ q, z ≤ q → q ≤ z + 3 → H'.2 q = H.2 q) : cK H' z c := ⟨(e z (by omega) (by omega)).trans h.1, (e (z + 1) (by omega) (by omega)).trans h.2.1, (e (z + 2) (by omega) (by omega)).trans h.2.2.1, (e (z + 3) (by omega) (by omega)).trans h.2.2.2⟩
theorem cC.to {H H' : oH} {z : Nat} (h : cC H z) (e : ∀ q, z ≤ q → q ≤ z + 8 → H'.2 q = H.2 q) : cC H' z := by
  unfold cC at h ⊢
  rw [e z (by omega) (by omega), e (z + 1) (by omega) (by omega), e (z + 2) (by omega) (by omega), e (z + 3) (by omega) (by omega), e (z + 4) (by omega) (by omega), e (z + 5) (by omega) (by omega), e (z + 6) (by omega) (by omega), e (z + 7) (by omega) (by omega), e (z + 8) (by omega) (by omega)]
  exact h
def SI (a b c d : Nat) (H : oH) : Prop :=
  H.1 = 5 + 2 * a + 9 * b + 4 * c + 2 * d ∧ H.2 1 = some (.inr (.inr (ciStore, [.inr (some 2), .inr (some 3), .inr (some 4), .inr (some 5), .inl 0]))) ∧
  H.2 2 = some (.inr (.inl (tyWrite, 40, rF (fun w => 6 + 2 * w) a))) ∧ H.2 3 = some (.inr (.inl (tyCenter, 3, rF (fun w => 86 + 9 * w) b))) ∧ H.2 4 = some (.inr (.inl (tyClient, 6, rF (fun w => 113 + 4 * w) c))) ∧ H.2 5 = some (.inr (.inl (tyRow, 9, rF (fun w => 137 + 2 * w) d))) ∧
  (∀ w, w < a → cW H (6 + 2 * w)) ∧ (∀ w, w < b → cC H (86 + 9 * w)) ∧ (∀ w, w < c → cK H (113 + 4 * w) (w % 3)) ∧ ∀ w, w < d → cR H (137 + 2 * w)
theorem k_lW {G : oG} {Q : oP} (k : ∀ H' : oH, SI 40 0 0 0 H' → Ok G M_S_init 66 [(0, .inr (some 1)), (1, .inl (nI 40))] [] H' (69, 942) Q) : ∀ (t a : Nat) (H : oH), a + t = 40 → SI a 0 0 0 H → Ok G M_S_init 41 [(0, .inr (some 1)), (1, .inl (nI a))] [] H (2 * t + 69, 12 * t + 942) Q := by
  intro t
  induction t with
  | zero =>
    intro a H ha hS
    obtain rfl : a = 40 := by omega
    refine o_iload_n dS_init_41 rfl ?_
    refine o_bipush (nI 40) dS_init_42 rfl ?_
    refine n_icmp_ge 66 dS_init_44 rfl (by decide) (by decide) (fun _ => ?_) (fun h => absurd h (by decide))
    exact k H hS
  | succ t ih =>
    intro a H ha hS
    refine o_iload_n dS_init_41 rfl ?_
    refine o_bipush (nI 40) dS_init_42 rfl ?_
    refine n_icmp_ge 66 dS_init_44 rfl (by omega) (by decide) (fun h => absurd h (by omega)) (fun _ => ?_)
    obtain ⟨h0, h1, h2, h3, h4, h5, hW, hC, hK, hR⟩ := hS
    refine o_aload_n dS_init_47 rfl ?_
    refine o_get dS_init_48 fl_S_11 h1 (v := .inr (some 2)) rfl ?_
    refine o_iload_n dS_init_51 rfl ?_
    refine p_new (6 + 2 * a) (2 * t + 70, 12 * t + 948) dS_init_52 (by omega) (ci := ciWrite) (q9 := (RW, TW, 6)) rfl cl_S_9 it_W nt_W (Prod.ext (by show 2 * (t + 1) + 69 = 2 * t + 70 + 1; omega) (by show 12 * (t + 1) + 942 = 12 * t + 948 + 6; omega)) (fun H1 a1 b1 c1 => ?_)
    refine o_dup dS_init_55 ?_
    refine o_callI M_W_init [] [.inr (some (6 + 2 * a)), .inl (nI a), .inr (some 2)] (1, 6) (2 * t + 69, 12 * t + 942) dS_init_56 mk_W_init in_W_init rfl rfl ml_S_33 rfl rfl rfl (Nat.le_of_ble_eq_true rfl) rfl (Prod.ext (by show 2 * t + 70 = 1 + (2 * t + 69); omega) (by show 12 * t + 948 = 6 + (12 * t + 942); omega)) ?_
    refine k_Write (r := 6 + 2 * a) (n := 6 + 2 * a) (by omega) (by omega) b1 (fun H2 a2 b2 d2 c2 => ?_)
    show Ok G M_S_init 59 [(0, .inr (some 1)), (1, .inl (nI a))] [.inr (some (6 + 2 * a)), .inl (nI a), .inr (some 2)] H2 (2 * t + 69, 12 * t + 942) Q
    have cc : ∀ q, q < 6 + 2 * a → H2.2 q = H.2 q := fun q hq => (c2 q (by omega) (by omega)).trans (c1 q (by omega))
    refine p_aast a dS_init_59 (by rw [cc 2 (by omega)]; exact h2) b2 (q9 := (RW, TW, 6)) rfl rfl rfl rfl (by omega) (fun H3 a3 b3 c3 => ?_)
    refine o_iinc (nI (a + 1)) [(0, _), (1, _)] dS_init_60 rfl (nInc _) rfl rfl ?_
    refine o_goto 41 dS_init_63 rfl ?_
    refine ih (a + 1) H3 (by omega) ?_
    have cd : ∀ q, ¬ q = 2 → q < 6 + 2 * a → H3.2 q = H.2 q := fun q h6 h7 => (c3 q h6).trans (cc q h7)
    rw [rF_up (g := fun w => 6 + 2 * w) rfl] at b3
    exact ⟨by omega, by rw [cd 1 (by omega) (by omega)]; exact h1, b3, by rw [cd 3 (by omega) (by omega)]; exact h3, by rw [cd 4 (by omega) (by omega)]; exact h4, by rw [cd 5 (by omega) (by omega)]; exact h5, fun w hw => (Nat.lt_or_eq_of_le (Nat.le_of_lt_succ hw)).elim (fun h6 => (hW w h6).to fun q h7 h8 => cd q (by omega) (by omega)) (fun h6 => by subst h6; exact ⟨(c3 _ (by omega)).trans b2, (c3 _ (by omega)).trans d2⟩), fun w hw => absurd hw (Nat.not_lt_zero w), fun w hw => absurd hw (Nat.not_lt_zero w), fun w hw => absurd hw (Nat.not_lt_zero w)⟩
theorem k_lC {G : oG} {Q : oP} (k : ∀ H' : oH, SI 40 3 0 0 H' → Ok G M_S_init 92 [(0, .inr (some 1)), (1, .inl (nI 3))] [] H' (42, 528) Q) : ∀ (t a : Nat) (H : oH), a + t = 3 → SI 40 a 0 0 H → Ok G M_S_init 68 [(0, .inr (some 1)), (1, .inl (nI a))] [] H (9 * t + 42, 138 * t + 528) Q := by
  intro t
  induction t with
  | zero =>
    intro a H ha hS
    obtain rfl : a = 3 := by omega
    refine o_iload_n dS_init_68 rfl ?_
    refine o_iconst (nI 3) dS_init_69 rfl ?_
    refine n_icmp_ge 92 dS_init_70 rfl (by decide) (by decide) (fun _ => ?_) (fun h => absurd h (by decide))
    exact k H hS
  | succ t ih =>
    intro a H ha hS
    refine o_iload_n dS_init_68 rfl ?_
    refine o_iconst (nI 3) dS_init_69 rfl ?_
    refine n_icmp_ge 92 dS_init_70 rfl (by omega) (by decide) (fun h => absurd h (by omega)) (fun _ => ?_)
    obtain ⟨h0, h1, h2, h3, h4, h5, hW, hC, hK, hR⟩ := hS
    refine o_aload_n dS_init_73 rfl ?_
    refine o_get dS_init_74 fl_S_17 h1 (v := .inr (some 3)) rfl ?_
    refine o_iload_n dS_init_77 rfl ?_
    refine p_new (86 + 9 * a) (9 * t + 50, 138 * t + 662) dS_init_78 (by omega) (ci := ciCenter) (q9 := (RC, TC, 4)) rfl cl_S_15 it_C nt_C (Prod.ext (by show 9 * (t + 1) + 42 = 9 * t + 50 + 1; omega) (by show 138 * (t + 1) + 528 = 138 * t + 662 + 4; omega)) (fun H1 a1 b1 c1 => ?_)
    refine o_dup dS_init_81 ?_
    refine o_callI M_C_init [] [.inr (some (86 + 9 * a)), .inl (nI a), .inr (some 3)] (8, 134) (9 * t + 42, 138 * t + 528) dS_init_82 mk_C_init in_C_init rfl rfl ml_S_34 rfl rfl rfl (Nat.le_of_ble_eq_true rfl) rfl (Prod.ext (by show 9 * t + 50 = 8 + (9 * t + 42); omega) (by show 138 * t + 662 = 134 + (138 * t + 528); omega)) ?_
    refine k_Center (r := 86 + 9 * a) (n := 86 + 9 * a) (by omega) (by omega) b1 (fun H2 a2 b2 d2 e2 f2 g2 i2 j2 l2 m2 c2 => ?_)
    show Ok G M_S_init 85 [(0, .inr (some 1)), (1, .inl (nI a))] [.inr (some (86 + 9 * a)), .inl (nI a), .inr (some 3)] H2 (9 * t + 42, 138 * t + 528) Q
    have cc : ∀ q, q < 86 + 9 * a → H2.2 q = H.2 q := fun q hq => (c2 q (by omega) (by omega)).trans (c1 q (by omega))
    refine p_aast a dS_init_85 (by rw [cc 3 (by omega)]; exact h3) b2 (q9 := (RC, TC, 4)) rfl rfl rfl rfl (by omega) (fun H3 a3 b3 c3 => ?_)
    refine o_iinc (nI (a + 1)) [(0, _), (1, _)] dS_init_86 rfl (nInc _) rfl rfl ?_
    refine o_goto 68 dS_init_89 rfl ?_
    refine ih (a + 1) H3 (by omega) ?_
    have cd : ∀ q, ¬ q = 3 → q < 86 + 9 * a → H3.2 q = H.2 q := fun q h6 h7 => (c3 q h6).trans (cc q h7)
    rw [rF_up (g := fun w => 86 + 9 * w) rfl] at b3
    exact ⟨by omega, by rw [cd 1 (by omega) (by omega)]; exact h1, by rw [cd 2 (by omega) (by omega)]; exact h2, b3, by rw [cd 4 (by omega) (by omega)]; exact h4, by rw [cd 5 (by omega) (by omega)]; exact h5, fun w hw => (hW w hw).to fun q h7 h8 => cd q (by omega) (by omega), fun w hw => (Nat.lt_or_eq_of_le (Nat.le_of_lt_succ hw)).elim (fun h6 => (hC w h6).to fun q h7 h8 => cd q (by omega) (by omega)) (fun h6 => by subst h6; exact ⟨(c3 _ (by omega)).trans b2, (c3 _ (by omega)).trans d2, (c3 _ (by omega)).trans e2, (c3 _ (by omega)).trans f2, (c3 _ (by omega)).trans g2, (c3 _ (by omega)).trans i2, (c3 _ (by omega)).trans j2, (c3 _ (by omega)).trans l2, (c3 _ (by omega)).trans m2⟩), fun w hw => absurd hw (Nat.not_lt_zero w), fun w hw => absurd hw (Nat.not_lt_zero w)⟩
theorem k_lK {G : oG} {Q : oP} (k : ∀ H' : oH, SI 40 3 6 0 H' → Ok G M_S_init 122 [(0, .inr (some 1)), (1, .inl (nI 6))] [] H' (18, 378) Q) : ∀ (t a : Nat) (H : oH), a + t = 6 → SI 40 3 a 0 H → Ok G M_S_init 94 [(0, .inr (some 1)), (1, .inl (nI a))] [] H (4 * t + 18, 25 * t + 378) Q := by
  intro t
  induction t with
  | zero =>
    intro a H ha hS
    obtain rfl : a = 6 := by omega
    refine o_iload_n dS_init_94 rfl ?_
    refine o_bipush (nI 6) dS_init_95 rfl ?_
    refine n_icmp_ge 122 dS_init_97 rfl (by decide) (by decide) (fun _ => ?_) (fun h => absurd h (by decide))
    exact k H hS
  | succ t ih =>
    intro a H ha hS
    refine o_iload_n dS_init_94 rfl ?_
    refine o_bipush (nI 6) dS_init_95 rfl ?_
    refine n_icmp_ge 122 dS_init_97 rfl (by omega) (by decide) (fun h => absurd h (by omega)) (fun _ => ?_)
    obtain ⟨h0, h1, h2, h3, h4, h5, hW, hC, hK, hR⟩ := hS
    refine o_aload_n dS_init_100 rfl ?_
    refine o_get dS_init_101 fl_S_23 h1 (v := .inr (some 4)) rfl ?_
    refine o_iload_n dS_init_104 rfl ?_
    refine p_new (113 + 4 * a) (4 * t + 21, 25 * t + 396) dS_init_105 (by omega) (ci := ciClient) (q9 := (RK, TK, 7)) rfl cl_S_21 it_K nt_K (Prod.ext (by show 4 * (t + 1) + 18 = 4 * t + 21 + 1; omega) (by show 25 * (t + 1) + 378 = 25 * t + 396 + 7; omega)) (fun H1 a1 b1 c1 => ?_)
    refine o_dup dS_init_108 ?_
    refine o_iload_n dS_init_109 rfl ?_
    refine o_iconst (nI 3) dS_init_110 rfl ?_
    refine o_irem dS_init_111 (by decide) ?_
    refine o_top (nI (a % 3)) (pk_rem (by omega) (by decide) (by decide)) ?_
    refine o_callI M_K_init [.inl (nI (a % 3))] [.inr (some (113 + 4 * a)), .inl (nI a), .inr (some 4)] (3, 18) (4 * t + 18, 25 * t + 378) dS_init_112 mk_K_init in_K_init rfl rfl ml_S_35 rfl rfl rfl (Nat.le_of_ble_eq_true rfl) rfl (Prod.ext (by show 4 * t + 21 = 3 + (4 * t + 18); omega) (by show 25 * t + 396 = 18 + (25 * t + 378); omega)) ?_
    refine k_Client (r := 113 + 4 * a) (n := 113 + 4 * a) (c := a % 3) (by omega) (by omega) b1 (fun H2 a2 b2 d2 e2 f2 c2 => ?_)
    show Ok G M_S_init 115 [(0, .inr (some 1)), (1, .inl (nI a))] [.inr (some (113 + 4 * a)), .inl (nI a), .inr (some 4)] H2 (4 * t + 18, 25 * t + 378) Q
    have cc : ∀ q, q < 113 + 4 * a → H2.2 q = H.2 q := fun q hq => (c2 q (by omega) (by omega) (by omega) (by omega)).trans (c1 q (by omega))
    refine p_aast a dS_init_115 (by rw [cc 4 (by omega)]; exact h4) b2 (q9 := (RK, TK, 7)) rfl rfl rfl rfl (by omega) (fun H3 a3 b3 c3 => ?_)
    refine o_iinc (nI (a + 1)) [(0, _), (1, _)] dS_init_116 rfl (nInc _) rfl rfl ?_
    refine o_goto 94 dS_init_119 rfl ?_
    refine ih (a + 1) H3 (by omega) ?_
    have cd : ∀ q, ¬ q = 4 → q < 113 + 4 * a → H3.2 q = H.2 q := fun q h6 h7 => (c3 q h6).trans (cc q h7)
    rw [rF_up (g := fun w => 113 + 4 * w) rfl] at b3
    exact ⟨by omega, by rw [cd 1 (by omega) (by omega)]; exact h1, by rw [cd 2 (by omega) (by omega)]; exact h2, by rw [cd 3 (by omega) (by omega)]; exact h3, b3, by rw [cd 5 (by omega) (by omega)]; exact h5, fun w hw => (hW w hw).to fun q h7 h8 => cd q (by omega) (by omega), fun w hw => (hC w hw).to fun q h7 h8 => cd q (by omega) (by omega), fun w hw => (Nat.lt_or_eq_of_le (Nat.le_of_lt_succ hw)).elim (fun h6 => (hK w h6).to fun q h7 h8 => cd q (by omega) (by omega)) (fun h6 => by subst h6; exact ⟨(c3 _ (by omega)).trans b2, (c3 _ (by omega)).trans d2, (c3 _ (by omega)).trans e2, (c3 _ (by omega)).trans f2⟩), fun w hw => absurd hw (Nat.not_lt_zero w)⟩
theorem k_lR {G : oG} {Q : oP} (k : ∀ H' : oH, SI 40 3 6 9 H' → Ok G M_S_init 149 [(0, .inr (some 1)), (1, .inl (nI 9))] [] H' (0, 0) Q) : ∀ (t a : Nat) (H : oH), a + t = 9 → SI 40 3 6 a H → Ok G M_S_init 124 [(0, .inr (some 1)), (1, .inl (nI a))] [] H (2 * t + 0, 42 * t + 0) Q := by
  intro t
  induction t with
  | zero =>
    intro a H ha hS
    obtain rfl : a = 9 := by omega
    refine o_iload_n dS_init_124 rfl ?_
    refine o_bipush (nI 9) dS_init_125 rfl ?_
    refine n_icmp_ge 149 dS_init_127 rfl (by decide) (by decide) (fun _ => ?_) (fun h => absurd h (by decide))
    exact k H hS
  | succ t ih =>
    intro a H ha hS
    refine o_iload_n dS_init_124 rfl ?_
    refine o_bipush (nI 9) dS_init_125 rfl ?_
    refine n_icmp_ge 149 dS_init_127 rfl (by omega) (by decide) (fun h => absurd h (by omega)) (fun _ => ?_)
    obtain ⟨h0, h1, h2, h3, h4, h5, hW, hC, hK, hR⟩ := hS
    refine o_aload_n dS_init_130 rfl ?_
    refine o_get dS_init_131 fl_S_29 h1 (v := .inr (some 5)) rfl ?_
    refine o_iload_n dS_init_134 rfl ?_
    refine p_new (137 + 2 * a) (2 * t + 1, 42 * t + 40) dS_init_135 (by omega) (ci := ciRow) (q9 := (RR, TR, 2)) rfl cl_S_27 it_R nt_R (Prod.ext (by show 2 * (t + 1) + 0 = 2 * t + 1 + 1; omega) (by show 42 * (t + 1) + 0 = 42 * t + 40 + 2; omega)) (fun H1 a1 b1 c1 => ?_)
    refine o_dup dS_init_138 ?_
    refine o_callI M_R_init [] [.inr (some (137 + 2 * a)), .inl (nI a), .inr (some 5)] (1, 40) (2 * t + 0, 42 * t + 0) dS_init_139 mk_R_init in_R_init rfl rfl ml_S_38 rfl rfl rfl (Nat.le_of_ble_eq_true rfl) rfl (Prod.ext (by show 2 * t + 1 = 1 + (2 * t + 0); omega) (by show 42 * t + 40 = 40 + (42 * t + 0); omega)) ?_
    refine k_Row (r := 137 + 2 * a) (n := 137 + 2 * a) (by omega) (by omega) b1 (fun H2 a2 b2 d2 c2 => ?_)
    show Ok G M_S_init 142 [(0, .inr (some 1)), (1, .inl (nI a))] [.inr (some (137 + 2 * a)), .inl (nI a), .inr (some 5)] H2 (2 * t + 0, 42 * t + 0) Q
    have cc : ∀ q, q < 137 + 2 * a → H2.2 q = H.2 q := fun q hq => (c2 q (by omega) (by omega)).trans (c1 q (by omega))
    refine p_aast a dS_init_142 (by rw [cc 5 (by omega)]; exact h5) b2 (q9 := (RR, TR, 2)) rfl rfl rfl rfl (by omega) (fun H3 a3 b3 c3 => ?_)
    refine o_iinc (nI (a + 1)) [(0, _), (1, _)] dS_init_143 rfl (nInc _) rfl rfl ?_
    refine o_goto 124 dS_init_146 rfl ?_
    refine ih (a + 1) H3 (by omega) ?_
    have cd : ∀ q, ¬ q = 5 → q < 137 + 2 * a → H3.2 q = H.2 q := fun q h6 h7 => (c3 q h6).trans (cc q h7)
    rw [rF_up (g := fun w => 137 + 2 * w) rfl] at b3
    exact ⟨by omega, by rw [cd 1 (by omega) (by omega)]; exact h1, by rw [cd 2 (by omega) (by omega)]; exact h2, by rw [cd 3 (by omega) (by omega)]; exact h3, by rw [cd 4 (by omega) (by omega)]; exact h4, b3, fun w hw => (hW w hw).to fun q h7 h8 => cd q (by omega) (by omega), fun w hw => (hC w hw).to fun q h7 h8 => cd q (by omega) (by omega), fun w hw => (hK w hw).to fun q h7 h8 => cd q (by omega) (by omega), fun w hw => (Nat.lt_or_eq_of_le (Nat.le_of_lt_succ hw)).elim (fun h6 => (hR w h6).to fun q h7 h8 => cd q (by omega) (by omega)) (fun h6 => by subst h6; exact ⟨(c3 _ (by omega)).trans b2, (c3 _ (by omega)).trans d2⟩)⟩
theorem k_Store {G : oG} {H : oH} {Q : oP} (hn : H.1 = 1) (he : H.2 1 = some (.inr (.inr (ciStore, oDef ciStore)))) (k : ∀ H' : oH, SI 40 3 6 9 H' → Q none H') : Ok G M_S_init 0 [(0, .inr (some 1))] [] H (153, 1480) Q := by
  refine o_aload_n dS_init_0 rfl ?_
  refine o_objInit dS_init_1 oi_S_1 wo_i wo_c rfl rfl ?_
  refine o_aload_n dS_init_4 rfl ?_
  refine o_bipush (nI 40) dS_init_5 rfl ?_
  refine p_anew 40 2 (152, 1440) dS_init_7 (by rw [hn]) (t := tyWrite) rfl cl_S_9 (by decide) rfl rfl rfl (fun H1 a1 b1 c1 => ?_)
  refine p_putF [.inr (some 2), .inr none, .inr none, .inr none, .inl 0] dS_init_10 ff_S_11 rfl (oFit_a _ _) (by rw [c1 1 (by decide)]; exact he) rfl rfl (fun H2 a2 b2 c2 => ?_)
  replace a2 := a2.trans a1
  refine o_aload_n dS_init_13 rfl ?_
  refine o_iconst (nI 3) dS_init_14 rfl ?_
  refine p_anew 3 3 (151, 1437) dS_init_15 (by rw [a2]) (t := tyCenter) rfl cl_S_15 (by decide) rfl rfl rfl (fun H3 a3 b3 c3 => ?_)
  refine p_putF [.inr (some 2), .inr (some 3), .inr none, .inr none, .inl 0] dS_init_18 ff_S_17 rfl (oFit_a _ _) (by rw [c3 1 (by decide)]; exact b2) rfl rfl (fun H4 a4 b4 c4 => ?_)
  replace a4 := a4.trans a3
  refine o_aload_n dS_init_21 rfl ?_
  refine o_bipush (nI 6) dS_init_22 rfl ?_
  refine p_anew 6 4 (150, 1431) dS_init_24 (by rw [a4]) (t := tyClient) rfl cl_S_21 (by decide) rfl rfl rfl (fun H5 a5 b5 c5 => ?_)
  refine p_putF [.inr (some 2), .inr (some 3), .inr (some 4), .inr none, .inl 0] dS_init_27 ff_S_23 rfl (oFit_a _ _) (by rw [c5 1 (by decide)]; exact b4) rfl rfl (fun H6 a6 b6 c6 => ?_)
  replace a6 := a6.trans a5
  refine o_aload_n dS_init_30 rfl ?_
  refine o_bipush (nI 9) dS_init_31 rfl ?_
  refine p_anew 9 5 (149, 1422) dS_init_33 (by rw [a6]) (t := tyRow) rfl cl_S_27 (by decide) rfl rfl rfl (fun H7 a7 b7 c7 => ?_)
  refine p_putF [.inr (some 2), .inr (some 3), .inr (some 4), .inr (some 5), .inl 0] dS_init_36 ff_S_29 rfl (oFit_a _ _) (by rw [c7 1 (by decide)]; exact b6) rfl rfl (fun H8 a8 b8 c8 => ?_)
  replace a8 := a8.trans a7
  have hS : SI 0 0 0 0 H8 := ⟨a8, b8, by rw [c8 2 (by decide), c7 2 (by decide), c6 2 (by decide), c5 2 (by decide), c4 2 (by decide), c3 2 (by decide), c2 2 (by decide), rF_0]; exact b1, by rw [c8 3 (by decide), c7 3 (by decide), c6 3 (by decide), c5 3 (by decide), c4 3 (by decide), rF_0]; exact b3, by rw [c8 4 (by decide), c7 4 (by decide), c6 4 (by decide), rF_0]; exact b5, by rw [c8 5 (by decide), rF_0]; exact b7, fun w hw => absurd hw (Nat.not_lt_zero w), fun w hw => absurd hw (Nat.not_lt_zero w), fun w hw => absurd hw (Nat.not_lt_zero w), fun w hw => absurd hw (Nat.not_lt_zero w)⟩
  refine o_iconst (nI 0) dS_init_39 rfl ?_
  refine o_istore_n [(0, _), (1, _)] dS_init_40 rfl rfl ?_
  refine k_lW (fun J0 s0 => ?_) 40 0 H8 rfl hS
  refine o_iconst (nI 0) dS_init_66 rfl ?_
  refine o_istore_n [(0, _), (1, _)] dS_init_67 rfl rfl ?_
  refine k_lC (fun J1 s1 => ?_) 3 0 J0 rfl s0
  refine o_iconst (nI 0) dS_init_92 rfl ?_
  refine o_istore_n [(0, _), (1, _)] dS_init_93 rfl rfl ?_
  refine k_lK (fun J2 s2 => ?_) 6 0 J1 rfl s1
  refine o_iconst (nI 0) dS_init_122 rfl ?_
  refine o_istore_n [(0, _), (1, _)] dS_init_123 rfl rfl ?_
  refine k_lR (fun J3 s3 => ?_) 9 0 J2 rfl s2
  refine o_vret dS_init_149 rfl ?_
  exact k J3 s3
