/-! the maker of the reference's object -/
theorem ft_RX11_7 : FLt RX11 7 10 0 true (tyX11 0) := ⟨by decide, by decide, RX11, TX11, tyX11, rfl, uw10, fw_RX11_7, rfl, rfl, tyX11_ok 0 (by decide), tyX11_ok, nmX11⟩
theorem ft_RX11_13 : FLt RX11 13 10 1 true (tyX11 1) := ⟨by decide, by decide, RX11, TX11, tyX11, rfl, uw10, fw_RX11_13, rfl, rfl, tyX11_ok 1 (by decide), tyX11_ok, nmX11⟩
theorem ft_RX11_16 : FLt RX11 16 10 2 true (tyX11 2) := ⟨by decide, by decide, RX11, TX11, tyX11, rfl, uw10, fw_RX11_16, rfl, rfl, tyX11_ok 2 (by decide), tyX11_ok, nmX11⟩
theorem ft_RX11_19 : FLt RX11 19 10 4 true (tyX11 4) := ⟨by decide, by decide, RX11, TX11, tyX11, rfl, uw10, fw_RX11_19, rfl, rfl, tyX11_ok 4 (by decide), tyX11_ok, nmX11⟩
theorem ft_RX11_22 : FLt RX11 22 10 5 true (tyX11 5) := ⟨by decide, by decide, RX11, TX11, tyX11, rfl, uw10, fw_RX11_22, rfl, rfl, tyX11_ok 5 (by decide), tyX11_ok, nmX11⟩
theorem ft_RX11_25 : FLt RX11 25 10 6 true (tyX11 6) := ⟨by decide, by decide, RX11, TX11, tyX11, rfl, uw10, fw_RX11_25, rfl, rfl, tyX11_ok 6 (by decide), tyX11_ok, nmX11⟩
theorem ft_RX11_28 : FLt RX11 28 10 7 true (tyX11 7) := ⟨by decide, by decide, RX11, TX11, tyX11, rfl, uw10, fw_RX11_28, rfl, rfl, tyX11_ok 7 (by decide), tyX11_ok, nmX11⟩
theorem ft_RX11_31 : FLt RX11 31 10 8 true (tyX11 8) := ⟨by decide, by decide, RX11, TX11, tyX11, rfl, uw10, fw_RX11_31, rfl, rfl, tyX11_ok 8 (by decide), tyX11_ok, nmX11⟩
theorem ft_RX11_34 : FLt RX11 34 10 9 true (tyX11 9) := ⟨by decide, by decide, RX11, TX11, tyX11, rfl, uw10, fw_RX11_34, rfl, rfl, tyX11_ok 9 (by decide), tyX11_ok, nmX11⟩
theorem ft_RX11_37 : FLt RX11 37 10 10 true (tyX11 10) := ⟨by decide, by decide, RX11, TX11, tyX11, rfl, uw10, fw_RX11_37, rfl, rfl, tyX11_ok 10 (by decide), tyX11_ok, nmX11⟩
theorem ft_RX11_40 : FLt RX11 40 10 11 true (tyX11 11) := ⟨by decide, by decide, RX11, TX11, tyX11, rfl, uw10, fw_RX11_40, rfl, rfl, tyX11_ok 11 (by decide), tyX11_ok, nmX11⟩
theorem ft_RX11_43 : FLt RX11 43 10 12 true (tyX11 12) := ⟨by decide, by decide, RX11, TX11, tyX11, rfl, uw10, fw_RX11_43, rfl, rfl, tyX11_ok 12 (by decide), tyX11_ok, nmX11⟩
theorem ft_RX11_47 : FLt RX11 47 10 13 true (tyX11 13) := ⟨by decide, by decide, RX11, TX11, tyX11, rfl, uw10, fw_RX11_47, rfl, rfl, tyX11_ok 13 (by decide), tyX11_ok, nmX11⟩
theorem ft_RX11_50 : FLt RX11 50 10 14 true (tyX11 14) := ⟨by decide, by decide, RX11, TX11, tyX11, rfl, uw10, fw_RX11_50, rfl, rfl, tyX11_ok 14 (by decide), tyX11_ok, nmX11⟩
theorem ft_RX11_53 : FLt RX11 53 10 15 true (tyX11 15) := ⟨by decide, by decide, RX11, TX11, tyX11, rfl, uw10, fw_RX11_53, rfl, rfl, tyX11_ok 15 (by decide), tyX11_ok, nmX11⟩
theorem ft_RX11_56 : FLt RX11 56 10 16 true (tyX11 16) := ⟨by decide, by decide, RX11, TX11, tyX11, rfl, uw10, fw_RX11_56, rfl, rfl, tyX11_ok 16 (by decide), tyX11_ok, nmX11⟩
theorem ft_RX11_59 : FLt RX11 59 10 18 true (tyX11 18) := ⟨by decide, by decide, RX11, TX11, tyX11, rfl, uw10, fw_RX11_59, rfl, rfl, tyX11_ok 18 (by decide), tyX11_ok, nmX11⟩
theorem ft_RX11_62 : FLt RX11 62 10 30 true (tyX11 30) := ⟨by decide, by decide, RX11, TX11, tyX11, rfl, uw10, fw_RX11_62, rfl, rfl, tyX11_ok 30 (by decide), tyX11_ok, nmX11⟩
theorem ft_RX11_65 : FLt RX11 65 10 31 true (tyX11 31) := ⟨by decide, by decide, RX11, TX11, tyX11, rfl, uw10, fw_RX11_65, rfl, rfl, tyX11_ok 31 (by decide), tyX11_ok, nmX11⟩
theorem ft_RX11_68 : FLt RX11 68 10 32 true (tyX11 32) := ⟨by decide, by decide, RX11, TX11, tyX11, rfl, uw10, fw_RX11_68, rfl, rfl, tyX11_ok 32 (by decide), tyX11_ok, nmX11⟩
theorem ft_RX11_71 : FLt RX11 71 10 33 true (tyX11 33) := ⟨by decide, by decide, RX11, TX11, tyX11, rfl, uw10, fw_RX11_71, rfl, rfl, tyX11_ok 33 (by decide), tyX11_ok, nmX11⟩
theorem ft_RX11_74 : FLt RX11 74 10 35 true (tyX11 35) := ⟨by decide, by decide, RX11, TX11, tyX11, rfl, uw10, fw_RX11_74, rfl, rfl, tyX11_ok 35 (by decide), tyX11_ok, nmX11⟩
theorem sh10_of {X X2 : Sh} {a : Nat} (h : Lay X X2 a [(0, 11, 2950), (1, 11, 2950), (2, 11, 2950), (4, 11, 4), (5, 11, 4), (6, 11, 96), (7, 11, 5), (8, 11, 5), (9, 11, 5), (10, 11, 5), (11, 11, 120), (12, 12, 5), (13, 11, 5), (14, 12, 5), (15, 11, 5), (16, 11, 5), (18, 11, 96), (30, 11, 128), (31, 11, 100), (32, 11, 24), (33, 11, 60), (35, 11, 60)]) (hx : xz X = a + 1) (ha : xK X a = 10) : Sh10 X2 a := by
  have g := h.got
  rw [hx] at g
  exact ⟨(h.old a (by omega)).1.trans ha, (g 0 (by decide)).2.2, (g 0 (by decide)).1, (g 0 (by decide)).2.1, (g 1 (by decide)).2.2, (g 1 (by decide)).1, (g 1 (by decide)).2.1, (g 2 (by decide)).2.2, (g 2 (by decide)).1, (g 2 (by decide)).2.1, (g 3 (by decide)).2.2, (g 3 (by decide)).1, (g 3 (by decide)).2.1, (g 4 (by decide)).2.2, (g 4 (by decide)).1, (g 4 (by decide)).2.1, (g 5 (by decide)).2.2, (g 5 (by decide)).1, (g 5 (by decide)).2.1, (g 6 (by decide)).2.2, (g 6 (by decide)).1, (g 6 (by decide)).2.1, (g 7 (by decide)).2.2, (g 7 (by decide)).1, (g 7 (by decide)).2.1, (g 8 (by decide)).2.2, (g 8 (by decide)).1, (g 8 (by decide)).2.1, (g 9 (by decide)).2.2, (g 9 (by decide)).1, (g 9 (by decide)).2.1, (g 10 (by decide)).2.2, (g 10 (by decide)).1, (g 10 (by decide)).2.1, (g 11 (by decide)).2.2, (g 11 (by decide)).1, (g 11 (by decide)).2.1, (g 12 (by decide)).2.2, (g 12 (by decide)).1, (g 12 (by decide)).2.1, (g 13 (by decide)).2.2, (g 13 (by decide)).1, (g 13 (by decide)).2.1, (g 14 (by decide)).2.2, (g 14 (by decide)).1, (g 14 (by decide)).2.1, (g 15 (by decide)).2.2, (g 15 (by decide)).1, (g 15 (by decide)).2.1, (g 16 (by decide)).2.2, (g 16 (by decide)).1, (g 16 (by decide)).2.1, (g 17 (by decide)).2.2, (g 17 (by decide)).1, (g 17 (by decide)).2.1, (g 18 (by decide)).2.2, (g 18 (by decide)).1, (g 18 (by decide)).2.1, (g 19 (by decide)).2.2, (g 19 (by decide)).1, (g 19 (by decide)).2.1, (g 20 (by decide)).2.2, (g 20 (by decide)).1, (g 20 (by decide)).2.1, (g 21 (by decide)).2.2, (g 21 (by decide)).1, (g 21 (by decide)).2.1⟩
theorem cl_X11_init (G : Gl) (d : Nat) (hd : 1 ≤ d) (X : Sh) (M : Mm) (a : Nat) (ha : xK X a = 10) (hx : xz X = a + 1) (hM : ∀ c j, a ≤ c → mI M c j = 0) (hJ : ∀ c j, a ≤ c → mJ M c j = 0) : Cl G m_X11_init d 22 9587 [.ref a] X M (fun X2 M2 v => v = none ∧ M2 = sI (sI (sI (sI (sI (sI (sI M (a + 1) 6 60) (a + 1) 7 100) (a + 1) 8 60) (a + 4) 0 (-1)) (a + 4) 1 (-1)) (a + 4) 2 (-1)) (a + 4) 3 (-1) ∧ Sh10 X2 a ∧ Mk X X2 a 22) := by
  obtain ⟨d, rfl⟩ : ∃ d1, d = d1 + 1 := ⟨d - 1, by omega⟩
  have L0 := Lay.nil X a
  have hz0 : ∀ c j, xz X ≤ c → mI M c j = 0 := fun c j hc => hM c j (by omega)
  have hJ0 : ∀ c j, xz X ≤ c → mJ M c j = 0 := fun c j hc => hJ c j (by omega)
  refine Cl.of (by decide) (Nat.le_of_ble_eq_true rfl) ?_
  refine wp_aload_n 0 dX11_init_0 rfl rfl ?_
  refine wp_objInit dX11_init_1 oi_RX11_1 oi_2 oi_3 (Nat.le_of_ble_eq_true rfl) ?_
  refine wp_aload_n 0 dX11_init_4 rfl rfl ?_
  refine wp_sipush (v := 2950) dX11_init_5 rfl ?_
  refine wp_rowi (k := 0) (N := 2950) dX11_init_8 dX11_init_10 ft_RX11_7 rfl ha L0 (by omega) (by decide) rfl rfl (by decide) (by omega) (by omega) hz0 (fun X1 L1 => ?_)
  refine wp_aload_n 0 dX11_init_13 rfl rfl ?_
  refine wp_sipush (v := 2950) dX11_init_14 rfl ?_
  refine wp_rowi (k := 1) (N := 2950) dX11_init_17 dX11_init_19 ft_RX11_13 rfl ha L1 (by omega) (by decide) rfl rfl (by decide) (by omega) (by omega) hz0 (fun X2 L2 => ?_)
  refine wp_aload_n 0 dX11_init_22 rfl rfl ?_
  refine wp_sipush (v := 2950) dX11_init_23 rfl ?_
  refine wp_rowi (k := 2) (N := 2950) dX11_init_26 dX11_init_28 ft_RX11_16 rfl ha L2 (by omega) (by decide) rfl rfl (by decide) (by omega) (by omega) hz0 (fun X3 L3 => ?_)
  refine wp_aload_n 0 dX11_init_31 rfl rfl ?_
  refine wp_iconst (v := 4) dX11_init_32 rfl ?_
  refine wp_rowi (k := 4) (N := 4) dX11_init_33 dX11_init_35 ft_RX11_19 rfl ha L3 (by omega) (by decide) rfl rfl (by decide) (by omega) (by omega) hz0 (fun X4 L4 => ?_)
  refine wp_aload_n 0 dX11_init_38 rfl rfl ?_
  refine wp_iconst (v := 4) dX11_init_39 rfl ?_
  refine wp_rowi (k := 5) (N := 4) dX11_init_40 dX11_init_42 ft_RX11_22 rfl ha L4 (by omega) (by decide) rfl rfl (by decide) (by omega) (by omega) hz0 (fun X5 L5 => ?_)
  refine wp_aload_n 0 dX11_init_45 rfl rfl ?_
  refine wp_bipush (v := 96) dX11_init_46 rfl ?_
  refine wp_rowi (k := 6) (N := 96) dX11_init_48 dX11_init_50 ft_RX11_25 rfl ha L5 (by omega) (by decide) rfl rfl (by decide) (by omega) (by omega) hz0 (fun X6 L6 => ?_)
  refine wp_aload_n 0 dX11_init_53 rfl rfl ?_
  refine wp_iconst (v := 5) dX11_init_54 rfl ?_
  refine wp_rowi (k := 7) (N := 5) dX11_init_55 dX11_init_57 ft_RX11_28 rfl ha L6 (by omega) (by decide) rfl rfl (by decide) (by omega) (by omega) hz0 (fun X7 L7 => ?_)
  refine wp_aload_n 0 dX11_init_60 rfl rfl ?_
  refine wp_iconst (v := 5) dX11_init_61 rfl ?_
  refine wp_rowi (k := 8) (N := 5) dX11_init_62 dX11_init_64 ft_RX11_31 rfl ha L7 (by omega) (by decide) rfl rfl (by decide) (by omega) (by omega) hz0 (fun X8 L8 => ?_)
  refine wp_aload_n 0 dX11_init_67 rfl rfl ?_
  refine wp_iconst (v := 5) dX11_init_68 rfl ?_
  refine wp_rowi (k := 9) (N := 5) dX11_init_69 dX11_init_71 ft_RX11_34 rfl ha L8 (by omega) (by decide) rfl rfl (by decide) (by omega) (by omega) hz0 (fun X9 L9 => ?_)
  refine wp_aload_n 0 dX11_init_74 rfl rfl ?_
  refine wp_iconst (v := 5) dX11_init_75 rfl ?_
  refine wp_rowi (k := 10) (N := 5) dX11_init_76 dX11_init_78 ft_RX11_37 rfl ha L9 (by omega) (by decide) rfl rfl (by decide) (by omega) (by omega) hz0 (fun X10 L10 => ?_)
  refine wp_aload_n 0 dX11_init_81 rfl rfl ?_
  refine wp_bipush (v := 120) dX11_init_82 rfl ?_
  refine wp_rowi (k := 11) (N := 120) dX11_init_84 dX11_init_86 ft_RX11_40 rfl ha L10 (by omega) (by decide) rfl rfl (by decide) (by omega) (by omega) hz0 (fun X11 L11 => ?_)
  refine wp_aload_n 0 dX11_init_89 rfl rfl ?_
  refine wp_iconst (v := 5) dX11_init_90 rfl ?_
  refine wp_rowl (k := 12) (N := 5) dX11_init_91 dX11_init_93 ft_RX11_43 rfl ha L11 (by omega) (by decide) rfl rfl (by decide) (by omega) (by omega) hJ0 (fun X12 L12 => ?_)
  refine wp_aload_n 0 dX11_init_96 rfl rfl ?_
  refine wp_iconst (v := 5) dX11_init_97 rfl ?_
  refine wp_rowi (k := 13) (N := 5) dX11_init_98 dX11_init_100 ft_RX11_47 rfl ha L12 (by omega) (by decide) rfl rfl (by decide) (by omega) (by omega) hz0 (fun X13 L13 => ?_)
  refine wp_aload_n 0 dX11_init_103 rfl rfl ?_
  refine wp_iconst (v := 5) dX11_init_104 rfl ?_
  refine wp_rowl (k := 14) (N := 5) dX11_init_105 dX11_init_107 ft_RX11_50 rfl ha L13 (by omega) (by decide) rfl rfl (by decide) (by omega) (by omega) hJ0 (fun X14 L14 => ?_)
  refine wp_aload_n 0 dX11_init_110 rfl rfl ?_
  refine wp_iconst (v := 5) dX11_init_111 rfl ?_
  refine wp_rowi (k := 15) (N := 5) dX11_init_112 dX11_init_114 ft_RX11_53 rfl ha L14 (by omega) (by decide) rfl rfl (by decide) (by omega) (by omega) hz0 (fun X15 L15 => ?_)
  refine wp_aload_n 0 dX11_init_117 rfl rfl ?_
  refine wp_iconst (v := 5) dX11_init_118 rfl ?_
  refine wp_rowi (k := 16) (N := 5) dX11_init_119 dX11_init_121 ft_RX11_56 rfl ha L15 (by omega) (by decide) rfl rfl (by decide) (by omega) (by omega) hz0 (fun X16 L16 => ?_)
  refine wp_aload_n 0 dX11_init_124 rfl rfl ?_
  refine wp_bipush (v := 96) dX11_init_125 rfl ?_
  refine wp_rowi (k := 18) (N := 96) dX11_init_127 dX11_init_129 ft_RX11_59 rfl ha L16 (by omega) (by decide) rfl rfl (by decide) (by omega) (by omega) hz0 (fun X17 L17 => ?_)
  refine wp_aload_n 0 dX11_init_132 rfl rfl ?_
  refine wp_sipush (v := 128) dX11_init_133 rfl ?_
  refine wp_rowi (k := 30) (N := 128) dX11_init_136 dX11_init_138 ft_RX11_62 rfl ha L17 (by omega) (by decide) rfl rfl (by decide) (by omega) (by omega) hz0 (fun X18 L18 => ?_)
  refine wp_aload_n 0 dX11_init_141 rfl rfl ?_
  refine wp_bipush (v := 100) dX11_init_142 rfl ?_
  refine wp_rowi (k := 31) (N := 100) dX11_init_144 dX11_init_146 ft_RX11_65 rfl ha L18 (by omega) (by decide) rfl rfl (by decide) (by omega) (by omega) hz0 (fun X19 L19 => ?_)
  refine wp_aload_n 0 dX11_init_149 rfl rfl ?_
  refine wp_bipush (v := 24) dX11_init_150 rfl ?_
  refine wp_rowi (k := 32) (N := 24) dX11_init_152 dX11_init_154 ft_RX11_68 rfl ha L19 (by omega) (by decide) rfl rfl (by decide) (by omega) (by omega) hz0 (fun X20 L20 => ?_)
  refine wp_aload_n 0 dX11_init_157 rfl rfl ?_
  refine wp_bipush (v := 60) dX11_init_158 rfl ?_
  refine wp_rowi (k := 33) (N := 60) dX11_init_160 dX11_init_162 ft_RX11_71 rfl ha L20 (by omega) (by decide) rfl rfl (by decide) (by omega) (by omega) hz0 (fun X21 L21 => ?_)
  refine wp_aload_n 0 dX11_init_165 rfl rfl ?_
  refine wp_bipush (v := 60) dX11_init_166 rfl ?_
  refine wp_rowi (k := 35) (N := 60) dX11_init_168 dX11_init_170 ft_RX11_74 rfl ha L21 (by omega) (by decide) rfl rfl (by decide) (by omega) (by omega) hz0 (fun X22 L22 => ?_)
  refine wp_aload_n 0 dX11_init_173 rfl rfl ?_
  have S := sh10_of L22 hx ha
  refine wp_getR dX11_init_174 fl_RX11_7 rfl (sh10_K S) (sh10_F_s S) ?_
  refine wp_bipush (v := 6) dX11_init_177 rfl ?_
  refine wp_bipush (v := 60) dX11_init_179 rfl ?_
  refine wp_iast (n := 2950) (j := 6) dX11_init_181 (sh10_K_s S) (sh10_N_s S) (by decide) rfl (by decide) ?_
  refine wp_aload_n 0 dX11_init_182 rfl rfl ?_
  refine wp_getR dX11_init_183 fl_RX11_7 rfl (sh10_K S) (sh10_F_s S) ?_
  refine wp_bipush (v := 7) dX11_init_186 rfl ?_
  refine wp_bipush (v := 100) dX11_init_188 rfl ?_
  refine wp_iast (n := 2950) (j := 7) dX11_init_190 (sh10_K_s S) (sh10_N_s S) (by decide) rfl (by decide) ?_
  refine wp_aload_n 0 dX11_init_191 rfl rfl ?_
  refine wp_getR dX11_init_192 fl_RX11_7 rfl (sh10_K S) (sh10_F_s S) ?_
  refine wp_bipush (v := 8) dX11_init_195 rfl ?_
  refine wp_bipush (v := 60) dX11_init_197 rfl ?_
  refine wp_iast (n := 2950) (j := 8) dX11_init_199 (sh10_K_s S) (sh10_N_s S) (by decide) rfl (by decide) ?_
  refine wp_iconst (v := 0) dX11_init_200 rfl ?_
  refine wp_istore_n (lo2 := [(1, .int _), (0, .ref _)]) dX11_init_201 rfl (by decide) rfl ?_
  refine wp_iload_n 0 dX11_init_202 rfl rfl ?_
  refine wp_iconst (v := 4) dX11_init_203 rfl ?_
  refine wp_icmp_ge (tgt := 220) dX11_init_204 (by decide) (fun q => absurd q (by decide)) (fun _ => ?_)
  refine wp_aload_n 1 dX11_init_207 rfl rfl ?_
  refine wp_getR dX11_init_208 fl_RX11_19 rfl (sh10_K S) (sh10_F_tSort S) ?_
  refine wp_iload_n 0 dX11_init_211 rfl rfl ?_
  refine wp_iconst (v := (-1)) dX11_init_212 rfl ?_
  refine wp_iast (n := 4) (j := 0) dX11_init_213 (sh10_K_tSort S) (sh10_N_tSort S) (by decide) rfl (by decide) ?_
  refine wp_iinc (v := 1) (lo2 := [(1, .int _), (0, .ref _)]) dX11_init_214 (q := 0) rfl (by decide) (by decide) rfl ?_
  refine wp_goto (tgt := 202) dX11_init_217 (by decide) ?_
  refine wp_iload_n 0 dX11_init_202 rfl rfl ?_
  refine wp_iconst (v := 4) dX11_init_203 rfl ?_
  refine wp_icmp_ge (tgt := 220) dX11_init_204 (by decide) (fun q => absurd q (by decide)) (fun _ => ?_)
  refine wp_aload_n 1 dX11_init_207 rfl rfl ?_
  refine wp_getR dX11_init_208 fl_RX11_19 rfl (sh10_K S) (sh10_F_tSort S) ?_
  refine wp_iload_n 0 dX11_init_211 rfl rfl ?_
  refine wp_iconst (v := (-1)) dX11_init_212 rfl ?_
  refine wp_iast (n := 4) (j := 1) dX11_init_213 (sh10_K_tSort S) (sh10_N_tSort S) (by decide) rfl (by decide) ?_
  refine wp_iinc (v := 2) (lo2 := [(1, .int _), (0, .ref _)]) dX11_init_214 (q := 0) rfl (by decide) (by decide) rfl ?_
  refine wp_goto (tgt := 202) dX11_init_217 (by decide) ?_
  refine wp_iload_n 0 dX11_init_202 rfl rfl ?_
  refine wp_iconst (v := 4) dX11_init_203 rfl ?_
  refine wp_icmp_ge (tgt := 220) dX11_init_204 (by decide) (fun q => absurd q (by decide)) (fun _ => ?_)
  refine wp_aload_n 1 dX11_init_207 rfl rfl ?_
  refine wp_getR dX11_init_208 fl_RX11_19 rfl (sh10_K S) (sh10_F_tSort S) ?_
  refine wp_iload_n 0 dX11_init_211 rfl rfl ?_
  refine wp_iconst (v := (-1)) dX11_init_212 rfl ?_
  refine wp_iast (n := 4) (j := 2) dX11_init_213 (sh10_K_tSort S) (sh10_N_tSort S) (by decide) rfl (by decide) ?_
  refine wp_iinc (v := 3) (lo2 := [(1, .int _), (0, .ref _)]) dX11_init_214 (q := 0) rfl (by decide) (by decide) rfl ?_
  refine wp_goto (tgt := 202) dX11_init_217 (by decide) ?_
  refine wp_iload_n 0 dX11_init_202 rfl rfl ?_
  refine wp_iconst (v := 4) dX11_init_203 rfl ?_
  refine wp_icmp_ge (tgt := 220) dX11_init_204 (by decide) (fun q => absurd q (by decide)) (fun _ => ?_)
  refine wp_aload_n 1 dX11_init_207 rfl rfl ?_
  refine wp_getR dX11_init_208 fl_RX11_19 rfl (sh10_K S) (sh10_F_tSort S) ?_
  refine wp_iload_n 0 dX11_init_211 rfl rfl ?_
  refine wp_iconst (v := (-1)) dX11_init_212 rfl ?_
  refine wp_iast (n := 4) (j := 3) dX11_init_213 (sh10_K_tSort S) (sh10_N_tSort S) (by decide) rfl (by decide) ?_
  refine wp_iinc (v := 4) (lo2 := [(1, .int _), (0, .ref _)]) dX11_init_214 (q := 0) rfl (by decide) (by decide) rfl ?_
  refine wp_goto (tgt := 202) dX11_init_217 (by decide) ?_
  refine wp_iload_n 0 dX11_init_202 rfl rfl ?_
  refine wp_iconst (v := 4) dX11_init_203 rfl ?_
  refine wp_icmp_ge (tgt := 220) dX11_init_204 (by decide) (fun _ => ?_) (fun q => absurd (by decide) q)
  exact wp_vret dX11_init_220 rfl rfl (Nat.le_refl _) ⟨rfl, rfl, S, L22.mk (by omega)⟩
