/-! the call lay -/
theorem bX5_become_0 {G : Gl} {d : Nat} {X : Sh} {M : Mm} {Q : Mm → Prop} {a : Nat} {b1 : Nat} (hS : Sh5 X a) (hS1 : Sh5 X b1) (h : (∀ M1 : Mm, M1 = sI M a 0 (mI M b1 0) → (∀ M2 : Mm, M2 = sI M1 a 1 (mI M1 b1 1) → (∀ M3 : Mm, M3 = sC M2 (b1 + 1) 0 (a + 1) 0 24 → (∀ M4 : Mm, M4 = sC M3 (b1 + 2) 0 (a + 2) 0 24 → Q M4))))) : Wv G m_X5_become (d + 1) 0 [(0, .ref a), (1, .ref b1)] [] X M Q := by
  refine wp_aload_n 0 dX5_become_0 rfl rfl ?_
  refine wp_aload_n 1 dX5_become_1 rfl rfl ?_
  refine wp_getI dX5_become_2 fl_RX5_9 rfl (sh5_K hS1) ?_
  refine wp_putI dX5_become_5 fp_RX5_9 rfl (sh5_K hS) ?_
  refine wp_nm (fun M1 eM1 => ?_)
  replace h := h M1 eM1
  refine wp_aload_n 0 dX5_become_8 rfl rfl ?_
  refine wp_aload_n 1 dX5_become_9 rfl rfl ?_
  refine wp_getI dX5_become_10 fl_RX5_15 rfl (sh5_K hS1) ?_
  refine wp_putI dX5_become_13 fp_RX5_15 rfl (sh5_K hS) ?_
  refine wp_nm (fun M2 eM2 => ?_)
  replace h := h M2 eM2
  refine wp_aload_n 1 dX5_become_16 rfl rfl ?_
  refine wp_getR dX5_become_17 fl_RX5_18 rfl (sh5_K hS1) (sh5_F_values hS1) ?_
  refine wp_iconst (v := 0) dX5_become_20 rfl ?_
  refine wp_aload_n 0 dX5_become_21 rfl rfl ?_
  refine wp_getR dX5_become_22 fl_RX5_18 rfl (sh5_K hS) (sh5_F_values hS) ?_
  refine wp_iconst (v := 0) dX5_become_25 rfl ?_
  refine wp_bipush (v := 24) dX5_become_26 rfl ?_
  refine wp_copy (n0 := 24) (n1 := 24) dX5_become_28 cc_RX5_26 (sh5_K_values hS1) (sh5_K_values hS) (sh5_N_values hS1) (sh5_N_values hS) (by decide) (by decide) rfl rfl rfl (by decide) (by decide) (Nat.le_of_ble_eq_true rfl) ?_
  refine wp_nm (fun M3 eM3 => ?_)
  replace h := h M3 eM3
  refine wp_aload_n 1 dX5_become_31 rfl rfl ?_
  refine wp_getR dX5_become_32 fl_RX5_22 rfl (sh5_K hS1) (sh5_F_lost hS1) ?_
  refine wp_iconst (v := 0) dX5_become_35 rfl ?_
  refine wp_aload_n 0 dX5_become_36 rfl rfl ?_
  refine wp_getR dX5_become_37 fl_RX5_22 rfl (sh5_K hS) (sh5_F_lost hS) ?_
  refine wp_iconst (v := 0) dX5_become_40 rfl ?_
  refine wp_bipush (v := 24) dX5_become_41 rfl ?_
  refine wp_copyZ (n0 := 24) (n1 := 24) dX5_become_43 cc_RX5_26 (sh5_K_lost hS1) (sh5_K_lost hS) (sh5_N_lost hS1) (sh5_N_lost hS) (by decide) (by decide) rfl rfl rfl (by decide) (by decide) (Nat.le_of_ble_eq_true rfl) ?_
  refine wp_nm (fun M4 eM4 => ?_)
  replace h := h M4 eM4
  exact wv_ret dX5_become_46 rfl h
theorem bX10_lay_0 {G : Gl} {d : Nat} {X : Sh} {M : Mm} {Q : Mm → Int32 → Prop} {a : Nat} {x1 : Int32} {x2 : Int32} {x3 : Int32} (hS : Sh9 X a) (hd : 1 ≤ d) (h : ((¬ (0 ≤ x1 ∧ x1 ≤ 4) → Q M (-1000000001)) ∧ (0 ≤ x1 ∧ x1 ≤ 4 → ((0 ≤ x2 ∧ x2 ≤ 3 → ((¬ (x2 = 1) → Wn G m_X10_lay (d + 1) 38 [(0, .ref a), (1, .int x1), (2, .int x2), (3, .int x3)] [] X M Q) ∧ (x2 = 1 → ((¬ (0 ≤ x3 ∧ x3 < mI M ((a + 1) + 1) 5) → Q M (-1000000001)) ∧ (0 ≤ x3 ∧ x3 < mI M ((a + 1) + 1) 5 → Wn G m_X10_lay (d + 1) 38 [(0, .ref a), (1, .int x1), (2, .int x2), (3, .int x3)] [] X M Q))))) ∧ (¬ (0 ≤ x2 ∧ x2 ≤ 3) → Q M (-1000000001)))))) : Wn G m_X10_lay (d + 1) 0 [(0, .ref a), (1, .int x1), (2, .int x2), (3, .int x3)] [] X M Q := by
  refine wp_iload_n 1 dX10_lay_0 rfl rfl ?_
  refine wp_csip dX10_lay_1 ck_RX10_314 rfl (as := [.int x1]) rfl rfl (Nat.le_of_ble_eq_true rfl) (cp_X10_isSlot G d (by omega) X M x1) ?_
  refine wp_ifB_eq (inferInstance) (tgt := 16) dX10_lay_4 (by decide) (fun c1 => ?_) (fun c1 => ?_)
  · replace h := h.1 c1
    refine wp_ldc dX10_lay_16 kc_RX10_67 ?_
    exact wn_iret dX10_lay_18 rfl h
  · replace h := h.2 c1
    refine wp_iload_n 2 dX10_lay_7 rfl rfl ?_
    refine wp_iconst (v := 0) dX10_lay_8 rfl ?_
    refine wp_iconst (v := 3) dX10_lay_9 rfl ?_
    refine wp_csip dX10_lay_10 ck_RX10_63 rfl (as := [.int x2, .int 0, .int 3]) rfl rfl (Nat.le_of_ble_eq_true rfl) (cp_X10_isWithin G d X M x2 0 3) ?_
    refine wp_ifB_ne (inferInstance) (tgt := 19) dX10_lay_13 (by decide) (fun c2 => ?_) (fun c2 => ?_)
    · replace h := h.1 c2
      refine wp_iload_n 2 dX10_lay_19 rfl rfl ?_
      refine wp_iconst (v := 1) dX10_lay_20 rfl ?_
      refine wp_icmp_ne (tgt := 38) dX10_lay_21 (by decide) (fun c3 => ?_) (fun c3 => ?_)
      · replace h := h.1 c3
        exact Wp.sub [0, 1, 2, 3] rfl h
      · replace h := h.2 c3
        refine wp_aload_n 0 dX10_lay_24 rfl rfl ?_
        refine wp_getR dX10_lay_25 fl_RX10_10 rfl (sh9_K hS) (sh9_F_house hS) ?_
        refine wp_getR dX10_lay_28 fl_RX10_68 rfl (sh2_K (sh9_S_house hS)) (sh2_F_bins (sh9_S_house hS)) ?_
        refine wp_iload_n 3 dX10_lay_31 rfl rfl ?_
        refine wp_cvip dX10_lay_32 ck_RX10_78 (sh0_K (sh2_S_bins (sh9_S_house hS))) (as := [.int x3]) rfl rfl (Nat.le_of_ble_eq_true rfl) (cp_X0_has G d X M ((a + 1) + 1) x3 (sh2_S_bins (sh9_S_house hS))) ?_
        refine wp_ifB_eq (inferInstance) (tgt := 50) dX10_lay_35 (by decide) (fun c4 => ?_) (fun c4 => ?_)
        · replace h := h.1 c4
          refine wp_ldc dX10_lay_50 kc_RX10_67 ?_
          exact wn_iret dX10_lay_52 rfl h
        · replace h := h.2 c4
          exact Wp.sub [0, 1, 2, 3] rfl h
    · replace h := h.2 c2
      refine wp_ldc dX10_lay_16 kc_RX10_67 ?_
      exact wn_iret dX10_lay_18 rfl h
theorem bX10_lay_38 {G : Gl} {d : Nat} {X : Sh} {M : Mm} {Q : Mm → Int32 → Prop} {a : Nat} {x1 : Int32} {x2 : Int32} {x3 : Int32} (hS : Sh9 X a) (hd : 1 ≤ d) (h : ((¬ (x2 = 2) → Wn G m_X10_lay (d + 1) 53 [(0, .ref a), (1, .int x1), (2, .int x2), (3, .int x3)] [] X M Q) ∧ (x2 = 2 → ((0 ≤ x3 ∧ x3 ≤ 3 → Wn G m_X10_lay (d + 1) 53 [(0, .ref a), (1, .int x1), (2, .int x2), (3, .int x3)] [] X M Q) ∧ (¬ (0 ≤ x3 ∧ x3 ≤ 3) → Q M (-1000000001)))))) : Wn G m_X10_lay (d + 1) 38 [(0, .ref a), (1, .int x1), (2, .int x2), (3, .int x3)] [] X M Q := by
  refine wp_iload_n 2 dX10_lay_38 rfl rfl ?_
  refine wp_iconst (v := 2) dX10_lay_39 rfl ?_
  refine wp_icmp_ne (tgt := 53) dX10_lay_40 (by decide) (fun c1 => ?_) (fun c1 => ?_)
  · replace h := h.1 c1
    exact Wp.sub [0, 1, 2, 3] rfl h
  · replace h := h.2 c1
    refine wp_iload_n 3 dX10_lay_43 rfl rfl ?_
    refine wp_csip dX10_lay_44 ck_RX10_271 rfl (as := [.int x3]) rfl rfl (Nat.le_of_ble_eq_true rfl) (cp_X10_isSheet G d (by omega) X M x3) ?_
    refine wp_ifB_ne (inferInstance) (tgt := 53) dX10_lay_47 (by decide) (fun c2 => ?_) (fun c2 => ?_)
    · replace h := h.1 c2
      exact Wp.sub [0, 1, 2, 3] rfl h
    · replace h := h.2 c2
      refine wp_ldc dX10_lay_50 kc_RX10_67 ?_
      exact wn_iret dX10_lay_52 rfl h
theorem bX10_lay_53 {G : Gl} {d : Nat} {X : Sh} {M : Mm} {Q : Mm → Int32 → Prop} {a : Nat} {x1 : Int32} {x2 : Int32} {x3 : Int32} (hS : Sh9 X a) (h : ((¬ (x2 = 2) → Wn G m_X10_lay (d + 1) 75 [(0, .ref a), (1, .int x1), (2, .int x2), (3, .int x3)] [] X M Q) ∧ (x2 = 2 → (∃ j2 : Nat, x3 = nI j2 ∧ j2 < 4 ∧ ((¬ ((mI M (a + 232 + 3 * j2) 0) = (-1)) → Wn G m_X10_lay (d + 1) 75 [(0, .ref a), (1, .int x1), (2, .int x2), (3, .int x3)] [] X M Q) ∧ ((mI M (a + 232 + 3 * j2) 0) = (-1) → Q M (-1000000011))))))) : Wn G m_X10_lay (d + 1) 53 [(0, .ref a), (1, .int x1), (2, .int x2), (3, .int x3)] [] X M Q := by
  refine wp_iload_n 2 dX10_lay_53 rfl rfl ?_
  refine wp_iconst (v := 2) dX10_lay_54 rfl ?_
  refine wp_icmp_ne (tgt := 75) dX10_lay_55 (by decide) (fun c1 => ?_) (fun c1 => ?_)
  · replace h := h.1 c1
    exact Wp.sub [0, 1, 2, 3] rfl h
  · replace h := h.2 c1
    refine wp_aload_n 0 dX10_lay_58 rfl rfl ?_
    refine wp_getR dX10_lay_59 fl_RX10_39 rfl (sh9_K hS) (sh9_F_sheets hS) ?_
    refine wp_iload_n 3 dX10_lay_62 rfl rfl ?_
    obtain ⟨j2, o3, o4, h⟩ := h
    refine wp_fald (n := 4) dX10_lay_63 (Or.inl (sh9_K_sheets hS)) (sh9_N_sheets hS) (by decide) o3 o4 (sh9_E_sheets hS j2 o4) ?_
    refine wp_getI dX10_lay_64 fl_RX10_278 rfl (sh5_K (sh9_ES_sheets hS j2 o4)) ?_
    refine wp_iconst (v := (-1)) dX10_lay_67 rfl ?_
    refine wp_icmp_ne (tgt := 75) dX10_lay_68 (by decide) (fun c5 => ?_) (fun c5 => ?_)
    · replace h := h.1 c5
      exact Wp.sub [0, 1, 2, 3] rfl h
    · replace h := h.2 c5
      refine wp_ldcw dX10_lay_71 kc_RX10_281 ?_
      exact wn_iret dX10_lay_74 rfl h
theorem bX10_lay_75 {G : Gl} {d : Nat} {X : Sh} {M : Mm} {Q : Mm → Int32 → Prop} {a : Nat} {x1 : Int32} {x2 : Int32} {x3 : Int32} (hS : Sh9 X a) (h : (∃ j1 : Nat, x1 = nI j1 ∧ j1 < 5 ∧ (∀ v4 : Int32, v4 = (mI M (a + 245 + 4 * j1) 0) → (∀ M5 : Mm, M5 = sI M (a + 245 + 4 * j1) 0 x2 → ((¬ (x2 = 1) → ((¬ (x2 = 2) → (∀ M8 : Mm, M8 = sI M5 (a + 245 + 4 * j1) 3 x3 → Q M8 v4)) ∧ (x2 = 2 → (∃ j9 : Nat, x3 = nI j9 ∧ j9 < 4 ∧ (∃ q12 : Mm → Prop, Cv G m_X5_become d [.ref ((a + 245 + 4 * j1) + 1), .ref (a + 232 + 3 * j9)] X M5 q12 ∧ ∀ M14, q12 M14 → Q M14 v4))))) ∧ (x2 = 1 → (∃ j16 : Nat, x3 = nI j16 ∧ j16 < 6 ∧ (∀ M19 : Mm, M19 = sI M5 (a + 245 + 4 * j1) 1 (mI M5 (((a + 1) + 1) + 1) j16) → (∀ M20 : Mm, M20 = sI M19 (a + 245 + 4 * j1) 2 (mI M19 (((a + 1) + 1) + 2) j16) → Q M20 v4))))))))) : Wn G m_X10_lay (d + 1) 75 [(0, .ref a), (1, .int x1), (2, .int x2), (3, .int x3)] [] X M Q := by
  refine wp_aload_n 0 dX10_lay_75 rfl rfl ?_
  refine wp_getR dX10_lay_76 fl_RX10_46 rfl (sh9_K hS) (sh9_F_slots hS) ?_
  refine wp_iload_n 1 dX10_lay_79 rfl rfl ?_
  obtain ⟨j1, o2, o3, h⟩ := h
  refine wp_fald (n := 5) dX10_lay_80 (Or.inr <| Or.inl (sh9_K_slots hS)) (sh9_N_slots hS) (by decide) o2 o3 (sh9_E_slots hS j1 o3) ?_
  refine wp_astore (lo2 := [(4, .ref _), (0, .ref _), (1, .int _), (2, .int _), (3, .int _)]) dX10_lay_81 (by decide) rfl ?_
  refine wp_aload 0 dX10_lay_83 rfl ?_
  refine wp_getI dX10_lay_85 fl_RX10_317 rfl (sh6_K (sh9_ES_slots hS j1 o3)) ?_
  refine wp_topi (fun v4 ev4 => ?_)
  replace h := h v4 ev4
  refine wp_istore (lo2 := [(5, .int _), (4, .ref _), (0, .ref _), (1, .int _), (2, .int _), (3, .int _)]) dX10_lay_88 (by decide) rfl ?_
  refine wp_aload 1 dX10_lay_90 rfl ?_
  refine wp_iload_n 4 dX10_lay_92 rfl rfl ?_
  refine wp_putI dX10_lay_93 fp_RX10_317 rfl (sh6_K (sh9_ES_slots hS j1 o3)) ?_
  refine wp_nm (fun M5 eM5 => ?_)
  replace h := h M5 eM5
  refine wp_iload_n 4 dX10_lay_96 rfl rfl ?_
  refine wp_iconst (v := 1) dX10_lay_97 rfl ?_
  refine wp_icmp_ne (tgt := 138) dX10_lay_98 (by decide) (fun c6 => ?_) (fun c6 => ?_)
  · replace h := h.1 c6
    refine wp_iload_n 4 dX10_lay_138 rfl rfl ?_
    refine wp_iconst (v := 2) dX10_lay_139 rfl ?_
    refine wp_icmp_ne (tgt := 160) dX10_lay_140 (by decide) (fun c7 => ?_) (fun c7 => ?_)
    · replace h := h.1 c7
      refine wp_aload 1 dX10_lay_160 rfl ?_
      refine wp_iload_n 5 dX10_lay_162 rfl rfl ?_
      refine wp_putI dX10_lay_163 fp_RX10_331 rfl (sh6_K (sh9_ES_slots hS j1 o3)) ?_
      refine wp_nm (fun M8 eM8 => ?_)
      replace h := h M8 eM8
      refine wp_iload 0 dX10_lay_166 rfl ?_
      exact wn_iret dX10_lay_168 rfl h
    · replace h := h.2 c7
      refine wp_aload 1 dX10_lay_143 rfl ?_
      refine wp_getR dX10_lay_145 fl_RX10_324 rfl (sh6_K (sh9_ES_slots hS j1 o3)) (sh6_F_sheet (sh9_ES_slots hS j1 o3)) ?_
      refine wp_aload_n 2 dX10_lay_148 rfl rfl ?_
      refine wp_getR dX10_lay_149 fl_RX10_39 rfl (sh9_K hS) (sh9_F_sheets hS) ?_
      refine wp_iload_n 5 dX10_lay_152 rfl rfl ?_
      obtain ⟨j9, o10, o11, h⟩ := h
      refine wp_fald (n := 4) dX10_lay_153 (Or.inl (sh9_K_sheets hS)) (sh9_N_sheets hS) (by decide) o10 o11 (sh9_E_sheets hS j9 o11) ?_
      obtain ⟨q12, o13, h⟩ := h
      refine wp_cvv dX10_lay_154 ck_RX10_328 (sh5_K (sh6_S_sheet (sh9_ES_slots hS j1 o3))) (as := [.ref (a + 232 + 3 * j9)]) rfl rfl (Nat.le_of_ble_eq_true rfl) o13 (fun M14 o15 => ?_)
      replace h := h M14 o15
      refine wp_goto (tgt := 166) dX10_lay_157 (by decide) ?_
      refine wp_iload 0 dX10_lay_166 rfl ?_
      exact wn_iret dX10_lay_168 rfl h
  · replace h := h.2 c6
    refine wp_aload 1 dX10_lay_101 rfl ?_
    refine wp_aload_n 2 dX10_lay_103 rfl rfl ?_
    refine wp_getR dX10_lay_104 fl_RX10_10 rfl (sh9_K hS) (sh9_F_house hS) ?_
    refine wp_getR dX10_lay_107 fl_RX10_68 rfl (sh2_K (sh9_S_house hS)) (sh2_F_bins (sh9_S_house hS)) ?_
    refine wp_getR dX10_lay_110 fl_RX10_81 rfl (sh0_K (sh2_S_bins (sh9_S_house hS))) (sh0_F_kind (sh2_S_bins (sh9_S_house hS))) ?_
    refine wp_iload_n 5 dX10_lay_113 rfl rfl ?_
    obtain ⟨j16, o17, o18, h⟩ := h
    refine wp_iald (n := 6) dX10_lay_114 (sh0_K_kind (sh2_S_bins (sh9_S_house hS))) (sh0_N_kind (sh2_S_bins (sh9_S_house hS))) (by decide) o17 o18 ?_
    refine wp_putI dX10_lay_115 fp_RX10_320 rfl (sh6_K (sh9_ES_slots hS j1 o3)) ?_
    refine wp_nm (fun M19 eM19 => ?_)
    replace h := h M19 eM19
    refine wp_aload 1 dX10_lay_118 rfl ?_
    refine wp_aload_n 2 dX10_lay_120 rfl rfl ?_
    refine wp_getR dX10_lay_121 fl_RX10_10 rfl (sh9_K hS) (sh9_F_house hS) ?_
    refine wp_getR dX10_lay_124 fl_RX10_68 rfl (sh2_K (sh9_S_house hS)) (sh2_F_bins (sh9_S_house hS)) ?_
    refine wp_getR dX10_lay_127 fl_RX10_84 rfl (sh0_K (sh2_S_bins (sh9_S_house hS))) (sh0_F_share (sh2_S_bins (sh9_S_house hS))) ?_
    refine wp_iload_n 5 dX10_lay_130 rfl rfl ?_
    refine wp_iald (n := 6) dX10_lay_131 (sh0_K_share (sh2_S_bins (sh9_S_house hS))) (sh0_N_share (sh2_S_bins (sh9_S_house hS))) (by decide) o17 o18 ?_
    refine wp_putI dX10_lay_132 fp_RX10_322 rfl (sh6_K (sh9_ES_slots hS j1 o3)) ?_
    refine wp_nm (fun M20 eM20 => ?_)
    replace h := h M20 eM20
    refine wp_goto (tgt := 166) dX10_lay_135 (by decide) ?_
    refine wp_iload 0 dX10_lay_166 rfl ?_
    exact wn_iret dX10_lay_168 rfl h
theorem bX11_lay_0 {G : Gl} {d : Nat} {X : Sh} {M : Mm} {Q : Mm → Int32 → Prop} {a : Nat} {x1 : Int32} {x2 : Int32} {x3 : Int32} (hS : Sh10 X a) (hd : 1 ≤ d) (h : ((x2 = 0 → Wn G m_X11_lay (d + 1) 34 [(0, .ref a), (1, .int x1), (2, .int x2), (3, .int x3)] [] X M Q) ∧ (¬ (x2 = 0) → ((x2 = 3 → Wn G m_X11_lay (d + 1) 34 [(0, .ref a), (1, .int x1), (2, .int x2), (3, .int x3)] [] X M Q) ∧ (¬ (x2 = 3) → ((¬ (x2 = 1) → Wn G m_X11_lay (d + 1) 22 [(0, .ref a), (1, .int x1), (2, .int x2), (3, .int x3)] [] X M Q) ∧ (x2 = 1 → ((0 ≤ x3 ∧ x3 ≤ mI M (a + 1) 0 - 1 → Wn G m_X11_lay (d + 1) 34 [(0, .ref a), (1, .int x1), (2, .int x2), (3, .int x3)] [] X M Q) ∧ (¬ (0 ≤ x3 ∧ x3 ≤ mI M (a + 1) 0 - 1) → Wn G m_X11_lay (d + 1) 22 [(0, .ref a), (1, .int x1), (2, .int x2), (3, .int x3)] [] X M Q))))))))) : Wn G m_X11_lay (d + 1) 0 [(0, .ref a), (1, .int x1), (2, .int x2), (3, .int x3)] [] X M Q := by
  refine wp_iload_n 2 dX11_lay_0 rfl rfl ?_
  refine wp_if_eq (tgt := 34) dX11_lay_1 (by decide) (fun c1 => ?_) (fun c1 => ?_)
  · replace h := h.1 c1
    exact Wp.sub [0, 1, 2, 3] rfl h
  · replace h := h.2 c1
    refine wp_iload_n 2 dX11_lay_4 rfl rfl ?_
    refine wp_iconst (v := 3) dX11_lay_5 rfl ?_
    refine wp_icmp_eq (tgt := 34) dX11_lay_6 (by decide) (fun c2 => ?_) (fun c2 => ?_)
    · replace h := h.1 c2
      exact Wp.sub [0, 1, 2, 3] rfl h
    · replace h := h.2 c2
      refine wp_iload_n 2 dX11_lay_9 rfl rfl ?_
      refine wp_iconst (v := 1) dX11_lay_10 rfl ?_
      refine wp_icmp_ne (tgt := 22) dX11_lay_11 (by decide) (fun c3 => ?_) (fun c3 => ?_)
      · replace h := h.1 c3
        exact Wp.sub [0, 1, 2, 3] rfl h
      · replace h := h.2 c3
        refine wp_aload_n 0 dX11_lay_14 rfl rfl ?_
        refine wp_iload_n 3 dX11_lay_15 rfl rfl ?_
        refine wp_cvip dX11_lay_16 ck_RX11_102 (sh10_K hS) (as := [.int x3]) rfl rfl (Nat.le_of_ble_eq_true rfl) (cp_X11_isBin G d (by omega) X M a x3 hS) ?_
        refine wp_ifB_ne (inferInstance) (tgt := 34) dX11_lay_19 (by decide) (fun c4 => ?_) (fun c4 => ?_)
        · replace h := h.1 c4
          exact Wp.sub [0, 1, 2, 3] rfl h
        · replace h := h.2 c4
          exact Wp.sub [0, 1, 2, 3] rfl h
theorem bX11_lay_34 {G : Gl} {d : Nat} {X : Sh} {M : Mm} {Q : Mm → Int32 → Prop} {a : Nat} {x1 : Int32} {x2 : Int32} {x3 : Int32} (hS : Sh10 X a) (hd : 1 ≤ d) (h : ((¬ (0 ≤ x1 ∧ x1 ≤ 4) → Q M (-1000000001)) ∧ (0 ≤ x1 ∧ x1 ≤ 4 → ((¬ ((1 : Int32) = 0) → Wn G m_X11_lay (d + 1) 56 [(0, .ref a), (1, .int x1), (2, .int x2), (3, .int x3)] [] X M Q) ∧ ((1 : Int32) = 0 → Q M (-1000000001)))))) : Wn G m_X11_lay (d + 1) 34 [(0, .ref a), (1, .int x1), (2, .int x2), (3, .int x3)] [] X M Q := by
  refine wp_iconst (v := 1) dX11_lay_34 rfl ?_
  refine wp_goto (tgt := 39) dX11_lay_35 (by decide) ?_
  refine wp_istore (lo2 := [(4, .int _), (0, .ref _), (1, .int _), (2, .int _), (3, .int _)]) dX11_lay_39 (by decide) rfl ?_
  refine wp_iload_n 2 dX11_lay_41 rfl rfl ?_
  refine wp_csip dX11_lay_42 ck_RX11_332 rfl (as := [.int x1]) rfl rfl (Nat.le_of_ble_eq_true rfl) (cp_X11_isSlot G d (by omega) X M x1) ?_
  refine wp_ifB_eq (inferInstance) (tgt := 53) dX11_lay_45 (by decide) (fun c1 => ?_) (fun c1 => ?_)
  · replace h := h.1 c1
    refine wp_ldc dX11_lay_53 kc_RX11_100 ?_
    exact wn_iret dX11_lay_55 rfl h
  · replace h := h.2 c1
    refine wp_iload 0 dX11_lay_48 rfl ?_
    refine wp_if_ne (tgt := 56) dX11_lay_50 (by decide) (fun c2 => ?_) (fun c2 => ?_)
    · replace h := h.1 c2
      exact Wp.sub [1, 2, 3, 4] rfl h
    · replace h := h.2 c2
      refine wp_ldc dX11_lay_53 kc_RX11_100 ?_
      exact wn_iret dX11_lay_55 rfl h
theorem bX11_lay_22 {G : Gl} {d : Nat} {X : Sh} {M : Mm} {Q : Mm → Int32 → Prop} {a : Nat} {x1 : Int32} {x2 : Int32} {x3 : Int32} (hS : Sh10 X a) (hd : 1 ≤ d) (h : ((¬ (x2 = 2) → Wn G m_X11_lay (d + 1) 38 [(0, .ref a), (1, .int x1), (2, .int x2), (3, .int x3)] [] X M Q) ∧ (x2 = 2 → ((¬ (0 ≤ x3 ∧ x3 ≤ 3) → Wn G m_X11_lay (d + 1) 38 [(0, .ref a), (1, .int x1), (2, .int x2), (3, .int x3)] [] X M Q) ∧ (0 ≤ x3 ∧ x3 ≤ 3 → Wn G m_X11_lay (d + 1) 34 [(0, .ref a), (1, .int x1), (2, .int x2), (3, .int x3)] [] X M Q))))) : Wn G m_X11_lay (d + 1) 22 [(0, .ref a), (1, .int x1), (2, .int x2), (3, .int x3)] [] X M Q := by
  refine wp_iload_n 2 dX11_lay_22 rfl rfl ?_
  refine wp_iconst (v := 2) dX11_lay_23 rfl ?_
  refine wp_icmp_ne (tgt := 38) dX11_lay_24 (by decide) (fun c1 => ?_) (fun c1 => ?_)
  · replace h := h.1 c1
    exact Wp.sub [0, 1, 2, 3] rfl h
  · replace h := h.2 c1
    refine wp_iload_n 3 dX11_lay_27 rfl rfl ?_
    refine wp_csip dX11_lay_28 ck_RX11_324 rfl (as := [.int x3]) rfl rfl (Nat.le_of_ble_eq_true rfl) (cp_X11_isSheet G d (by omega) X M x3) ?_
    refine wp_ifB_eq (inferInstance) (tgt := 38) dX11_lay_31 (by decide) (fun c2 => ?_) (fun c2 => ?_)
    · replace h := h.1 c2
      exact Wp.sub [0, 1, 2, 3] rfl h
    · replace h := h.2 c2
      exact Wp.sub [0, 1, 2, 3] rfl h
theorem bX11_lay_56 {G : Gl} {d : Nat} {X : Sh} {M : Mm} {Q : Mm → Int32 → Prop} {a : Nat} {x1 : Int32} {x2 : Int32} {x3 : Int32} (hS : Sh10 X a) (h : ((¬ (x2 = 2) → Wn G m_X11_lay (d + 1) 74 [(0, .ref a), (1, .int x1), (2, .int x2), (3, .int x3)] [] X M Q) ∧ (x2 = 2 → (∃ j2 : Nat, x3 = nI j2 ∧ j2 < 4 ∧ ((0 ≤ (mI M (a + 4) j2) → Wn G m_X11_lay (d + 1) 74 [(0, .ref a), (1, .int x1), (2, .int x2), (3, .int x3)] [] X M Q) ∧ (¬ (0 ≤ (mI M (a + 4) j2)) → Q M (-1000000011))))))) : Wn G m_X11_lay (d + 1) 56 [(0, .ref a), (1, .int x1), (2, .int x2), (3, .int x3)] [] X M Q := by
  refine wp_iload_n 2 dX11_lay_56 rfl rfl ?_
  refine wp_iconst (v := 2) dX11_lay_57 rfl ?_
  refine wp_icmp_ne (tgt := 74) dX11_lay_58 (by decide) (fun c1 => ?_) (fun c1 => ?_)
  · replace h := h.1 c1
    exact Wp.sub [0, 1, 2, 3] rfl h
  · replace h := h.2 c1
    refine wp_aload_n 0 dX11_lay_61 rfl rfl ?_
    refine wp_getR dX11_lay_62 fl_RX11_19 rfl (sh10_K hS) (sh10_F_tSort hS) ?_
    refine wp_iload_n 3 dX11_lay_65 rfl rfl ?_
    obtain ⟨j2, o3, o4, h⟩ := h
    refine wp_iald (n := 4) dX11_lay_66 (sh10_K_tSort hS) (sh10_N_tSort hS) (by decide) o3 o4 ?_
    refine wp_if_ge (tgt := 74) dX11_lay_67 (by decide) (fun c5 => ?_) (fun c5 => ?_)
    · replace h := h.1 c5
      exact Wp.sub [0, 1, 2, 3] rfl h
    · replace h := h.2 c5
      refine wp_ldcw dX11_lay_70 kc_RX11_328 ?_
      exact wn_iret dX11_lay_73 rfl h
theorem bX11_lay_38 {G : Gl} {d : Nat} {X : Sh} {M : Mm} {Q : Mm → Int32 → Prop} {a : Nat} {x1 : Int32} {x2 : Int32} {x3 : Int32} (hS : Sh10 X a) (hd : 1 ≤ d) (h : ((¬ (0 ≤ x1 ∧ x1 ≤ 4) → Q M (-1000000001)) ∧ (0 ≤ x1 ∧ x1 ≤ 4 → ((¬ ((0 : Int32) = 0) → Wn G m_X11_lay (d + 1) 56 [(0, .ref a), (1, .int x1), (2, .int x2), (3, .int x3)] [] X M Q) ∧ ((0 : Int32) = 0 → Q M (-1000000001)))))) : Wn G m_X11_lay (d + 1) 38 [(0, .ref a), (1, .int x1), (2, .int x2), (3, .int x3)] [] X M Q := by
  refine wp_iconst (v := 0) dX11_lay_38 rfl ?_
  refine wp_istore (lo2 := [(4, .int _), (0, .ref _), (1, .int _), (2, .int _), (3, .int _)]) dX11_lay_39 (by decide) rfl ?_
  refine wp_iload_n 2 dX11_lay_41 rfl rfl ?_
  refine wp_csip dX11_lay_42 ck_RX11_332 rfl (as := [.int x1]) rfl rfl (Nat.le_of_ble_eq_true rfl) (cp_X11_isSlot G d (by omega) X M x1) ?_
  refine wp_ifB_eq (inferInstance) (tgt := 53) dX11_lay_45 (by decide) (fun c1 => ?_) (fun c1 => ?_)
  · replace h := h.1 c1
    refine wp_ldc dX11_lay_53 kc_RX11_100 ?_
    exact wn_iret dX11_lay_55 rfl h
  · replace h := h.2 c1
    refine wp_iload 0 dX11_lay_48 rfl ?_
    refine wp_if_ne (tgt := 56) dX11_lay_50 (by decide) (fun c2 => ?_) (fun c2 => ?_)
    · replace h := h.1 c2
      exact Wp.sub [1, 2, 3, 4] rfl h
    · replace h := h.2 c2
      refine wp_ldc dX11_lay_53 kc_RX11_100 ?_
      exact wn_iret dX11_lay_55 rfl h
theorem bX11_lay_74 {G : Gl} {d : Nat} {X : Sh} {M : Mm} {Q : Mm → Int32 → Prop} {a : Nat} {x1 : Int32} {x2 : Int32} {x3 : Int32} (hS : Sh10 X a) (h : (∃ j1 : Nat, x1 = nI j1 ∧ j1 < 5 ∧ (∀ v4 : Int32, v4 = (mI M (a + 7) j1) → (∀ M5 : Mm, M5 = sI M (a + 7) j1 x2 → ((¬ (x2 = 1) → (∀ M7 : Mm, M7 = sI M5 (a + 8) j1 x3 → ((¬ (x2 = 1) → (∀ M9 : Mm, M9 = sI M7 (a + 9) j1 0 → ((¬ (x2 = 2) → Wn G m_X11_lay (d + 1) 198 [(5, .int v4)] [] X M9 Q) ∧ (x2 = 2 → (∃ j11 : Nat, x3 = nI j11 ∧ j11 < 4 ∧ (∀ M14 : Mm, M14 = sI M9 (a + 10) j1 (mI M9 (a + 5) j11) → Wn G m_X11_lay (d + 1) 161 [(0, .ref a), (1, .int x1), (3, .int x3), (5, .int v4), (6, .int 0)] [] X M14 Q)))))) ∧ (x2 = 1 → (∃ j15 : Nat, ((20 + 5 * x3) + 1) = nI j15 ∧ j15 < 2950 ∧ (∀ M18 : Mm, M18 = sI M7 (a + 9) j1 (mI M7 (a + 1) j15) → ((¬ (x2 = 2) → Wn G m_X11_lay (d + 1) 198 [(5, .int v4)] [] X M18 Q) ∧ (x2 = 2 → (∃ j20 : Nat, x3 = nI j20 ∧ j20 < 4 ∧ (∀ M23 : Mm, M23 = sI M18 (a + 10) j1 (mI M18 (a + 5) j20) → Wn G m_X11_lay (d + 1) 161 [(0, .ref a), (1, .int x1), (3, .int x3), (5, .int v4), (6, .int 0)] [] X M23 Q)))))))))) ∧ (x2 = 1 → (∃ j24 : Nat, (20 + 5 * x3) = nI j24 ∧ j24 < 2950 ∧ (∀ M27 : Mm, M27 = sI M5 (a + 8) j1 (mI M5 (a + 1) j24) → ((¬ (x2 = 1) → (∀ M29 : Mm, M29 = sI M27 (a + 9) j1 0 → ((¬ (x2 = 2) → Wn G m_X11_lay (d + 1) 198 [(5, .int v4)] [] X M29 Q) ∧ (x2 = 2 → (∃ j31 : Nat, x3 = nI j31 ∧ j31 < 4 ∧ (∀ M34 : Mm, M34 = sI M29 (a + 10) j1 (mI M29 (a + 5) j31) → Wn G m_X11_lay (d + 1) 161 [(0, .ref a), (1, .int x1), (3, .int x3), (5, .int v4), (6, .int 0)] [] X M34 Q)))))) ∧ (x2 = 1 → (∃ j35 : Nat, ((20 + 5 * x3) + 1) = nI j35 ∧ j35 < 2950 ∧ (∀ M38 : Mm, M38 = sI M27 (a + 9) j1 (mI M27 (a + 1) j35) → ((¬ (x2 = 2) → Wn G m_X11_lay (d + 1) 198 [(5, .int v4)] [] X M38 Q) ∧ (x2 = 2 → (∃ j40 : Nat, x3 = nI j40 ∧ j40 < 4 ∧ (∀ M43 : Mm, M43 = sI M38 (a + 10) j1 (mI M38 (a + 5) j40) → Wn G m_X11_lay (d + 1) 161 [(0, .ref a), (1, .int x1), (3, .int x3), (5, .int v4), (6, .int 0)] [] X M43 Q)))))))))))))))) : Wn G m_X11_lay (d + 1) 74 [(0, .ref a), (1, .int x1), (2, .int x2), (3, .int x3)] [] X M Q := by
  refine wp_aload_n 0 dX11_lay_74 rfl rfl ?_
  refine wp_getR dX11_lay_75 fl_RX11_28 rfl (sh10_K hS) (sh10_F_held hS) ?_
  refine wp_iload_n 1 dX11_lay_78 rfl rfl ?_
  obtain ⟨j1, o2, o3, h⟩ := h
  refine wp_iald (n := 5) dX11_lay_79 (sh10_K_held hS) (sh10_N_held hS) (by decide) o2 o3 ?_
  refine wp_topi (fun v4 ev4 => ?_)
  replace h := h v4 ev4
  refine wp_istore (lo2 := [(5, .int _), (0, .ref _), (1, .int _), (2, .int _), (3, .int _)]) dX11_lay_80 (by decide) rfl ?_
  refine wp_aload_n 1 dX11_lay_82 rfl rfl ?_
  refine wp_getR dX11_lay_83 fl_RX11_28 rfl (sh10_K hS) (sh10_F_held hS) ?_
  refine wp_iload_n 2 dX11_lay_86 rfl rfl ?_
  refine wp_iload_n 3 dX11_lay_87 rfl rfl ?_
  refine wp_iast (n := 5) dX11_lay_88 (sh10_K_held hS) (sh10_N_held hS) (by decide) o2 o3 ?_
  refine wp_nm (fun M5 eM5 => ?_)
  replace h := h M5 eM5
  refine wp_aload_n 1 dX11_lay_89 rfl rfl ?_
  refine wp_getR dX11_lay_90 fl_RX11_31 rfl (sh10_K hS) (sh10_F_heldNumber hS) ?_
  refine wp_iload_n 2 dX11_lay_93 rfl rfl ?_
  refine wp_iload_n 3 dX11_lay_94 rfl rfl ?_
  refine wp_iconst (v := 1) dX11_lay_95 rfl ?_
  refine wp_icmp_ne (tgt := 112) dX11_lay_96 (by decide) (fun c6 => ?_) (fun c6 => ?_)
  · replace h := h.1 c6
    refine wp_iload_n 4 dX11_lay_112 rfl rfl ?_
    refine wp_iast (n := 5) dX11_lay_113 (sh10_K_heldNumber hS) (sh10_N_heldNumber hS) (by decide) o2 o3 ?_
    refine wp_nm (fun M7 eM7 => ?_)
    replace h := h M7 eM7
    refine wp_aload_n 1 dX11_lay_114 rfl rfl ?_
    refine wp_getR dX11_lay_115 fl_RX11_34 rfl (sh10_K hS) (sh10_F_heldShare hS) ?_
    refine wp_iload_n 2 dX11_lay_118 rfl rfl ?_
    refine wp_iload_n 3 dX11_lay_119 rfl rfl ?_
    refine wp_iconst (v := 1) dX11_lay_120 rfl ?_
    refine wp_icmp_ne (tgt := 139) dX11_lay_121 (by decide) (fun c8 => ?_) (fun c8 => ?_)
    · replace h := h.1 c8
      refine wp_iconst (v := 0) dX11_lay_139 rfl ?_
      refine wp_iast (n := 5) dX11_lay_140 (sh10_K_heldShare hS) (sh10_N_heldShare hS) (by decide) o2 o3 ?_
      refine wp_nm (fun M9 eM9 => ?_)
      replace h := h M9 eM9
      refine wp_iload_n 3 dX11_lay_141 rfl rfl ?_
      refine wp_iconst (v := 2) dX11_lay_142 rfl ?_
      refine wp_icmp_ne (tgt := 198) dX11_lay_143 (by decide) (fun c10 => ?_) (fun c10 => ?_)
      · replace h := h.1 c10
        exact Wp.sub [0] rfl h
      · replace h := h.2 c10
        refine wp_aload_n 1 dX11_lay_146 rfl rfl ?_
        refine wp_getR dX11_lay_147 fl_RX11_37 rfl (sh10_K hS) (sh10_F_heldSize hS) ?_
        refine wp_iload_n 2 dX11_lay_150 rfl rfl ?_
        refine wp_aload_n 1 dX11_lay_151 rfl rfl ?_
        refine wp_getR dX11_lay_152 fl_RX11_22 rfl (sh10_K hS) (sh10_F_tSize hS) ?_
        refine wp_iload_n 4 dX11_lay_155 rfl rfl ?_
        obtain ⟨j11, o12, o13, h⟩ := h
        refine wp_iald (n := 4) dX11_lay_156 (sh10_K_tSize hS) (sh10_N_tSize hS) (by decide) o12 o13 ?_
        refine wp_iast (n := 5) dX11_lay_157 (sh10_K_heldSize hS) (sh10_N_heldSize hS) (by decide) o2 o3 ?_
        refine wp_nm (fun M14 eM14 => ?_)
        replace h := h M14 eM14
        refine wp_iconst (v := 0) dX11_lay_158 rfl ?_
        refine wp_istore (lo2 := [(6, .int _), (5, .int _), (0, .ref _), (1, .int _), (2, .int _), (3, .int _)]) dX11_lay_159 (by decide) rfl ?_
        exact Wp.sub [2, 3, 5, 1, 0] rfl h
    · replace h := h.2 c8
      refine wp_aload_n 1 dX11_lay_124 rfl rfl ?_
      refine wp_getR dX11_lay_125 fl_RX11_7 rfl (sh10_K hS) (sh10_F_s hS) ?_
      refine wp_aload_n 1 dX11_lay_128 rfl rfl ?_
      refine wp_iload_n 4 dX11_lay_129 rfl rfl ?_
      refine wp_cvip dX11_lay_130 ck_RX11_86 (sh10_K hS) (as := [.int x3]) rfl rfl (Nat.le_of_ble_eq_true rfl) (cp_X11_binAt G d X M7 a x3 hS) ?_
      refine wp_iconst (v := 1) dX11_lay_133 rfl ?_
      refine wp_iadd dX11_lay_134 ?_
      obtain ⟨j15, o16, o17, h⟩ := h
      refine wp_iald (n := 2950) dX11_lay_135 (sh10_K_s hS) (sh10_N_s hS) (by decide) o16 o17 ?_
      refine wp_goto (tgt := 140) dX11_lay_136 (by decide) ?_
      refine wp_iast (n := 5) dX11_lay_140 (sh10_K_heldShare hS) (sh10_N_heldShare hS) (by decide) o2 o3 ?_
      refine wp_nm (fun M18 eM18 => ?_)
      replace h := h M18 eM18
      refine wp_iload_n 3 dX11_lay_141 rfl rfl ?_
      refine wp_iconst (v := 2) dX11_lay_142 rfl ?_
      refine wp_icmp_ne (tgt := 198) dX11_lay_143 (by decide) (fun c19 => ?_) (fun c19 => ?_)
      · replace h := h.1 c19
        exact Wp.sub [0] rfl h
      · replace h := h.2 c19
        refine wp_aload_n 1 dX11_lay_146 rfl rfl ?_
        refine wp_getR dX11_lay_147 fl_RX11_37 rfl (sh10_K hS) (sh10_F_heldSize hS) ?_
        refine wp_iload_n 2 dX11_lay_150 rfl rfl ?_
        refine wp_aload_n 1 dX11_lay_151 rfl rfl ?_
        refine wp_getR dX11_lay_152 fl_RX11_22 rfl (sh10_K hS) (sh10_F_tSize hS) ?_
        refine wp_iload_n 4 dX11_lay_155 rfl rfl ?_
        obtain ⟨j20, o21, o22, h⟩ := h
        refine wp_iald (n := 4) dX11_lay_156 (sh10_K_tSize hS) (sh10_N_tSize hS) (by decide) o21 o22 ?_
        refine wp_iast (n := 5) dX11_lay_157 (sh10_K_heldSize hS) (sh10_N_heldSize hS) (by decide) o2 o3 ?_
        refine wp_nm (fun M23 eM23 => ?_)
        replace h := h M23 eM23
        refine wp_iconst (v := 0) dX11_lay_158 rfl ?_
        refine wp_istore (lo2 := [(6, .int _), (5, .int _), (0, .ref _), (1, .int _), (2, .int _), (3, .int _)]) dX11_lay_159 (by decide) rfl ?_
        exact Wp.sub [2, 3, 5, 1, 0] rfl h
  · replace h := h.2 c6
    refine wp_aload_n 1 dX11_lay_99 rfl rfl ?_
    refine wp_getR dX11_lay_100 fl_RX11_7 rfl (sh10_K hS) (sh10_F_s hS) ?_
    refine wp_aload_n 1 dX11_lay_103 rfl rfl ?_
    refine wp_iload_n 4 dX11_lay_104 rfl rfl ?_
    refine wp_cvip dX11_lay_105 ck_RX11_86 (sh10_K hS) (as := [.int x3]) rfl rfl (Nat.le_of_ble_eq_true rfl) (cp_X11_binAt G d X M5 a x3 hS) ?_
    obtain ⟨j24, o25, o26, h⟩ := h
    refine wp_iald (n := 2950) dX11_lay_108 (sh10_K_s hS) (sh10_N_s hS) (by decide) o25 o26 ?_
    refine wp_goto (tgt := 113) dX11_lay_109 (by decide) ?_
    refine wp_iast (n := 5) dX11_lay_113 (sh10_K_heldNumber hS) (sh10_N_heldNumber hS) (by decide) o2 o3 ?_
    refine wp_nm (fun M27 eM27 => ?_)
    replace h := h M27 eM27
    refine wp_aload_n 1 dX11_lay_114 rfl rfl ?_
    refine wp_getR dX11_lay_115 fl_RX11_34 rfl (sh10_K hS) (sh10_F_heldShare hS) ?_
    refine wp_iload_n 2 dX11_lay_118 rfl rfl ?_
    refine wp_iload_n 3 dX11_lay_119 rfl rfl ?_
    refine wp_iconst (v := 1) dX11_lay_120 rfl ?_
    refine wp_icmp_ne (tgt := 139) dX11_lay_121 (by decide) (fun c28 => ?_) (fun c28 => ?_)
    · replace h := h.1 c28
      refine wp_iconst (v := 0) dX11_lay_139 rfl ?_
      refine wp_iast (n := 5) dX11_lay_140 (sh10_K_heldShare hS) (sh10_N_heldShare hS) (by decide) o2 o3 ?_
      refine wp_nm (fun M29 eM29 => ?_)
      replace h := h M29 eM29
      refine wp_iload_n 3 dX11_lay_141 rfl rfl ?_
      refine wp_iconst (v := 2) dX11_lay_142 rfl ?_
      refine wp_icmp_ne (tgt := 198) dX11_lay_143 (by decide) (fun c30 => ?_) (fun c30 => ?_)
      · replace h := h.1 c30
        exact Wp.sub [0] rfl h
      · replace h := h.2 c30
        refine wp_aload_n 1 dX11_lay_146 rfl rfl ?_
        refine wp_getR dX11_lay_147 fl_RX11_37 rfl (sh10_K hS) (sh10_F_heldSize hS) ?_
        refine wp_iload_n 2 dX11_lay_150 rfl rfl ?_
        refine wp_aload_n 1 dX11_lay_151 rfl rfl ?_
        refine wp_getR dX11_lay_152 fl_RX11_22 rfl (sh10_K hS) (sh10_F_tSize hS) ?_
        refine wp_iload_n 4 dX11_lay_155 rfl rfl ?_
        obtain ⟨j31, o32, o33, h⟩ := h
        refine wp_iald (n := 4) dX11_lay_156 (sh10_K_tSize hS) (sh10_N_tSize hS) (by decide) o32 o33 ?_
        refine wp_iast (n := 5) dX11_lay_157 (sh10_K_heldSize hS) (sh10_N_heldSize hS) (by decide) o2 o3 ?_
        refine wp_nm (fun M34 eM34 => ?_)
        replace h := h M34 eM34
        refine wp_iconst (v := 0) dX11_lay_158 rfl ?_
        refine wp_istore (lo2 := [(6, .int _), (5, .int _), (0, .ref _), (1, .int _), (2, .int _), (3, .int _)]) dX11_lay_159 (by decide) rfl ?_
        exact Wp.sub [2, 3, 5, 1, 0] rfl h
    · replace h := h.2 c28
      refine wp_aload_n 1 dX11_lay_124 rfl rfl ?_
      refine wp_getR dX11_lay_125 fl_RX11_7 rfl (sh10_K hS) (sh10_F_s hS) ?_
      refine wp_aload_n 1 dX11_lay_128 rfl rfl ?_
      refine wp_iload_n 4 dX11_lay_129 rfl rfl ?_
      refine wp_cvip dX11_lay_130 ck_RX11_86 (sh10_K hS) (as := [.int x3]) rfl rfl (Nat.le_of_ble_eq_true rfl) (cp_X11_binAt G d X M27 a x3 hS) ?_
      refine wp_iconst (v := 1) dX11_lay_133 rfl ?_
      refine wp_iadd dX11_lay_134 ?_
      obtain ⟨j35, o36, o37, h⟩ := h
      refine wp_iald (n := 2950) dX11_lay_135 (sh10_K_s hS) (sh10_N_s hS) (by decide) o36 o37 ?_
      refine wp_goto (tgt := 140) dX11_lay_136 (by decide) ?_
      refine wp_iast (n := 5) dX11_lay_140 (sh10_K_heldShare hS) (sh10_N_heldShare hS) (by decide) o2 o3 ?_
      refine wp_nm (fun M38 eM38 => ?_)
      replace h := h M38 eM38
      refine wp_iload_n 3 dX11_lay_141 rfl rfl ?_
      refine wp_iconst (v := 2) dX11_lay_142 rfl ?_
      refine wp_icmp_ne (tgt := 198) dX11_lay_143 (by decide) (fun c39 => ?_) (fun c39 => ?_)
      · replace h := h.1 c39
        exact Wp.sub [0] rfl h
      · replace h := h.2 c39
        refine wp_aload_n 1 dX11_lay_146 rfl rfl ?_
        refine wp_getR dX11_lay_147 fl_RX11_37 rfl (sh10_K hS) (sh10_F_heldSize hS) ?_
        refine wp_iload_n 2 dX11_lay_150 rfl rfl ?_
        refine wp_aload_n 1 dX11_lay_151 rfl rfl ?_
        refine wp_getR dX11_lay_152 fl_RX11_22 rfl (sh10_K hS) (sh10_F_tSize hS) ?_
        refine wp_iload_n 4 dX11_lay_155 rfl rfl ?_
        obtain ⟨j40, o41, o42, h⟩ := h
        refine wp_iald (n := 4) dX11_lay_156 (sh10_K_tSize hS) (sh10_N_tSize hS) (by decide) o41 o42 ?_
        refine wp_iast (n := 5) dX11_lay_157 (sh10_K_heldSize hS) (sh10_N_heldSize hS) (by decide) o2 o3 ?_
        refine wp_nm (fun M43 eM43 => ?_)
        replace h := h M43 eM43
        refine wp_iconst (v := 0) dX11_lay_158 rfl ?_
        refine wp_istore (lo2 := [(6, .int _), (5, .int _), (0, .ref _), (1, .int _), (2, .int _), (3, .int _)]) dX11_lay_159 (by decide) rfl ?_
        exact Wp.sub [2, 3, 5, 1, 0] rfl h
theorem bX11_lay_198 {G : Gl} {d : Nat} {X : Sh} {M : Mm} {Q : Mm → Int32 → Prop} {x5 : Int32}  (h : Q M x5) : Wn G m_X11_lay (d + 1) 198 [(5, .int x5)] [] X M Q := by
  refine wp_iload 0 dX11_lay_198 rfl ?_
  exact wn_iret dX11_lay_200 rfl h
theorem bX11_lay_161 {G : Gl} {d : Nat} {X : Sh} {M : Mm} {Q : Mm → Int32 → Prop} {a : Nat} {x1 : Int32} {x3 : Int32} {x5 : Int32} {x6 : Int32} (hS : Sh10 X a) (h : ((24 ≤ x6 → Wn G m_X11_lay (d + 1) 198 [(5, .int x5)] [] X M Q) ∧ (¬ (24 ≤ x6) → (∃ j2 : Nat, ((24 * x3) + x6) = nI j2 ∧ j2 < 96 ∧ (∃ j5 : Nat, ((24 * x1) + x6) = nI j5 ∧ j5 < 120 ∧ (∀ M8 : Mm, M8 = sI M (a + 11) j5 (mI M (a + 6) j2) → Wn G m_X11_lay (d + 1) 161 [(0, .ref a), (1, .int x1), (3, .int x3), (5, .int x5), (6, .int (x6 + 1))] [] X M8 Q)))))) : Wn G m_X11_lay (d + 1) 161 [(0, .ref a), (1, .int x1), (3, .int x3), (5, .int x5), (6, .int x6)] [] X M Q := by
  refine wp_iload 4 dX11_lay_161 rfl ?_
  refine wp_bipush (v := 24) dX11_lay_163 rfl ?_
  refine wp_icmp_ge (tgt := 198) dX11_lay_165 (by decide) (fun c1 => ?_) (fun c1 => ?_)
  · replace h := h.1 c1
    exact Wp.sub [3] rfl h
  · replace h := h.2 c1
    refine wp_aload_n 0 dX11_lay_168 rfl rfl ?_
    refine wp_getR dX11_lay_169 fl_RX11_40 rfl (sh10_K hS) (sh10_F_heldRow hS) ?_
    refine wp_bipush (v := 24) dX11_lay_172 rfl ?_
    refine wp_iload_n 1 dX11_lay_174 rfl rfl ?_
    refine wp_imul dX11_lay_175 ?_
    refine wp_iload 4 dX11_lay_176 rfl ?_
    refine wp_iadd dX11_lay_178 ?_
    refine wp_aload_n 0 dX11_lay_179 rfl rfl ?_
    refine wp_getR dX11_lay_180 fl_RX11_25 rfl (sh10_K hS) (sh10_F_tNumber hS) ?_
    refine wp_bipush (v := 24) dX11_lay_183 rfl ?_
    refine wp_iload_n 2 dX11_lay_185 rfl rfl ?_
    refine wp_imul dX11_lay_186 ?_
    refine wp_iload 4 dX11_lay_187 rfl ?_
    refine wp_iadd dX11_lay_189 ?_
    obtain ⟨j2, o3, o4, h⟩ := h
    refine wp_iald (n := 96) dX11_lay_190 (sh10_K_tNumber hS) (sh10_N_tNumber hS) (by decide) o3 o4 ?_
    obtain ⟨j5, o6, o7, h⟩ := h
    refine wp_iast (n := 120) dX11_lay_191 (sh10_K_heldRow hS) (sh10_N_heldRow hS) (by decide) o6 o7 ?_
    refine wp_nm (fun M8 eM8 => ?_)
    replace h := h M8 eM8
    refine wp_iinc (v := x6 + 1) (lo2 := [(6, .int _), (0, .ref _), (1, .int _), (3, .int _), (5, .int _)]) dX11_lay_192 (q := 4) rfl rfl (by decide) rfl ?_
    refine wp_goto (tgt := 161) dX11_lay_195 (by decide) ?_
    exact Wp.sub [1, 2, 3, 4, 0] rfl h
/-- a sheet becomes another -/
def Sh5Q (M : Mm) (a a2 : Nat) (M2 : Mm) : Prop := mI M2 a 1 = mI M a2 1 ∧ (∀ j, j < 24 → mI M2 (a + 1) j = mI M (a2 + 1) j ∧ mI M2 (a + 2) j = mI M (a2 + 2) j) ∧ (∀ c, c ≠ a → c ≠ a + 1 → c ≠ a + 2 → mI M2 c = mI M c) ∧ mR M2 = mR M
theorem cp_X5_become (G : Gl) (d : Nat) (hd : 1 ≤ d) (X : Sh) (M : Mm) (a a2 : Nat) (hS : Sh5 X a) (hS2 : Sh5 X a2) (haa : a + 3 ≤ a2 ∨ a2 + 3 ≤ a) : Cv G m_X5_become d [.ref a, .ref a2] X M (Sh5Q M a a2) := by
  obtain ⟨d, rfl⟩ : ∃ d1, d = d1 + 1 := ⟨d - 1, by omega⟩
  refine Cv.of (by decide) (Nat.le_of_ble_eq_true rfl) (bX5_become_0 hS hS2 ?_)
  intro M1 e1 M2 e2 M3 e3 M4 e4
  have o1 : ∀ c, c ≠ a → mI M1 c = mI M c := fun c hc => by rw [e1, mI_sI, up2_off _ _ _ hc]
  have o2 : ∀ c, c ≠ a → mI M2 c = mI M c := fun c hc => by rw [e2, mI_sI, up2_off _ _ _ hc, o1 c hc]
  have o3 : ∀ c, c ≠ a + 1 → mI M3 c = mI M2 c := fun c hc => by rw [e3, sC_off _ _ _ _ _ _ hc]
  have o4 : ∀ c, c ≠ a + 2 → mI M4 c = mI M3 c := fun c hc => by rw [e4, sC_off _ _ _ _ _ _ hc]
  refine ⟨?_, fun j hj => ⟨?_, ?_⟩, fun c h1 h2 h3 => by rw [o4 c h3, o3 c h2, o2 c h1], by rw [e4, e3, e2, e1]; rfl⟩
  · rw [o4 _ (by omega), o3 _ (by omega), e2, mI_sI, up2_same, o1 _ (by omega)]
  · rw [o4 _ (by omega), e3, sC_row, cpy0 hj, o2 _ (by omega)]
  · rw [e4, sC_row, cpy0 hj, o3 _ (by omega), o2 _ (by omega)]
/-- what the slot i holds, said of both sides -/
def SlI (M : Mm) (b m i : Nat) : Prop := mI M (b + 245 + 4 * i) 0 = mI M (m + 7) i ∧ (∃ v, v ≤ 3 ∧ mI M (m + 7) i = nI v) ∧ (mI M (m + 7) i = 1 → mI M (b + 245 + 4 * i) 1 = mI M (m + 8) i ∧ mI M (b + 245 + 4 * i) 2 = mI M (m + 9) i ∧ ∃ k sh, k ≤ 5 ∧ sh ≤ 99 ∧ mI M (m + 8) i = nI k ∧ mI M (m + 9) i = nI sh) ∧ (mI M (m + 7) i = 3 → mI M (b + 245 + 4 * i) 3 = mI M (m + 8) i) ∧
  (mI M (m + 7) i = 2 → (∃ n, n ≤ 24 ∧ mI M (b + 246 + 4 * i) 1 = nI n ∧ mI M (m + 10) i = nI n) ∧ ∀ j, j < 24 → Cell (mI M (b + 247 + 4 * i) j) (mI M (b + 248 + 4 * i) j) (mI M (m + 11) (24 * i + j)))
/-- a call that changes slot i alone -/
theorem Sim.slot {M M2 : Mm} {b m i : Nat} (h : Sim M b m) (hbm : b + 266 ≤ m) (hi : i < 5) (e : ∀ c, c < b + 245 + 4 * i ∨ b + 248 + 4 * i < c → c < m + 7 ∨ m + 11 < c → mI M2 c = mI M c) (eR : mR M2 = mR M) (e7 : ∀ j, j ≠ i → mI M2 (m + 7) j = mI M (m + 7) j ∧ mI M2 (m + 8) j = mI M (m + 8) j ∧ mI M2 (m + 9) j = mI M (m + 9) j ∧ mI M2 (m + 10) j = mI M (m + 10) j) (e11 : ∀ j, j < 24 * i ∨ 24 * i + 24 ≤ j → mI M2 (m + 11) j = mI M (m + 11) j) (hs : SlI M2 b m i) : Sim M2 b m := by
  obtain ⟨hh, ⟨i1, i2⟩, ⟨⟨la1, p1⟩, ⟨la2, p2⟩⟩, t, s, l, w⟩ := h
  refine ⟨?_, ⟨by rw [e b (by omega) (by omega), e m (by omega) (by omega)]; exact i1, fun q => ?_⟩, ⟨⟨la1, p1.mR eR⟩, ⟨la2, p2.mR eR⟩⟩, ?_, fun j hj => ?_, fun j hj => ?_, ?_⟩
  · rw [e (m + 1) (by omega) (by omega)]
    exact hh.mem (fun c h1 h2 _ => e c (by omega) (by omega)) (by rw [eR])
  · rw [e m (by omega) (by omega)] at q
    rw [e (m + 2) (by omega) (by omega)]
    exact (i2 q).mem (fun c h1 h2 _ => e c (by omega) (by omega)) (by rw [eR])
  · unfold TaR
    rw [e (b + 227) (by omega) (by omega), e m (by omega) (by omega), e (b + 228) (by omega) (by omega), e (m + 17) (by omega) (by omega)]
    exact t
  · rw [e (b + 232 + 3 * j) (by omega) (by omega), e (b + 233 + 3 * j) (by omega) (by omega), e (b + 234 + 3 * j) (by omega) (by omega), e (m + 4) (by omega) (by omega), e (m + 5) (by omega) (by omega), e (m + 6) (by omega) (by omega)]
    exact s j hj
  · by_cases q : j = i
    · subst q
      exact hs
    · obtain ⟨q1, q2, q3, q4⟩ := e7 j q
      obtain ⟨l0, l1, l2, l3, l4⟩ := l j hj
      rw [e (b + 245 + 4 * j) (by omega) (by omega), e (b + 246 + 4 * j) (by omega) (by omega), e (b + 247 + 4 * j) (by omega) (by omega), e (b + 248 + 4 * j) (by omega) (by omega), q1, q2, q3, q4]
      refine ⟨l0, l1, l2, l3, fun z => ⟨(l4 z).1, fun y hy => ?_⟩⟩
      rw [e11 _ (by omega)]
      exact (l4 z).2 y hy
  · unfold WaR
    rw [e b (by omega) (by omega), e m (by omega) (by omega), e (b + 265) (by omega) (by omega), e (m + 21) (by omega) (by omega)]
    exact w
theorem cl_X11_lay_161 (G : Gl) (d : Nat) {X : Sh} {m i j : Nat} {v : Int32} {Q : Mm → Int32 → Prop} (hM : Sh10 X m) (M0 : Mm) (hi : i < 5) (hj : j < 4) (hq : ∀ M2, mI M2 (m + 11) = updR (mI M0 (m + 11)) (24 * i) 24 (fun k => mI M0 (m + 6) (24 * j + k)) → (∀ c, c ≠ m + 11 → mI M2 c = mI M0 c) → mR M2 = mR M0 → Q M2 v) :
    ∀ (n k : Nat) (M : Mm), k + n = 24 → mI M (m + 11) = updR (mI M0 (m + 11)) (24 * i) k (fun k => mI M0 (m + 6) (24 * j + k)) → (∀ c, c ≠ m + 11 → mI M c = mI M0 c) → mR M = mR M0 → Wn G m_X11_lay (d + 1) 161 [(0, .ref m), (1, .int (nI i)), (3, .int (nI j)), (5, .int v), (6, .int (nI k))] [] X M Q
  | 0, k, M, h, h1, h2, h3 => by
    have hk : k = 24 := h
    subst hk
    exact bX11_lay_161 hM ⟨fun _ => bX11_lay_198 (hq M h1 h2 h3), fun z => absurd (by decide) z⟩
  | n + 1, k, M, h, h1, h2, h3 => by
    refine bX11_lay_161 hM ⟨fun z => ?_, fun _ => ⟨24 * j + k, (by first | rfl | (simp only [n_lit, nI_add, pk_mul]; done) | (simp only [n_lit, nI_add, pk_mul]; exact congrArg nI (by omega))), by omega, 24 * i + k, (by first | rfl | (simp only [n_lit, nI_add, pk_mul]; done) | (simp only [n_lit, nI_add, pk_mul]; exact congrArg nI (by omega))), by omega, ?_⟩⟩
    · have := (nI_leI (a := 24) (by omega) (by omega)).mp z
      omega
    intro M8 e8
    rw [h2 (m + 6) (by omega)] at e8
    rw [nI_1]
    refine cl_X11_lay_161 G d hM M0 hi hj hq n (k + 1) M8 (by omega) ?_ (fun c hc => ?_) ?_
    · rw [e8, mI_sI, up2_row, h1]
      exact updR_s _ _ _ (fun k => mI M0 (m + 6) (24 * j + k))
    · rw [e8, mI_sI, up2_off _ _ _ hc, h2 c hc]
    · rw [e8]
      exact h3
/-- the reference's part from the place on where all has been tested, of a number -/
theorem lay_num (G : Gl) (d : Nat) {X : Sh} {b m i : Nat} {x2 x3 : Int32} {M M8 : Mm} (hM : Sh10 X m) (hbm : b + 266 ≤ m) (hi : i < 5) (hs : Sim M b m) (h8 : M8 = sI (sI M (b + 245 + 4 * i) 0 x2) (b + 245 + 4 * i) 3 x3) (hx : x2 = 0 ∨ x2 = 3) {v : Int32} (hv : v = mI M (m + 7) i) : Wn G m_X11_lay (d + 1) 74 [(0, .ref m), (1, .int (nI i)), (2, .int x2), (3, .int x3)] [] X M8 (fun M2 r2 => v = r2 ∧ Sim M2 b m) := by
  have n1 : ¬ x2 = 1 := by
    rcases hx with q | q
    · rw [q]; decide
    · rw [q]; decide
  have n2 : ¬ x2 = 2 := by
    rcases hx with q | q
    · rw [q]; decide
    · rw [q]; decide
  have o8 : ∀ c, c ≠ b + 245 + 4 * i → mI M8 c = mI M c := fun c hc => by rw [h8, mI_sI, up2_off _ _ _ hc, mI_sI, up2_off _ _ _ hc]
  refine bX11_lay_74 hM ⟨i, rfl, hi, ?_⟩
  intro v4 e4 N5 f5
  refine ⟨fun _ => ?_, fun q => absurd q n1⟩
  intro N7 f7
  refine ⟨fun _ => ?_, fun q => absurd q n1⟩
  intro N9 f9
  refine ⟨fun _ => bX11_lay_198 ⟨?_, ?_⟩, fun q => absurd q n2⟩
  · rw [e4, o8 _ (by omega), hv]
  · have o : ∀ c, c ≠ b + 245 + 4 * i → c ≠ m + 7 → c ≠ m + 8 → c ≠ m + 9 → mI N9 c = mI M c := fun c c1 c2 c3 c4 => by rw [f9, mI_sI, up2_off _ _ _ c4, f7, mI_sI, up2_off _ _ _ c3, f5, mI_sI, up2_off _ _ _ c2, o8 c c1]
    have g7 : mI N9 (m + 7) = upd (mI M (m + 7)) i x2 := by rw [f9, mI_sI, up2_off _ _ _ (by omega), f7, mI_sI, up2_off _ _ _ (by omega), f5, mI_sI, up2_row, o8 _ (by omega)]
    have g8 : mI N9 (m + 8) = upd (mI M (m + 8)) i x3 := by rw [f9, mI_sI, up2_off _ _ _ (by omega), f7, mI_sI, up2_row, f5, mI_sI, up2_off _ _ _ (by omega), o8 _ (by omega)]
    have g9 : mI N9 (m + 9) = upd (mI M (m + 9)) i 0 := by rw [f9, mI_sI, up2_row, f7, mI_sI, up2_off _ _ _ (by omega), f5, mI_sI, up2_off _ _ _ (by omega), o8 _ (by omega)]
    have gb : mI N9 (b + 245 + 4 * i) = mI M8 (b + 245 + 4 * i) := by rw [f9, mI_sI, up2_off _ _ _ (by omega), f7, mI_sI, up2_off _ _ _ (by omega), f5, mI_sI, up2_off _ _ _ (by omega)]
    have rr : mR N9 = mR M := by rw [f9, f7, f5, h8]; rfl
    refine hs.slot hbm hi (fun c c1 c2 => o c (by omega) (by omega) (by omega) (by omega)) rr (fun j hj => ⟨by rw [g7, upd_ne hj], by rw [g8, upd_ne hj], by rw [g9, upd_ne hj], by rw [o (m + 10) (by omega) (by omega) (by omega) (by omega)]⟩) (fun j _ => by rw [o (m + 11) (by omega) (by omega) (by omega) (by omega)]) ?_
    unfold SlI
    rw [gb, g7, g8, h8, upd_eq, upd_eq]
    refine ⟨by rw [mI_sI, up2_k _ _ _ (by omega), mI_sI, up2_same], ?_, fun q => absurd q n1, fun _ => by rw [mI_sI, up2_same], fun q => absurd q n2⟩
    rcases hx with q | q
    · exact ⟨0, by omega, q⟩
    · exact ⟨3, by omega, q⟩
theorem case_lay (G : Gl) (d : Nat) (hd : 16 ≤ d) (X : Sh) (b m : Nat) (hS : Sh9 X b) (hM : Sh10 X m) (hbm : b + 266 ≤ m) (x1 x2 x3 : Int32) : Case G d X b m m_X10_lay m_X11_lay [.int x1, .int x2, .int x3] := by
  obtain ⟨d, rfl⟩ : ∃ d1, d = d1 + 1 := ⟨d - 1, by omega⟩
  intro M hs
  obtain ⟨⟨nb, nl, nx, nt, nd, la, hh⟩, hr⟩ := id hs
  obtain ⟨hW, hB, hF, hT, hD, hR⟩ := id hh
  obtain ⟨w0, w1, w2, w3, w4, w5, w6, w7, w8, w9, wb, wf, _⟩ := id hW
  have ref34 : ∀ (M2 : Mm) (Q : Mm → Int32 → Prop), (0 ≤ x1 ∧ x1 ≤ 4 → Wn G m_X11_lay (d + 1) 56 [(0, .ref m), (1, .int x1), (2, .int x2), (3, .int x3)] [] X M2 Q) → (¬ (0 ≤ x1 ∧ x1 ≤ 4) → Q M2 (-1000000001)) → Wn G m_X11_lay (d + 1) 34 [(0, .ref m), (1, .int x1), (2, .int x2), (3, .int x3)] [] X M2 Q := fun M2 Q h1 h2 => bX11_lay_34 hM (by omega) ⟨h2, fun q => ⟨fun _ => h1 q, fun z => absurd z (by decide)⟩⟩
  have ref38 : ∀ (M2 : Mm) (Q : Mm → Int32 → Prop), Q M2 (-1000000001) → Wn G m_X11_lay (d + 1) 38 [(0, .ref m), (1, .int x1), (2, .int x2), (3, .int x3)] [] X M2 Q := fun M2 Q h1 => bX11_lay_38 hM (by omega) ⟨fun _ => h1, fun _ => ⟨fun z => absurd rfl z, fun _ => h1⟩⟩
  by_cases h : 0 ≤ x1 ∧ x1 ≤ 4
  · by_cases h2 : 0 ≤ x2 ∧ x2 ≤ 3
    · obtain ⟨i, hi, rfl⟩ := ix_le (nb := 4) (by omega) h.1 h.2
      obtain ⟨s0, ⟨vv, hvv, s1⟩, s2, s3, s4⟩ := hr.2.2.2.2.1 i (by omega)
      by_cases e1 : x2 = 1
      · subst e1
        by_cases hb : 0 ≤ x3 ∧ x3 < nI nb
        · have hb' : 0 ≤ x3 ∧ x3 < mI M (b + 1 + 1) 5 := by rw [hB.1]; exact hb
          obtain ⟨k, hk, rfl⟩ := ix_of (by omega) hb.1 hb.2
          obtain ⟨b0, b1, _⟩ := hB.2.2.1 k hk
          obtain ⟨kk, sh, v, s, hkk, hsh, hv1, hv, hs9, e0, e1, e3, e4⟩ := wb k hk
          refine Cn.of (by decide) (Nat.le_of_ble_eq_true rfl) (bX10_lay_0 hS (by omega) ⟨fun q => absurd h q, fun _ => ⟨fun _ => ⟨fun q => absurd rfl q, fun _ => ⟨fun q => absurd hb' q, fun _ => bX10_lay_38 hS (by omega) ⟨fun _ => bX10_lay_53 hS ⟨fun _ => bX10_lay_75 hS ⟨i, rfl, by omega, ?_⟩, fun q => absurd q (by decide)⟩, fun q => absurd q (by decide)⟩⟩⟩, fun q => absurd h2 q⟩⟩)
          intro v4 f4 M5 f5
          refine ⟨fun q => absurd rfl q, fun _ => ⟨k, rfl, by omega, ?_⟩⟩
          intro M19 f19 M20 f20
          have o5 : ∀ c, c ≠ b + 245 + 4 * i → mI M5 c = mI M c := fun c hc => by rw [f5, mI_sI, up2_off _ _ _ hc]
          have o19 : ∀ c, c ≠ b + 245 + 4 * i → mI M19 c = mI M c := fun c hc => by rw [f19, mI_sI, up2_off _ _ _ hc, o5 c hc]
          have o20 : ∀ c, c ≠ b + 245 + 4 * i → mI M20 c = mI M c := fun c hc => by rw [f20, mI_sI, up2_off _ _ _ hc, o19 c hc]
          have r20 : mR M20 = mR M := by rw [f20, f19, f5]; rfl
          have hb'' : 0 ≤ nI k ∧ nI k ≤ mI M20 (m + 1) 0 - 1 := by rw [o20 _ (by omega), w0, has_iff (by omega)]; exact hb
          refine Cn.of (by decide) (Nat.le_of_ble_eq_true rfl) (bX11_lay_0 hM (by omega) ⟨fun q => absurd q (by decide), fun _ => ⟨fun q => absurd q (by decide), fun _ => ⟨fun q => absurd rfl q, fun _ => ⟨fun _ => ref34 _ _ (fun _ => bX11_lay_56 hM ⟨fun _ => bX11_lay_74 hM ⟨i, rfl, by omega, ?_⟩, fun q => absurd q (by decide)⟩) (fun q => absurd h q), fun q => absurd hb'' q⟩⟩⟩⟩)
          intro v5 g4 N5 g5
          refine ⟨fun q => absurd rfl q, fun _ => ⟨20 + 5 * k, (by first | rfl | (simp only [n_lit, nI_add, pk_mul]; done) | (simp only [n_lit, nI_add, pk_mul]; exact congrArg nI (by omega))), by omega, ?_⟩⟩
          intro N27 g27
          refine ⟨fun q => absurd rfl q, fun _ => ⟨21 + 5 * k, (by first | rfl | (simp only [n_lit, nI_add, pk_mul]; done) | (simp only [n_lit, nI_add, pk_mul]; exact congrArg nI (by omega))), by omega, ?_⟩⟩
          intro N38 g38
          refine ⟨fun _ => bX11_lay_198 ⟨?_, ?_⟩, fun q => absurd q (by decide)⟩
          · rw [f4, g4, o20 _ (by omega), s0]
          · have p5 : ∀ c, c ≠ m + 7 → mI N5 c = mI M20 c := fun c hc => by rw [g5, mI_sI, up2_off _ _ _ hc]
            have p27 : ∀ c, c ≠ m + 8 → mI N27 c = mI N5 c := fun c hc => by rw [g27, mI_sI, up2_off _ _ _ hc]
            have p38 : ∀ c, c ≠ m + 9 → mI N38 c = mI N27 c := fun c hc => by rw [g38, mI_sI, up2_off _ _ _ hc]
            have o : ∀ c, c ≠ b + 245 + 4 * i → c ≠ m + 7 → c ≠ m + 8 → c ≠ m + 9 → mI N38 c = mI M c := fun c c1 c2 c3 c4 => by rw [p38 c c4, p27 c c3, p5 c c2, o20 c c1]
            have q7 : mI N38 (m + 7) = upd (mI M (m + 7)) i 1 := by rw [p38 _ (by omega), p27 _ (by omega), g5, mI_sI, up2_row, o20 _ (by omega)]
            have q8 : mI N38 (m + 8) = upd (mI M (m + 8)) i (nI kk) := by rw [p38 _ (by omega), g27, mI_sI, up2_row, p5 _ (by omega), o20 _ (by omega), p5 (m + 1) (by omega), o20 (m + 1) (by omega), e0]
            have q9 : mI N38 (m + 9) = upd (mI M (m + 9)) i (nI sh) := by rw [g38, mI_sI, up2_row, p27 _ (by omega), p5 _ (by omega), o20 _ (by omega), p27 (m + 1) (by omega), p5 (m + 1) (by omega), o20 (m + 1) (by omega), e1]
            have qb : mI N38 (b + 245 + 4 * i) = mI M20 (b + 245 + 4 * i) := by rw [p38 _ (by omega), p27 _ (by omega), p5 _ (by omega)]
            refine hs.slot hbm (i := i) (by omega) (fun c c1 c2 => o c (by omega) (by omega) (by omega) (by omega)) (by rw [g38, g27, g5]; exact r20) (fun j hj => ⟨by rw [q7, upd_ne hj], by rw [q8, upd_ne hj], by rw [q9, upd_ne hj], by rw [o (m + 10) (by omega) (by omega) (by omega) (by omega)]⟩) (fun j _ => by rw [o (m + 11) (by omega) (by omega) (by omega) (by omega)]) ?_
            unfold SlI
            rw [qb, q7, q8, q9, upd_eq, upd_eq, upd_eq]
            refine ⟨?_, ⟨1, by omega, rfl⟩, fun _ => ⟨?_, ?_, kk, sh, hkk, hsh, rfl, rfl⟩, fun q => absurd q (by decide), fun q => absurd q (by decide)⟩
            · rw [f20, mI_sI, up2_k _ _ _ (by omega), f19, mI_sI, up2_k _ _ _ (by omega), f5, mI_sI, up2_same]
            · rw [f20, mI_sI, up2_k _ _ _ (by omega), f19, mI_sI, up2_same, o5 _ (by omega), b0, e0]
            · rw [f20, mI_sI, up2_same, o19 _ (by omega), b1, e1]
        · have hb' : ¬ (0 ≤ x3 ∧ x3 < mI M (b + 1 + 1) 5) := by rw [hB.1]; exact hb
          have hb'' : ¬ (0 ≤ x3 ∧ x3 ≤ mI M (m + 1) 0 - 1) := by rw [w0, has_iff (by omega)]; exact hb
          exact Cn.of (by decide) (Nat.le_of_ble_eq_true rfl) (bX10_lay_0 hS (by omega) ⟨fun q => absurd h q, fun _ => ⟨fun _ => ⟨fun q => absurd rfl q, fun _ => ⟨fun _ => Cn.of (by decide) (Nat.le_of_ble_eq_true rfl) (bX11_lay_0 hM (by omega) ⟨fun q => absurd q (by decide), fun _ => ⟨fun q => absurd q (by decide), fun _ => ⟨fun q => absurd rfl q, fun _ => ⟨fun q => absurd q hb'', fun _ => bX11_lay_22 hM (by omega) ⟨fun _ => ref38 _ _ ⟨rfl, hs⟩, fun q => absurd q (by decide)⟩⟩⟩⟩⟩), fun q => absurd q hb'⟩⟩, fun q => absurd h2 q⟩⟩)
      · by_cases e2 : x2 = 2
        · subst e2
          by_cases h3 : 0 ≤ x3 ∧ x3 ≤ 3
          · obtain ⟨j, hj, rfl⟩ := ix_le (nb := 3) (by omega) h3.1 h3.2
            obtain ⟨t0, t1, ⟨n, hn, n1, n2⟩, t3⟩ := hr.2.2.2.1 j (by omega)
            by_cases hm : mI M (m + 4) j = -1
            · have ng : ¬ 0 ≤ mI M (m + 4) j := by
                rw [hm]
                decide
              exact Cn.of (by decide) (Nat.le_of_ble_eq_true rfl) (bX10_lay_0 hS (by omega) ⟨fun q => absurd h q, fun _ => ⟨fun _ => ⟨fun _ => bX10_lay_38 hS (by omega) ⟨fun q => absurd rfl q, fun _ => ⟨fun _ => bX10_lay_53 hS ⟨fun q => absurd rfl q, fun _ => ⟨j, rfl, by omega, fun q => absurd (t0.trans hm) q, fun _ => Cn.of (by decide) (Nat.le_of_ble_eq_true rfl) (bX11_lay_0 hM (by omega) ⟨fun q => absurd q (by decide), fun _ => ⟨fun q => absurd q (by decide), fun _ => ⟨fun _ => bX11_lay_22 hM (by omega) ⟨fun q => absurd rfl q, fun _ => ⟨fun q => absurd h3 q, fun _ => ref34 _ _ (fun _ => bX11_lay_56 hM ⟨fun q => absurd rfl q, fun _ => ⟨j, rfl, by omega, fun q => absurd q ng, fun _ => ⟨rfl, hs⟩⟩⟩) (fun q => absurd h q)⟩⟩, fun q => absurd q (by decide)⟩⟩⟩)⟩⟩, fun q => absurd h3 q⟩⟩, fun q => absurd q (by decide)⟩, fun q => absurd h2 q⟩⟩)
            · have cj : ¬ mI M (b + 232 + 3 * j) 0 = -1 := fun q => hm (t0.symm.trans q)
              have pg : 0 ≤ mI M (m + 4) j := by
                rcases t1 with q | q | q
                · exact absurd q hm
                · rw [q]
                  decide
                · rw [q]
                  decide
              refine Cn.of (by decide) (Nat.le_of_ble_eq_true rfl) (bX10_lay_0 hS (by omega) ⟨fun q => absurd h q, fun _ => ⟨fun _ => ⟨fun _ => bX10_lay_38 hS (by omega) ⟨fun q => absurd rfl q, fun _ => ⟨fun _ => bX10_lay_53 hS ⟨fun q => absurd rfl q, fun _ => ⟨j, rfl, by omega, fun _ => bX10_lay_75 hS ⟨i, rfl, by omega, ?_⟩, fun q => absurd q cj⟩⟩, fun q => absurd h3 q⟩⟩, fun q => absurd q (by decide)⟩, fun q => absurd h2 q⟩⟩)
              intro v4 f4 M5 f5
              have o5 : ∀ c, c ≠ b + 245 + 4 * i → mI M5 c = mI M c := fun c hc => by rw [f5, mI_sI, up2_off _ _ _ hc]
              refine ⟨fun _ => ⟨fun q => absurd rfl q, fun _ => ⟨j, rfl, by omega, _, cp_X5_become G d (by omega) X M5 (b + 245 + 4 * i + 1) (b + 232 + 3 * j) (sh6_S_sheet (sh9_ES_slots hS i (by omega))) (sh9_ES_sheets hS j (by omega)) (by omega), ?_⟩⟩, fun q => absurd q (by decide)⟩
              rintro M14 ⟨c1, c2, c3, c4⟩
              rw [show b + 245 + 4 * i + 1 = b + 246 + 4 * i by omega] at c1 c2 c3
              have o14 : ∀ c, c < b + 245 + 4 * i ∨ b + 248 + 4 * i < c → mI M14 c = mI M c := fun c hc => by rw [c3 c (by omega) (by omega) (by omega), o5 c (by omega)]
              have r14 : mR M14 = mR M := by rw [c4, f5]; rfl
              refine Cn.of (by decide) (Nat.le_of_ble_eq_true rfl) (bX11_lay_0 hM (by omega) ⟨fun q => absurd q (by decide), fun _ => ⟨fun q => absurd q (by decide), fun _ => ⟨fun _ => bX11_lay_22 hM (by omega) ⟨fun q => absurd rfl q, fun _ => ⟨fun q => absurd h3 q, fun _ => ref34 _ _ (fun _ => bX11_lay_56 hM ⟨fun q => absurd rfl q, fun _ => ⟨j, rfl, by omega, fun _ => bX11_lay_74 hM ⟨i, rfl, by omega, ?_⟩, fun q => absurd (by rw [o14 _ (by omega)]; exact pg) q⟩⟩) (fun q => absurd h q)⟩⟩, fun q => absurd q (by decide)⟩⟩⟩)
              intro v5 g4 N5 g5
              refine ⟨fun _ => ?_, fun q => absurd q (by decide)⟩
              intro N7 g7
              refine ⟨fun _ => ?_, fun q => absurd q (by decide)⟩
              intro N9 g9
              refine ⟨fun q => absurd rfl q, fun _ => ⟨j, rfl, by omega, ?_⟩⟩
              intro N14 g14
              have p5 : ∀ c, c ≠ m + 7 → mI N5 c = mI M14 c := fun c hc => by rw [g5, mI_sI, up2_off _ _ _ hc]
              have p7 : ∀ c, c ≠ m + 8 → mI N7 c = mI N5 c := fun c hc => by rw [g7, mI_sI, up2_off _ _ _ hc]
              have p9 : ∀ c, c ≠ m + 9 → mI N9 c = mI N7 c := fun c hc => by rw [g9, mI_sI, up2_off _ _ _ hc]
              have p14 : ∀ c, c ≠ m + 10 → mI N14 c = mI N9 c := fun c hc => by rw [g14, mI_sI, up2_off _ _ _ hc]
              have y14 : ∀ c, c < m + 7 ∨ m + 10 < c → mI N14 c = mI M14 c := fun c hc => by rw [p14 c (by omega), p9 c (by omega), p7 c (by omega), p5 c (by omega)]
              refine cl_X11_lay_161 G d hM N14 (by omega) (by omega) (fun N20 k11 k3 k4 => ?_) 24 0 N14 (by omega) (updR_0 _ _ _).symm (fun _ _ => rfl) rfl
              rw [y14 (m + 11) (by omega), o14 (m + 11) (by omega), y14 (m + 6) (by omega), o14 (m + 6) (by omega)] at k11
              refine ⟨by rw [f4, g4, o14 _ (by omega), s0], ?_⟩
              have o : ∀ c, c < b + 245 + 4 * i ∨ b + 248 + 4 * i < c → c < m + 7 ∨ m + 11 < c → mI N20 c = mI M c := fun c z1 z2 => by rw [k3 c (by omega), y14 c (by omega), o14 c z1]
              have q7 : mI N20 (m + 7) = upd (mI M (m + 7)) i 2 := by rw [k3 _ (by omega), p14 _ (by omega), p9 _ (by omega), p7 _ (by omega), g5, mI_sI, up2_row, o14 _ (by omega)]
              have q8 : mI N20 (m + 8) = upd (mI M (m + 8)) i (nI j) := by rw [k3 _ (by omega), p14 _ (by omega), p9 _ (by omega), g7, mI_sI, up2_row, p5 _ (by omega), o14 _ (by omega)]
              have q9 : mI N20 (m + 9) = upd (mI M (m + 9)) i 0 := by rw [k3 _ (by omega), p14 _ (by omega), g9, mI_sI, up2_row, p7 _ (by omega), p5 _ (by omega), o14 _ (by omega)]
              have q10 : mI N20 (m + 10) = upd (mI M (m + 10)) i (nI n) := by rw [k3 _ (by omega), g14, mI_sI, up2_row, p9 _ (by omega), p7 _ (by omega), p5 _ (by omega), o14 _ (by omega), p9 (m + 5) (by omega), p7 (m + 5) (by omega), p5 (m + 5) (by omega), o14 (m + 5) (by omega), n2]
              have qb : ∀ c, c < m → mI N20 c = mI M14 c := fun c hc => by rw [k3 c (by omega), y14 c (by omega)]
              refine hs.slot hbm (i := i) (by omega) o (by rw [k4, g14, g9, g7, g5]; exact r14) (fun y hy => ⟨by rw [q7, upd_ne hy], by rw [q8, upd_ne hy], by rw [q9, upd_ne hy], by rw [q10, upd_ne hy]⟩) (fun y hy => by rw [k11, updR_out (by omega)]) ?_
              unfold SlI
              rw [qb _ (by omega), qb (b + 246 + 4 * i) (by omega), qb (b + 247 + 4 * i) (by omega), qb (b + 248 + 4 * i) (by omega), q7, q10, k11, upd_eq, upd_eq]
              refine ⟨by rw [c3 _ (by omega) (by omega) (by omega), f5, mI_sI, up2_same], ⟨2, by omega, rfl⟩, fun q => absurd q (by decide), fun q => absurd q (by decide), fun _ => ⟨⟨n, hn, by rw [c1, o5 _ (by omega), n1], rfl⟩, fun y hy => ?_⟩⟩
              have z := c2 y hy
              rw [o5 _ (by omega), o5 _ (by omega), show b + 246 + 4 * i + 1 = b + 247 + 4 * i by omega, show b + 246 + 4 * i + 2 = b + 248 + 4 * i by omega, show b + 232 + 3 * j + 1 = b + 233 + 3 * j by omega, show b + 232 + 3 * j + 2 = b + 234 + 3 * j by omega] at z
              rw [z.1, z.2, updR_in (by omega), show 24 * j + (24 * i + y - 24 * i) = 24 * j + y by omega]
              exact t3 y hy
          · exact Cn.of (by decide) (Nat.le_of_ble_eq_true rfl) (bX10_lay_0 hS (by omega) ⟨fun q => absurd h q, fun _ => ⟨fun _ => ⟨fun _ => bX10_lay_38 hS (by omega) ⟨fun q => absurd rfl q, fun _ => ⟨fun q => absurd q h3, fun _ => Cn.of (by decide) (Nat.le_of_ble_eq_true rfl) (bX11_lay_0 hM (by omega) ⟨fun q => absurd q (by decide), fun _ => ⟨fun q => absurd q (by decide), fun _ => ⟨fun _ => bX11_lay_22 hM (by omega) ⟨fun q => absurd rfl q, fun _ => ⟨fun _ => ref38 _ _ ⟨rfl, hs⟩, fun q => absurd q h3⟩⟩, fun q => absurd q (by decide)⟩⟩⟩)⟩⟩, fun q => absurd q (by decide)⟩, fun q => absurd h2 q⟩⟩)
        · have hx : x2 = 0 ∨ x2 = 3 := by
            obtain ⟨v, hv, rfl⟩ := ix_le (nb := 3) (by omega) h2.1 h2.2
            match v, hv with
            | 0, _ => exact Or.inl rfl
            | 1, _ => exact absurd rfl e1
            | 2, _ => exact absurd rfl e2
            | 3, _ => exact Or.inr rfl
          refine Cn.of (by decide) (Nat.le_of_ble_eq_true rfl) (bX10_lay_0 hS (by omega) ⟨fun q => absurd h q, fun _ => ⟨fun _ => ⟨fun _ => bX10_lay_38 hS (by omega) ⟨fun _ => bX10_lay_53 hS ⟨fun _ => bX10_lay_75 hS ⟨i, rfl, by omega, ?_⟩, fun q => absurd q e2⟩, fun q => absurd q e2⟩, fun q => absurd q e1⟩, fun q => absurd h2 q⟩⟩)
          intro v4 f4 M5 f5
          refine ⟨fun _ => ⟨fun _ => ?_, fun q => absurd q e2⟩, fun q => absurd q e1⟩
          intro M8 f8
          rw [f5] at f8
          have fin : Wn G m_X11_lay (d + 1) 34 [(0, .ref m), (1, .int (nI i)), (2, .int x2), (3, .int x3)] [] X M8 (fun M2 r2 => v4 = r2 ∧ Sim M2 b m) := ref34 _ _ (fun _ => bX11_lay_56 hM ⟨fun _ => lay_num G d hM hbm (by omega) hs f8 hx (f4.trans s0), fun q => absurd q e2⟩) (fun q => absurd h q)
          exact Cn.of (by decide) (Nat.le_of_ble_eq_true rfl) (bX11_lay_0 hM (by omega) ⟨fun _ => fin, fun z0 => ⟨fun _ => fin, fun z3 => by rcases hx with q | q; exact absurd q z0; exact absurd q z3⟩⟩)
    · have n0 : ¬ x2 = 0 := fun q => h2 (by rw [q]; decide)
      have n1 : ¬ x2 = 1 := fun q => h2 (by rw [q]; decide)
      have n2 : ¬ x2 = 2 := fun q => h2 (by rw [q]; decide)
      have n3 : ¬ x2 = 3 := fun q => h2 (by rw [q]; decide)
      exact Cn.of (by decide) (Nat.le_of_ble_eq_true rfl) (bX10_lay_0 hS (by omega) ⟨fun q => absurd h q, fun _ => ⟨fun q => absurd q h2, fun _ => Cn.of (by decide) (Nat.le_of_ble_eq_true rfl) (bX11_lay_0 hM (by omega) ⟨fun q => absurd q n0, fun _ => ⟨fun q => absurd q n3, fun _ => ⟨fun _ => bX11_lay_22 hM (by omega) ⟨fun _ => ref38 _ _ ⟨rfl, hs⟩, fun q => absurd q n2⟩, fun q => absurd q n1⟩⟩⟩)⟩⟩)
  · have r34 : Wn G m_X11_lay (d + 1) 34 [(0, .ref m), (1, .int x1), (2, .int x2), (3, .int x3)] [] X M (fun M2 r2 => -1000000001 = r2 ∧ Sim M2 b m) := ref34 _ _ (fun q => absurd q h) (fun _ => ⟨rfl, hs⟩)
    have r38 : Wn G m_X11_lay (d + 1) 38 [(0, .ref m), (1, .int x1), (2, .int x2), (3, .int x3)] [] X M (fun M2 r2 => -1000000001 = r2 ∧ Sim M2 b m) := ref38 _ _ ⟨rfl, hs⟩
    have r22 : Wn G m_X11_lay (d + 1) 22 [(0, .ref m), (1, .int x1), (2, .int x2), (3, .int x3)] [] X M (fun M2 r2 => -1000000001 = r2 ∧ Sim M2 b m) := bX11_lay_22 hM (by omega) ⟨fun _ => r38, fun _ => ⟨fun _ => r38, fun _ => r34⟩⟩
    exact Cn.of (by decide) (Nat.le_of_ble_eq_true rfl) (bX10_lay_0 hS (by omega) ⟨fun _ => Cn.of (by decide) (Nat.le_of_ble_eq_true rfl) (bX11_lay_0 hM (by omega) ⟨fun _ => r34, fun _ => ⟨fun _ => r34, fun _ => ⟨fun _ => r22, fun _ => ⟨fun _ => r34, fun _ => r22⟩⟩⟩⟩), fun q => absurd q h⟩)
