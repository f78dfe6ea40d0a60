/-! becoming another: layer, furnace, bins, texts, ladles, house -/
theorem bX4_become_0 {G : Gl} {d : Nat} {X : Sh} {M : Mm} {Q : Mm → Prop} {a : Nat} {b1 : Nat} (hS : Sh4 X a) (hS1 : Sh4 X b1) (h : (∀ M1 : Mm, M1 = sI M a 0 (mI M b1 0) → (∀ M2 : Mm, M2 = sI M1 a 1 (mI M1 b1 1) → (∀ M3 : Mm, M3 = sI M2 a 2 (mI M2 b1 2) → (∀ M4 : Mm, M4 = sI M3 a 3 (mI M3 b1 3) → (∀ M5 : Mm, M5 = sI M4 a 4 (mI M4 b1 4) → (∀ M6 : Mm, M6 = sI M5 a 5 (mI M5 b1 5) → (∀ M7 : Mm, M7 = sI M6 a 6 (mI M6 b1 6) → (∀ M8 : Mm, M8 = sI M7 a 7 (mI M7 b1 7) → (∀ M9 : Mm, M9 = sI M8 a 8 (mI M8 b1 8) → (∀ M10 : Mm, M10 = sC M9 (b1 + 1) 0 (a + 1) 0 5 → Q M10))))))))))) : Wv G m_X4_become (d + 1) 0 [(0, .ref a), (1, .ref b1)] [] X M Q := by
  refine wp_aload_n 0 dX4_become_0 rfl rfl ?_
  refine wp_aload_n 1 dX4_become_1 rfl rfl ?_
  refine wp_getI dX4_become_2 fl_RX4_15 rfl (sh4_K hS1) ?_
  refine wp_putI dX4_become_5 fp_RX4_15 rfl (sh4_K hS) ?_
  refine wp_nm (fun M1 eM1 => ?_)
  replace h := h M1 eM1
  refine wp_aload_n 0 dX4_become_8 rfl rfl ?_
  refine wp_aload_n 1 dX4_become_9 rfl rfl ?_
  refine wp_getI dX4_become_10 fl_RX4_19 rfl (sh4_K hS1) ?_
  refine wp_putI dX4_become_13 fp_RX4_19 rfl (sh4_K hS) ?_
  refine wp_nm (fun M2 eM2 => ?_)
  replace h := h M2 eM2
  refine wp_aload_n 0 dX4_become_16 rfl rfl ?_
  refine wp_aload_n 1 dX4_become_17 rfl rfl ?_
  refine wp_getI dX4_become_18 fl_RX4_22 rfl (sh4_K hS1) ?_
  refine wp_putI dX4_become_21 fp_RX4_22 rfl (sh4_K hS) ?_
  refine wp_nm (fun M3 eM3 => ?_)
  replace h := h M3 eM3
  refine wp_aload_n 0 dX4_become_24 rfl rfl ?_
  refine wp_aload_n 1 dX4_become_25 rfl rfl ?_
  refine wp_getI dX4_become_26 fl_RX4_25 rfl (sh4_K hS1) ?_
  refine wp_putI dX4_become_29 fp_RX4_25 rfl (sh4_K hS) ?_
  refine wp_nm (fun M4 eM4 => ?_)
  replace h := h M4 eM4
  refine wp_aload_n 0 dX4_become_32 rfl rfl ?_
  refine wp_aload_n 1 dX4_become_33 rfl rfl ?_
  refine wp_getI dX4_become_34 fl_RX4_28 rfl (sh4_K hS1) ?_
  refine wp_putI dX4_become_37 fp_RX4_28 rfl (sh4_K hS) ?_
  refine wp_nm (fun M5 eM5 => ?_)
  replace h := h M5 eM5
  refine wp_aload_n 0 dX4_become_40 rfl rfl ?_
  refine wp_aload_n 1 dX4_become_41 rfl rfl ?_
  refine wp_getI dX4_become_42 fl_RX4_31 rfl (sh4_K hS1) ?_
  refine wp_putI dX4_become_45 fp_RX4_31 rfl (sh4_K hS) ?_
  refine wp_nm (fun M6 eM6 => ?_)
  replace h := h M6 eM6
  refine wp_aload_n 0 dX4_become_48 rfl rfl ?_
  refine wp_aload_n 1 dX4_become_49 rfl rfl ?_
  refine wp_getI dX4_become_50 fl_RX4_34 rfl (sh4_K hS1) ?_
  refine wp_putI dX4_become_53 fp_RX4_34 rfl (sh4_K hS) ?_
  refine wp_nm (fun M7 eM7 => ?_)
  replace h := h M7 eM7
  refine wp_aload_n 0 dX4_become_56 rfl rfl ?_
  refine wp_aload_n 1 dX4_become_57 rfl rfl ?_
  refine wp_getI dX4_become_58 fl_RX4_37 rfl (sh4_K hS1) ?_
  refine wp_putI dX4_become_61 fp_RX4_37 rfl (sh4_K hS) ?_
  refine wp_nm (fun M8 eM8 => ?_)
  replace h := h M8 eM8
  refine wp_aload_n 0 dX4_become_64 rfl rfl ?_
  refine wp_aload_n 1 dX4_become_65 rfl rfl ?_
  refine wp_getI dX4_become_66 fl_RX4_40 rfl (sh4_K hS1) ?_
  refine wp_putI dX4_become_69 fp_RX4_40 rfl (sh4_K hS) ?_
  refine wp_nm (fun M9 eM9 => ?_)
  replace h := h M9 eM9
  refine wp_aload_n 1 dX4_become_72 rfl rfl ?_
  refine wp_getR dX4_become_73 fl_RX4_9 rfl (sh4_K hS1) (sh4_F_inRing hS1) ?_
  refine wp_iconst (v := 0) dX4_become_76 rfl ?_
  refine wp_aload_n 0 dX4_become_77 rfl rfl ?_
  refine wp_getR dX4_become_78 fl_RX4_9 rfl (sh4_K hS) (sh4_F_inRing hS) ?_
  refine wp_iconst (v := 0) dX4_become_81 rfl ?_
  refine wp_iconst (v := 5) dX4_become_82 rfl ?_
  refine wp_copy (n0 := 5) (n1 := 5) dX4_become_83 cc_RX4_43 (sh4_K_inRing hS1) (sh4_K_inRing hS) (sh4_N_inRing hS1) (sh4_N_inRing hS) (by decide) (by decide) rfl rfl rfl (by decide) (by decide) (Nat.le_of_ble_eq_true rfl) ?_
  refine wp_nm (fun M10 eM10 => ?_)
  replace h := h M10 eM10
  exact wv_ret dX4_become_86 rfl h
theorem bX1_become_0 {G : Gl} {d : Nat} {X : Sh} {M : Mm} {Q : Mm → Prop} {a : Nat} {b1 : Nat} (hS : Sh1 X a) (hS1 : Sh1 X b1) (h : (∀ M1 : Mm, M1 = sI M a 0 (mI M b1 0) → (∀ M2 : Mm, M2 = sI M1 a 1 (mI M1 b1 1) → (∀ M3 : Mm, M3 = sI M2 a 2 (mI M2 b1 2) → (∀ M4 : Mm, M4 = sI M3 a 3 (mI M3 b1 3) → (∀ M5 : Mm, M5 = sI M4 a 5 (mI M4 b1 5) → Wv G m_X1_become (d + 1) 42 [(0, .ref a), (1, .ref b1), (2, .int 0)] [] X M5 Q)))))) : Wv G m_X1_become (d + 1) 0 [(0, .ref a), (1, .ref b1)] [] X M Q := by
  refine wp_aload_n 0 dX1_become_0 rfl rfl ?_
  refine wp_aload_n 1 dX1_become_1 rfl rfl ?_
  refine wp_getI dX1_become_2 fl_RX1_9 rfl (sh1_K hS1) ?_
  refine wp_putI dX1_become_5 fp_RX1_9 rfl (sh1_K hS) ?_
  refine wp_nm (fun M1 eM1 => ?_)
  replace h := h M1 eM1
  refine wp_aload_n 0 dX1_become_8 rfl rfl ?_
  refine wp_aload_n 1 dX1_become_9 rfl rfl ?_
  refine wp_getI dX1_become_10 fl_RX1_15 rfl (sh1_K hS1) ?_
  refine wp_putI dX1_become_13 fp_RX1_15 rfl (sh1_K hS) ?_
  refine wp_nm (fun M2 eM2 => ?_)
  replace h := h M2 eM2
  refine wp_aload_n 0 dX1_become_16 rfl rfl ?_
  refine wp_aload_n 1 dX1_become_17 rfl rfl ?_
  refine wp_getI dX1_become_18 fl_RX1_18 rfl (sh1_K hS1) ?_
  refine wp_putI dX1_become_21 fp_RX1_18 rfl (sh1_K hS) ?_
  refine wp_nm (fun M3 eM3 => ?_)
  replace h := h M3 eM3
  refine wp_aload_n 0 dX1_become_24 rfl rfl ?_
  refine wp_aload_n 1 dX1_become_25 rfl rfl ?_
  refine wp_getI dX1_become_26 fl_RX1_21 rfl (sh1_K hS1) ?_
  refine wp_putI dX1_become_29 fp_RX1_21 rfl (sh1_K hS) ?_
  refine wp_nm (fun M4 eM4 => ?_)
  replace h := h M4 eM4
  refine wp_aload_n 0 dX1_become_32 rfl rfl ?_
  refine wp_aload_n 1 dX1_become_33 rfl rfl ?_
  refine wp_getI dX1_become_34 fl_RX1_31 rfl (sh1_K hS1) ?_
  refine wp_putI dX1_become_37 fp_RX1_31 rfl (sh1_K hS) ?_
  refine wp_nm (fun M5 eM5 => ?_)
  replace h := h M5 eM5
  refine wp_iconst (v := 0) dX1_become_40 rfl ?_
  refine wp_istore_n (lo2 := [(2, .int _), (0, .ref _), (1, .ref _)]) dX1_become_41 rfl (by decide) rfl ?_
  exact Wp.sub [1, 2, 0] rfl h
theorem bX1_become_42 {G : Gl} {d : Nat} {X : Sh} {M : Mm} {Q : Mm → Prop} {a : Nat} {b1 : Nat} {x2 : Int32} (hS : Sh1 X a) (hS1 : Sh1 X b1) (h : (((mI M a 5) ≤ x2 → (∀ M2 : Mm, M2 = sC M (b1 + 50) 0 (a + 50) 0 5 → Q M2)) ∧ (¬ ((mI M a 5) ≤ x2) → (∃ j3 : Nat, x2 = nI j3 ∧ j3 < 24 ∧ (∃ la6 : Nat, mR M (a + 1) j3 = some la6 ∧ Sh4 X la6 ∧ (∃ la9 : Nat, mR M (b1 + 1) j3 = some la9 ∧ Sh4 X la9 ∧ (∃ q12 : Mm → Prop, Cv G m_X4_become d [.ref la6, .ref la9] X M q12 ∧ ∀ M14, q12 M14 → Wv G m_X1_become (d + 1) 42 [(0, .ref a), (1, .ref b1), (2, .int (x2 + 1))] [] X M14 Q))))))) : Wv G m_X1_become (d + 1) 42 [(0, .ref a), (1, .ref b1), (2, .int x2)] [] X M Q := by
  refine wp_iload_n 2 dX1_become_42 rfl rfl ?_
  refine wp_aload_n 0 dX1_become_43 rfl rfl ?_
  refine wp_getI dX1_become_44 fl_RX1_31 rfl (sh1_K hS) ?_
  refine wp_icmp_ge (tgt := 71) dX1_become_47 (by decide) (fun c1 => ?_) (fun c1 => ?_)
  · replace h := h.1 c1
    refine wp_aload_n 1 dX1_become_71 rfl rfl ?_
    refine wp_getR dX1_become_72 fl_RX1_34 rfl (sh1_K hS1) (sh1_F_bulk hS1) ?_
    refine wp_iconst (v := 0) dX1_become_75 rfl ?_
    refine wp_aload_n 0 dX1_become_76 rfl rfl ?_
    refine wp_getR dX1_become_77 fl_RX1_34 rfl (sh1_K hS) (sh1_F_bulk hS) ?_
    refine wp_iconst (v := 0) dX1_become_80 rfl ?_
    refine wp_iconst (v := 5) dX1_become_81 rfl ?_
    refine wp_copy (n0 := 5) (n1 := 5) dX1_become_82 cc_RX1_52 (sh1_K_bulk hS1) (sh1_K_bulk hS) (sh1_N_bulk hS1) (sh1_N_bulk hS) (by decide) (by decide) rfl rfl rfl (by decide) (by decide) (Nat.le_of_ble_eq_true rfl) ?_
    refine wp_nm (fun M2 eM2 => ?_)
    replace h := h M2 eM2
    exact wv_ret dX1_become_85 rfl h
  · replace h := h.2 c1
    refine wp_aload_n 0 dX1_become_50 rfl rfl ?_
    refine wp_getR dX1_become_51 fl_RX1_26 rfl (sh1_K hS) (sh1_F_layers hS) ?_
    refine wp_iload_n 2 dX1_become_54 rfl rfl ?_
    obtain ⟨j3, o4, o5, h⟩ := h
    obtain ⟨la6, o7, o8, h⟩ := h
    refine wp_rald (n := 24) dX1_become_55 (sh1_K_layers hS) (sh1_N_layers hS) (by decide) o4 o5 o7 ?_
    refine wp_aload_n 1 dX1_become_56 rfl rfl ?_
    refine wp_getR dX1_become_57 fl_RX1_26 rfl (sh1_K hS1) (sh1_F_layers hS1) ?_
    refine wp_iload_n 2 dX1_become_60 rfl rfl ?_
    obtain ⟨la9, o10, o11, h⟩ := h
    refine wp_rald (n := 24) dX1_become_61 (sh1_K_layers hS1) (sh1_N_layers hS1) (by decide) o4 o5 o10 ?_
    obtain ⟨q12, o13, h⟩ := h
    refine wp_cvv dX1_become_62 ck_RX1_48 (sh4_K o8) (as := [.ref la9]) rfl rfl (Nat.le_of_ble_eq_true rfl) o13 (fun M14 o15 => ?_)
    replace h := h M14 o15
    refine wp_iinc (v := x2 + 1) (lo2 := [(2, .int _), (0, .ref _), (1, .ref _)]) dX1_become_65 (q := 2) rfl rfl (by decide) rfl ?_
    refine wp_goto (tgt := 42) dX1_become_68 (by decide) ?_
    exact Wp.sub [1, 2, 0] rfl h
theorem bX0_become_0 {G : Gl} {d : Nat} {X : Sh} {M : Mm} {Q : Mm → Prop} {a : Nat} {b1 : Nat} (hS : Sh0 X a) (hS1 : Sh0 X b1) (h : (∀ M1 : Mm, M1 = sC M (b1 + 1) 0 (a + 1) 0 6 → (∀ M2 : Mm, M2 = sC M1 (b1 + 2) 0 (a + 2) 0 6 → (∀ M3 : Mm, M3 = sC M2 (b1 + 3) 0 (a + 3) 0 6 → (∀ M4 : Mm, M4 = sC M3 (b1 + 4) 0 (a + 4) 0 6 → (∀ M5 : Mm, M5 = sC M4 (b1 + 5) 0 (a + 5) 0 6 → (∀ M6 : Mm, M6 = sI M5 a 5 (mI M5 b1 5) → (∀ M7 : Mm, M7 = sC M6 (b1 + 6) 0 (a + 6) 0 3 → (∀ M8 : Mm, M8 = sI M7 a 7 (mI M7 b1 7) → Q M8))))))))) : Wv G m_X0_become (d + 1) 0 [(0, .ref a), (1, .ref b1)] [] X M Q := by
  refine wp_aload_n 1 dX0_become_0 rfl rfl ?_
  refine wp_getR dX0_become_1 fl_RX0_9 rfl (sh0_K hS1) (sh0_F_kind hS1) ?_
  refine wp_iconst (v := 0) dX0_become_4 rfl ?_
  refine wp_aload_n 0 dX0_become_5 rfl rfl ?_
  refine wp_getR dX0_become_6 fl_RX0_9 rfl (sh0_K hS) (sh0_F_kind hS) ?_
  refine wp_iconst (v := 0) dX0_become_9 rfl ?_
  refine wp_bipush (v := 6) dX0_become_10 rfl ?_
  refine wp_copy (n0 := 6) (n1 := 6) dX0_become_12 cc_RX0_37 (sh0_K_kind hS1) (sh0_K_kind hS) (sh0_N_kind hS1) (sh0_N_kind hS) (by decide) (by decide) rfl rfl rfl (by decide) (by decide) (Nat.le_of_ble_eq_true rfl) ?_
  refine wp_nm (fun M1 eM1 => ?_)
  replace h := h M1 eM1
  refine wp_aload_n 1 dX0_become_15 rfl rfl ?_
  refine wp_getR dX0_become_16 fl_RX0_15 rfl (sh0_K hS1) (sh0_F_share hS1) ?_
  refine wp_iconst (v := 0) dX0_become_19 rfl ?_
  refine wp_aload_n 0 dX0_become_20 rfl rfl ?_
  refine wp_getR dX0_become_21 fl_RX0_15 rfl (sh0_K hS) (sh0_F_share hS) ?_
  refine wp_iconst (v := 0) dX0_become_24 rfl ?_
  refine wp_bipush (v := 6) dX0_become_25 rfl ?_
  refine wp_copy (n0 := 6) (n1 := 6) dX0_become_27 cc_RX0_37 (sh0_K_share hS1) (sh0_K_share hS) (sh0_N_share hS1) (sh0_N_share hS) (by decide) (by decide) rfl rfl rfl (by decide) (by decide) (Nat.le_of_ble_eq_true rfl) ?_
  refine wp_nm (fun M2 eM2 => ?_)
  replace h := h M2 eM2
  refine wp_aload_n 1 dX0_become_30 rfl rfl ?_
  refine wp_getR dX0_become_31 fl_RX0_18 rfl (sh0_K hS1) (sh0_F_price hS1) ?_
  refine wp_iconst (v := 0) dX0_become_34 rfl ?_
  refine wp_aload_n 0 dX0_become_35 rfl rfl ?_
  refine wp_getR dX0_become_36 fl_RX0_18 rfl (sh0_K hS) (sh0_F_price hS) ?_
  refine wp_iconst (v := 0) dX0_become_39 rfl ?_
  refine wp_bipush (v := 6) dX0_become_40 rfl ?_
  refine wp_copy (n0 := 6) (n1 := 6) dX0_become_42 cc_RX0_37 (sh0_K_price hS1) (sh0_K_price hS) (sh0_N_price hS1) (sh0_N_price hS) (by decide) (by decide) rfl rfl rfl (by decide) (by decide) (Nat.le_of_ble_eq_true rfl) ?_
  refine wp_nm (fun M3 eM3 => ?_)
  replace h := h M3 eM3
  refine wp_aload_n 1 dX0_become_45 rfl rfl ?_
  refine wp_getR dX0_become_46 fl_RX0_21 rfl (sh0_K hS1) (sh0_F_tons hS1) ?_
  refine wp_iconst (v := 0) dX0_become_49 rfl ?_
  refine wp_aload_n 0 dX0_become_50 rfl rfl ?_
  refine wp_getR dX0_become_51 fl_RX0_21 rfl (sh0_K hS) (sh0_F_tons hS) ?_
  refine wp_iconst (v := 0) dX0_become_54 rfl ?_
  refine wp_bipush (v := 6) dX0_become_55 rfl ?_
  refine wp_copy (n0 := 6) (n1 := 6) dX0_become_57 cc_RX0_37 (sh0_K_tons hS1) (sh0_K_tons hS) (sh0_N_tons hS1) (sh0_N_tons hS) (by decide) (by decide) rfl rfl rfl (by decide) (by decide) (Nat.le_of_ble_eq_true rfl) ?_
  refine wp_nm (fun M4 eM4 => ?_)
  replace h := h M4 eM4
  refine wp_aload_n 1 dX0_become_60 rfl rfl ?_
  refine wp_getR dX0_become_61 fl_RX0_24 rfl (sh0_K hS1) (sh0_F_turns hS1) ?_
  refine wp_iconst (v := 0) dX0_become_64 rfl ?_
  refine wp_aload_n 0 dX0_become_65 rfl rfl ?_
  refine wp_getR dX0_become_66 fl_RX0_24 rfl (sh0_K hS) (sh0_F_turns hS) ?_
  refine wp_iconst (v := 0) dX0_become_69 rfl ?_
  refine wp_bipush (v := 6) dX0_become_70 rfl ?_
  refine wp_copy (n0 := 6) (n1 := 6) dX0_become_72 cc_RX0_37 (sh0_K_turns hS1) (sh0_K_turns hS) (sh0_N_turns hS1) (sh0_N_turns hS) (by decide) (by decide) rfl rfl rfl (by decide) (by decide) (Nat.le_of_ble_eq_true rfl) ?_
  refine wp_nm (fun M5 eM5 => ?_)
  replace h := h M5 eM5
  refine wp_aload_n 0 dX0_become_75 rfl rfl ?_
  refine wp_aload_n 1 dX0_become_76 rfl rfl ?_
  refine wp_getI dX0_become_77 fl_RX0_27 rfl (sh0_K hS1) ?_
  refine wp_putI dX0_become_80 fp_RX0_27 rfl (sh0_K hS) ?_
  refine wp_nm (fun M6 eM6 => ?_)
  replace h := h M6 eM6
  refine wp_aload_n 1 dX0_become_83 rfl rfl ?_
  refine wp_getR dX0_become_84 fl_RX0_31 rfl (sh0_K hS1) (sh0_F_told hS1) ?_
  refine wp_iconst (v := 0) dX0_become_87 rfl ?_
  refine wp_aload_n 0 dX0_become_88 rfl rfl ?_
  refine wp_getR dX0_become_89 fl_RX0_31 rfl (sh0_K hS) (sh0_F_told hS) ?_
  refine wp_iconst (v := 0) dX0_become_92 rfl ?_
  refine wp_iconst (v := 3) dX0_become_93 rfl ?_
  refine wp_copy (n0 := 3) (n1 := 3) dX0_become_94 cc_RX0_37 (sh0_K_told hS1) (sh0_K_told hS) (sh0_N_told hS1) (sh0_N_told hS) (by decide) (by decide) rfl rfl rfl (by decide) (by decide) (Nat.le_of_ble_eq_true rfl) ?_
  refine wp_nm (fun M7 eM7 => ?_)
  replace h := h M7 eM7
  refine wp_aload_n 0 dX0_become_97 rfl rfl ?_
  refine wp_aload_n 1 dX0_become_98 rfl rfl ?_
  refine wp_getI dX0_become_99 fl_RX0_34 rfl (sh0_K hS1) ?_
  refine wp_putI dX0_become_102 fp_RX0_34 rfl (sh0_K hS) ?_
  refine wp_nm (fun M8 eM8 => ?_)
  replace h := h M8 eM8
  exact wv_ret dX0_become_105 rfl h
theorem bX9_become_0 {G : Gl} {d : Nat} {X : Sh} {M : Mm} {Q : Mm → Prop} {a : Nat} {b1 : Nat} (hS : Sh8 X a) (hS1 : Sh8 X b1) (h : (∀ M1 : Mm, M1 = sI M a 5 (mI M b1 5) → (∃ j2 : Nat, (mI M1 a 5) = nI j2 ∧ (0 + j2 ≤ 12 ∧ (0 + j2 ≤ 12 ∧ (∀ M6 : Mm, M6 = sC M1 (b1 + 1) 0 (a + 1) 0 j2 → (∃ j7 : Nat, (mI M6 a 5) = nI j7 ∧ (0 + j7 ≤ 12 ∧ (0 + j7 ≤ 12 ∧ (∀ M11 : Mm, M11 = sC M6 (b1 + 2) 0 (a + 2) 0 j7 → (∃ j12 : Nat, (mI M11 a 5) = nI j12 ∧ (0 + j12 ≤ 12 ∧ (0 + j12 ≤ 12 ∧ (∀ M16 : Mm, M16 = sC M11 (b1 + 3) 0 (a + 3) 0 j12 → (∃ j17 : Nat, (mI M16 a 5) = nI j17 ∧ (0 + j17 ≤ 12 ∧ (0 + j17 ≤ 12 ∧ (∀ M21 : Mm, M21 = sC M16 (b1 + 17) 0 (a + 17) 0 j17 → Wv G m_X9_become (d + 1) 78 [(0, .ref a), (1, .ref b1), (2, .int 0)] [] X M21 Q)))))))))))))))))) : Wv G m_X9_become (d + 1) 0 [(0, .ref a), (1, .ref b1)] [] X M Q := by
  refine wp_aload_n 0 dX9_become_0 rfl rfl ?_
  refine wp_aload_n 1 dX9_become_1 rfl rfl ?_
  refine wp_getI dX9_become_2 fl_RX9_29 rfl (sh8_K hS1) ?_
  refine wp_putI dX9_become_5 fp_RX9_29 rfl (sh8_K hS) ?_
  refine wp_nm (fun M1 eM1 => ?_)
  replace h := h M1 eM1
  refine wp_aload_n 1 dX9_become_8 rfl rfl ?_
  refine wp_getR dX9_become_9 fl_RX9_9 rfl (sh8_K hS1) (sh8_F_key hS1) ?_
  refine wp_iconst (v := 0) dX9_become_12 rfl ?_
  refine wp_aload_n 0 dX9_become_13 rfl rfl ?_
  refine wp_getR dX9_become_14 fl_RX9_9 rfl (sh8_K hS) (sh8_F_key hS) ?_
  refine wp_iconst (v := 0) dX9_become_17 rfl ?_
  refine wp_aload_n 0 dX9_become_18 rfl rfl ?_
  refine wp_getI dX9_become_19 fl_RX9_29 rfl (sh8_K hS) ?_
  obtain ⟨j2, o3, h⟩ := h
  obtain ⟨o4, h⟩ := h
  obtain ⟨o5, h⟩ := h
  refine wp_copy (n0 := 12) (n1 := 12) dX9_become_22 cc_RX9_39 (sh8_K_key hS1) (sh8_K_key hS) (sh8_N_key hS1) (sh8_N_key hS) (by decide) (by decide) rfl rfl o3 o4 o5 (Nat.le_of_ble_eq_true rfl) ?_
  refine wp_nm (fun M6 eM6 => ?_)
  replace h := h M6 eM6
  refine wp_aload_n 1 dX9_become_25 rfl rfl ?_
  refine wp_getR dX9_become_26 fl_RX9_15 rfl (sh8_K hS1) (sh8_F_bin hS1) ?_
  refine wp_iconst (v := 0) dX9_become_29 rfl ?_
  refine wp_aload_n 0 dX9_become_30 rfl rfl ?_
  refine wp_getR dX9_become_31 fl_RX9_15 rfl (sh8_K hS) (sh8_F_bin hS) ?_
  refine wp_iconst (v := 0) dX9_become_34 rfl ?_
  refine wp_aload_n 0 dX9_become_35 rfl rfl ?_
  refine wp_getI dX9_become_36 fl_RX9_29 rfl (sh8_K hS) ?_
  obtain ⟨j7, o8, h⟩ := h
  obtain ⟨o9, h⟩ := h
  obtain ⟨o10, h⟩ := h
  refine wp_copy (n0 := 12) (n1 := 12) dX9_become_39 cc_RX9_39 (sh8_K_bin hS1) (sh8_K_bin hS) (sh8_N_bin hS1) (sh8_N_bin hS) (by decide) (by decide) rfl rfl o8 o9 o10 (Nat.le_of_ble_eq_true rfl) ?_
  refine wp_nm (fun M11 eM11 => ?_)
  replace h := h M11 eM11
  refine wp_aload_n 1 dX9_become_42 rfl rfl ?_
  refine wp_getR dX9_become_43 fl_RX9_18 rfl (sh8_K hS1) (sh8_F_pieces hS1) ?_
  refine wp_iconst (v := 0) dX9_become_46 rfl ?_
  refine wp_aload_n 0 dX9_become_47 rfl rfl ?_
  refine wp_getR dX9_become_48 fl_RX9_18 rfl (sh8_K hS) (sh8_F_pieces hS) ?_
  refine wp_iconst (v := 0) dX9_become_51 rfl ?_
  refine wp_aload_n 0 dX9_become_52 rfl rfl ?_
  refine wp_getI dX9_become_53 fl_RX9_29 rfl (sh8_K hS) ?_
  obtain ⟨j12, o13, h⟩ := h
  obtain ⟨o14, h⟩ := h
  obtain ⟨o15, h⟩ := h
  refine wp_copy (n0 := 12) (n1 := 12) dX9_become_56 cc_RX9_39 (sh8_K_pieces hS1) (sh8_K_pieces hS) (sh8_N_pieces hS1) (sh8_N_pieces hS) (by decide) (by decide) rfl rfl o13 o14 o15 (Nat.le_of_ble_eq_true rfl) ?_
  refine wp_nm (fun M16 eM16 => ?_)
  replace h := h M16 eM16
  refine wp_aload_n 1 dX9_become_59 rfl rfl ?_
  refine wp_getR dX9_become_60 fl_RX9_26 rfl (sh8_K hS1) (sh8_F_codes hS1) ?_
  refine wp_iconst (v := 0) dX9_become_63 rfl ?_
  refine wp_aload_n 0 dX9_become_64 rfl rfl ?_
  refine wp_getR dX9_become_65 fl_RX9_26 rfl (sh8_K hS) (sh8_F_codes hS) ?_
  refine wp_iconst (v := 0) dX9_become_68 rfl ?_
  refine wp_aload_n 0 dX9_become_69 rfl rfl ?_
  refine wp_getI dX9_become_70 fl_RX9_29 rfl (sh8_K hS) ?_
  obtain ⟨j17, o18, h⟩ := h
  obtain ⟨o19, h⟩ := h
  obtain ⟨o20, h⟩ := h
  refine wp_copy (n0 := 12) (n1 := 12) dX9_become_73 cc_RX9_39 (sh8_K_codes hS1) (sh8_K_codes hS) (sh8_N_codes hS1) (sh8_N_codes hS) (by decide) (by decide) rfl rfl o18 o19 o20 (Nat.le_of_ble_eq_true rfl) ?_
  refine wp_nm (fun M21 eM21 => ?_)
  replace h := h M21 eM21
  refine wp_iconst (v := 0) dX9_become_76 rfl ?_
  refine wp_istore_n (lo2 := [(2, .int _), (0, .ref _), (1, .ref _)]) dX9_become_77 rfl (by decide) rfl ?_
  exact Wp.sub [1, 2, 0] rfl h
theorem bX9_become_78 {G : Gl} {d : Nat} {X : Sh} {M : Mm} {Q : Mm → Prop} {a : Nat} {b1 : Nat} {x2 : Int32} (hS : Sh8 X a) (hS1 : Sh8 X b1) (h : (((mI M a 5) ≤ x2 → Q M) ∧ (¬ ((mI M a 5) ≤ x2) → (∃ j2 : Nat, x2 = nI j2 ∧ j2 < 12 ∧ (∃ j5 : Nat, (mI M (a + 17) j2) = nI j5 ∧ (0 + j5 ≤ 96 ∧ (0 + j5 ≤ 96 ∧ (∀ M9 : Mm, M9 = sC M (b1 + 5 + j2) 0 (a + 5 + j2) 0 j5 → Wv G m_X9_become (d + 1) 78 [(0, .ref a), (1, .ref b1), (2, .int (x2 + 1))] [] X M9 Q)))))))) : Wv G m_X9_become (d + 1) 78 [(0, .ref a), (1, .ref b1), (2, .int x2)] [] X M Q := by
  refine wp_iload_n 2 dX9_become_78 rfl rfl ?_
  refine wp_aload_n 0 dX9_become_79 rfl rfl ?_
  refine wp_getI dX9_become_80 fl_RX9_29 rfl (sh8_K hS) ?_
  refine wp_icmp_ge (tgt := 115) dX9_become_83 (by decide) (fun c1 => ?_) (fun c1 => ?_)
  · replace h := h.1 c1
    exact wv_ret dX9_become_115 rfl h
  · replace h := h.2 c1
    refine wp_aload_n 1 dX9_become_86 rfl rfl ?_
    refine wp_getR dX9_become_87 fl_RX9_23 rfl (sh8_K hS1) (sh8_F_code hS1) ?_
    refine wp_iload_n 2 dX9_become_90 rfl rfl ?_
    obtain ⟨j2, o3, o4, h⟩ := h
    refine wp_fald (n := 12) dX9_become_91 (Or.inr <| Or.inr (sh8_K_code hS1)) (sh8_N_code hS1) (by decide) o3 o4 (sh8_E_code hS1 j2 o4) ?_
    refine wp_iconst (v := 0) dX9_become_92 rfl ?_
    refine wp_aload_n 0 dX9_become_93 rfl rfl ?_
    refine wp_getR dX9_become_94 fl_RX9_23 rfl (sh8_K hS) (sh8_F_code hS) ?_
    refine wp_iload_n 2 dX9_become_97 rfl rfl ?_
    refine wp_fald (n := 12) dX9_become_98 (Or.inr <| Or.inr (sh8_K_code hS)) (sh8_N_code hS) (by decide) o3 o4 (sh8_E_code hS j2 o4) ?_
    refine wp_iconst (v := 0) dX9_become_99 rfl ?_
    refine wp_aload_n 0 dX9_become_100 rfl rfl ?_
    refine wp_getR dX9_become_101 fl_RX9_26 rfl (sh8_K hS) (sh8_F_codes hS) ?_
    refine wp_iload_n 2 dX9_become_104 rfl rfl ?_
    refine wp_iald (n := 12) dX9_become_105 (sh8_K_codes hS) (sh8_N_codes hS) (by decide) o3 o4 ?_
    obtain ⟨j5, o6, h⟩ := h
    obtain ⟨o7, h⟩ := h
    obtain ⟨o8, h⟩ := h
    refine wp_copy (n0 := 96) (n1 := 96) dX9_become_106 cc_RX9_39 (sh8_EK_code hS1 j2 o4) (sh8_EK_code hS j2 o4) (sh8_EN_code hS1 j2 o4) (sh8_EN_code hS j2 o4) (by decide) (by decide) rfl rfl o6 o7 o8 (Nat.le_of_ble_eq_true rfl) ?_
    refine wp_nm (fun M9 eM9 => ?_)
    replace h := h M9 eM9
    refine wp_iinc (v := x2 + 1) (lo2 := [(2, .int _), (0, .ref _), (1, .ref _)]) dX9_become_109 (q := 2) rfl rfl (by decide) rfl ?_
    refine wp_goto (tgt := 78) dX9_become_112 (by decide) ?_
    exact Wp.sub [1, 2, 0] rfl h
theorem bX3_become_0 {G : Gl} {d : Nat} {X : Sh} {M : Mm} {Q : Mm → Prop} {a : Nat} {b1 : Nat} (hS : Sh3 X a) (hS1 : Sh3 X b1) (h : (∀ M1 : Mm, M1 = sC M (b1 + 1) 0 (a + 1) 0 6 → (∀ M2 : Mm, M2 = sC M1 (b1 + 2) 0 (a + 2) 0 6 → (∀ M3 : Mm, M3 = sI M2 a 2 (mI M2 b1 2) → Q M3)))) : Wv G m_X3_become (d + 1) 0 [(0, .ref a), (1, .ref b1)] [] X M Q := by
  refine wp_aload_n 1 dX3_become_0 rfl rfl ?_
  refine wp_getR dX3_become_1 fl_RX3_9 rfl (sh3_K hS1) (sh3_F_cap hS1) ?_
  refine wp_iconst (v := 0) dX3_become_4 rfl ?_
  refine wp_aload_n 0 dX3_become_5 rfl rfl ?_
  refine wp_getR dX3_become_6 fl_RX3_9 rfl (sh3_K hS) (sh3_F_cap hS) ?_
  refine wp_iconst (v := 0) dX3_become_9 rfl ?_
  refine wp_bipush (v := 6) dX3_become_10 rfl ?_
  refine wp_copy (n0 := 6) (n1 := 6) dX3_become_12 cc_RX3_25 (sh3_K_cap hS1) (sh3_K_cap hS) (sh3_N_cap hS1) (sh3_N_cap hS) (by decide) (by decide) rfl rfl rfl (by decide) (by decide) (Nat.le_of_ble_eq_true rfl) ?_
  refine wp_nm (fun M1 eM1 => ?_)
  replace h := h M1 eM1
  refine wp_aload_n 1 dX3_become_15 rfl rfl ?_
  refine wp_getR dX3_become_16 fl_RX3_15 rfl (sh3_K hS1) (sh3_F_ready hS1) ?_
  refine wp_iconst (v := 0) dX3_become_19 rfl ?_
  refine wp_aload_n 0 dX3_become_20 rfl rfl ?_
  refine wp_getR dX3_become_21 fl_RX3_15 rfl (sh3_K hS) (sh3_F_ready hS) ?_
  refine wp_iconst (v := 0) dX3_become_24 rfl ?_
  refine wp_bipush (v := 6) dX3_become_25 rfl ?_
  refine wp_copy (n0 := 6) (n1 := 6) dX3_become_27 cc_RX3_25 (sh3_K_ready hS1) (sh3_K_ready hS) (sh3_N_ready hS1) (sh3_N_ready hS) (by decide) (by decide) rfl rfl rfl (by decide) (by decide) (Nat.le_of_ble_eq_true rfl) ?_
  refine wp_nm (fun M2 eM2 => ?_)
  replace h := h M2 eM2
  refine wp_aload_n 0 dX3_become_30 rfl rfl ?_
  refine wp_aload_n 1 dX3_become_31 rfl rfl ?_
  refine wp_getI dX3_become_32 fl_RX3_18 rfl (sh3_K hS1) ?_
  refine wp_putI dX3_become_35 fp_RX3_18 rfl (sh3_K hS) ?_
  refine wp_nm (fun M3 eM3 => ?_)
  replace h := h M3 eM3
  exact wv_ret dX3_become_38 rfl h
theorem bX2_become_0 {G : Gl} {d : Nat} {X : Sh} {M : Mm} {Q : Mm → Prop} {a : Nat} {b1 : Nat} (hS : Sh2 X a) (hS1 : Sh2 X b1) (h : (∃ q1 : Mm → Prop, Cv G m_X0_become d [.ref (a + 1), .ref (b1 + 1)] X M q1 ∧ ∀ M3, q1 M3 → (∃ q5 : Mm → Prop, Cv G m_X1_become d [.ref (a + 8), .ref (b1 + 8)] X M3 q5 ∧ ∀ M7, q5 M7 → (∃ q9 : Mm → Prop, Cv G m_X9_become d [.ref (a + 62), .ref (b1 + 62)] X M7 q9 ∧ ∀ M11, q9 M11 → (∃ q13 : Mm → Prop, Cv G m_X3_become d [.ref (a + 82), .ref (b1 + 82)] X M11 q13 ∧ ∀ M15, q13 M15 → (∀ M17 : Mm, M17 = sC M15 (b1 + 85) 0 (a + 85) 0 3 → Q M17)))))) : Wv G m_X2_become (d + 1) 0 [(0, .ref a), (1, .ref b1)] [] X M Q := by
  refine wp_aload_n 0 dX2_become_0 rfl rfl ?_
  refine wp_getR dX2_become_1 fl_RX2_12 rfl (sh2_K hS) (sh2_F_bins hS) ?_
  refine wp_aload_n 1 dX2_become_4 rfl rfl ?_
  refine wp_getR dX2_become_5 fl_RX2_12 rfl (sh2_K hS1) (sh2_F_bins hS1) ?_
  obtain ⟨q1, o2, h⟩ := h
  refine wp_cvv dX2_become_8 ck_RX2_43 (sh0_K (sh2_S_bins hS)) (as := [.ref (b1 + 1)]) rfl rfl (Nat.le_of_ble_eq_true rfl) o2 (fun M3 o4 => ?_)
  replace h := h M3 o4
  refine wp_aload_n 0 dX2_become_11 rfl rfl ?_
  refine wp_getR dX2_become_12 fl_RX2_21 rfl (sh2_K hS) (sh2_F_furnace hS) ?_
  refine wp_aload_n 1 dX2_become_15 rfl rfl ?_
  refine wp_getR dX2_become_16 fl_RX2_21 rfl (sh2_K hS1) (sh2_F_furnace hS1) ?_
  obtain ⟨q5, o6, h⟩ := h
  refine wp_cvv dX2_become_19 ck_RX2_47 (sh1_K (sh2_S_furnace hS)) (as := [.ref (b1 + 8)]) rfl rfl (Nat.le_of_ble_eq_true rfl) o6 (fun M7 o8 => ?_)
  replace h := h M7 o8
  refine wp_aload_n 0 dX2_become_22 rfl rfl ?_
  refine wp_getR dX2_become_23 fl_RX2_28 rfl (sh2_K hS) (sh2_F_texts hS) ?_
  refine wp_aload_n 1 dX2_become_26 rfl rfl ?_
  refine wp_getR dX2_become_27 fl_RX2_28 rfl (sh2_K hS1) (sh2_F_texts hS1) ?_
  obtain ⟨q9, o10, h⟩ := h
  refine wp_cvv dX2_become_30 ck_RX2_50 (sh8_K (sh2_S_texts hS)) (as := [.ref (b1 + 62)]) rfl rfl (Nat.le_of_ble_eq_true rfl) o10 (fun M11 o12 => ?_)
  replace h := h M11 o12
  refine wp_aload_n 0 dX2_become_33 rfl rfl ?_
  refine wp_getR dX2_become_34 fl_RX2_35 rfl (sh2_K hS) (sh2_F_ladles hS) ?_
  refine wp_aload_n 1 dX2_become_37 rfl rfl ?_
  refine wp_getR dX2_become_38 fl_RX2_35 rfl (sh2_K hS1) (sh2_F_ladles hS1) ?_
  obtain ⟨q13, o14, h⟩ := h
  refine wp_cvv dX2_become_41 ck_RX2_53 (sh3_K (sh2_S_ladles hS)) (as := [.ref (b1 + 82)]) rfl rfl (Nat.le_of_ble_eq_true rfl) o14 (fun M15 o16 => ?_)
  replace h := h M15 o16
  refine wp_aload_n 1 dX2_become_44 rfl rfl ?_
  refine wp_getR dX2_become_45 fl_RX2_39 rfl (sh2_K hS1) (sh2_F_rules hS1) ?_
  refine wp_iconst (v := 0) dX2_become_48 rfl ?_
  refine wp_aload_n 0 dX2_become_49 rfl rfl ?_
  refine wp_getR dX2_become_50 fl_RX2_39 rfl (sh2_K hS) (sh2_F_rules hS) ?_
  refine wp_iconst (v := 0) dX2_become_53 rfl ?_
  refine wp_aload_n 0 dX2_become_54 rfl rfl ?_
  refine wp_getR dX2_become_55 fl_RX2_39 rfl (sh2_K hS) (sh2_F_rules hS) ?_
  refine wp_alen (n := 3) (v := 3) dX2_become_58 (sh2_K_rules hS) (sh2_N_rules hS) rfl ?_
  refine wp_copy (n0 := 3) (n1 := 3) dX2_become_59 cc_RX2_56 (sh2_K_rules hS1) (sh2_K_rules hS) (sh2_N_rules hS1) (sh2_N_rules hS) (by decide) (by decide) rfl rfl rfl (by decide) (by decide) (Nat.le_of_ble_eq_true rfl) ?_
  refine wp_nm (fun M17 eM17 => ?_)
  replace h := h M17 eM17
  exact wv_ret dX2_become_62 rfl h
theorem cpy0 {f g : Nat → Int32} {n j : Nat} (h : j < n) : va_cpy f g 0 0 n j = f j := by
  unfold va_cpy
  rw [if_pos ⟨Nat.zero_le _, by omega⟩]
  exact congrArg f (by omega)
def L4Q (M : Mm) (a b1 : Nat) (M2 : Mm) : Prop := (∀ k, k < 9 → mI M2 a k = mI M b1 k) ∧ (∀ r, r < 5 → mI M2 (a + 1) r = mI M (b1 + 1) r) ∧ (∀ c, c ≠ a → c ≠ a + 1 → mI M2 c = mI M c) ∧ mR M2 = mR M
theorem cp_X4_become (G : Gl) (d : Nat) (hd : 1 ≤ d) (X : Sh) (M : Mm) (a b1 : Nat) (hS : Sh4 X a) (hS1 : Sh4 X b1) (hab : b1 ≠ a ∧ b1 + 1 ≠ a ∧ b1 ≠ a + 1) : Cv G m_X4_become d [.ref a, .ref b1] X M (L4Q M a b1) := by
  obtain ⟨d, rfl⟩ : ∃ d1, d = d1 + 1 := ⟨d - 1, by omega⟩
  refine Cv.of (by decide) (Nat.le_of_ble_eq_true rfl) (bX4_become_0 hS hS1 ?_)
  intro M1 e1 M2 e2 M3 e3 M4 e4 M5 e5 M6 e6 M7 e7 M8 e8 M9 e9 M10 e10
  have o1 : ∀ c, c ≠ a → mI M1 c = mI M c := fun c hc => by rw [e1, mI_sI, up2_off _ _ _ hc]
  have r1 : mR M1 = mR M := by rw [e1]; rfl
  have o2 : ∀ c, c ≠ a → mI M2 c = mI M1 c := fun c hc => by rw [e2, mI_sI, up2_off _ _ _ hc]
  have r2 : mR M2 = mR M1 := by rw [e2]; rfl
  have o3 : ∀ c, c ≠ a → mI M3 c = mI M2 c := fun c hc => by rw [e3, mI_sI, up2_off _ _ _ hc]
  have r3 : mR M3 = mR M2 := by rw [e3]; rfl
  have o4 : ∀ c, c ≠ a → mI M4 c = mI M3 c := fun c hc => by rw [e4, mI_sI, up2_off _ _ _ hc]
  have r4 : mR M4 = mR M3 := by rw [e4]; rfl
  have o5 : ∀ c, c ≠ a → mI M5 c = mI M4 c := fun c hc => by rw [e5, mI_sI, up2_off _ _ _ hc]
  have r5 : mR M5 = mR M4 := by rw [e5]; rfl
  have o6 : ∀ c, c ≠ a → mI M6 c = mI M5 c := fun c hc => by rw [e6, mI_sI, up2_off _ _ _ hc]
  have r6 : mR M6 = mR M5 := by rw [e6]; rfl
  have o7 : ∀ c, c ≠ a → mI M7 c = mI M6 c := fun c hc => by rw [e7, mI_sI, up2_off _ _ _ hc]
  have r7 : mR M7 = mR M6 := by rw [e7]; rfl
  have o8 : ∀ c, c ≠ a → mI M8 c = mI M7 c := fun c hc => by rw [e8, mI_sI, up2_off _ _ _ hc]
  have r8 : mR M8 = mR M7 := by rw [e8]; rfl
  have o9 : ∀ c, c ≠ a → mI M9 c = mI M8 c := fun c hc => by rw [e9, mI_sI, up2_off _ _ _ hc]
  have r9 : mR M9 = mR M8 := by rw [e9]; rfl
  have o10 : ∀ c, c ≠ a + 1 → mI M10 c = mI M9 c := fun c hc => by rw [e10, sC_off _ _ _ _ _ _ hc]
  have r10 : mR M10 = mR M9 := by rw [e10]; rfl
  have u0 : ∀ c, c ≠ a → mI M c = mI M c := fun c hc => rfl
  have u1 : ∀ c, c ≠ a → mI M1 c = mI M c := fun c hc => (o1 c hc).trans (u0 c hc)
  have u2 : ∀ c, c ≠ a → mI M2 c = mI M c := fun c hc => (o2 c hc).trans (u1 c hc)
  have u3 : ∀ c, c ≠ a → mI M3 c = mI M c := fun c hc => (o3 c hc).trans (u2 c hc)
  have u4 : ∀ c, c ≠ a → mI M4 c = mI M c := fun c hc => (o4 c hc).trans (u3 c hc)
  have u5 : ∀ c, c ≠ a → mI M5 c = mI M c := fun c hc => (o5 c hc).trans (u4 c hc)
  have u6 : ∀ c, c ≠ a → mI M6 c = mI M c := fun c hc => (o6 c hc).trans (u5 c hc)
  have u7 : ∀ c, c ≠ a → mI M7 c = mI M c := fun c hc => (o7 c hc).trans (u6 c hc)
  have u8 : ∀ c, c ≠ a → mI M8 c = mI M c := fun c hc => (o8 c hc).trans (u7 c hc)
  have u9 : ∀ c, c ≠ a → mI M9 c = mI M c := fun c hc => (o9 c hc).trans (u8 c hc)
  have a1 : mI M1 a = upd (mI M a) 0 (mI M b1 0) := by rw [e1, mI_sI, up2_row, u0 b1 hab.1]
  have a2 : mI M2 a = upd (mI M1 a) 1 (mI M b1 1) := by rw [e2, mI_sI, up2_row, u1 b1 hab.1]
  have a3 : mI M3 a = upd (mI M2 a) 2 (mI M b1 2) := by rw [e3, mI_sI, up2_row, u2 b1 hab.1]
  have a4 : mI M4 a = upd (mI M3 a) 3 (mI M b1 3) := by rw [e4, mI_sI, up2_row, u3 b1 hab.1]
  have a5 : mI M5 a = upd (mI M4 a) 4 (mI M b1 4) := by rw [e5, mI_sI, up2_row, u4 b1 hab.1]
  have a6 : mI M6 a = upd (mI M5 a) 5 (mI M b1 5) := by rw [e6, mI_sI, up2_row, u5 b1 hab.1]
  have a7 : mI M7 a = upd (mI M6 a) 6 (mI M b1 6) := by rw [e7, mI_sI, up2_row, u6 b1 hab.1]
  have a8 : mI M8 a = upd (mI M7 a) 7 (mI M b1 7) := by rw [e8, mI_sI, up2_row, u7 b1 hab.1]
  have a9 : mI M9 a = upd (mI M8 a) 8 (mI M b1 8) := by rw [e9, mI_sI, up2_row, u8 b1 hab.1]
  refine ⟨fun k hk => ?_, fun r hr => ?_, fun c h1 h2 => ?_, ?_⟩
  · rw [o10 a (by omega)]
    match k, hk with
    | 0, _ => rw [a9, upd_ne (by omega), a8, upd_ne (by omega), a7, upd_ne (by omega), a6, upd_ne (by omega), a5, upd_ne (by omega), a4, upd_ne (by omega), a3, upd_ne (by omega), a2, upd_ne (by omega), a1, upd_eq]
    | 1, _ => rw [a9, upd_ne (by omega), a8, upd_ne (by omega), a7, upd_ne (by omega), a6, upd_ne (by omega), a5, upd_ne (by omega), a4, upd_ne (by omega), a3, upd_ne (by omega), a2, upd_eq]
    | 2, _ => rw [a9, upd_ne (by omega), a8, upd_ne (by omega), a7, upd_ne (by omega), a6, upd_ne (by omega), a5, upd_ne (by omega), a4, upd_ne (by omega), a3, upd_eq]
    | 3, _ => rw [a9, upd_ne (by omega), a8, upd_ne (by omega), a7, upd_ne (by omega), a6, upd_ne (by omega), a5, upd_ne (by omega), a4, upd_eq]
    | 4, _ => rw [a9, upd_ne (by omega), a8, upd_ne (by omega), a7, upd_ne (by omega), a6, upd_ne (by omega), a5, upd_eq]
    | 5, _ => rw [a9, upd_ne (by omega), a8, upd_ne (by omega), a7, upd_ne (by omega), a6, upd_eq]
    | 6, _ => rw [a9, upd_ne (by omega), a8, upd_ne (by omega), a7, upd_eq]
    | 7, _ => rw [a9, upd_ne (by omega), a8, upd_eq]
    | 8, _ => rw [a9, upd_eq]
  · rw [e10, sC_row, cpy0 hr, u9 _ hab.2.1]
  · rw [o10 c h2, u9 c h1]
  · rw [r10, r9, r8, r7, r6, r5, r4, r3, r2, r1]
theorem LD.copy {M M2 : Mm} {a b1 l : Nat} {σ : Nat → Int32} (h : LD M b1 σ l) (e : ∀ k, k < 9 → mI M2 a k = mI M b1 k) (e5 : ∀ r, r < 5 → mI M2 (a + 1) r = mI M (b1 + 1) r) : LD M2 a σ l := by
  obtain ⟨h0, h1, h2, h3, h4, h5, h6, h7, h8, h9⟩ := h
  exact ⟨(e 0 (by omega)).trans h0, (e 1 (by omega)).trans h1, (e 2 (by omega)).trans h2, (e 3 (by omega)).trans h3, (e 4 (by omega)).trans h4, (e 5 (by omega)).trans h5, (e 6 (by omega)).trans h6, (e 7 (by omega)).trans h7, (e 8 (by omega)).trans h8, fun r q => (e5 r q).trans (h9 r q)⟩
theorem LD.stay {M M2 : Mm} {a l : Nat} {σ : Nat → Int32} (h : LD M a σ l) (e : mI M2 a = mI M a) (e1 : mI M2 (a + 1) = mI M (a + 1)) : LD M2 a σ l := by
  unfold LD
  rw [e, e1]
  exact h
/-- only the furnace at f has changed, and its layers lie as they lay -/
def OffB (f : Nat) (M M2 : Mm) : Prop := (∀ c, c < f ∨ f + 50 < c → mI M2 c = mI M c) ∧ mR M2 = mR M
theorem cl_X1_become (G : Gl) (d : Nat) (hd : 1 ≤ d) {X : Sh} {f f2 nl : Nat} {la la2 : Nat → Nat} {σ : Nat → Int32} {Q : Mm → Prop} (hS : Sh1 X f) (hS2 : Sh1 X f2) (hff : f + 54 ≤ f2 ∨ f2 + 54 ≤ f) (hnl : nl ≤ 24) (M0 : Mm) (hF : FR M0 f2 σ nl la2) (hP : LPm M0 f la) (hq : ∀ M2, FR M2 f σ nl la → OffB f M0 M2 → Q M2) :
    ∀ (n i : Nat) (M : Mm), i + n = nl → OffB f M0 M → (mI M f 0 = σ 5 ∧ mI M f 1 = σ 9 ∧ mI M f 2 = σ 10 ∧ mI M f 3 = σ 11 ∧ mI M f 5 = nI nl) → (∀ l, l < i → LD M (la l) σ l) → Wv G m_X1_become (d + 1) 42 [(0, .ref f), (1, .ref f2), (2, .int (nI i))] [] X M Q
  | 0, i, M, h, hO, hA, hL => by
    obtain ⟨a0, a1, a2, a3, a5⟩ := hA
    have hi : i = nl := h
    subst hi
    refine bX1_become_42 hS hS2 ⟨fun _ => ?_, fun q => absurd (by rw [a5]; exact Int32.le_refl _) q⟩
    intro M2 e2
    have o2 : ∀ c, c ≠ f + 50 → mI M2 c = mI M c := fun c hc => by rw [e2, sC_off _ _ _ _ _ _ hc]
    have r2 : mR M2 = mR M := by rw [e2]; rfl
    refine hq M2 ⟨hP.mR (r2.trans hO.2), ⟨by rw [o2 f (by omega)]; exact a0, by rw [o2 f (by omega)]; exact a1, by rw [o2 f (by omega)]; exact a2, by rw [o2 f (by omega)]; exact a3, by rw [o2 f (by omega)]; exact a5, fun r hr => ?_⟩, fun l hl => ?_⟩ ⟨fun c hc => ?_, r2.trans hO.2⟩
    · rw [e2, sC_row, cpy0 hr, hO.1 _ (by omega)]
      exact hF.2.1.2.2.2.2.2 r hr
    · have al := hP.at (l := l) (by omega)
      exact (hL l hl).stay (o2 _ (by omega)) (o2 _ (by omega))
    · rw [o2 c (by omega), hO.1 c hc]
  | n + 1, i, M, h, hO, hA, hL => by
    obtain ⟨a0, a1, a2, a3, a5⟩ := hA
    have al := hP.at (l := i) (by omega)
    have bl := hF.1.at (l := i) (by omega)
    refine bX1_become_42 hS hS2 ⟨fun q => ?_, fun _ => ⟨i, rfl, by omega, la i, by rw [hO.2]; exact hP.1 i (by omega), hP.sh hS (by omega), la2 i, by rw [hO.2]; exact hF.1.1 i (by omega), hF.1.sh hS2 (by omega), _, cp_X4_become G d hd X M (la i) (la2 i) (hP.sh hS (by omega)) (hF.1.sh hS2 (by omega)) ⟨by omega, by omega, by omega⟩, ?_⟩⟩
    · rw [a5] at q
      have := (nI_leI (by omega) (by omega)).mp q
      omega
    · rintro M14 ⟨g1, g2, g3, g4⟩
      have gf : mI M14 f = mI M f := g3 f (by omega) (by omega)
      rw [nI_1]
      refine cl_X1_become G d hd hS hS2 hff hnl M0 hF hP hq n (i + 1) M14 (by omega) ⟨fun c hc => ?_, g4.trans hO.2⟩ ⟨by rw [gf]; exact a0, by rw [gf]; exact a1, by rw [gf]; exact a2, by rw [gf]; exact a3, by rw [gf]; exact a5⟩ (fun l hl => ?_)
      · rw [g3 c (by omega) (by omega), hO.1 c hc]
      · by_cases e : l = i
        · subst e
          exact ((hF.2.2 l (by omega)).stay (hO.1 _ (by omega)) (hO.1 _ (by omega))).copy g1 g2
        · have ne := hP.ne (l := l) (j := i) (by omega) (by omega) e
          exact (hL l (by omega)).stay (g3 _ (by omega) (by omega)) (g3 _ (by omega) (by omega))
theorem cp_X1_become (G : Gl) (d : Nat) (hd : 2 ≤ d) (X : Sh) (M : Mm) (f f2 nl : Nat) (σ : Nat → Int32) (la la2 : Nat → Nat) (hS : Sh1 X f) (hS2 : Sh1 X f2) (hff : f + 54 ≤ f2 ∨ f2 + 54 ≤ f) (hnl : nl ≤ 24) (hF : FR M f2 σ nl la2) (hP : LPm M f la) : Cv G m_X1_become d [.ref f, .ref f2] X M (fun M2 => FR M2 f σ nl la ∧ OffB f M M2) := by
  obtain ⟨d, rfl⟩ : ∃ d1, d = d1 + 1 := ⟨d - 1, by omega⟩
  obtain ⟨d0, d1, d2, d3, d5, d6⟩ := hF.2.1
  refine Cv.of (by decide) (Nat.le_of_ble_eq_true rfl) (bX1_become_0 hS hS2 ?_)
  intro M1 e1 M2 e2 M3 e3 M4 e4 M5 e5
  have o1 : ∀ c, c ≠ f → mI M1 c = mI M c := fun c hc => by rw [e1, mI_sI, up2_off _ _ _ hc]
  have r1 : mR M1 = mR M := by rw [e1]; rfl
  have o2 : ∀ c, c ≠ f → mI M2 c = mI M1 c := fun c hc => by rw [e2, mI_sI, up2_off _ _ _ hc]
  have r2 : mR M2 = mR M1 := by rw [e2]; rfl
  have o3 : ∀ c, c ≠ f → mI M3 c = mI M2 c := fun c hc => by rw [e3, mI_sI, up2_off _ _ _ hc]
  have r3 : mR M3 = mR M2 := by rw [e3]; rfl
  have o4 : ∀ c, c ≠ f → mI M4 c = mI M3 c := fun c hc => by rw [e4, mI_sI, up2_off _ _ _ hc]
  have r4 : mR M4 = mR M3 := by rw [e4]; rfl
  have o5 : ∀ c, c ≠ f → mI M5 c = mI M4 c := fun c hc => by rw [e5, mI_sI, up2_off _ _ _ hc]
  have r5 : mR M5 = mR M4 := by rw [e5]; rfl
  have u0 : ∀ c, c ≠ f → mI M c = mI M c := fun c hc => rfl
  have u1 : ∀ c, c ≠ f → mI M1 c = mI M c := fun c hc => (o1 c hc).trans (u0 c hc)
  have u2 : ∀ c, c ≠ f → mI M2 c = mI M c := fun c hc => (o2 c hc).trans (u1 c hc)
  have u3 : ∀ c, c ≠ f → mI M3 c = mI M c := fun c hc => (o3 c hc).trans (u2 c hc)
  have u4 : ∀ c, c ≠ f → mI M4 c = mI M c := fun c hc => (o4 c hc).trans (u3 c hc)
  have u5 : ∀ c, c ≠ f → mI M5 c = mI M c := fun c hc => (o5 c hc).trans (u4 c hc)
  have a1 : mI M1 f = upd (mI M f) 0 (mI M f2 0) := by rw [e1, mI_sI, up2_row, u0 f2 (by omega)]
  have a2 : mI M2 f = upd (mI M1 f) 1 (mI M f2 1) := by rw [e2, mI_sI, up2_row, u1 f2 (by omega)]
  have a3 : mI M3 f = upd (mI M2 f) 2 (mI M f2 2) := by rw [e3, mI_sI, up2_row, u2 f2 (by omega)]
  have a4 : mI M4 f = upd (mI M3 f) 3 (mI M f2 3) := by rw [e4, mI_sI, up2_row, u3 f2 (by omega)]
  have a5 : mI M5 f = upd (mI M4 f) 5 (mI M f2 5) := by rw [e5, mI_sI, up2_row, u4 f2 (by omega)]
  refine cl_X1_become G d (by omega) hS hS2 hff hnl M hF hP (fun M2 h1 h2 => ⟨h1, h2⟩) nl 0 M5 (by omega) ⟨fun c hc => u5 c (by omega), by rw [r5, r4, r3, r2, r1]⟩ ⟨by rw [a5, upd_ne (by omega), a4, upd_ne (by omega), a3, upd_ne (by omega), a2, upd_ne (by omega), a1, upd_eq, d0], by rw [a5, upd_ne (by omega), a4, upd_ne (by omega), a3, upd_ne (by omega), a2, upd_eq, d1], by rw [a5, upd_ne (by omega), a4, upd_ne (by omega), a3, upd_eq, d2], by rw [a5, upd_ne (by omega), a4, upd_eq, d3], by rw [a5, upd_eq, d5]⟩ (fun l hl => absurd hl (by omega))
theorem cp_X0_become (G : Gl) (d : Nat) (hd : 1 ≤ d) (X : Sh) (M : Mm) (a a2 nb : Nat) (σ : Nat → Int32) (hS : Sh0 X a) (hS2 : Sh0 X a2) (haa : a + 7 ≤ a2 ∨ a2 + 7 ≤ a) (hnb : nb ≤ 6) (hB : BRep M a2 σ nb) : Cv G m_X0_become d [.ref a, .ref a2] X M (fun M2 => BRep M2 a σ nb ∧ (∀ c, c < a ∨ a + 6 < c → mI M2 c = mI M c) ∧ mR M2 = mR M) := by
  obtain ⟨d, rfl⟩ : ∃ d1, d = d1 + 1 := ⟨d - 1, by omega⟩
  refine Cv.of (by decide) (Nat.le_of_ble_eq_true rfl) (bX0_become_0 hS hS2 ?_)
  intro M1 e1 M2 e2 M3 e3 M4 e4 M5 e5 M6 e6 M7 e7 M8 e8
  have o1 : ∀ c, c ≠ a + 1 → mI M1 c = mI M c := fun c hc => by rw [e1, sC_off _ _ _ _ _ _ hc]
  have r1 : mR M1 = mR M := by rw [e1]; rfl
  have o2 : ∀ c, c ≠ a + 2 → mI M2 c = mI M1 c := fun c hc => by rw [e2, sC_off _ _ _ _ _ _ hc]
  have r2 : mR M2 = mR M1 := by rw [e2]; rfl
  have o3 : ∀ c, c ≠ a + 3 → mI M3 c = mI M2 c := fun c hc => by rw [e3, sC_off _ _ _ _ _ _ hc]
  have r3 : mR M3 = mR M2 := by rw [e3]; rfl
  have o4 : ∀ c, c ≠ a + 4 → mI M4 c = mI M3 c := fun c hc => by rw [e4, sC_off _ _ _ _ _ _ hc]
  have r4 : mR M4 = mR M3 := by rw [e4]; rfl
  have o5 : ∀ c, c ≠ a + 5 → mI M5 c = mI M4 c := fun c hc => by rw [e5, sC_off _ _ _ _ _ _ hc]
  have r5 : mR M5 = mR M4 := by rw [e5]; rfl
  have o6 : ∀ c, c ≠ a → mI M6 c = mI M5 c := fun c hc => by rw [e6, mI_sI, up2_off _ _ _ hc]
  have r6 : mR M6 = mR M5 := by rw [e6]; rfl
  have o7 : ∀ c, c ≠ a + 6 → mI M7 c = mI M6 c := fun c hc => by rw [e7, sC_off _ _ _ _ _ _ hc]
  have r7 : mR M7 = mR M6 := by rw [e7]; rfl
  have o8 : ∀ c, c ≠ a → mI M8 c = mI M7 c := fun c hc => by rw [e8, mI_sI, up2_off _ _ _ hc]
  have r8 : mR M8 = mR M7 := by rw [e8]; rfl
  have u0 : ∀ c, c < a ∨ a + 6 < c → mI M c = mI M c := fun c hc => rfl
  have u1 : ∀ c, c < a ∨ a + 6 < c → mI M1 c = mI M c := fun c hc => (o1 c (by omega)).trans (u0 c hc)
  have u2 : ∀ c, c < a ∨ a + 6 < c → mI M2 c = mI M c := fun c hc => (o2 c (by omega)).trans (u1 c hc)
  have u3 : ∀ c, c < a ∨ a + 6 < c → mI M3 c = mI M c := fun c hc => (o3 c (by omega)).trans (u2 c hc)
  have u4 : ∀ c, c < a ∨ a + 6 < c → mI M4 c = mI M c := fun c hc => (o4 c (by omega)).trans (u3 c hc)
  have u5 : ∀ c, c < a ∨ a + 6 < c → mI M5 c = mI M c := fun c hc => (o5 c (by omega)).trans (u4 c hc)
  have u6 : ∀ c, c < a ∨ a + 6 < c → mI M6 c = mI M c := fun c hc => (o6 c (by omega)).trans (u5 c hc)
  have u7 : ∀ c, c < a ∨ a + 6 < c → mI M7 c = mI M c := fun c hc => (o7 c (by omega)).trans (u6 c hc)
  have u8 : ∀ c, c < a ∨ a + 6 < c → mI M8 c = mI M c := fun c hc => (o8 c (by omega)).trans (u7 c hc)
  have q1 : ∀ i, i < 6 → mI M8 (a + 1) i = mI M (a2 + 1) i := fun i hi => by rw [o8 _ (by omega), o7 _ (by omega), o6 _ (by omega), o5 _ (by omega), o4 _ (by omega), o3 _ (by omega), o2 _ (by omega), e1, sC_row, cpy0 hi, u0 _ (by omega)]
  have q2 : ∀ i, i < 6 → mI M8 (a + 2) i = mI M (a2 + 2) i := fun i hi => by rw [o8 _ (by omega), o7 _ (by omega), o6 _ (by omega), o5 _ (by omega), o4 _ (by omega), o3 _ (by omega), e2, sC_row, cpy0 hi, u1 _ (by omega)]
  have q3 : ∀ i, i < 6 → mI M8 (a + 3) i = mI M (a2 + 3) i := fun i hi => by rw [o8 _ (by omega), o7 _ (by omega), o6 _ (by omega), o5 _ (by omega), o4 _ (by omega), e3, sC_row, cpy0 hi, u2 _ (by omega)]
  have q4 : ∀ i, i < 6 → mI M8 (a + 4) i = mI M (a2 + 4) i := fun i hi => by rw [o8 _ (by omega), o7 _ (by omega), o6 _ (by omega), o5 _ (by omega), e4, sC_row, cpy0 hi, u3 _ (by omega)]
  have q5 : ∀ i, i < 6 → mI M8 (a + 5) i = mI M (a2 + 5) i := fun i hi => by rw [o8 _ (by omega), o7 _ (by omega), o6 _ (by omega), e5, sC_row, cpy0 hi, u4 _ (by omega)]
  refine ⟨⟨?_, ?_, fun i hi => ?_, fun k hk => ?_⟩, u8, by rw [r8, r7, r6, r5, r4, r3, r2, r1]⟩
  · rw [e8, mI_sI, up2_k _ _ _ (by omega), o7 _ (by omega), e6, mI_sI, up2_same, u5 _ (by omega)]
    exact hB.1
  · rw [e8, mI_sI, up2_same, u7 _ (by omega)]
    exact hB.2.1
  · rw [q1 i (by omega), q2 i (by omega), q3 i (by omega), q4 i (by omega), q5 i (by omega)]
    exact hB.2.2.1 i hi
  · rw [o8 _ (by omega), e7, sC_row, cpy0 hk, u6 _ (by omega)]
    exact hB.2.2.2 k hk
theorem cp_X3_become (G : Gl) (d : Nat) (hd : 1 ≤ d) (X : Sh) (M : Mm) (a a2 nd : Nat) (σ : Nat → Int32) (hS : Sh3 X a) (hS2 : Sh3 X a2) (haa : a + 3 ≤ a2 ∨ a2 + 3 ≤ a) (hnd : nd ≤ 6) (hD : DRep M a2 σ nd) : Cv G m_X3_become d [.ref a, .ref a2] X M (fun M2 => DRep M2 a σ nd ∧ (∀ c, c < a ∨ a + 2 < c → mI M2 c = mI M c) ∧ mR M2 = mR M) := by
  obtain ⟨d, rfl⟩ : ∃ d1, d = d1 + 1 := ⟨d - 1, by omega⟩
  refine Cv.of (by decide) (Nat.le_of_ble_eq_true rfl) (bX3_become_0 hS hS2 ?_)
  intro M1 e1 M2 e2 M3 e3
  have o1 : ∀ c, c ≠ a + 1 → mI M1 c = mI M c := fun c hc => by rw [e1, sC_off _ _ _ _ _ _ hc]
  have r1 : mR M1 = mR M := by rw [e1]; rfl
  have o2 : ∀ c, c ≠ a + 2 → mI M2 c = mI M1 c := fun c hc => by rw [e2, sC_off _ _ _ _ _ _ hc]
  have r2 : mR M2 = mR M1 := by rw [e2]; rfl
  have o3 : ∀ c, c ≠ a → mI M3 c = mI M2 c := fun c hc => by rw [e3, mI_sI, up2_off _ _ _ hc]
  have r3 : mR M3 = mR M2 := by rw [e3]; rfl
  have u0 : ∀ c, c < a ∨ a + 2 < c → mI M c = mI M c := fun c hc => rfl
  have u1 : ∀ c, c < a ∨ a + 2 < c → mI M1 c = mI M c := fun c hc => (o1 c (by omega)).trans (u0 c hc)
  have u2 : ∀ c, c < a ∨ a + 2 < c → mI M2 c = mI M c := fun c hc => (o2 c (by omega)).trans (u1 c hc)
  have u3 : ∀ c, c < a ∨ a + 2 < c → mI M3 c = mI M c := fun c hc => (o3 c (by omega)).trans (u2 c hc)
  refine ⟨⟨?_, fun i hi => ?_⟩, u3, by rw [r3, r2, r1]⟩
  · rw [e3, mI_sI, up2_same, u2 _ (by omega)]
    exact hD.1
  · have q1 : mI M3 (a + 1) i = mI M (a2 + 1) i := by rw [o3 _ (by omega), o2 _ (by omega), e1, sC_row, cpy0 (by omega)]
    have q2 : mI M3 (a + 2) i = mI M (a2 + 2) i := by rw [o3 _ (by omega), e2, sC_row, cpy0 (by omega), u1 _ (by omega)]
    rw [q1, q2]
    exact hD.2 i hi
theorem TXt.copy {M M0 : Mm} {a a2 t : Nat} {σ : Nat → Int32} (h : TXt M0 a2 σ t) (e1 : mI M (a + 1) t = mI M0 (a2 + 1) t) (e2 : mI M (a + 2) t = mI M0 (a2 + 2) t) (e3 : mI M (a + 3) t = mI M0 (a2 + 3) t) (e17 : mI M (a + 17) t = mI M0 (a2 + 17) t) (ec : ∀ k, nI k < σ (342 + 200 * t) → k < 96 → mI M (a + 5 + t) k = mI M0 (a2 + 5 + t) k) : TXt M a σ t := by
  obtain ⟨⟨v, v1, v2, v3, v4⟩, h1, h2, h3, h4⟩ := h
  exact ⟨⟨v, v1, v2, by rw [e1, v3], by rw [e2, v4]⟩, by rw [e3, h1], by rw [e17, h2], h3, fun k p q => by rw [ec k p q]; exact h4 k p q⟩
theorem cl_X9_become (G : Gl) (d : Nat) {X : Sh} {a a2 nx : Nat} {σ : Nat → Int32} {Q : Mm → Prop} (hS : Sh8 X a) (hS2 : Sh8 X a2) (haa : a + 20 ≤ a2 ∨ a2 + 20 ≤ a) (hnx : nx ≤ 12) (M0 : Mm) (hT : TRep M0 a2 σ nx) (hq : ∀ M2, TRep M2 a σ nx → (∀ c, c < a ∨ a + 17 < c → mI M2 c = mI M0 c) → mR M2 = mR M0 → Q M2) :
    ∀ (n i : Nat) (M : Mm), i + n = nx → (∀ c, c < a ∨ a + 17 < c → mI M c = mI M0 c) → mR M = mR M0 → mI M a 5 = nI nx → (∀ t, t < nx → mI M (a + 1) t = mI M0 (a2 + 1) t ∧ mI M (a + 2) t = mI M0 (a2 + 2) t ∧ mI M (a + 3) t = mI M0 (a2 + 3) t ∧ mI M (a + 17) t = mI M0 (a2 + 17) t) → (∀ t, t < i → ∀ k, nI k < σ (342 + 200 * t) → k < 96 → mI M (a + 5 + t) k = mI M0 (a2 + 5 + t) k) → Wv G m_X9_become (d + 1) 78 [(0, .ref a), (1, .ref a2), (2, .int (nI i))] [] X M Q
  | 0, i, M, h, hO, hR, h5, hA, hC => by
    have hi : i = nx := h
    subst hi
    refine bX9_become_78 hS hS2 ⟨fun _ => ?_, fun q => absurd (by rw [h5]; exact Int32.le_refl _) q⟩
    refine hq M ⟨h5, fun t ht => ?_⟩ hO hR
    obtain ⟨p1, p2, p3, p4⟩ := hA t ht
    exact (hT.2 t ht).copy p1 p2 p3 p4 (hC t ht)
  | n + 1, i, M, h, hO, hR, h5, hA, hC => by
    obtain ⟨p1, p2, p3, p4⟩ := hA i (by omega)
    obtain ⟨_, _, t3, ⟨c, c1, c2, c3, _⟩, _⟩ := hT.2 i (by omega)
    refine bX9_become_78 hS hS2 ⟨fun q => ?_, fun _ => ⟨i, rfl, by omega, c, by rw [p4, t3, c1], by omega, by omega, ?_⟩⟩
    · rw [h5] at q
      have := (nI_leI (by omega) (by omega)).mp q
      omega
    · intro M9 e9
      have o9 : ∀ b, b ≠ a + 5 + i → mI M9 b = mI M b := fun b hb => by rw [e9, sC_off _ _ _ _ _ _ hb]
      rw [nI_1]
      refine cl_X9_become G d hS hS2 haa hnx M0 hT hq n (i + 1) M9 (by omega) (fun b hb => ?_) ?_ ?_ (fun t ht => ?_) (fun t ht k hk hk2 => ?_)
      · rw [o9 b (by omega), hO b hb]
      · rw [e9]
        exact hR
      · rw [o9 _ (by omega), h5]
      · rw [o9 _ (by omega), o9 _ (by omega), o9 _ (by omega), o9 _ (by omega)]
        exact hA t ht
      · by_cases e : t = i
        · subst e
          rw [c1] at hk
          have := (nI_ltI (by omega) (by omega)).mp hk
          rw [e9, sC_row, cpy0 this, hO _ (by omega)]
        · rw [o9 _ (by omega)]
          exact hC t (by omega) k hk hk2
theorem cp_X9_become (G : Gl) (d : Nat) (hd : 1 ≤ d) (X : Sh) (M : Mm) (a a2 nx : Nat) (σ : Nat → Int32) (hS : Sh8 X a) (hS2 : Sh8 X a2) (haa : a + 20 ≤ a2 ∨ a2 + 20 ≤ a) (hnx : nx ≤ 12) (hT : TRep M a2 σ nx) : Cv G m_X9_become d [.ref a, .ref a2] X M (fun M2 => TRep M2 a σ nx ∧ (∀ c, c < a ∨ a + 17 < c → mI M2 c = mI M c) ∧ mR M2 = mR M) := by
  obtain ⟨d, rfl⟩ : ∃ d1, d = d1 + 1 := ⟨d - 1, by omega⟩
  refine Cv.of (by decide) (Nat.le_of_ble_eq_true rfl) (bX9_become_0 hS hS2 ?_)
  intro M1 e1
  have o1 : ∀ c, c ≠ a → mI M1 c = mI M c := fun c hc => by rw [e1, mI_sI, up2_off _ _ _ hc]
  have r1 : mR M1 = mR M := by rw [e1]; rfl
  have f1 : mI M1 a 5 = nI nx := by rw [e1, mI_sI, up2_same, hT.1]
  refine ⟨nx, f1, by omega, by omega, ?_⟩
  intro M2 e2
  have o2 : ∀ c, c ≠ a + 1 → mI M2 c = mI M1 c := fun c hc => by rw [e2, sC_off _ _ _ _ _ _ hc]
  have r2 : mR M2 = mR M1 := by rw [e2]; rfl
  refine ⟨nx, by rw [o2 _ (by omega), f1], by omega, by omega, ?_⟩
  intro M3 e3
  have o3 : ∀ c, c ≠ a + 2 → mI M3 c = mI M2 c := fun c hc => by rw [e3, sC_off _ _ _ _ _ _ hc]
  have r3 : mR M3 = mR M2 := by rw [e3]; rfl
  refine ⟨nx, by rw [o3 _ (by omega), o2 _ (by omega), f1], by omega, by omega, ?_⟩
  intro M4 e4
  have o4 : ∀ c, c ≠ a + 3 → mI M4 c = mI M3 c := fun c hc => by rw [e4, sC_off _ _ _ _ _ _ hc]
  have r4 : mR M4 = mR M3 := by rw [e4]; rfl
  refine ⟨nx, by rw [o4 _ (by omega), o3 _ (by omega), o2 _ (by omega), f1], by omega, by omega, ?_⟩
  intro M5 e5
  have o5 : ∀ c, c ≠ a + 17 → mI M5 c = mI M4 c := fun c hc => by rw [e5, sC_off _ _ _ _ _ _ hc]
  have r5 : mR M5 = mR M4 := by rw [e5]; rfl
  have u : ∀ c, c < a ∨ a + 17 < c → mI M5 c = mI M c := fun c hc => by rw [o5 _ (by omega), o4 _ (by omega), o3 _ (by omega), o2 _ (by omega), o1 _ (by omega)]
  refine cl_X9_become G d hS hS2 haa hnx M hT (fun M2 h1 h2 h3 => ⟨h1, h2, h3⟩) nx 0 M5 (by omega) u (by rw [r5, r4, r3, r2, r1]) (by rw [o5 _ (by omega), o4 _ (by omega), o3 _ (by omega), o2 _ (by omega), f1]) (fun t ht => ⟨?_, ?_, ?_, ?_⟩) (fun t ht => absurd ht (by omega))
  · rw [o5 _ (by omega), o4 _ (by omega), o3 _ (by omega), e2, sC_row, cpy0 ht, o1 _ (by omega)]
  · rw [o5 _ (by omega), o4 _ (by omega), e3, sC_row, cpy0 ht, o2 _ (by omega), o1 _ (by omega)]
  · rw [o5 _ (by omega), e4, sC_row, cpy0 ht, o3 _ (by omega), o2 _ (by omega), o1 _ (by omega)]
  · rw [e5, sC_row, cpy0 ht, o4 _ (by omega), o3 _ (by omega), o2 _ (by omega), o1 _ (by omega)]
/-- a house becomes another -/
theorem cp_X2_become (G : Gl) (d : Nat) (hd : 3 ≤ d) (X : Sh) (M : Mm) (h h2 nb nl nx nt nd : Nat) (σ : Nat → Int32) (la la2 : Nat → Nat) (hS : Sh2 X h) (hS2 : Sh2 X h2) (hhh : h + 86 ≤ h2 ∨ h2 + 86 ≤ h) (hs : HSx M h2 σ nb nl nx nt nd la2) (hP : LPm M (h + 8) la) : Cv G m_X2_become d [.ref h, .ref h2] X M (fun M2 => HSx M2 h σ nb nl nx nt nd la ∧ (∀ c, c < h + 1 ∨ h + 85 < c → mI M2 c = mI M c) ∧ mR M2 = mR M) := by
  obtain ⟨d, rfl⟩ : ∃ d1, d = d1 + 1 := ⟨d - 1, by omega⟩
  obtain ⟨hW, hB, hF, hT, hD, hR⟩ := hs
  obtain ⟨w0, w1, w2, w3, w4, w5, w6, w7, w8, w9, _⟩ := id hW
  refine Cv.of (by decide) (Nat.le_of_ble_eq_true rfl) (bX2_become_0 hS hS2 ⟨_, cp_X0_become G d (by omega) X M (h + 1) (h2 + 1) nb σ (sh2_S_bins hS) (sh2_S_bins hS2) (by omega) w1 hB, ?_⟩)
  rintro M3 ⟨b3, o3, r3⟩
  refine ⟨_, cp_X1_become G d (by omega) X M3 (h + 8) (h2 + 8) nl σ la la2 (sh2_S_furnace hS) (sh2_S_furnace hS2) (by omega) w3 (hF.mem w3 (fun c h4 h5 => o3 c (by omega)) (by rw [r3])) (hP.mR r3), ?_⟩
  rintro M7 ⟨f7, o7, r7⟩
  refine ⟨_, cp_X9_become G d (by omega) X M7 (h + 62) (h2 + 62) nx σ (sh2_S_texts hS) (sh2_S_texts hS2) (by omega) w5 (hT.mem w5 (fun c h4 h5 => by rw [o7 c (by omega), o3 c (by omega)])), ?_⟩
  rintro M11 ⟨t11, o11, r11⟩
  refine ⟨_, cp_X3_become G d (by omega) X M11 (h + 82) (h2 + 82) nd σ (sh2_S_ladles hS) (sh2_S_ladles hS2) (by omega) w9 (hD.mem (fun c h4 h5 => by rw [o11 c (by omega), o7 c (by omega), o3 c (by omega)])), ?_⟩
  rintro M15 ⟨d15, o15, r15⟩
  intro M17 e17
  have o17 : ∀ c, c ≠ h + 85 → mI M17 c = mI M15 c := fun c hc => by rw [e17, sC_off _ _ _ _ _ _ hc]
  have r17 : mR M17 = mR M15 := by rw [e17]; rfl
  refine ⟨⟨hW, b3.mem (fun c h4 h5 => ?_), f7.mem w3 (fun c h4 h5 => ?_) ?_, t11.mem w5 (fun c h4 h5 => ?_), d15.mem (fun c h4 h5 => o17 c (by omega)), fun k hk => ?_⟩, fun c hc => ?_, ?_⟩
  · rw [o17 c (by omega), o15 c (by omega), o11 c (by omega), o7 c (by omega)]
  · rw [o17 c (by omega), o15 c (by omega), o11 c (by omega)]
  · rw [r17, r15, r11]
  · rw [o17 c (by omega), o15 c (by omega)]
  · rw [e17, sC_row, cpy0 hk, o15 _ (by omega), o11 _ (by omega), o7 _ (by omega), o3 _ (by omega)]
    exact hR k hk
  · rw [o17 c (by omega), o15 c (by omega), o11 c (by omega), o7 c (by omega), o3 c (by omega)]
  · rw [r17, r15, r11, r7, r3]
