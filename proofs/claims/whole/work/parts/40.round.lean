/-! calls: round -/
theorem bX2_playRound_0 {G : Gl} {d : Nat} {X : Sh} {M : Mm} {Q : Mm → Int32 → Prop} {a : Nat} (hS : Sh2 X a) (h : Wn G m_X2_playRound (d + 1) 4 [(0, .ref a), (1, .int 0), (2, .int 0)] [] X M Q) : Wn G m_X2_playRound (d + 1) 0 [(0, .ref a)] [] X M Q := by
  refine wp_iconst (v := 0) dX2_playRound_0 rfl ?_
  refine wp_istore_n (lo2 := [(1, .int _), (0, .ref _)]) dX2_playRound_1 rfl (by decide) rfl ?_
  refine wp_iconst (v := 0) dX2_playRound_2 rfl ?_
  refine wp_istore_n (lo2 := [(2, .int _), (1, .int _), (0, .ref _)]) dX2_playRound_3 rfl (by decide) rfl ?_
  exact Wp.sub [2, 1, 0] rfl h
theorem bX2_playRound_4 {G : Gl} {d : Nat} {X : Sh} {M : Mm} {Q : Mm → Int32 → Prop} {a : Nat} {x1 : Int32} {x2 : Int32} (hS : Sh2 X a) (h : (((mI M (a + 1) 5) ≤ x2 → Q M x1) ∧ (¬ ((mI M (a + 1) 5) ≤ x2) → (∃ q2 : Mm → Int32 → Prop, Cn G m_X2_drawFor d [.ref a, .int x2] X M q2 ∧ ∀ M4 r5, q2 M4 r5 → ((r5 ≤ 0 → Wn G m_X2_playRound (d + 1) 4 [(0, .ref a), (1, .int x1), (2, .int (x2 + 1))] [] X M4 Q) ∧ (¬ (r5 ≤ 0) → ((¬ (mI M4 (a + 8) 5 < 24) → Wn G m_X2_playRound (d + 1) 4 [(0, .ref a), (1, .int x1), (2, .int (x2 + 1))] [] X M4 Q) ∧ (mI M4 (a + 8) 5 < 24 → (∃ q9 : Mm → Prop, Cv G m_X2_chargeOut d [.ref a, .int x2, .int r5] X M4 q9 ∧ ∀ M11, q9 M11 → Wn G m_X2_playRound (d + 1) 4 [(0, .ref a), (1, .int (x1 + 1)), (2, .int (x2 + 1))] [] X M11 Q))))))))) : Wn G m_X2_playRound (d + 1) 4 [(0, .ref a), (1, .int x1), (2, .int x2)] [] X M Q := by
  refine wp_iload_n 2 dX2_playRound_4 rfl rfl ?_
  refine wp_aload_n 0 dX2_playRound_5 rfl rfl ?_
  refine wp_getR dX2_playRound_6 fl_RX2_12 rfl (sh2_K hS) (sh2_F_bins hS) ?_
  refine wp_getI dX2_playRound_9 fl_RX2_96 rfl (sh0_K (sh2_S_bins hS)) ?_
  refine wp_icmp_ge (tgt := 50) dX2_playRound_12 (by decide) (fun c1 => ?_) (fun c1 => ?_)
  · replace h := h.1 c1
    refine wp_iload_n 1 dX2_playRound_50 rfl rfl ?_
    exact wn_iret dX2_playRound_51 rfl h
  · replace h := h.2 c1
    refine wp_aload_n 0 dX2_playRound_15 rfl rfl ?_
    refine wp_iload_n 2 dX2_playRound_16 rfl rfl ?_
    obtain ⟨q2, o3, h⟩ := h
    refine wp_cvi dX2_playRound_17 ck_RX2_99 (sh2_K hS) (as := [.int x2]) rfl rfl (Nat.le_of_ble_eq_true rfl) o3 (fun M4 r5 o6 => ?_)
    replace h := h M4 r5 o6
    refine wp_istore_n (lo2 := [(3, .int _), (0, .ref _), (1, .int _), (2, .int _)]) dX2_playRound_20 rfl (by decide) rfl ?_
    refine wp_iload_n 0 dX2_playRound_21 rfl rfl ?_
    refine wp_if_le (tgt := 44) dX2_playRound_22 (by decide) (fun c7 => ?_) (fun c7 => ?_)
    · replace h := h.1 c7
      refine wp_iinc (v := x2 + 1) (lo2 := [(2, .int _), (3, .int _), (0, .ref _), (1, .int _)]) dX2_playRound_44 (q := 3) rfl rfl (by decide) rfl ?_
      refine wp_goto (tgt := 4) dX2_playRound_47 (by decide) ?_
      exact Wp.sub [2, 3, 0] rfl h
    · replace h := h.2 c7
      refine wp_aload_n 1 dX2_playRound_25 rfl rfl ?_
      refine wp_getR dX2_playRound_26 fl_RX2_21 rfl (sh2_K hS) (sh2_F_furnace hS) ?_
      refine wp_cvip dX2_playRound_29 ck_RX2_102 (sh1_K (sh2_S_furnace hS)) (as := []) rfl rfl (Nat.le_of_ble_eq_true rfl) (cp_X1_hasRoom G d X M4 (a + 8) (sh2_S_furnace hS)) ?_
      refine wp_ifB_eq (inferInstance) (tgt := 44) dX2_playRound_32 (by decide) (fun c8 => ?_) (fun c8 => ?_)
      · replace h := h.1 c8
        refine wp_iinc (v := x2 + 1) (lo2 := [(2, .int _), (3, .int _), (0, .ref _), (1, .int _)]) dX2_playRound_44 (q := 3) rfl rfl (by decide) rfl ?_
        refine wp_goto (tgt := 4) dX2_playRound_47 (by decide) ?_
        exact Wp.sub [2, 3, 0] rfl h
      · replace h := h.2 c8
        refine wp_aload_n 1 dX2_playRound_35 rfl rfl ?_
        refine wp_iload_n 3 dX2_playRound_36 rfl rfl ?_
        refine wp_iload_n 0 dX2_playRound_37 rfl rfl ?_
        obtain ⟨q9, o10, h⟩ := h
        refine wp_cvv dX2_playRound_38 ck_RX2_106 (sh2_K hS) (as := [.int x2, .int r5]) rfl rfl (Nat.le_of_ble_eq_true rfl) o10 (fun M11 o12 => ?_)
        replace h := h M11 o12
        refine wp_iinc (v := x1 + 1) (lo2 := [(1, .int _), (3, .int _), (0, .ref _), (2, .int _)]) dX2_playRound_41 (q := 2) rfl rfl (by decide) rfl ?_
        refine wp_iinc (v := x2 + 1) (lo2 := [(2, .int _), (1, .int _), (3, .int _), (0, .ref _)]) dX2_playRound_44 (q := 3) rfl rfl (by decide) rfl ?_
        refine wp_goto (tgt := 4) dX2_playRound_47 (by decide) ?_
        exact Wp.sub [3, 1, 0] rfl h
theorem bX10_round_0 {G : Gl} {d : Nat} {X : Sh} {M : Mm} {Q : Mm → Int32 → Prop} {a : Nat} (hS : Sh9 X a) (h : (∃ q1 : Mm → Int32 → Prop, Cn G m_X2_playRound d [.ref (a + 1)] X M q1 ∧ ∀ M3 r4, q1 M3 r4 → Q M3 r4)) : Wn G m_X10_round (d + 1) 0 [(0, .ref a)] [] X M Q := by
  refine wp_aload_n 0 dX10_round_0 rfl rfl ?_
  refine wp_getR dX10_round_1 fl_RX10_10 rfl (sh9_K hS) (sh9_F_house hS) ?_
  obtain ⟨q1, o2, h⟩ := h
  refine wp_cvi dX10_round_4 ck_RX10_177 (sh2_K (sh9_S_house hS)) (as := []) rfl rfl (Nat.le_of_ble_eq_true rfl) o2 (fun M3 r4 o5 => ?_)
  replace h := h M3 r4 o5
  exact wn_iret dX10_round_7 rfl h
theorem bX11_round_0 {G : Gl} {d : Nat} {X : Sh} {M : Mm} {Q : Mm → Int32 → Prop} {a : Nat} (hS : Sh10 X a) (h : Wn G m_X11_round (d + 1) 4 [(0, .ref a), (1, .int 0), (2, .int 0)] [] X M Q) : Wn G m_X11_round (d + 1) 0 [(0, .ref a)] [] X M Q := by
  refine wp_iconst (v := 0) dX11_round_0 rfl ?_
  refine wp_istore_n (lo2 := [(1, .int _), (0, .ref _)]) dX11_round_1 rfl (by decide) rfl ?_
  refine wp_iconst (v := 0) dX11_round_2 rfl ?_
  refine wp_istore_n (lo2 := [(2, .int _), (1, .int _), (0, .ref _)]) dX11_round_3 rfl (by decide) rfl ?_
  exact Wp.sub [2, 1, 0] rfl h
theorem bX11_round_4 {G : Gl} {d : Nat} {X : Sh} {M : Mm} {Q : Mm → Int32 → Prop} {a : Nat} {x1 : Int32} {x2 : Int32} (hS : Sh10 X a) (h : (((mI M (a + 1) 0) ≤ x2 → Q M x1) ∧ (¬ ((mI M (a + 1) 0) ≤ x2) → (∃ q2 : Mm → Int32 → Prop, Cn G m_X11_counts d [.ref a, .int x2] X M q2 ∧ ∀ M4 r5, q2 M4 r5 → (∀ M7 : Mm, M7 = sI M4 (a + 18) 104 (mI M4 (a + 1) 5) → (∃ q8 : Mm → Int32 → Prop, Cn G m_X11_greatestTop d [.ref a] X M7 q8 ∧ ∀ M10 r11, q8 M10 r11 → (∀ M13 : Mm, M13 = sI M10 (a + 18) 116 r11 → (∀ M14 : Mm, M14 = sI M13 (a + 18) 98 (f_basic (mI M13 (a + 1) 11) (mI M13 (a + 1) 10)) → (∃ j15 : Nat, ((20 + 5 * x2) + 3) = nI j15 ∧ j15 < 2950 ∧ (∀ M18 : Mm, M18 = sI M14 (a + 18) 115 (mI M14 (a + 1) j15) → ((0 ≤ r5 → (∃ q20 : Mm → Int32 → Prop, Cn G m_X11_worked d [.ref a, .int r5] X M18 q20 ∧ ∀ M22 r23, q20 M22 r23 → (∀ v25 : Int32, v25 = (if (mI M22 (a + 1) j15) ≤ (f_heldIn r23 999) then (mI M22 (a + 1) j15) else (f_heldIn r23 999)) → ((v25 ≤ 0 → Wn G m_X11_round (d + 1) 4 [(0, .ref a), (1, .int x1), (2, .int (x2 + 1))] [] X M22 Q) ∧ (¬ (v25 ≤ 0) → ((24 ≤ (mI M22 (a + 1) 1) → Wn G m_X11_round (d + 1) 4 [(0, .ref a), (1, .int x1), (2, .int (x2 + 1))] [] X M22 Q) ∧ (¬ (24 ≤ (mI M22 (a + 1) 1)) → (∃ q28 : Mm → Prop, Cv G m_X11_comes d [.ref a, .int x2, .int v25] X M22 q28 ∧ ∀ M30, q28 M30 → Wn G m_X11_round (d + 1) 4 [(0, .ref a), (1, .int (x1 + 1)), (2, .int (x2 + 1))] [] X M30 Q)))))))) ∧ (¬ (0 ≤ r5) → (((0 : Int32) ≤ 0 → Wn G m_X11_round (d + 1) 4 [(0, .ref a), (1, .int x1), (2, .int (x2 + 1))] [] X M18 Q) ∧ (¬ ((0 : Int32) ≤ 0) → ((24 ≤ (mI M18 (a + 1) 1) → Wn G m_X11_round (d + 1) 4 [(0, .ref a), (1, .int x1), (2, .int (x2 + 1))] [] X M18 Q) ∧ (¬ (24 ≤ (mI M18 (a + 1) 1)) → (∃ q34 : Mm → Prop, Cv G m_X11_comes d [.ref a, .int x2, .int 0] X M18 q34 ∧ ∀ M36, q34 M36 → Wn G m_X11_round (d + 1) 4 [(0, .ref a), (1, .int (x1 + 1)), (2, .int (x2 + 1))] [] X M36 Q))))))))))))))))) : Wn G m_X11_round (d + 1) 4 [(0, .ref a), (1, .int x1), (2, .int x2)] [] X M Q := by
  refine wp_iload_n 2 dX11_round_4 rfl rfl ?_
  refine wp_aload_n 0 dX11_round_5 rfl rfl ?_
  refine wp_getR dX11_round_6 fl_RX11_7 rfl (sh10_K hS) (sh10_F_s hS) ?_
  refine wp_iconst (v := 0) dX11_round_9 rfl ?_
  refine wp_iald (n := 2950) dX11_round_10 (sh10_K_s hS) (sh10_N_s hS) (by decide) rfl (by decide) ?_
  refine wp_icmp_ge (tgt := 142) dX11_round_11 (by decide) (fun c1 => ?_) (fun c1 => ?_)
  · replace h := h.1 c1
    refine wp_iload_n 1 dX11_round_142 rfl rfl ?_
    exact wn_iret dX11_round_143 rfl h
  · replace h := h.2 c1
    refine wp_aload_n 0 dX11_round_14 rfl rfl ?_
    refine wp_iload_n 2 dX11_round_15 rfl rfl ?_
    obtain ⟨q2, o3, h⟩ := h
    refine wp_cvi dX11_round_16 ck_RX11_165 (sh10_K hS) (as := [.int x2]) rfl rfl (Nat.le_of_ble_eq_true rfl) o3 (fun M4 r5 o6 => ?_)
    replace h := h M4 r5 o6
    refine wp_istore_n (lo2 := [(3, .int _), (0, .ref _), (1, .int _), (2, .int _)]) dX11_round_19 rfl (by decide) rfl ?_
    refine wp_aload_n 1 dX11_round_20 rfl rfl ?_
    refine wp_getR dX11_round_21 fl_RX11_62 rfl (sh10_K hS) (sh10_F_named hS) ?_
    refine wp_bipush (v := 104) dX11_round_24 rfl ?_
    refine wp_aload_n 1 dX11_round_26 rfl rfl ?_
    refine wp_getR dX11_round_27 fl_RX11_7 rfl (sh10_K hS) (sh10_F_s hS) ?_
    refine wp_iconst (v := 5) dX11_round_30 rfl ?_
    refine wp_iald (n := 2950) dX11_round_31 (sh10_K_s hS) (sh10_N_s hS) (by decide) rfl (by decide) ?_
    refine wp_iast (n := 128) dX11_round_32 (sh10_K_named hS) (sh10_N_named hS) (by decide) rfl (by decide) ?_
    refine wp_nm (fun M7 eM7 => ?_)
    replace h := h M7 eM7
    refine wp_aload_n 1 dX11_round_33 rfl rfl ?_
    refine wp_getR dX11_round_34 fl_RX11_62 rfl (sh10_K hS) (sh10_F_named hS) ?_
    refine wp_bipush (v := 116) dX11_round_37 rfl ?_
    refine wp_aload_n 1 dX11_round_39 rfl rfl ?_
    obtain ⟨q8, o9, h⟩ := h
    refine wp_cvi dX11_round_40 ck_RX11_168 (sh10_K hS) (as := []) rfl rfl (Nat.le_of_ble_eq_true rfl) o9 (fun M10 r11 o12 => ?_)
    replace h := h M10 r11 o12
    refine wp_iast (n := 128) dX11_round_43 (sh10_K_named hS) (sh10_N_named hS) (by decide) rfl (by decide) ?_
    refine wp_nm (fun M13 eM13 => ?_)
    replace h := h M13 eM13
    refine wp_aload_n 1 dX11_round_44 rfl rfl ?_
    refine wp_getR dX11_round_45 fl_RX11_62 rfl (sh10_K hS) (sh10_F_named hS) ?_
    refine wp_bipush (v := 98) dX11_round_48 rfl ?_
    refine wp_aload_n 1 dX11_round_50 rfl rfl ?_
    refine wp_cvip dX11_round_51 ck_RX11_206 (sh10_K hS) (as := []) rfl rfl (Nat.le_of_ble_eq_true rfl) (cp_X11_basic G d X M13 a hS) ?_
    refine wp_iast (n := 128) dX11_round_54 (sh10_K_named hS) (sh10_N_named hS) (by decide) rfl (by decide) ?_
    refine wp_nm (fun M14 eM14 => ?_)
    replace h := h M14 eM14
    refine wp_aload_n 1 dX11_round_55 rfl rfl ?_
    refine wp_getR dX11_round_56 fl_RX11_62 rfl (sh10_K hS) (sh10_F_named hS) ?_
    refine wp_bipush (v := 115) dX11_round_59 rfl ?_
    refine wp_aload_n 1 dX11_round_61 rfl rfl ?_
    refine wp_getR dX11_round_62 fl_RX11_7 rfl (sh10_K hS) (sh10_F_s hS) ?_
    refine wp_aload_n 1 dX11_round_65 rfl rfl ?_
    refine wp_iload_n 3 dX11_round_66 rfl rfl ?_
    refine wp_cvip dX11_round_67 ck_RX11_86 (sh10_K hS) (as := [.int x2]) rfl rfl (Nat.le_of_ble_eq_true rfl) (cp_X11_binAt G d X M14 a x2 hS) ?_
    refine wp_iconst (v := 3) dX11_round_70 rfl ?_
    refine wp_iadd dX11_round_71 ?_
    obtain ⟨j15, o16, o17, h⟩ := h
    refine wp_iald (n := 2950) dX11_round_72 (sh10_K_s hS) (sh10_N_s hS) (by decide) o16 o17 ?_
    refine wp_iast (n := 128) dX11_round_73 (sh10_K_named hS) (sh10_N_named hS) (by decide) rfl (by decide) ?_
    refine wp_nm (fun M18 eM18 => ?_)
    replace h := h M18 eM18
    refine wp_iload_n 0 dX11_round_74 rfl rfl ?_
    refine wp_if_ge (tgt := 82) dX11_round_75 (by decide) (fun c19 => ?_) (fun c19 => ?_)
    · replace h := h.1 c19
      refine wp_aload_n 1 dX11_round_82 rfl rfl ?_
      refine wp_iload_n 0 dX11_round_83 rfl rfl ?_
      obtain ⟨q20, o21, h⟩ := h
      refine wp_cvi dX11_round_84 ck_RX11_172 (sh10_K hS) (as := [.int r5]) rfl rfl (Nat.le_of_ble_eq_true rfl) o21 (fun M22 r23 o24 => ?_)
      replace h := h M22 r23 o24
      refine wp_sipush (v := 999) dX11_round_87 rfl ?_
      refine wp_csip dX11_round_90 ck_RX11_175 rfl (as := [.int r23, .int 999]) rfl rfl (Nat.le_of_ble_eq_true rfl) (cp_X11_heldIn G d X M22 r23 999) ?_
      refine wp_aload_n 1 dX11_round_93 rfl rfl ?_
      refine wp_getR dX11_round_94 fl_RX11_7 rfl (sh10_K hS) (sh10_F_s hS) ?_
      refine wp_aload_n 1 dX11_round_97 rfl rfl ?_
      refine wp_iload_n 3 dX11_round_98 rfl rfl ?_
      refine wp_cvip dX11_round_99 ck_RX11_86 (sh10_K hS) (as := [.int x2]) rfl rfl (Nat.le_of_ble_eq_true rfl) (cp_X11_binAt G d X M22 a x2 hS) ?_
      refine wp_iconst (v := 3) dX11_round_102 rfl ?_
      refine wp_iadd dX11_round_103 ?_
      refine wp_iald (n := 2950) dX11_round_104 (sh10_K_s hS) (sh10_N_s hS) (by decide) o16 o17 ?_
      refine wp_csip dX11_round_105 ck_RX11_190 rfl (as := [.int ((f_heldIn r23 999)), .int ((mI M22 (a + 1) j15))]) rfl rfl (Nat.le_of_ble_eq_true rfl) (cp_X11_least G d X M22 (f_heldIn r23 999) (mI M22 (a + 1) j15)) ?_
      refine wp_topi (fun v25 ev25 => ?_)
      replace h := h v25 ev25
      refine wp_istore (lo2 := [(4, .int _), (3, .int _), (0, .ref _), (1, .int _), (2, .int _)]) dX11_round_108 (by decide) rfl ?_
      refine wp_iload 0 dX11_round_110 rfl ?_
      refine wp_if_le (tgt := 136) dX11_round_112 (by decide) (fun c26 => ?_) (fun c26 => ?_)
      · replace h := h.1 c26
        refine wp_iinc (v := x2 + 1) (lo2 := [(2, .int _), (4, .int _), (3, .int _), (0, .ref _), (1, .int _)]) dX11_round_136 (q := 4) rfl rfl (by decide) rfl ?_
        refine wp_goto (tgt := 4) dX11_round_139 (by decide) ?_
        exact Wp.sub [3, 4, 0] rfl h
      · replace h := h.2 c26
        refine wp_aload_n 2 dX11_round_115 rfl rfl ?_
        refine wp_getR dX11_round_116 fl_RX11_7 rfl (sh10_K hS) (sh10_F_s hS) ?_
        refine wp_iconst (v := 1) dX11_round_119 rfl ?_
        refine wp_iald (n := 2950) dX11_round_120 (sh10_K_s hS) (sh10_N_s hS) (by decide) rfl (by decide) ?_
        refine wp_bipush (v := 24) dX11_round_121 rfl ?_
        refine wp_icmp_ge (tgt := 136) dX11_round_123 (by decide) (fun c27 => ?_) (fun c27 => ?_)
        · replace h := h.1 c27
          refine wp_iinc (v := x2 + 1) (lo2 := [(2, .int _), (4, .int _), (3, .int _), (0, .ref _), (1, .int _)]) dX11_round_136 (q := 4) rfl rfl (by decide) rfl ?_
          refine wp_goto (tgt := 4) dX11_round_139 (by decide) ?_
          exact Wp.sub [3, 4, 0] rfl h
        · replace h := h.2 c27
          refine wp_aload_n 2 dX11_round_126 rfl rfl ?_
          refine wp_iload_n 4 dX11_round_127 rfl rfl ?_
          refine wp_iload 0 dX11_round_128 rfl ?_
          obtain ⟨q28, o29, h⟩ := h
          refine wp_cvv dX11_round_130 ck_RX11_154 (sh10_K hS) (as := [.int x2, .int v25]) rfl rfl (Nat.le_of_ble_eq_true rfl) o29 (fun M30 o31 => ?_)
          replace h := h M30 o31
          refine wp_iinc (v := x1 + 1) (lo2 := [(1, .int _), (4, .int _), (3, .int _), (0, .ref _), (2, .int _)]) dX11_round_133 (q := 3) rfl rfl (by decide) rfl ?_
          refine wp_iinc (v := x2 + 1) (lo2 := [(2, .int _), (1, .int _), (4, .int _), (3, .int _), (0, .ref _)]) dX11_round_136 (q := 4) rfl rfl (by decide) rfl ?_
          refine wp_goto (tgt := 4) dX11_round_139 (by decide) ?_
          exact Wp.sub [4, 1, 0] rfl h
    · replace h := h.2 c19
      refine wp_iconst (v := 0) dX11_round_78 rfl ?_
      refine wp_goto (tgt := 108) dX11_round_79 (by decide) ?_
      refine wp_istore (lo2 := [(4, .int _), (3, .int _), (0, .ref _), (1, .int _), (2, .int _)]) dX11_round_108 (by decide) rfl ?_
      refine wp_iload 0 dX11_round_110 rfl ?_
      refine wp_if_le (tgt := 136) dX11_round_112 (by decide) (fun c32 => ?_) (fun c32 => ?_)
      · replace h := h.1 c32
        refine wp_iinc (v := x2 + 1) (lo2 := [(2, .int _), (4, .int _), (3, .int _), (0, .ref _), (1, .int _)]) dX11_round_136 (q := 4) rfl rfl (by decide) rfl ?_
        refine wp_goto (tgt := 4) dX11_round_139 (by decide) ?_
        exact Wp.sub [3, 4, 0] rfl h
      · replace h := h.2 c32
        refine wp_aload_n 2 dX11_round_115 rfl rfl ?_
        refine wp_getR dX11_round_116 fl_RX11_7 rfl (sh10_K hS) (sh10_F_s hS) ?_
        refine wp_iconst (v := 1) dX11_round_119 rfl ?_
        refine wp_iald (n := 2950) dX11_round_120 (sh10_K_s hS) (sh10_N_s hS) (by decide) rfl (by decide) ?_
        refine wp_bipush (v := 24) dX11_round_121 rfl ?_
        refine wp_icmp_ge (tgt := 136) dX11_round_123 (by decide) (fun c33 => ?_) (fun c33 => ?_)
        · replace h := h.1 c33
          refine wp_iinc (v := x2 + 1) (lo2 := [(2, .int _), (4, .int _), (3, .int _), (0, .ref _), (1, .int _)]) dX11_round_136 (q := 4) rfl rfl (by decide) rfl ?_
          refine wp_goto (tgt := 4) dX11_round_139 (by decide) ?_
          exact Wp.sub [3, 4, 0] rfl h
        · replace h := h.2 c33
          refine wp_aload_n 2 dX11_round_126 rfl rfl ?_
          refine wp_iload_n 4 dX11_round_127 rfl rfl ?_
          refine wp_iload 0 dX11_round_128 rfl ?_
          obtain ⟨q34, o35, h⟩ := h
          refine wp_cvv dX11_round_130 ck_RX11_154 (sh10_K hS) (as := [.int x2, .int 0]) rfl rfl (Nat.le_of_ble_eq_true rfl) o35 (fun M36 o37 => ?_)
          replace h := h M36 o37
          refine wp_iinc (v := x1 + 1) (lo2 := [(1, .int _), (4, .int _), (3, .int _), (0, .ref _), (2, .int _)]) dX11_round_133 (q := 3) rfl rfl (by decide) rfl ?_
          refine wp_iinc (v := x2 + 1) (lo2 := [(2, .int _), (1, .int _), (4, .int _), (3, .int _), (0, .ref _)]) dX11_round_136 (q := 4) rfl rfl (by decide) rfl ?_
          refine wp_goto (tgt := 4) dX11_round_139 (by decide) ?_
          exact Wp.sub [4, 1, 0] rfl h
/-- a round over the bins from bin i on -/
def s_rd (nx : Nat) : Nat → Nat → Int32 → (Nat → Int32) → Int32 × (Nat → Int32)
  | 0, _, c, σ => (c, σ)
  | n + 1, i, c, σ => if s_draw σ (σ 1).toNatClampNeg nx i ≤ 0 ∨ ¬ (σ 1).toNatClampNeg < 24 then s_rd nx n (i + 1) c σ else s_rd nx n (i + 1) (c + 1) (s_comes σ (σ 1).toNatClampNeg i (s_draw σ (σ 1).toNatClampNeg nx i))
def OffD (h : Nat) (M M2 : Mm) : Prop := (∀ c, c ≠ h + 5 → c < h + 8 ∨ h + 81 < c → mI M2 c = mI M c) ∧ mR M2 = mR M
theorem draw_nat {σ : Nat → Int32} {nl nx b : Nat} (h : ¬ s_draw σ nl nx b ≤ 0) : ∃ t : Nat, 1 ≤ t ∧ t ≤ 999 ∧ s_draw σ nl nx b = nI t ∧ nI t ≤ σ (23 + 5 * b) := by
  unfold s_draw at h ⊢
  split at h
  · exact absurd (by decide) h
  · obtain ⟨g, hg, eg⟩ := held_nat (s_worth σ (s_counts σ (nI b) nx).toNatClampNeg (e_draw σ nl b))
    rw [eg] at h ⊢
    split at h
    · next q =>
      obtain ⟨t, ht, et⟩ := nI_of (x := σ (23 + 5 * b)) (i_nlt.mpr (Int32.le_of_lt (i_nle.mp h)))
      rw [et] at h q ⊢
      have hq := (nI_leI (by omega) (by omega)).mp q
      refine ⟨t, ?_, by omega, ?_, Int32.le_refl _⟩
      · by_cases z : 1 ≤ t
        · exact z
        · exact absurd ((nI_leI (b := 0) (by omega) (by omega)).mpr (by omega)) h
      · rw [if_neg (by assumption), if_pos q]
    · next q =>
      refine ⟨g, ?_, hg, ?_, Int32.le_of_lt (i_nle.mp q)⟩
      · by_cases z : 1 ≤ g
        · exact z
        · exact absurd ((nI_leI (b := 0) (by omega) (by omega)).mpr (by omega)) h
      · rw [if_neg (by assumption), if_neg q]
theorem cl_playRound (G : Gl) (d : Nat) (hd : 3 ≤ d) {X : Sh} {h nb nx nt nd : Nat} {Q : Mm → Int32 → Prop} (hS : Sh2 X h) (M0 : Mm) :
    ∀ (n i nl : Nat) (c : Int32) (la : Nat → Nat) (M : Mm) (σ : Nat → Int32), i + n = nb → HSx M h σ nb nl nx nt nd la → OffD h M0 M → (∀ M2 nl2 la2, HSx M2 h (s_rd nx n i c σ).2 nb nl2 nx nt nd la2 → OffD h M0 M2 → Q M2 (s_rd nx n i c σ).1) → Wn G m_X2_playRound (d + 1) 4 [(0, .ref h), (1, .int c), (2, .int (nI i))] [] X M Q
  | 0, i, nl, c, la, M, σ, he, hH, hO, hq => by
    have hi : i = nb := he
    subst hi
    refine bX2_playRound_4 hS ⟨fun _ => hq M nl la hH hO, fun q => absurd (by rw [hH.2.1.1]; exact Int32.le_refl _) q⟩
  | n + 1, i, nl, c, la, M, σ, he, hH, hO, hq => by
    obtain ⟨hW, hB, hF, hT, hD, hR⟩ := id hH
    obtain ⟨w0, w1, w2, w3, w4, w5, w6, w7, w8, w9, wb, wf, wl, wt, wd, sl, g, s1, s2, s3, s4, s5⟩ := id hW
    have e1 : (σ 1).toNatClampNeg = nl := by rw [w2, nI_clamp (by omega)]
    refine bX2_playRound_4 hS ⟨fun q => ?_, fun _ => ⟨_, cp_X2_drawFor G d (by omega) X M h i nb nl nx σ la hS w3 w5 (by omega) w1 hT hF hB, ?_⟩⟩
    · rw [hB.1] at q
      have := (nI_leI (by omega) (by omega)).mp q
      omega
    rintro M4 r5 ⟨rfl, o4⟩
    have H4 : HSx M4 h σ nb nl nx nt nd la := hH.mem (fun c h1 h2 h3 => o4.1 c (by unfold Scr at h3; omega) (by unfold Scr at h3; omega)) (by rw [o4.2])
    have O4 : OffD h M0 M4 := ⟨fun c h1 h2 => by rw [o4.1 c (by omega) (by omega)]; exact hO.1 c h1 h2, o4.2.trans hO.2⟩
    have skip : (s_draw σ nl nx i ≤ 0 ∨ ¬ nl < 24) → Wn G m_X2_playRound (d + 1) 4 [(0, .ref h), (1, .int c), (2, .int (nI i + 1))] [] X M4 Q := fun hs => by
      have e : s_rd nx (n + 1) i c σ = s_rd nx n (i + 1) c σ := by
        show (if _ then _ else _) = _
        rw [e1, if_pos hs]
      rw [e] at hq
      rw [nI_1]
      exact cl_playRound G d hd hS M0 n (i + 1) nl c la M4 σ (by omega) H4 O4 hq
    have d5 : mI M4 (h + 8) 5 = nI nl := H4.2.2.1.2.1.2.2.2.2.1
    refine ⟨fun q => skip (Or.inl q), fun q => ⟨fun q2 => skip (Or.inr (fun q3 => q2 ?_)), fun q2 => ?_⟩⟩
    · rw [d5]
      exact (nI_ltI (b := 24) (by omega) (by omega)).mpr q3
    · have l24 : nl < 24 := by
        rw [d5] at q2
        exact (nI_ltI (b := 24) (by omega) (by omega)).mp q2
      obtain ⟨t, t1, t2, t3, t4⟩ := draw_nat q
      have e : s_rd nx (n + 1) i c σ = s_rd nx n (i + 1) (c + 1) (s_comes σ nl i (nI t)) := by
        show (if _ then _ else _) = _
        rw [e1, if_neg (fun z => by rcases z with z | z; exact q z; exact z l24), t3]
      rw [e] at hq
      rw [t3]
      refine ⟨_, cp_X2_chargeOut G d hd X M4 h i nb nl t σ la hS w1 (by omega) l24 t1 (by omega) H4.2.1 H4.2.2.1 wf (wb i (by omega)) (H4.2.2.2.2.2 0 (by omega)) (by rw [s4]; exact nI_pos' (by omega)), ?_⟩
      rintro M11 ⟨B11, F11, W11, O11⟩
      rw [nI_1]
      refine cl_playRound G d hd hS M0 n (i + 1) (nl + 1) (c + 1) la M11 _ (by omega) (H4.comes (by omega) l24 t1 t4 (by omega) B11 F11 W11 (fun c h1 h2 h3 h4 => O11.1 c h3 h4)) ⟨fun c h1 h2 => by rw [O11.1 c h1 (by omega)]; exact O4.1 c h1 h2, O11.2.trans O4.2⟩ hq
/-- what the reference needs of its row for a round -/
def OKr (σ : Nat → Int32) (nb nx : Nat) : Prop := σ 0 = nI nb ∧ nb ≤ 6 ∧ σ 2 = nI nx ∧ nx ≤ 12 ∧ (∃ nl, nl ≤ 24 ∧ σ 1 = nI nl) ∧ ∀ t, t < nx → T_ok σ t
theorem OKr.comes {σ : Nat → Int32} {nb nx nl b : Nat} {t : Int32} (h : OKr σ nb nx) (h1 : σ 1 = nI nl) (hl : nl < 24) (hb : b < 6) : OKr (s_comes σ nl b t) nb nx := by
  obtain ⟨o1, o2, o3, o4, o5, o6⟩ := h
  exact ⟨by rw [scm_o hb hl (by omega) (by omega) (by omega), o1], o2, by rw [scm_o hb hl (by omega) (by omega) (by omega), o3], o4, ⟨nl + 1, by omega, by rw [scm_1, h1, nI_1]⟩, fun t ht => (o6 t ht).cong (fun k hk => scm_o hb hl (by omega) (by omega) (by omega))⟩
/-- the reference's frame in rounds -/
def OffQ (m : Nat) (M M2 : Mm) : Prop := (∀ c, c ≠ m + 1 → c ≠ m + 13 → c ≠ m + 15 → c ≠ m + 16 → c ≠ m + 18 → c ≠ m + 19 → mI M2 c = mI M c) ∧ mR M2 = mR M
theorem cl_X11_round (G : Gl) (d : Nat) (hd : 4 ≤ d) {X : Sh} {m nb nx : Nat} {Q : Mm → Int32 → Prop} (hM : Sh10 X m) (M0 : Mm) :
    ∀ (n i : Nat) (c : Int32) (M : Mm), i + n = nb → OKr (mI M (m + 1)) nb nx → OffQ m M0 M → (∀ M2, mI M2 (m + 1) = (s_rd nx n i c (mI M (m + 1))).2 → OffQ m M0 M2 → Q M2 (s_rd nx n i c (mI M (m + 1))).1) → Wn G m_X11_round (d + 1) 4 [(0, .ref m), (1, .int c), (2, .int (nI i))] [] X M Q
  | 0, i, c, M, he, hK, hO, hq => by
    have hi : i = nb := he
    subst hi
    exact bX11_round_4 hM ⟨fun _ => hq M rfl hO, fun q => absurd (by rw [hK.1]; exact Int32.le_refl _) q⟩
  | n + 1, i, c, M, he, hK, hO, hq => by
    obtain ⟨o1, o2, o3, o4, ⟨nl, o5, o6⟩, oT⟩ := id hK
    have e1 : (mI M (m + 1) 1).toNatClampNeg = nl := by rw [o6, nI_clamp (by omega)]
    refine bX11_round_4 hM ⟨fun q => ?_, fun _ => ⟨_, cp_X11_counts G d (by omega) X M m nx (nI i) hM o3 o4, ?_⟩⟩
    · rw [o1] at q
      have := (nI_leI (by omega) (by omega)).mp q
      omega
    rintro M4 r5 ⟨e, e5⟩
    have e := e.symm
    subst e
    intro M7 e7
    have s7 : mI M7 (m + 1) = mI M (m + 1) := by rw [e7, mI_sI, up2_off _ _ _ (by omega)]
    refine ⟨_, cp_X11_greatestTop G d (by omega) X M7 m nl hM (by rw [s7]; exact o6) o5, ?_⟩
    rintro M10 r11 ⟨e, e11⟩
    have e := e.symm
    subst e
    intro M13 e13 M14 e14
    have s13 : mI M13 (m + 1) = mI M (m + 1) := by rw [e13, mI_sI, up2_off _ _ _ (by omega), s7]
    have s14 : mI M14 (m + 1) = mI M (m + 1) := by rw [e14, mI_sI, up2_off _ _ _ (by omega), s13]
    refine ⟨23 + 5 * i, (by first | rfl | (simp only [n_lit, nI_add, pk_mul]; done) | (simp only [n_lit, nI_add, pk_mul]; exact congrArg nI (by omega))), by omega, ?_⟩
    intro M18 e18
    have s18 : mI M18 (m + 1) = mI M (m + 1) := by rw [e18, mI_sI, up2_off _ _ _ (by omega), s14]
    have m18 : ∀ c, c ≠ m + 18 → mI M18 c = mI M c := fun c hc => by rw [e18, mI_sI, up2_off _ _ _ hc, e14, mI_sI, up2_off _ _ _ hc, e13, mI_sI, up2_off _ _ _ hc, e7, mI_sI, up2_off _ _ _ hc]
    have R18 : mR M18 = mR M := by
      rw [e18, e14, e13, e7]
      rfl
    have skip : ∀ M5, (∀ c, c ≠ m + 18 → c ≠ m + 19 → mI M5 c = mI M c) → mR M5 = mR M → (s_draw (mI M (m + 1)) nl nx i ≤ 0 ∨ ¬ nl < 24) → Wn G m_X11_round (d + 1) 4 [(0, .ref m), (1, .int c), (2, .int (nI i + 1))] [] X M5 Q := fun M5 h5 R5 hs => by
      have s5 : mI M5 (m + 1) = mI M (m + 1) := h5 _ (by omega) (by omega)
      have e : s_rd nx (n + 1) i c (mI M (m + 1)) = s_rd nx n (i + 1) c (mI M (m + 1)) := by
        show (if _ then _ else _) = _
        rw [e1, if_pos hs]
      rw [e] at hq
      rw [nI_1]
      exact cl_X11_round G d hd hM (nb := nb) (nx := nx) M0 n (i + 1) c M5 (by omega) (by rw [s5]; exact hK) ⟨fun c h1 h2 h3 h4 h6 h7 => by rw [h5 c h6 h7]; exact hO.1 c h1 h2 h3 h4 h6 h7, R5.trans hO.2⟩ (by rw [s5]; exact hq)
    have dr0 : s_counts (mI M (m + 1)) (nI i) nx < 0 → s_draw (mI M (m + 1)) nl nx i = 0 := fun q => if_pos q
    refine ⟨fun q => ?_, fun q => ⟨fun _ => skip M18 (fun c h1 _ => m18 c h1) R18 (Or.inl ?_), fun q2 => absurd (by decide) q2⟩⟩
    · rcases s_counts_spec (mI M (m + 1)) (nI i) nx with h1 | ⟨t, h1, h2, h3⟩
      · rw [e5, h1] at q
        exact absurd q (by decide)
      · rw [h2] at e5
        subst e5
        refine ⟨_, cp_X11_worked G d (by omega) X M18 m t hM (by omega) (by rw [s18]; exact oT t h1), ?_⟩
        rintro M22 r23 ⟨e23, o22, R22⟩
        have s22 : mI M22 (m + 1) = mI M (m + 1) := by rw [o22 _ (by omega), s18]
        have hdr : s_draw (mI M (m + 1)) nl nx i = (if mI M (m + 1) (23 + 5 * i) ≤ f_heldIn r23 999 then mI M (m + 1) (23 + 5 * i) else f_heldIn r23 999) := by
          unfold s_draw
          rw [if_neg (counts_neg h1 o4 h2), h2, nI_clamp (by omega), e23, s18]
          have hw : s_worth (mI M (m + 1)) t (e_draw (mI M (m + 1)) nl i) = s_worth (mI M (m + 1)) t (mI M18 (m + 18)) := worth_cong (oT t h1) (fun c hc => by
            rw [h3] at hc
            rw [s14] at e18
            rw [s13] at e14
            rw [s7] at e11
            rw [e18, e14, e13, e7, e11]
            rcases nm_d (show i ≤ 5 by omega) hc with rfl | rfl | rfl | rfl
            · simp [mI_sI, up2, e_draw]
            · simp [mI_sI, up2, e_draw]
            · simp [mI_sI, up2, e_draw]
            · simp [mI_sI, up2, e_draw])
          rw [hw]
        intro v25 e25
        rw [s22, ← hdr] at e25
        subst e25
        have m22 : ∀ c, c ≠ m + 18 → c ≠ m + 19 → mI M22 c = mI M c := fun c h1 h2 => by rw [o22 c h2, m18 c h1]
        refine ⟨fun q2 => skip M22 m22 (R22.trans R18) (Or.inl q2), fun q2 => ⟨fun q3 => skip M22 m22 (R22.trans R18) (Or.inr ?_), fun q3 => ?_⟩⟩
        · rw [s22, o6] at q3
          have := (nI_leI (a := 24) (by omega) (by omega)).mp q3
          omega
        · have l24 : nl < 24 := by
            by_cases z : nl < 24
            · exact z
            · exact absurd (by rw [s22, o6]; exact (nI_leI (a := 24) (by omega) (by omega)).mpr (by omega)) q3
          have e : s_rd nx (n + 1) i c (mI M (m + 1)) = s_rd nx n (i + 1) (c + 1) (s_comes (mI M (m + 1)) nl i (s_draw (mI M (m + 1)) nl nx i)) := by
            show (if _ then _ else _) = _
            rw [e1, if_neg (fun z => by rcases z with z | z; exact q2 z; exact z l24)]
          rw [e] at hq
          refine ⟨_, cp_X11_comes G d (by omega) X M22 m i nl _ hM (by omega) l24 (by rw [s22]; exact o6), ?_⟩
          rintro M30 ⟨e30, k30⟩
          rw [s22] at e30
          rw [nI_1]
          refine cl_X11_round G d hd hM (nb := nb) (nx := nx) M0 n (i + 1) (c + 1) M30 (by omega) (by rw [e30]; exact hK.comes o6 l24 (by omega)) ⟨fun c h1 h2 h3 h4 h6 h7 => by rw [k30.1 c h1 h2 h3 h4, m22 c h6 h7]; exact hO.1 c h1 h2 h3 h4 h6 h7, (k30.2.trans (R22.trans R18)).trans hO.2⟩ (by rw [e30]; exact hq)
    · rw [dr0 (by rw [← e5]; exact i_nle.mp q)]
      decide
theorem case_round (G : Gl) (d : Nat) (hd : 16 ≤ d) (X : Sh) (b m : Nat) (hS : Sh9 X b) (hM : Sh10 X m) (hbm : b + 266 ≤ m) : Case G d X b m m_X10_round m_X11_round [] := by
  obtain ⟨d, rfl⟩ : ∃ d1, d = d1 + 1 := ⟨d - 1, by omega⟩
  intro M hs
  obtain ⟨⟨nb, nl, nx, nt, nd, la, hh⟩, hr⟩ := id hs
  obtain ⟨hW, hB, hF, hT, hD, hR⟩ := id hh
  obtain ⟨w0, w1, w2, w3, w4, w5, _⟩ := id hW
  have hSh := sh9_S_house hS
  obtain ⟨d, rfl⟩ : ∃ d1, d = d1 + 1 := ⟨d - 1, by omega⟩
  refine Cn.of (by decide) (Nat.le_of_ble_eq_true rfl) (bX10_round_0 hS ⟨fun M2 r => ∃ nl2 la2, r = (s_rd nx nb 0 0 (mI M (m + 1))).1 ∧ HSx M2 (b + 1) (s_rd nx nb 0 0 (mI M (m + 1))).2 nb nl2 nx nt nd la2 ∧ OffD (b + 1) M M2, Cn.of (by decide) (Nat.le_of_ble_eq_true rfl) (bX2_playRound_0 hSh (cl_playRound G d (by omega) hSh M nb 0 nl 0 la M (mI M (m + 1)) (by omega) hh ⟨fun _ _ _ => rfl, rfl⟩ (fun M2 nl2 la2 h1 h2 => ⟨nl2, la2, rfl, h1, h2⟩))), ?_⟩)
  rintro M3 r4 ⟨nl2, la2, rfl, h3, o3⟩
  have s3 : mI M3 (m + 1) = mI M (m + 1) := o3.1 _ (by omega) (by omega)
  refine Cn.of (by decide) (Nat.le_of_ble_eq_true rfl) (bX11_round_0 hM (cl_X11_round G (d + 1) (by omega) hM (nb := nb) (nx := nx) M3 nb 0 0 M3 (by omega) ?_ ⟨fun _ _ _ _ _ _ _ => rfl, rfl⟩ (fun M4 h4 h5 => ?_)))
  · rw [s3]
    exact ⟨w0, w1, w4, w5, ⟨nl, w3, w2⟩, fun t ht => (hT.2 t ht).2.2.2.1⟩
  · rw [s3] at h4 ⊢
    have e : ∀ c, c < m → c ≠ b + 1 + 5 → c < b + 1 + 8 ∨ b + 1 + 81 < c → mI M4 c = mI M c := fun c hc h6 h7 => by rw [h5.1 c (by omega) (by omega) (by omega) (by omega) (by omega) (by omega), o3.1 c h6 h7]
    have f : ∀ c, m ≤ c → c ≠ m + 1 → c ≠ m + 13 → c ≠ m + 15 → c ≠ m + 16 → c ≠ m + 18 → c ≠ m + 19 → mI M4 c = mI M c := fun c hc h6 h7 h8 h9 h10 h11 => by rw [h5.1 c h6 h7 h8 h9 h10 h11, o3.1 c (by omega) (by omega)]
    have r : mR M4 = mR M := h5.2.trans o3.2
    refine ⟨rfl, ⟨nb, nl2, nx, nt, nd, la2, ?_⟩, hr.mem (fun c hc => ?_) (by rw [e b (by omega) (by omega) (by omega)]) (by rw [e b (by omega) (by omega) (by omega)]) (by rw [e (b + 227) (by omega) (by omega) (by omega)]) (by rw [f m (by omega) (by omega) (by omega) (by omega) (by omega) (by omega) (by omega)]) (by rw [f m (by omega) (by omega) (by omega) (by omega) (by omega) (by omega) (by omega)]) (by rw [f m (by omega) (by omega) (by omega) (by omega) (by omega) (by omega) (by omega)]) (by rw [r]) ?_⟩
    · rw [h4]
      exact h3.mem (fun c h6 h7 _ => h5.1 c (by omega) (by omega) (by omega) (by omega) (by omega) (by omega)) (by rw [h5.2])
    · unfold RestK at hc
      by_cases q : c < m
      · exact e c q (by omega) (by omega)
      · exact f c (by omega) (by omega) (by omega) (by omega) (by omega) (by omega) (by omega)
    · obtain ⟨la3, p⟩ := hr.2.1.2
      exact ⟨la3, p.mR r⟩
