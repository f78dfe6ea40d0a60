/-! the call mark -/
theorem bX5_put_0 {G : Gl} {d : Nat} {X : Sh} {M : Mm} {Q : Mm → Prop} {a : Nat} {x1 : Int32} {x2 : Int32} (hS : Sh5 X a) (h : ((¬ ((mI M a 0) = 0) → (∃ j2 : Nat, x1 = nI j2 ∧ j2 < 24 ∧ (∀ M5 : Mm, M5 = sI M (a + 1) j2 x2 → (∀ M6 : Mm, M6 = sI M5 (a + 2) j2 0 → Q M6)))) ∧ ((mI M a 0) = 0 → (∃ j7 : Nat, x1 = nI j7 ∧ j7 < 24 ∧ (∀ M10 : Mm, M10 = sI M (a + 1) j7 x2.toInt16.toInt32 → (∀ M11 : Mm, M11 = sI M10 (a + 2) j7 0 → Q M11)))))) : Wv G m_X5_put d 0 [(0, .ref a), (1, .int x1), (2, .int x2)] [] X M Q := by
  refine wp_aload_n 0 dX5_put_0 rfl rfl ?_
  refine wp_getR dX5_put_1 fl_RX5_18 rfl (sh5_K hS) (sh5_F_values hS) ?_
  refine wp_iload_n 1 dX5_put_4 rfl rfl ?_
  refine wp_aload_n 0 dX5_put_5 rfl rfl ?_
  refine wp_getI dX5_put_6 fl_RX5_9 rfl (sh5_K hS) ?_
  refine wp_if_ne (tgt := 17) dX5_put_9 (by decide) (fun c1 => ?_) (fun c1 => ?_)
  · replace h := h.1 c1
    refine wp_iload_n 2 dX5_put_17 rfl rfl ?_
    obtain ⟨j2, o3, o4, h⟩ := h
    refine wp_iast (n := 24) dX5_put_18 (sh5_K_values hS) (sh5_N_values hS) (by decide) o3 o4 ?_
    refine wp_nm (fun M5 eM5 => ?_)
    replace h := h M5 eM5
    refine wp_aload_n 0 dX5_put_19 rfl rfl ?_
    refine wp_getR dX5_put_20 fl_RX5_22 rfl (sh5_K hS) (sh5_F_lost hS) ?_
    refine wp_iload_n 1 dX5_put_23 rfl rfl ?_
    refine wp_iconst (v := 0) dX5_put_24 rfl ?_
    refine wp_zast (n := 24) dX5_put_25 (sh5_K_lost hS) (sh5_N_lost hS) (by decide) o3 o4 ?_
    refine wp_nm (fun M6 eM6 => ?_)
    replace h := h M6 eM6
    exact wv_ret dX5_put_26 rfl h
  · replace h := h.2 c1
    refine wp_iload_n 2 dX5_put_12 rfl rfl ?_
    refine wp_i2s dX5_put_13 ?_
    refine wp_goto (tgt := 18) dX5_put_14 (by decide) ?_
    obtain ⟨j7, o8, o9, h⟩ := h
    refine wp_iast (n := 24) dX5_put_18 (sh5_K_values hS) (sh5_N_values hS) (by decide) o8 o9 ?_
    refine wp_nm (fun M10 eM10 => ?_)
    replace h := h M10 eM10
    refine wp_aload_n 0 dX5_put_19 rfl rfl ?_
    refine wp_getR dX5_put_20 fl_RX5_22 rfl (sh5_K hS) (sh5_F_lost hS) ?_
    refine wp_iload_n 1 dX5_put_23 rfl rfl ?_
    refine wp_iconst (v := 0) dX5_put_24 rfl ?_
    refine wp_zast (n := 24) dX5_put_25 (sh5_K_lost hS) (sh5_N_lost hS) (by decide) o8 o9 ?_
    refine wp_nm (fun M11 eM11 => ?_)
    replace h := h M11 eM11
    exact wv_ret dX5_put_26 rfl h
theorem bX5_lose_0 {G : Gl} {d : Nat} {X : Sh} {M : Mm} {Q : Mm → Prop} {a : Nat} {x1 : Int32} (hS : Sh5 X a) (h : (∃ j1 : Nat, x1 = nI j1 ∧ j1 < 24 ∧ (∀ M4 : Mm, M4 = sI M (a + 1) j1 0 → (∀ M5 : Mm, M5 = sI M4 (a + 2) j1 1 → Q M5)))) : Wv G m_X5_lose d 0 [(0, .ref a), (1, .int x1)] [] X M Q := by
  refine wp_aload_n 0 dX5_lose_0 rfl rfl ?_
  refine wp_getR dX5_lose_1 fl_RX5_18 rfl (sh5_K hS) (sh5_F_values hS) ?_
  refine wp_iload_n 1 dX5_lose_4 rfl rfl ?_
  refine wp_iconst (v := 0) dX5_lose_5 rfl ?_
  obtain ⟨j1, o2, o3, h⟩ := h
  refine wp_iast (n := 24) dX5_lose_6 (sh5_K_values hS) (sh5_N_values hS) (by decide) o2 o3 ?_
  refine wp_nm (fun M4 eM4 => ?_)
  replace h := h M4 eM4
  refine wp_aload_n 0 dX5_lose_7 rfl rfl ?_
  refine wp_getR dX5_lose_8 fl_RX5_22 rfl (sh5_K hS) (sh5_F_lost hS) ?_
  refine wp_iload_n 1 dX5_lose_11 rfl rfl ?_
  refine wp_iconst (v := 1) dX5_lose_12 rfl ?_
  refine wp_zast (n := 24) dX5_lose_13 (sh5_K_lost hS) (sh5_N_lost hS) (by decide) o2 o3 ?_
  refine wp_nm (fun M5 eM5 => ?_)
  replace h := h M5 eM5
  exact wv_ret dX5_lose_14 rfl h
theorem bX10_mark_0 {G : Gl} {d : Nat} {X : Sh} {M : Mm} {Q : Mm → Int32 → Prop} {a : Nat} {x1 : Int32} {x2 : Int32} {x3 : Int32} (hS : Sh9 X a) (hd : 1 ≤ d) (h : ((0 ≤ x1 ∧ x1 ≤ 3 → (∃ j2 : Nat, x1 = nI j2 ∧ j2 < 4 ∧ ((¬ ((mI M (a + 232 + 3 * j2) 0) = (-1)) → ((0 ≤ x2 ∧ x2 < mI M (a + 232 + 3 * j2) 1 → ((¬ (x3 = (-1000000005)) → ((¬ ((mI M (a + 232 + 3 * j2) 0) = 1) → (∃ q9 : Mm → Prop, Cv G m_X5_put d [.ref (a + 232 + 3 * j2), .int x2, .int x3] X M q9 ∧ ∀ M11, q9 M11 → Q M11 1)) ∧ ((mI M (a + 232 + 3 * j2) 0) = 1 → (((-99999) ≤ x3 ∧ x3 ≤ 99999 → (∃ q14 : Mm → Prop, Cv G m_X5_put d [.ref (a + 232 + 3 * j2), .int x2, .int x3] X M q14 ∧ ∀ M16, q14 M16 → Q M16 1)) ∧ (¬ ((-99999) ≤ x3 ∧ x3 ≤ 99999) → Q M (-1000000001)))))) ∧ (x3 = (-1000000005) → ((¬ ((mI M (a + 232 + 3 * j2) 0) = 0) → (∃ q19 : Mm → Prop, Cv G m_X5_lose d [.ref (a + 232 + 3 * j2), .int x2] X M q19 ∧ ∀ M21, q19 M21 → Q M21 1)) ∧ ((mI M (a + 232 + 3 * j2) 0) = 0 → Q M (-1000000012)))))) ∧ (¬ (0 ≤ x2 ∧ x2 < mI M (a + 232 + 3 * j2) 1) → Q M (-1000000013)))) ∧ ((mI M (a + 232 + 3 * j2) 0) = (-1) → Q M (-1000000011))))) ∧ (¬ (0 ≤ x1 ∧ x1 ≤ 3) → Q M (-1000000001)))) : Wn G m_X10_mark (d + 1) 0 [(0, .ref a), (1, .int x1), (2, .int x2), (3, .int x3)] [] X M Q := by
  refine wp_iload_n 1 dX10_mark_0 rfl rfl ?_
  refine wp_csip dX10_mark_1 ck_RX10_271 rfl (as := [.int x1]) rfl rfl (Nat.le_of_ble_eq_true rfl) (cp_X10_isSheet G d (by omega) X M x1) ?_
  refine wp_ifB_ne (inferInstance) (tgt := 10) dX10_mark_4 (by decide) (fun c1 => ?_) (fun c1 => ?_)
  · replace h := h.1 c1
    refine wp_aload_n 0 dX10_mark_10 rfl rfl ?_
    refine wp_getR dX10_mark_11 fl_RX10_39 rfl (sh9_K hS) (sh9_F_sheets hS) ?_
    refine wp_iload_n 1 dX10_mark_14 rfl rfl ?_
    obtain ⟨j2, o3, o4, h⟩ := h
    refine wp_fald (n := 4) dX10_mark_15 (Or.inl (sh9_K_sheets hS)) (sh9_N_sheets hS) (by decide) o3 o4 (sh9_E_sheets hS j2 o4) ?_
    refine wp_astore (lo2 := [(4, .ref _), (0, .ref _), (1, .int _), (2, .int _), (3, .int _)]) dX10_mark_16 (by decide) rfl ?_
    refine wp_aload 0 dX10_mark_18 rfl ?_
    refine wp_getI dX10_mark_20 fl_RX10_278 rfl (sh5_K (sh9_ES_sheets hS j2 o4)) ?_
    refine wp_iconst (v := (-1)) dX10_mark_23 rfl ?_
    refine wp_icmp_ne (tgt := 31) dX10_mark_24 (by decide) (fun c5 => ?_) (fun c5 => ?_)
    · replace h := h.1 c5
      refine wp_aload 0 dX10_mark_31 rfl ?_
      refine wp_iload_n 3 dX10_mark_33 rfl rfl ?_
      refine wp_cvip dX10_mark_34 ck_RX10_282 (sh5_K (sh9_ES_sheets hS j2 o4)) (as := [.int x2]) rfl rfl (Nat.le_of_ble_eq_true rfl) (cp_X5_has G d X M (a + 232 + 3 * j2) x2 (sh9_ES_sheets hS j2 o4)) ?_
      refine wp_ifB_ne (inferInstance) (tgt := 44) dX10_mark_37 (by decide) (fun c6 => ?_) (fun c6 => ?_)
      · replace h := h.1 c6
        refine wp_iload_n 4 dX10_mark_44 rfl rfl ?_
        refine wp_ldc dX10_mark_45 kc_RX10_199 ?_
        refine wp_icmp_ne (tgt := 69) dX10_mark_47 (by decide) (fun c7 => ?_) (fun c7 => ?_)
        · replace h := h.1 c7
          refine wp_aload 0 dX10_mark_69 rfl ?_
          refine wp_getI dX10_mark_71 fl_RX10_278 rfl (sh5_K (sh9_ES_sheets hS j2 o4)) ?_
          refine wp_iconst (v := 1) dX10_mark_74 rfl ?_
          refine wp_icmp_ne (tgt := 93) dX10_mark_75 (by decide) (fun c8 => ?_) (fun c8 => ?_)
          · replace h := h.1 c8
            refine wp_aload 0 dX10_mark_93 rfl ?_
            refine wp_iload_n 3 dX10_mark_95 rfl rfl ?_
            refine wp_iload_n 4 dX10_mark_96 rfl rfl ?_
            obtain ⟨q9, o10, h⟩ := h
            refine wp_cvv dX10_mark_97 ck_RX10_288 (sh5_K (sh9_ES_sheets hS j2 o4)) (as := [.int x2, .int x3]) rfl rfl (Nat.le_of_ble_eq_true rfl) o10 (fun M11 o12 => ?_)
            replace h := h M11 o12
            refine wp_iconst (v := 1) dX10_mark_100 rfl ?_
            exact wn_iret dX10_mark_101 rfl h
          · replace h := h.2 c8
            refine wp_iload_n 4 dX10_mark_78 rfl rfl ?_
            refine wp_ldcw dX10_mark_79 kc_RX10_287 ?_
            refine wp_ldc dX10_mark_82 kc_RX10_112 ?_
            refine wp_csip dX10_mark_84 ck_RX10_63 rfl (as := [.int x3, .int (-99999), .int 99999]) rfl rfl (Nat.le_of_ble_eq_true rfl) (cp_X10_isWithin G d X M x3 (-99999) 99999) ?_
            refine wp_ifB_ne (inferInstance) (tgt := 93) dX10_mark_87 (by decide) (fun c13 => ?_) (fun c13 => ?_)
            · replace h := h.1 c13
              refine wp_aload 0 dX10_mark_93 rfl ?_
              refine wp_iload_n 3 dX10_mark_95 rfl rfl ?_
              refine wp_iload_n 4 dX10_mark_96 rfl rfl ?_
              obtain ⟨q14, o15, h⟩ := h
              refine wp_cvv dX10_mark_97 ck_RX10_288 (sh5_K (sh9_ES_sheets hS j2 o4)) (as := [.int x2, .int x3]) rfl rfl (Nat.le_of_ble_eq_true rfl) o15 (fun M16 o17 => ?_)
              replace h := h M16 o17
              refine wp_iconst (v := 1) dX10_mark_100 rfl ?_
              exact wn_iret dX10_mark_101 rfl h
            · replace h := h.2 c13
              refine wp_ldc dX10_mark_90 kc_RX10_67 ?_
              exact wn_iret dX10_mark_92 rfl h
        · replace h := h.2 c7
          refine wp_aload 0 dX10_mark_50 rfl ?_
          refine wp_getI dX10_mark_52 fl_RX10_278 rfl (sh5_K (sh9_ES_sheets hS j2 o4)) ?_
          refine wp_if_ne (tgt := 61) dX10_mark_55 (by decide) (fun c18 => ?_) (fun c18 => ?_)
          · replace h := h.1 c18
            refine wp_aload 0 dX10_mark_61 rfl ?_
            refine wp_iload_n 3 dX10_mark_63 rfl rfl ?_
            obtain ⟨q19, o20, h⟩ := h
            refine wp_cvv dX10_mark_64 ck_RX10_284 (sh5_K (sh9_ES_sheets hS j2 o4)) (as := [.int x2]) rfl rfl (Nat.le_of_ble_eq_true rfl) o20 (fun M21 o22 => ?_)
            replace h := h M21 o22
            refine wp_iconst (v := 1) dX10_mark_67 rfl ?_
            exact wn_iret dX10_mark_68 rfl h
          · replace h := h.2 c18
            refine wp_ldc dX10_mark_58 kc_RX10_110 ?_
            exact wn_iret dX10_mark_60 rfl h
      · replace h := h.2 c6
        refine wp_ldcw dX10_mark_40 kc_RX10_283 ?_
        exact wn_iret dX10_mark_43 rfl h
    · replace h := h.2 c5
      refine wp_ldcw dX10_mark_27 kc_RX10_281 ?_
      exact wn_iret dX10_mark_30 rfl h
  · replace h := h.2 c1
    refine wp_ldc dX10_mark_7 kc_RX10_67 ?_
    exact wn_iret dX10_mark_9 rfl h
theorem bX11_mark_0 {G : Gl} {d : Nat} {X : Sh} {M : Mm} {Q : Mm → Int32 → Prop} {a : Nat} {x1 : Int32} {x2 : Int32} {x3 : Int32} (hS : Sh10 X a) (hd : 1 ≤ d) (h : ((0 ≤ x1 ∧ x1 ≤ 3 → (∃ j2 : Nat, x1 = nI j2 ∧ j2 < 4 ∧ ((0 ≤ (mI M (a + 4) j2) → ((0 ≤ x2 ∧ x2 ≤ ((mI M (a + 5) j2) - 1) → ((¬ ((mI M (a + 4) j2) = 0) → Wn G m_X11_mark (d + 1) 63 [(0, .ref a), (1, .int x1), (2, .int x2), (3, .int x3)] [] X M Q) ∧ ((mI M (a + 4) j2) = 0 → ((¬ (x3 = (-1000000005)) → Wn G m_X11_mark (d + 1) 63 [(0, .ref a), (1, .int x1), (2, .int x2), (3, .int x3)] [] X M Q) ∧ (x3 = (-1000000005) → Q M (-1000000012)))))) ∧ (¬ (0 ≤ x2 ∧ x2 ≤ ((mI M (a + 5) j2) - 1)) → Q M (-1000000013)))) ∧ (¬ (0 ≤ (mI M (a + 4) j2)) → Q M (-1000000011))))) ∧ (¬ (0 ≤ x1 ∧ x1 ≤ 3) → Q M (-1000000001)))) : Wn G m_X11_mark (d + 1) 0 [(0, .ref a), (1, .int x1), (2, .int x2), (3, .int x3)] [] X M Q := by
  refine wp_iload_n 1 dX11_mark_0 rfl rfl ?_
  refine wp_csip dX11_mark_1 ck_RX11_324 rfl (as := [.int x1]) rfl rfl (Nat.le_of_ble_eq_true rfl) (cp_X11_isSheet G d (by omega) X M x1) ?_
  refine wp_ifB_ne (inferInstance) (tgt := 10) dX11_mark_4 (by decide) (fun c1 => ?_) (fun c1 => ?_)
  · replace h := h.1 c1
    refine wp_aload_n 0 dX11_mark_10 rfl rfl ?_
    refine wp_getR dX11_mark_11 fl_RX11_19 rfl (sh10_K hS) (sh10_F_tSort hS) ?_
    refine wp_iload_n 1 dX11_mark_14 rfl rfl ?_
    obtain ⟨j2, o3, o4, h⟩ := h
    refine wp_iald (n := 4) dX11_mark_15 (sh10_K_tSort hS) (sh10_N_tSort hS) (by decide) o3 o4 ?_
    refine wp_if_ge (tgt := 23) dX11_mark_16 (by decide) (fun c5 => ?_) (fun c5 => ?_)
    · replace h := h.1 c5
      refine wp_iload_n 2 dX11_mark_23 rfl rfl ?_
      refine wp_i2l dX11_mark_24 ?_
      refine wp_lconst (v := 0) dX11_mark_25 rfl ?_
      refine wp_aload_n 0 dX11_mark_26 rfl rfl ?_
      refine wp_getR dX11_mark_27 fl_RX11_22 rfl (sh10_K hS) (sh10_F_tSize hS) ?_
      refine wp_iload_n 1 dX11_mark_30 rfl rfl ?_
      refine wp_iald (n := 4) dX11_mark_31 (sh10_K_tSize hS) (sh10_N_tSize hS) (by decide) o3 o4 ?_
      refine wp_iconst (v := 1) dX11_mark_32 rfl ?_
      refine wp_isub dX11_mark_33 ?_
      refine wp_i2l dX11_mark_34 ?_
      refine wp_csip dX11_mark_35 ck_RX11_78 rfl (as := [.long x2.toInt64, .long 0, .long (((mI M (a + 5) j2) - 1).toInt64)]) rfl rfl (Nat.le_of_ble_eq_true rfl) (cp_X11_isIn G d X M x2 0 ((mI M (a + 5) j2) - 1) (by decide) rfl) ?_
      refine wp_ifB_ne (inferInstance) (tgt := 45) dX11_mark_38 (by decide) (fun c6 => ?_) (fun c6 => ?_)
      · replace h := h.1 c6
        refine wp_aload_n 0 dX11_mark_45 rfl rfl ?_
        refine wp_getR dX11_mark_46 fl_RX11_19 rfl (sh10_K hS) (sh10_F_tSort hS) ?_
        refine wp_iload_n 1 dX11_mark_49 rfl rfl ?_
        refine wp_iald (n := 4) dX11_mark_50 (sh10_K_tSort hS) (sh10_N_tSort hS) (by decide) o3 o4 ?_
        refine wp_if_ne (tgt := 63) dX11_mark_51 (by decide) (fun c7 => ?_) (fun c7 => ?_)
        · replace h := h.1 c7
          exact Wp.sub [0, 1, 2, 3] rfl h
        · replace h := h.2 c7
          refine wp_iload_n 3 dX11_mark_54 rfl rfl ?_
          refine wp_ldc dX11_mark_55 kc_RX11_77 ?_
          refine wp_icmp_ne (tgt := 63) dX11_mark_57 (by decide) (fun c8 => ?_) (fun c8 => ?_)
          · replace h := h.1 c8
            exact Wp.sub [0, 1, 2, 3] rfl h
          · replace h := h.2 c8
            refine wp_ldc dX11_mark_60 kc_RX11_124 ?_
            exact wn_iret dX11_mark_62 rfl h
      · replace h := h.2 c6
        refine wp_ldcw dX11_mark_41 kc_RX11_329 ?_
        exact wn_iret dX11_mark_44 rfl h
    · replace h := h.2 c5
      refine wp_ldcw dX11_mark_19 kc_RX11_328 ?_
      exact wn_iret dX11_mark_22 rfl h
  · replace h := h.2 c1
    refine wp_ldc dX11_mark_7 kc_RX11_100 ?_
    exact wn_iret dX11_mark_9 rfl h
theorem bX11_mark_63 {G : Gl} {d : Nat} {X : Sh} {M : Mm} {Q : Mm → Int32 → Prop} {a : Nat} {x1 : Int32} {x2 : Int32} {x3 : Int32} (hS : Sh10 X a) (h : (∃ j1 : Nat, x1 = nI j1 ∧ j1 < 4 ∧ ((¬ ((mI M (a + 4) j1) = 1) → Wn G m_X11_mark (d + 1) 96 [(0, .ref a), (1, .int x1), (2, .int x2), (3, .int x3)] [] X M Q) ∧ ((mI M (a + 4) j1) = 1 → ((x3 = (-1000000005) → Wn G m_X11_mark (d + 1) 96 [(0, .ref a), (1, .int x1), (2, .int x2), (3, .int x3)] [] X M Q) ∧ (¬ (x3 = (-1000000005)) → (((-99999) ≤ x3 ∧ x3 ≤ 99999 → Wn G m_X11_mark (d + 1) 96 [(0, .ref a), (1, .int x1), (2, .int x2), (3, .int x3)] [] X M Q) ∧ (¬ ((-99999) ≤ x3 ∧ x3 ≤ 99999) → Q M (-1000000001))))))))) : Wn G m_X11_mark (d + 1) 63 [(0, .ref a), (1, .int x1), (2, .int x2), (3, .int x3)] [] X M Q := by
  refine wp_aload_n 0 dX11_mark_63 rfl rfl ?_
  refine wp_getR dX11_mark_64 fl_RX11_19 rfl (sh10_K hS) (sh10_F_tSort hS) ?_
  refine wp_iload_n 1 dX11_mark_67 rfl rfl ?_
  obtain ⟨j1, o2, o3, h⟩ := h
  refine wp_iald (n := 4) dX11_mark_68 (sh10_K_tSort hS) (sh10_N_tSort hS) (by decide) o2 o3 ?_
  refine wp_iconst (v := 1) dX11_mark_69 rfl ?_
  refine wp_icmp_ne (tgt := 96) dX11_mark_70 (by decide) (fun c4 => ?_) (fun c4 => ?_)
  · replace h := h.1 c4
    exact Wp.sub [0, 1, 2, 3] rfl h
  · replace h := h.2 c4
    refine wp_iload_n 3 dX11_mark_73 rfl rfl ?_
    refine wp_ldc dX11_mark_74 kc_RX11_77 ?_
    refine wp_icmp_eq (tgt := 96) dX11_mark_76 (by decide) (fun c5 => ?_) (fun c5 => ?_)
    · replace h := h.1 c5
      exact Wp.sub [0, 1, 2, 3] rfl h
    · replace h := h.2 c5
      refine wp_iload_n 3 dX11_mark_79 rfl rfl ?_
      refine wp_i2l dX11_mark_80 ?_
      refine wp_ldc2 dX11_mark_81 kc_RX11_330 ?_
      refine wp_ldc2 dX11_mark_84 kc_RX11_125 ?_
      refine wp_csip dX11_mark_87 ck_RX11_78 rfl (as := [.long x3.toInt64, .long (-99999), .long 99999]) rfl rfl (Nat.le_of_ble_eq_true rfl) (cp_X11_isIn G d X M x3 (-99999) 99999 (by decide) (by decide)) ?_
      refine wp_ifB_ne (inferInstance) (tgt := 96) dX11_mark_90 (by decide) (fun c6 => ?_) (fun c6 => ?_)
      · replace h := h.1 c6
        exact Wp.sub [0, 1, 2, 3] rfl h
      · replace h := h.2 c6
        refine wp_ldc dX11_mark_93 kc_RX11_100 ?_
        exact wn_iret dX11_mark_95 rfl h
theorem bX11_mark_96 {G : Gl} {d : Nat} {X : Sh} {M : Mm} {Q : Mm → Int32 → Prop} {a : Nat} {x1 : Int32} {x2 : Int32} {x3 : Int32} (hS : Sh10 X a) (h : (∃ j1 : Nat, x1 = nI j1 ∧ j1 < 4 ∧ ((¬ ((mI M (a + 4) j1) = 0) → (∃ j5 : Nat, ((24 * x1) + x2) = nI j5 ∧ j5 < 96 ∧ (∀ M8 : Mm, M8 = sI M (a + 6) j5 x3 → Q M8 1))) ∧ ((mI M (a + 4) j1) = 0 → (∃ j9 : Nat, ((24 * x1) + x2) = nI j9 ∧ j9 < 96 ∧ (∀ M12 : Mm, M12 = sI M (a + 6) j9 ((x3 <<< (16 &&& 31)) >>> (16 &&& 31)) → Q M12 1)))))) : Wn G m_X11_mark (d + 1) 96 [(0, .ref a), (1, .int x1), (2, .int x2), (3, .int x3)] [] X M Q := by
  refine wp_aload_n 0 dX11_mark_96 rfl rfl ?_
  refine wp_getR dX11_mark_97 fl_RX11_25 rfl (sh10_K hS) (sh10_F_tNumber hS) ?_
  refine wp_bipush (v := 24) dX11_mark_100 rfl ?_
  refine wp_iload_n 1 dX11_mark_102 rfl rfl ?_
  refine wp_imul dX11_mark_103 ?_
  refine wp_iload_n 2 dX11_mark_104 rfl rfl ?_
  refine wp_iadd dX11_mark_105 ?_
  refine wp_aload_n 0 dX11_mark_106 rfl rfl ?_
  refine wp_getR dX11_mark_107 fl_RX11_19 rfl (sh10_K hS) (sh10_F_tSort hS) ?_
  refine wp_iload_n 1 dX11_mark_110 rfl rfl ?_
  obtain ⟨j1, o2, o3, h⟩ := h
  refine wp_iald (n := 4) dX11_mark_111 (sh10_K_tSort hS) (sh10_N_tSort hS) (by decide) o2 o3 ?_
  refine wp_if_ne (tgt := 125) dX11_mark_112 (by decide) (fun c4 => ?_) (fun c4 => ?_)
  · replace h := h.1 c4
    refine wp_iload_n 3 dX11_mark_125 rfl rfl ?_
    obtain ⟨j5, o6, o7, h⟩ := h
    refine wp_iast (n := 96) dX11_mark_126 (sh10_K_tNumber hS) (sh10_N_tNumber hS) (by decide) o6 o7 ?_
    refine wp_nm (fun M8 eM8 => ?_)
    replace h := h M8 eM8
    refine wp_iconst (v := 1) dX11_mark_127 rfl ?_
    exact wn_iret dX11_mark_128 rfl h
  · replace h := h.2 c4
    refine wp_iload_n 3 dX11_mark_115 rfl rfl ?_
    refine wp_bipush (v := 16) dX11_mark_116 rfl ?_
    refine wp_ishl dX11_mark_118 ?_
    refine wp_bipush (v := 16) dX11_mark_119 rfl ?_
    refine wp_ishr dX11_mark_121 ?_
    refine wp_goto (tgt := 126) dX11_mark_122 (by decide) ?_
    obtain ⟨j9, o10, o11, h⟩ := h
    refine wp_iast (n := 96) dX11_mark_126 (sh10_K_tNumber hS) (sh10_N_tNumber hS) (by decide) o10 o11 ?_
    refine wp_nm (fun M12 eM12 => ?_)
    replace h := h M12 eM12
    refine wp_iconst (v := 1) dX11_mark_127 rfl ?_
    exact wn_iret dX11_mark_128 rfl h
/-- a place of a sheet gets a word -/
def PutQ (M : Mm) (a j : Nat) (v l : Int32) (M2 : Mm) : Prop := M2 = sI (sI M (a + 1) j v) (a + 2) j l
theorem cp_X5_put (G : Gl) (d : Nat) (X : Sh) (M : Mm) (a j : Nat) (v : Int32) (hS : Sh5 X a) (hj : j < 24) : Cv G m_X5_put d [.ref a, .int (nI j), .int v] X M (PutQ M a j (if mI M a 0 = 0 then v.toInt16.toInt32 else v) 0) := by
  refine Cv.of (by decide) (Nat.le_of_ble_eq_true rfl) (bX5_put_0 hS ⟨fun h => ⟨j, rfl, hj, ?_⟩, fun h => ⟨j, rfl, hj, ?_⟩⟩)
  · rintro M5 rfl M6 rfl
    rw [if_neg h]
    rfl
  · rintro M5 rfl M6 rfl
    rw [if_pos h]
    rfl
theorem cp_X5_lose (G : Gl) (d : Nat) (X : Sh) (M : Mm) (a j : Nat) (hS : Sh5 X a) (hj : j < 24) : Cv G m_X5_lose d [.ref a, .int (nI j)] X M (PutQ M a j 0 1) := by
  refine Cv.of (by decide) (Nat.le_of_ble_eq_true rfl) (bX5_lose_0 hS ⟨j, rfl, hj, ?_⟩)
  rintro M4 rfl M5 rfl
  rfl
theorem mark_fin {M M11 Mf : Mm} {b m i j : Nat} {v l x : Int32} (h : Sim M b m) (hbm : b + 266 ≤ m) (hi : i < 4) (hj : j < 24) (e11 : PutQ M (b + 232 + 3 * i) j v l M11) (ef : Mf = sI M11 (m + 6) (24 * i + j) x) (hc : Cell v l x) : Sim Mf b m := by
  obtain ⟨s0, s1, s2, s3⟩ := h.2.2.2.2.1 i hi
  unfold PutQ at e11
  rw [show b + 232 + 3 * i + 1 = b + 233 + 3 * i by omega, show b + 232 + 3 * i + 2 = b + 234 + 3 * i by omega] at e11
  have o : ∀ c, c ≠ b + 233 + 3 * i → c ≠ b + 234 + 3 * i → c ≠ m + 6 → mI Mf c = mI M c := fun c h1 h2 h3 => by rw [ef, mI_sI, up2_off _ _ _ h3, e11, mI_sI, up2_off _ _ _ h2, mI_sI, up2_off _ _ _ h1]
  have r1 : mI Mf (b + 233 + 3 * i) = upd (mI M (b + 233 + 3 * i)) j v := by rw [ef, mI_sI, up2_off _ _ _ (by omega), e11, mI_sI, up2_off _ _ _ (by omega), mI_sI, up2_row]
  have r2 : mI Mf (b + 234 + 3 * i) = upd (mI M (b + 234 + 3 * i)) j l := by rw [ef, mI_sI, up2_off _ _ _ (by omega), e11, mI_sI, up2_row, mI_sI, up2_off _ _ _ (by omega)]
  have r6 : mI Mf (m + 6) = upd (mI M (m + 6)) (24 * i + j) x := by rw [ef, mI_sI, up2_row, e11, mI_sI, up2_off _ _ _ (by omega), mI_sI, up2_off _ _ _ (by omega)]
  refine h.sheet hbm hi (fun c _ h1 h2 _ _ h3 => o c h1 h2 h3) (by rw [ef, e11]; rfl) (fun k _ => by rw [o _ (by omega) (by omega) (by omega)]) (fun k _ => by rw [o _ (by omega) (by omega) (by omega)]) (fun k hk => by rw [r6, upd_ne (by omega)]) ⟨?_, ?_, ?_, fun k hk => ?_⟩
  · rw [o _ (by omega) (by omega) (by omega), o _ (by omega) (by omega) (by omega)]
    exact s0
  · rw [o _ (by omega) (by omega) (by omega)]
    exact s1
  · rw [o _ (by omega) (by omega) (by omega), o _ (by omega) (by omega) (by omega)]
    exact s2
  · rw [r1, r2, r6]
    by_cases e : k = j
    · subst e
      rw [upd_eq, upd_eq, upd_eq]
      exact hc
    · rw [upd_ne e, upd_ne e, upd_ne (by omega)]
      exact s3 k hk
theorem case_mark (G : Gl) (d : Nat) (hd : 16 ≤ d) (X : Sh) (b m : Nat) (hS : Sh9 X b) (hM : Sh10 X m) (hbm : b + 266 ≤ m) (x1 x2 x3 : Int32) : Case G d X b m m_X10_mark m_X11_mark [.int x1, .int x2, .int x3] := by
  obtain ⟨d, rfl⟩ : ∃ d1, d = d1 + 1 := ⟨d - 1, by omega⟩
  intro M hs
  obtain ⟨⟨nb, nl, nx, nt, nd, la, hh⟩, hr⟩ := id hs
  by_cases h : 0 ≤ x1 ∧ x1 ≤ 3
  · obtain ⟨i, hi, rfl⟩ := ix_le (nb := 3) (by omega) h.1 h.2
    have hS5 := sh9_ES_sheets hS i (by omega)
    obtain ⟨s0, s1, ⟨n, hn, n1, n2⟩, s3⟩ := hr.2.2.2.1 i (by omega)
    by_cases hm : mI M (m + 4) i = -1
    · have ng : ¬ 0 ≤ mI M (m + 4) i := by
        rw [hm]
        decide
      exact Cn.of (by decide) (Nat.le_of_ble_eq_true rfl) (bX10_mark_0 hS (by omega) ⟨fun _ => ⟨i, rfl, by omega, fun q => absurd (s0.trans hm) q, fun _ => Cn.of (by decide) (Nat.le_of_ble_eq_true rfl) (bX11_mark_0 hM (by omega) ⟨fun _ => ⟨i, rfl, by omega, fun q => absurd q ng, fun _ => ⟨rfl, hs⟩⟩, fun q => absurd h q⟩)⟩, fun q => absurd h q⟩)
    · have c1 : ¬ mI M (b + 232 + 3 * i) 0 = -1 := fun q => hm (s0.symm.trans q)
      have pg : 0 ≤ mI M (m + 4) i := by
        rcases s1 with q | q | q
        · exact absurd q hm
        · rw [q]
          decide
        · rw [q]
          decide
      by_cases h2 : 0 ≤ x2 ∧ x2 < nI n
      · have h2' : 0 ≤ x2 ∧ x2 < mI M (b + 232 + 3 * i) 1 := by rw [n1]; exact h2
        have h2'' : 0 ≤ x2 ∧ x2 ≤ mI M (m + 5) i - 1 := by rw [n2, has_iff (by omega)]; exact h2
        obtain ⟨j, hj, rfl⟩ := ix_of (by omega) h2.1 h2.2
        have key : ∀ (M11 : Mm) (v l x : Int32), PutQ M (b + 232 + 3 * i) j v l M11 → Cell v l x → (∀ c, m ≤ c → mI M11 c = mI M c) ∧ ∀ Mf, Mf = sI M11 (m + 6) (24 * i + j) x → Sim Mf b m := fun M11 v l x h1 h3 => by
          refine ⟨fun c hc => ?_, fun Mf e => mark_fin hs hbm (by omega) (by omega) h1 e h3⟩
          rw [h1, mI_sI, up2_off _ _ _ (by omega), mI_sI, up2_off _ _ _ (by omega)]
        by_cases h0 : mI M (m + 4) i = 0
        · have c0 : mI M (b + 232 + 3 * i) 0 = 0 := s0.trans h0
          have n01 : ¬ mI M (b + 232 + 3 * i) 0 = 1 := fun q => absurd (c0.symm.trans q) (by decide)
          have n02 : ¬ mI M (m + 4) i = 1 := fun q => absurd (h0.symm.trans q) (by decide)
          by_cases hx : x3 = -1000000005
          · exact Cn.of (by decide) (Nat.le_of_ble_eq_true rfl) (bX10_mark_0 hS (by omega) ⟨fun _ => ⟨i, rfl, by omega, fun _ => ⟨fun _ => ⟨fun q => absurd hx q, fun _ => ⟨fun q => absurd c0 q, fun _ => Cn.of (by decide) (Nat.le_of_ble_eq_true rfl) (bX11_mark_0 hM (by omega) ⟨fun _ => ⟨i, rfl, by omega, fun _ => ⟨fun _ => ⟨fun q => absurd h0 q, fun _ => ⟨fun q => absurd hx q, fun _ => ⟨rfl, hs⟩⟩⟩, fun q => absurd h2'' q⟩, fun q => absurd pg q⟩, fun q => absurd h q⟩)⟩⟩, fun q => absurd h2' q⟩, fun q => absurd q c1⟩, fun q => absurd h q⟩)
          · refine Cn.of (by decide) (Nat.le_of_ble_eq_true rfl) (bX10_mark_0 hS (by omega) ⟨fun _ => ⟨i, rfl, by omega, fun _ => ⟨fun _ => ⟨fun _ => ⟨fun _ => ⟨_, cp_X5_put G d X M _ j x3 hS5 (by omega), ?_⟩, fun q => absurd q n01⟩, fun q => absurd q hx⟩, fun q => absurd h2' q⟩, fun q => absurd q c1⟩, fun q => absurd h q⟩)
            intro M11 h11
            rw [if_pos c0] at h11
            obtain ⟨k1, k2⟩ := key M11 _ _ x3.toInt16.toInt32 h11 (Or.inr ⟨short_ne x3, rfl, rfl⟩)
            have z4 : mI M11 (m + 4) i = 0 := by rw [k1 _ (by omega), h0]
            refine Cn.of (by decide) (Nat.le_of_ble_eq_true rfl) (bX11_mark_0 hM (by omega) ⟨fun _ => ⟨i, rfl, by omega, fun _ => ⟨fun _ => ⟨fun q => absurd z4 q, fun _ => ⟨fun _ => bX11_mark_63 hM ⟨i, rfl, by omega, fun _ => bX11_mark_96 hM ⟨i, rfl, by omega, fun q => absurd z4 q, fun _ => ⟨24 * i + j, (by first | rfl | (simp only [n_lit, nI_add, pk_mul]; done) | (simp only [n_lit, nI_add, pk_mul]; exact congrArg nI (by omega))), by omega, ?_⟩⟩, fun q => absurd (z4.symm.trans q) (by decide)⟩, fun q => absurd q hx⟩⟩, fun q => absurd (by rw [k1 _ (by omega)]; exact h2'') q⟩, fun q => absurd (by rw [k1 _ (by omega)]; exact pg) q⟩, fun q => absurd h q⟩)
            intro M12 e12
            rw [short_eq] at e12
            exact ⟨rfl, k2 M12 e12⟩
        · have h1 : mI M (m + 4) i = 1 := by
            rcases s1 with q | q | q
            · exact absurd q hm
            · exact absurd q h0
            · exact q
          have c0 : mI M (b + 232 + 3 * i) 0 = 1 := s0.trans h1
          have n00 : ¬ mI M (b + 232 + 3 * i) 0 = 0 := fun q => absurd (c0.symm.trans q) (by decide)
          by_cases hx : x3 = -1000000005
          · refine Cn.of (by decide) (Nat.le_of_ble_eq_true rfl) (bX10_mark_0 hS (by omega) ⟨fun _ => ⟨i, rfl, by omega, fun _ => ⟨fun _ => ⟨fun q => absurd hx q, fun _ => ⟨fun _ => ⟨_, cp_X5_lose G d X M _ j hS5 (by omega), ?_⟩, fun q => absurd q n00⟩⟩, fun q => absurd h2' q⟩, fun q => absurd q c1⟩, fun q => absurd h q⟩)
            intro M11 h11
            obtain ⟨k1, k2⟩ := key M11 _ _ x3 h11 (Or.inl ⟨hx, rfl⟩)
            have z4 : mI M11 (m + 4) i = 1 := by rw [k1 _ (by omega), h1]
            have z0 : ¬ mI M11 (m + 4) i = 0 := fun q => absurd (z4.symm.trans q) (by decide)
            refine Cn.of (by decide) (Nat.le_of_ble_eq_true rfl) (bX11_mark_0 hM (by omega) ⟨fun _ => ⟨i, rfl, by omega, fun _ => ⟨fun _ => ⟨fun _ => bX11_mark_63 hM ⟨i, rfl, by omega, fun q => absurd z4 q, fun _ => ⟨fun _ => bX11_mark_96 hM ⟨i, rfl, by omega, fun _ => ⟨24 * i + j, (by first | rfl | (simp only [n_lit, nI_add, pk_mul]; done) | (simp only [n_lit, nI_add, pk_mul]; exact congrArg nI (by omega))), by omega, fun M12 e12 => ⟨rfl, k2 M12 e12⟩⟩, fun q => absurd q z0⟩, fun q => absurd hx q⟩⟩, fun q => absurd q z0⟩, fun q => absurd (by rw [k1 _ (by omega)]; exact h2'') q⟩, fun q => absurd (by rw [k1 _ (by omega)]; exact pg) q⟩, fun q => absurd h q⟩)
          · by_cases hg : (-99999) ≤ x3 ∧ x3 ≤ 99999
            · refine Cn.of (by decide) (Nat.le_of_ble_eq_true rfl) (bX10_mark_0 hS (by omega) ⟨fun _ => ⟨i, rfl, by omega, fun _ => ⟨fun _ => ⟨fun _ => ⟨fun q => absurd c0 q, fun _ => ⟨fun _ => ⟨_, cp_X5_put G d X M _ j x3 hS5 (by omega), ?_⟩, fun q => absurd hg q⟩⟩, fun q => absurd q hx⟩, fun q => absurd h2' q⟩, fun q => absurd q c1⟩, fun q => absurd h q⟩)
              intro M11 h11
              rw [if_neg n00] at h11
              obtain ⟨k1, k2⟩ := key M11 _ _ x3 h11 (Or.inr ⟨hx, rfl, rfl⟩)
              have z4 : mI M11 (m + 4) i = 1 := by rw [k1 _ (by omega), h1]
              have z0 : ¬ mI M11 (m + 4) i = 0 := fun q => absurd (z4.symm.trans q) (by decide)
              exact Cn.of (by decide) (Nat.le_of_ble_eq_true rfl) (bX11_mark_0 hM (by omega) ⟨fun _ => ⟨i, rfl, by omega, fun _ => ⟨fun _ => ⟨fun _ => bX11_mark_63 hM ⟨i, rfl, by omega, fun q => absurd z4 q, fun _ => ⟨fun q => absurd q hx, fun _ => ⟨fun _ => bX11_mark_96 hM ⟨i, rfl, by omega, fun _ => ⟨24 * i + j, (by first | rfl | (simp only [n_lit, nI_add, pk_mul]; done) | (simp only [n_lit, nI_add, pk_mul]; exact congrArg nI (by omega))), by omega, fun M12 e12 => ⟨rfl, k2 M12 e12⟩⟩, fun q => absurd q z0⟩, fun q => absurd hg q⟩⟩⟩, fun q => absurd q z0⟩, fun q => absurd (by rw [k1 _ (by omega)]; exact h2'') q⟩, fun q => absurd (by rw [k1 _ (by omega)]; exact pg) q⟩, fun q => absurd h q⟩)
            · exact Cn.of (by decide) (Nat.le_of_ble_eq_true rfl) (bX10_mark_0 hS (by omega) ⟨fun _ => ⟨i, rfl, by omega, fun _ => ⟨fun _ => ⟨fun _ => ⟨fun q => absurd c0 q, fun _ => ⟨fun q => absurd q hg, fun _ => Cn.of (by decide) (Nat.le_of_ble_eq_true rfl) (bX11_mark_0 hM (by omega) ⟨fun _ => ⟨i, rfl, by omega, fun _ => ⟨fun _ => ⟨fun _ => bX11_mark_63 hM ⟨i, rfl, by omega, fun q => absurd h1 q, fun _ => ⟨fun q => absurd q hx, fun _ => ⟨fun q => absurd q hg, fun _ => ⟨rfl, hs⟩⟩⟩⟩, fun q => absurd q h0⟩, fun q => absurd h2'' q⟩, fun q => absurd pg q⟩, fun q => absurd h q⟩)⟩⟩, fun q => absurd q hx⟩, fun q => absurd h2' q⟩, fun q => absurd q c1⟩, fun q => absurd h q⟩)
      · have h2' : ¬ (0 ≤ x2 ∧ x2 < mI M (b + 232 + 3 * i) 1) := by rw [n1]; exact h2
        have h2'' : ¬ (0 ≤ x2 ∧ x2 ≤ mI M (m + 5) i - 1) := by rw [n2, has_iff (by omega)]; exact h2
        exact Cn.of (by decide) (Nat.le_of_ble_eq_true rfl) (bX10_mark_0 hS (by omega) ⟨fun _ => ⟨i, rfl, by omega, fun _ => ⟨fun q => absurd q h2', fun _ => Cn.of (by decide) (Nat.le_of_ble_eq_true rfl) (bX11_mark_0 hM (by omega) ⟨fun _ => ⟨i, rfl, by omega, fun _ => ⟨fun q => absurd q h2'', fun _ => ⟨rfl, hs⟩⟩, fun q => absurd pg q⟩, fun q => absurd h q⟩)⟩, fun q => absurd q c1⟩, fun q => absurd h q⟩)
  · exact Cn.of (by decide) (Nat.le_of_ble_eq_true rfl) (bX10_mark_0 hS (by omega) ⟨fun q => absurd q h, fun _ => Cn.of (by decide) (Nat.le_of_ble_eq_true rfl) (bX11_mark_0 hM (by omega) ⟨fun q => absurd q h, fun _ => ⟨rfl, hs⟩⟩)⟩)
