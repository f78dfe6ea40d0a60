/-! the call sheet -/
theorem bX5_makeNew_0 {G : Gl} {d : Nat} {X : Sh} {M : Mm} {Q : Mm → Prop} {a : Nat} {x1 : Int32} {x2 : Int32} (hS : Sh5 X a) (h : (∀ M1 : Mm, M1 = sI M a 0 x1 → (∀ M2 : Mm, M2 = sI M1 a 1 x2 → Wv G m_X5_makeNew d 12 [(0, .ref a), (3, .int 0)] [] X M2 Q))) : Wv G m_X5_makeNew d 0 [(0, .ref a), (1, .int x1), (2, .int x2)] [] X M Q := by
  refine wp_aload_n 0 dX5_makeNew_0 rfl rfl ?_
  refine wp_iload_n 1 dX5_makeNew_1 rfl rfl ?_
  refine wp_putI dX5_makeNew_2 fp_RX5_9 rfl (sh5_K hS) ?_
  refine wp_nm (fun M1 eM1 => ?_)
  replace h := h M1 eM1
  refine wp_aload_n 0 dX5_makeNew_5 rfl rfl ?_
  refine wp_iload_n 2 dX5_makeNew_6 rfl rfl ?_
  refine wp_putI dX5_makeNew_7 fp_RX5_15 rfl (sh5_K hS) ?_
  refine wp_nm (fun M2 eM2 => ?_)
  replace h := h M2 eM2
  refine wp_iconst (v := 0) dX5_makeNew_10 rfl ?_
  refine wp_istore_n (lo2 := [(3, .int _), (0, .ref _), (1, .int _), (2, .int _)]) dX5_makeNew_11 rfl (by decide) rfl ?_
  exact Wp.sub [1, 0] rfl h
theorem bX5_makeNew_12 {G : Gl} {d : Nat} {X : Sh} {M : Mm} {Q : Mm → Prop} {a : Nat} {x3 : Int32} (hS : Sh5 X a) (h : ((24 ≤ x3 → Q M) ∧ (¬ (24 ≤ x3) → (∃ j2 : Nat, x3 = nI j2 ∧ j2 < 24 ∧ (∀ M5 : Mm, M5 = sI M (a + 1) j2 0 → (∀ M6 : Mm, M6 = sI M5 (a + 2) j2 0 → Wv G m_X5_makeNew d 12 [(0, .ref a), (3, .int (x3 + 1))] [] X M6 Q)))))) : Wv G m_X5_makeNew d 12 [(0, .ref a), (3, .int x3)] [] X M Q := by
  refine wp_iload_n 1 dX5_makeNew_12 rfl rfl ?_
  refine wp_bipush (v := 24) dX5_makeNew_13 rfl ?_
  refine wp_icmp_ge (tgt := 38) dX5_makeNew_15 (by decide) (fun c1 => ?_) (fun c1 => ?_)
  · replace h := h.1 c1
    exact wv_ret dX5_makeNew_38 rfl h
  · replace h := h.2 c1
    refine wp_aload_n 0 dX5_makeNew_18 rfl rfl ?_
    refine wp_getR dX5_makeNew_19 fl_RX5_18 rfl (sh5_K hS) (sh5_F_values hS) ?_
    refine wp_iload_n 1 dX5_makeNew_22 rfl rfl ?_
    refine wp_iconst (v := 0) dX5_makeNew_23 rfl ?_
    obtain ⟨j2, o3, o4, h⟩ := h
    refine wp_iast (n := 24) dX5_makeNew_24 (sh5_K_values hS) (sh5_N_values hS) (by decide) o3 o4 ?_
    refine wp_nm (fun M5 eM5 => ?_)
    replace h := h M5 eM5
    refine wp_aload_n 0 dX5_makeNew_25 rfl rfl ?_
    refine wp_getR dX5_makeNew_26 fl_RX5_22 rfl (sh5_K hS) (sh5_F_lost hS) ?_
    refine wp_iload_n 1 dX5_makeNew_29 rfl rfl ?_
    refine wp_iconst (v := 0) dX5_makeNew_30 rfl ?_
    refine wp_zast (n := 24) dX5_makeNew_31 (sh5_K_lost hS) (sh5_N_lost hS) (by decide) o3 o4 ?_
    refine wp_nm (fun M6 eM6 => ?_)
    replace h := h M6 eM6
    refine wp_iinc (v := x3 + 1) (lo2 := [(3, .int _), (0, .ref _)]) dX5_makeNew_32 (q := 1) rfl rfl (by decide) rfl ?_
    refine wp_goto (tgt := 12) dX5_makeNew_35 (by decide) ?_
    exact Wp.sub [1, 0] rfl h
theorem bX10_sheet_0 {G : Gl} {d : Nat} {X : Sh} {M : Mm} {Q : Mm → Int32 → Prop} {a : Nat} {x1 : Int32} {x2 : Int32} {x3 : Int32} (hS : Sh9 X a) (hd : 1 ≤ d) (h : ((¬ (0 ≤ x1 ∧ x1 ≤ 3) → Q M (-1000000001)) ∧ (0 ≤ x1 ∧ x1 ≤ 3 → (((-1) ≤ x2 ∧ x2 ≤ 1 → ((¬ (x2 = (-1)) → ((x3 ≤ 24 → ((0 ≤ x3 → (∃ j6 : Nat, x1 = nI j6 ∧ j6 < 4 ∧ (∃ q9 : Mm → Prop, Cv G m_X5_makeNew d [.ref (a + 232 + 3 * j6), .int x2, .int x3] X M q9 ∧ ∀ M11, q9 M11 → Q M11 x3))) ∧ (¬ (0 ≤ x3) → Q M (-1000000014)))) ∧ (¬ (x3 ≤ 24) → Q M (-1000000001)))) ∧ (x2 = (-1) → (∃ j13 : Nat, x1 = nI j13 ∧ j13 < 4 ∧ (∃ q16 : Mm → Prop, Cv G m_X5_makeNew d [.ref (a + 232 + 3 * j13), .int (-1), .int 0] X M q16 ∧ ∀ M18, q16 M18 → Q M18 0))))) ∧ (¬ ((-1) ≤ x2 ∧ x2 ≤ 1) → Q M (-1000000001)))))) : Wn G m_X10_sheet (d + 1) 0 [(0, .ref a), (1, .int x1), (2, .int x2), (3, .int x3)] [] X M Q := by
  refine wp_iload_n 1 dX10_sheet_0 rfl rfl ?_
  refine wp_csip dX10_sheet_1 ck_RX10_271 rfl (as := [.int x1]) rfl rfl (Nat.le_of_ble_eq_true rfl) (cp_X10_isSheet G d (by omega) X M x1) ?_
  refine wp_ifB_eq (inferInstance) (tgt := 16) dX10_sheet_4 (by decide) (fun c1 => ?_) (fun c1 => ?_)
  · replace h := h.1 c1
    refine wp_ldc dX10_sheet_16 kc_RX10_67 ?_
    exact wn_iret dX10_sheet_18 rfl h
  · replace h := h.2 c1
    refine wp_iload_n 2 dX10_sheet_7 rfl rfl ?_
    refine wp_iconst (v := (-1)) dX10_sheet_8 rfl ?_
    refine wp_iconst (v := 1) dX10_sheet_9 rfl ?_
    refine wp_csip dX10_sheet_10 ck_RX10_63 rfl (as := [.int x2, .int (-1), .int 1]) rfl rfl (Nat.le_of_ble_eq_true rfl) (cp_X10_isWithin G d X M x2 (-1) 1) ?_
    refine wp_ifB_ne (inferInstance) (tgt := 19) dX10_sheet_13 (by decide) (fun c2 => ?_) (fun c2 => ?_)
    · replace h := h.1 c2
      refine wp_iload_n 2 dX10_sheet_19 rfl rfl ?_
      refine wp_iconst (v := (-1)) dX10_sheet_20 rfl ?_
      refine wp_icmp_ne (tgt := 37) dX10_sheet_21 (by decide) (fun c3 => ?_) (fun c3 => ?_)
      · replace h := h.1 c3
        refine wp_iload_n 3 dX10_sheet_37 rfl rfl ?_
        refine wp_bipush (v := 24) dX10_sheet_38 rfl ?_
        refine wp_icmp_le (tgt := 46) dX10_sheet_40 (by decide) (fun c4 => ?_) (fun c4 => ?_)
        · replace h := h.1 c4
          refine wp_iload_n 3 dX10_sheet_46 rfl rfl ?_
          refine wp_if_ge (tgt := 54) dX10_sheet_47 (by decide) (fun c5 => ?_) (fun c5 => ?_)
          · replace h := h.1 c5
            refine wp_aload_n 0 dX10_sheet_54 rfl rfl ?_
            refine wp_getR dX10_sheet_55 fl_RX10_39 rfl (sh9_K hS) (sh9_F_sheets hS) ?_
            refine wp_iload_n 1 dX10_sheet_58 rfl rfl ?_
            obtain ⟨j6, o7, o8, h⟩ := h
            refine wp_fald (n := 4) dX10_sheet_59 (Or.inl (sh9_K_sheets hS)) (sh9_N_sheets hS) (by decide) o7 o8 (sh9_E_sheets hS j6 o8) ?_
            refine wp_iload_n 2 dX10_sheet_60 rfl rfl ?_
            refine wp_iload_n 3 dX10_sheet_61 rfl rfl ?_
            obtain ⟨q9, o10, h⟩ := h
            refine wp_cvv dX10_sheet_62 ck_RX10_274 (sh5_K (sh9_ES_sheets hS j6 o8)) (as := [.int x2, .int x3]) rfl rfl (Nat.le_of_ble_eq_true rfl) o10 (fun M11 o12 => ?_)
            replace h := h M11 o12
            refine wp_iload_n 3 dX10_sheet_65 rfl rfl ?_
            exact wn_iret dX10_sheet_66 rfl h
          · replace h := h.2 c5
            refine wp_ldcw dX10_sheet_50 kc_RX10_277 ?_
            exact wn_iret dX10_sheet_53 rfl h
        · replace h := h.2 c4
          refine wp_ldc dX10_sheet_43 kc_RX10_67 ?_
          exact wn_iret dX10_sheet_45 rfl h
      · replace h := h.2 c3
        refine wp_aload_n 0 dX10_sheet_24 rfl rfl ?_
        refine wp_getR dX10_sheet_25 fl_RX10_39 rfl (sh9_K hS) (sh9_F_sheets hS) ?_
        refine wp_iload_n 1 dX10_sheet_28 rfl rfl ?_
        obtain ⟨j13, o14, o15, h⟩ := h
        refine wp_fald (n := 4) dX10_sheet_29 (Or.inl (sh9_K_sheets hS)) (sh9_N_sheets hS) (by decide) o14 o15 (sh9_E_sheets hS j13 o15) ?_
        refine wp_iconst (v := (-1)) dX10_sheet_30 rfl ?_
        refine wp_iconst (v := 0) dX10_sheet_31 rfl ?_
        obtain ⟨q16, o17, h⟩ := h
        refine wp_cvv dX10_sheet_32 ck_RX10_274 (sh5_K (sh9_ES_sheets hS j13 o15)) (as := [.int (-1), .int 0]) rfl rfl (Nat.le_of_ble_eq_true rfl) o17 (fun M18 o19 => ?_)
        replace h := h M18 o19
        refine wp_iconst (v := 0) dX10_sheet_35 rfl ?_
        exact wn_iret dX10_sheet_36 rfl h
    · replace h := h.2 c2
      refine wp_ldc dX10_sheet_16 kc_RX10_67 ?_
      exact wn_iret dX10_sheet_18 rfl h
theorem bX11_sheet_0 {G : Gl} {d : Nat} {X : Sh} {M : Mm} {Q : Mm → Int32 → Prop} {a : Nat} {x1 : Int32} {x2 : Int32} {x3 : Int32} (hS : Sh10 X a) (hd : 1 ≤ d) (h : ((¬ (0 ≤ x1 ∧ x1 ≤ 3) → Q M (-1000000001)) ∧ (0 ≤ x1 ∧ x1 ≤ 3 → ((¬ ((-1) ≤ x2 ∧ x2 ≤ 1) → Q M (-1000000001)) ∧ ((-1) ≤ x2 ∧ x2 ≤ 1 → ((x2 < 0 → ((x2 < 0 → (∃ j5 : Nat, x1 = nI j5 ∧ j5 < 4 ∧ (∀ M8 : Mm, M8 = sI M (a + 4) j5 x2 → (∀ M11 : Mm, M11 = sI M8 (a + 5) j5 (if 0 ≤ x2 then x3 else 0) → Wn G m_X11_sheet (d + 1) 69 [(0, .ref a), (1, .int x1), (4, .int 0)] [] X M11 Q)))) ∧ (¬ (x2 < 0) → ((0 ≤ x3 → (∃ j13 : Nat, x1 = nI j13 ∧ j13 < 4 ∧ (∀ M16 : Mm, M16 = sI M (a + 4) j13 x2 → (∀ M19 : Mm, M19 = sI M16 (a + 5) j13 (if 0 ≤ x2 then x3 else 0) → Wn G m_X11_sheet (d + 1) 69 [(0, .ref a), (1, .int x1), (4, .int 0)] [] X M19 Q)))) ∧ (¬ (0 ≤ x3) → Q M (-1000000014)))))) ∧ (¬ (x2 < 0) → ((x3 ≤ 24 → ((x2 < 0 → (∃ j22 : Nat, x1 = nI j22 ∧ j22 < 4 ∧ (∀ M25 : Mm, M25 = sI M (a + 4) j22 x2 → (∀ M28 : Mm, M28 = sI M25 (a + 5) j22 (if 0 ≤ x2 then x3 else 0) → Wn G m_X11_sheet (d + 1) 69 [(0, .ref a), (1, .int x1), (4, .int 0)] [] X M28 Q)))) ∧ (¬ (x2 < 0) → ((0 ≤ x3 → (∃ j30 : Nat, x1 = nI j30 ∧ j30 < 4 ∧ (∀ M33 : Mm, M33 = sI M (a + 4) j30 x2 → (∀ M36 : Mm, M36 = sI M33 (a + 5) j30 (if 0 ≤ x2 then x3 else 0) → Wn G m_X11_sheet (d + 1) 69 [(0, .ref a), (1, .int x1), (4, .int 0)] [] X M36 Q)))) ∧ (¬ (0 ≤ x3) → Q M (-1000000014)))))) ∧ (¬ (x3 ≤ 24) → Q M (-1000000001)))))))))) : Wn G m_X11_sheet (d + 1) 0 [(0, .ref a), (1, .int x1), (2, .int x2), (3, .int x3)] [] X M Q := by
  refine wp_iload_n 1 dX11_sheet_0 rfl rfl ?_
  refine wp_csip dX11_sheet_1 ck_RX11_324 rfl (as := [.int x1]) rfl rfl (Nat.le_of_ble_eq_true rfl) (cp_X11_isSheet G d (by omega) X M x1) ?_
  refine wp_ifB_eq (inferInstance) (tgt := 29) dX11_sheet_4 (by decide) (fun c1 => ?_) (fun c1 => ?_)
  · replace h := h.1 c1
    refine wp_ldc dX11_sheet_29 kc_RX11_100 ?_
    exact wn_iret dX11_sheet_31 rfl h
  · replace h := h.2 c1
    refine wp_iload_n 2 dX11_sheet_7 rfl rfl ?_
    refine wp_i2l dX11_sheet_8 ?_
    refine wp_ldc2 dX11_sheet_9 kc_RX11_132 ?_
    refine wp_lconst (v := 1) dX11_sheet_12 rfl ?_
    refine wp_csip dX11_sheet_13 ck_RX11_78 rfl (as := [.long x2.toInt64, .long (-1), .long 1]) rfl rfl (Nat.le_of_ble_eq_true rfl) (cp_X11_isIn G d X M x2 (-1) 1 (by decide) (by decide)) ?_
    refine wp_ifB_eq (inferInstance) (tgt := 29) dX11_sheet_16 (by decide) (fun c2 => ?_) (fun c2 => ?_)
    · replace h := h.1 c2
      refine wp_ldc dX11_sheet_29 kc_RX11_100 ?_
      exact wn_iret dX11_sheet_31 rfl h
    · replace h := h.2 c2
      refine wp_iload_n 2 dX11_sheet_19 rfl rfl ?_
      refine wp_if_lt (tgt := 32) dX11_sheet_20 (by decide) (fun c3 => ?_) (fun c3 => ?_)
      · replace h := h.1 c3
        refine wp_iload_n 2 dX11_sheet_32 rfl rfl ?_
        refine wp_if_lt (tgt := 44) dX11_sheet_33 (by decide) (fun c4 => ?_) (fun c4 => ?_)
        · replace h := h.1 c4
          refine wp_aload_n 0 dX11_sheet_44 rfl rfl ?_
          refine wp_getR dX11_sheet_45 fl_RX11_19 rfl (sh10_K hS) (sh10_F_tSort hS) ?_
          refine wp_iload_n 1 dX11_sheet_48 rfl rfl ?_
          refine wp_iload_n 2 dX11_sheet_49 rfl rfl ?_
          obtain ⟨j5, o6, o7, h⟩ := h
          refine wp_iast (n := 4) dX11_sheet_50 (sh10_K_tSort hS) (sh10_N_tSort hS) (by decide) o6 o7 ?_
          refine wp_nm (fun M8 eM8 => ?_)
          replace h := h M8 eM8
          refine wp_aload_n 0 dX11_sheet_51 rfl rfl ?_
          refine wp_getR dX11_sheet_52 fl_RX11_22 rfl (sh10_K hS) (sh10_F_tSize hS) ?_
          refine wp_iload_n 1 dX11_sheet_55 rfl rfl ?_
          refine wp_iload_n 2 dX11_sheet_56 rfl rfl ?_
          have K10 : Wp G m_X11_sheet (d + 1) 0 0 0 0 65 [(0, .ref a), (1, .int x1), (2, .int x2), (3, .int x3)] [.int ((if 0 ≤ x2 then x3 else 0)), .int x1, .ref (a + 5)] X M8 (fun X2 M2 v => X2 = X ∧ ∃ x, v = some (.int x) ∧ Q M2 x) := by
            refine wp_iast (n := 4) dX11_sheet_65 (sh10_K_tSize hS) (sh10_N_tSize hS) (by decide) o6 o7 ?_
            refine wp_nm (fun M11 eM11 => ?_)
            replace h := h M11 eM11
            refine wp_iconst (v := 0) dX11_sheet_66 rfl ?_
            refine wp_istore (lo2 := [(4, .int _), (0, .ref _), (1, .int _), (2, .int _), (3, .int _)]) dX11_sheet_67 (by decide) rfl ?_
            exact Wp.sub [1, 2, 0] rfl h
          refine wp_if_ge (tgt := 64) dX11_sheet_57 (by decide) (fun c9 => ?_) (fun c9 => ?_)
          · refine wp_iload_n 3 dX11_sheet_64 rfl rfl ?_
            rw [if_pos c9] at K10
            exact K10
          · refine wp_iconst (v := 0) dX11_sheet_60 rfl ?_
            refine wp_goto (tgt := 65) dX11_sheet_61 (by decide) ?_
            rw [if_neg c9] at K10
            exact K10
        · replace h := h.2 c4
          refine wp_iload_n 3 dX11_sheet_36 rfl rfl ?_
          refine wp_if_ge (tgt := 44) dX11_sheet_37 (by decide) (fun c12 => ?_) (fun c12 => ?_)
          · replace h := h.1 c12
            refine wp_aload_n 0 dX11_sheet_44 rfl rfl ?_
            refine wp_getR dX11_sheet_45 fl_RX11_19 rfl (sh10_K hS) (sh10_F_tSort hS) ?_
            refine wp_iload_n 1 dX11_sheet_48 rfl rfl ?_
            refine wp_iload_n 2 dX11_sheet_49 rfl rfl ?_
            obtain ⟨j13, o14, o15, h⟩ := h
            refine wp_iast (n := 4) dX11_sheet_50 (sh10_K_tSort hS) (sh10_N_tSort hS) (by decide) o14 o15 ?_
            refine wp_nm (fun M16 eM16 => ?_)
            replace h := h M16 eM16
            refine wp_aload_n 0 dX11_sheet_51 rfl rfl ?_
            refine wp_getR dX11_sheet_52 fl_RX11_22 rfl (sh10_K hS) (sh10_F_tSize hS) ?_
            refine wp_iload_n 1 dX11_sheet_55 rfl rfl ?_
            refine wp_iload_n 2 dX11_sheet_56 rfl rfl ?_
            have K18 : Wp G m_X11_sheet (d + 1) 0 0 0 0 65 [(0, .ref a), (1, .int x1), (2, .int x2), (3, .int x3)] [.int ((if 0 ≤ x2 then x3 else 0)), .int x1, .ref (a + 5)] X M16 (fun X2 M2 v => X2 = X ∧ ∃ x, v = some (.int x) ∧ Q M2 x) := by
              refine wp_iast (n := 4) dX11_sheet_65 (sh10_K_tSize hS) (sh10_N_tSize hS) (by decide) o14 o15 ?_
              refine wp_nm (fun M19 eM19 => ?_)
              replace h := h M19 eM19
              refine wp_iconst (v := 0) dX11_sheet_66 rfl ?_
              refine wp_istore (lo2 := [(4, .int _), (0, .ref _), (1, .int _), (2, .int _), (3, .int _)]) dX11_sheet_67 (by decide) rfl ?_
              exact Wp.sub [1, 2, 0] rfl h
            refine wp_if_ge (tgt := 64) dX11_sheet_57 (by decide) (fun c17 => ?_) (fun c17 => ?_)
            · refine wp_iload_n 3 dX11_sheet_64 rfl rfl ?_
              rw [if_pos c17] at K18
              exact K18
            · refine wp_iconst (v := 0) dX11_sheet_60 rfl ?_
              refine wp_goto (tgt := 65) dX11_sheet_61 (by decide) ?_
              rw [if_neg c17] at K18
              exact K18
          · replace h := h.2 c12
            refine wp_ldcw dX11_sheet_40 kc_RX11_327 ?_
            exact wn_iret dX11_sheet_43 rfl h
      · replace h := h.2 c3
        refine wp_iload_n 3 dX11_sheet_23 rfl rfl ?_
        refine wp_bipush (v := 24) dX11_sheet_24 rfl ?_
        refine wp_icmp_le (tgt := 32) dX11_sheet_26 (by decide) (fun c20 => ?_) (fun c20 => ?_)
        · replace h := h.1 c20
          refine wp_iload_n 2 dX11_sheet_32 rfl rfl ?_
          refine wp_if_lt (tgt := 44) dX11_sheet_33 (by decide) (fun c21 => ?_) (fun c21 => ?_)
          · replace h := h.1 c21
            refine wp_aload_n 0 dX11_sheet_44 rfl rfl ?_
            refine wp_getR dX11_sheet_45 fl_RX11_19 rfl (sh10_K hS) (sh10_F_tSort hS) ?_
            refine wp_iload_n 1 dX11_sheet_48 rfl rfl ?_
            refine wp_iload_n 2 dX11_sheet_49 rfl rfl ?_
            obtain ⟨j22, o23, o24, h⟩ := h
            refine wp_iast (n := 4) dX11_sheet_50 (sh10_K_tSort hS) (sh10_N_tSort hS) (by decide) o23 o24 ?_
            refine wp_nm (fun M25 eM25 => ?_)
            replace h := h M25 eM25
            refine wp_aload_n 0 dX11_sheet_51 rfl rfl ?_
            refine wp_getR dX11_sheet_52 fl_RX11_22 rfl (sh10_K hS) (sh10_F_tSize hS) ?_
            refine wp_iload_n 1 dX11_sheet_55 rfl rfl ?_
            refine wp_iload_n 2 dX11_sheet_56 rfl rfl ?_
            have K27 : Wp G m_X11_sheet (d + 1) 0 0 0 0 65 [(0, .ref a), (1, .int x1), (2, .int x2), (3, .int x3)] [.int ((if 0 ≤ x2 then x3 else 0)), .int x1, .ref (a + 5)] X M25 (fun X2 M2 v => X2 = X ∧ ∃ x, v = some (.int x) ∧ Q M2 x) := by
              refine wp_iast (n := 4) dX11_sheet_65 (sh10_K_tSize hS) (sh10_N_tSize hS) (by decide) o23 o24 ?_
              refine wp_nm (fun M28 eM28 => ?_)
              replace h := h M28 eM28
              refine wp_iconst (v := 0) dX11_sheet_66 rfl ?_
              refine wp_istore (lo2 := [(4, .int _), (0, .ref _), (1, .int _), (2, .int _), (3, .int _)]) dX11_sheet_67 (by decide) rfl ?_
              exact Wp.sub [1, 2, 0] rfl h
            refine wp_if_ge (tgt := 64) dX11_sheet_57 (by decide) (fun c26 => ?_) (fun c26 => ?_)
            · refine wp_iload_n 3 dX11_sheet_64 rfl rfl ?_
              rw [if_pos c26] at K27
              exact K27
            · refine wp_iconst (v := 0) dX11_sheet_60 rfl ?_
              refine wp_goto (tgt := 65) dX11_sheet_61 (by decide) ?_
              rw [if_neg c26] at K27
              exact K27
          · replace h := h.2 c21
            refine wp_iload_n 3 dX11_sheet_36 rfl rfl ?_
            refine wp_if_ge (tgt := 44) dX11_sheet_37 (by decide) (fun c29 => ?_) (fun c29 => ?_)
            · replace h := h.1 c29
              refine wp_aload_n 0 dX11_sheet_44 rfl rfl ?_
              refine wp_getR dX11_sheet_45 fl_RX11_19 rfl (sh10_K hS) (sh10_F_tSort hS) ?_
              refine wp_iload_n 1 dX11_sheet_48 rfl rfl ?_
              refine wp_iload_n 2 dX11_sheet_49 rfl rfl ?_
              obtain ⟨j30, o31, o32, h⟩ := h
              refine wp_iast (n := 4) dX11_sheet_50 (sh10_K_tSort hS) (sh10_N_tSort hS) (by decide) o31 o32 ?_
              refine wp_nm (fun M33 eM33 => ?_)
              replace h := h M33 eM33
              refine wp_aload_n 0 dX11_sheet_51 rfl rfl ?_
              refine wp_getR dX11_sheet_52 fl_RX11_22 rfl (sh10_K hS) (sh10_F_tSize hS) ?_
              refine wp_iload_n 1 dX11_sheet_55 rfl rfl ?_
              refine wp_iload_n 2 dX11_sheet_56 rfl rfl ?_
              have K35 : Wp G m_X11_sheet (d + 1) 0 0 0 0 65 [(0, .ref a), (1, .int x1), (2, .int x2), (3, .int x3)] [.int ((if 0 ≤ x2 then x3 else 0)), .int x1, .ref (a + 5)] X M33 (fun X2 M2 v => X2 = X ∧ ∃ x, v = some (.int x) ∧ Q M2 x) := by
                refine wp_iast (n := 4) dX11_sheet_65 (sh10_K_tSize hS) (sh10_N_tSize hS) (by decide) o31 o32 ?_
                refine wp_nm (fun M36 eM36 => ?_)
                replace h := h M36 eM36
                refine wp_iconst (v := 0) dX11_sheet_66 rfl ?_
                refine wp_istore (lo2 := [(4, .int _), (0, .ref _), (1, .int _), (2, .int _), (3, .int _)]) dX11_sheet_67 (by decide) rfl ?_
                exact Wp.sub [1, 2, 0] rfl h
              refine wp_if_ge (tgt := 64) dX11_sheet_57 (by decide) (fun c34 => ?_) (fun c34 => ?_)
              · refine wp_iload_n 3 dX11_sheet_64 rfl rfl ?_
                rw [if_pos c34] at K35
                exact K35
              · refine wp_iconst (v := 0) dX11_sheet_60 rfl ?_
                refine wp_goto (tgt := 65) dX11_sheet_61 (by decide) ?_
                rw [if_neg c34] at K35
                exact K35
            · replace h := h.2 c29
              refine wp_ldcw dX11_sheet_40 kc_RX11_327 ?_
              exact wn_iret dX11_sheet_43 rfl h
        · replace h := h.2 c20
          refine wp_ldc dX11_sheet_29 kc_RX11_100 ?_
          exact wn_iret dX11_sheet_31 rfl h
theorem bX11_sheet_69 {G : Gl} {d : Nat} {X : Sh} {M : Mm} {Q : Mm → Int32 → Prop} {a : Nat} {x1 : Int32} {x4 : Int32} (hS : Sh10 X a) (h : ((24 ≤ x4 → (∃ j2 : Nat, x1 = nI j2 ∧ j2 < 4 ∧ Q M (mI M (a + 5) j2))) ∧ (¬ (24 ≤ x4) → (∃ j5 : Nat, ((24 * x1) + x4) = nI j5 ∧ j5 < 96 ∧ (∀ M8 : Mm, M8 = sI M (a + 6) j5 0 → Wn G m_X11_sheet (d + 1) 69 [(0, .ref a), (1, .int x1), (4, .int (x4 + 1))] [] X M8 Q))))) : Wn G m_X11_sheet (d + 1) 69 [(0, .ref a), (1, .int x1), (4, .int x4)] [] X M Q := by
  refine wp_iload 2 dX11_sheet_69 rfl ?_
  refine wp_bipush (v := 24) dX11_sheet_71 rfl ?_
  refine wp_icmp_ge (tgt := 95) dX11_sheet_73 (by decide) (fun c1 => ?_) (fun c1 => ?_)
  · replace h := h.1 c1
    refine wp_aload_n 0 dX11_sheet_95 rfl rfl ?_
    refine wp_getR dX11_sheet_96 fl_RX11_22 rfl (sh10_K hS) (sh10_F_tSize hS) ?_
    refine wp_iload_n 1 dX11_sheet_99 rfl rfl ?_
    obtain ⟨j2, o3, o4, h⟩ := h
    refine wp_iald (n := 4) dX11_sheet_100 (sh10_K_tSize hS) (sh10_N_tSize hS) (by decide) o3 o4 ?_
    exact wn_iret dX11_sheet_101 rfl h
  · replace h := h.2 c1
    refine wp_aload_n 0 dX11_sheet_76 rfl rfl ?_
    refine wp_getR dX11_sheet_77 fl_RX11_25 rfl (sh10_K hS) (sh10_F_tNumber hS) ?_
    refine wp_bipush (v := 24) dX11_sheet_80 rfl ?_
    refine wp_iload_n 1 dX11_sheet_82 rfl rfl ?_
    refine wp_imul dX11_sheet_83 ?_
    refine wp_iload 2 dX11_sheet_84 rfl ?_
    refine wp_iadd dX11_sheet_86 ?_
    refine wp_iconst (v := 0) dX11_sheet_87 rfl ?_
    obtain ⟨j5, o6, o7, h⟩ := h
    refine wp_iast (n := 96) dX11_sheet_88 (sh10_K_tNumber hS) (sh10_N_tNumber hS) (by decide) o6 o7 ?_
    refine wp_nm (fun M8 eM8 => ?_)
    replace h := h M8 eM8
    refine wp_iinc (v := x4 + 1) (lo2 := [(4, .int _), (0, .ref _), (1, .int _)]) dX11_sheet_89 (q := 2) rfl rfl (by decide) rfl ?_
    refine wp_goto (tgt := 69) dX11_sheet_92 (by decide) ?_
    exact Wp.sub [1, 2, 0] rfl h
/-- a call that changes sheet i alone -/
theorem Sim.sheet {M M2 : Mm} {b m i : Nat} (h : Sim M b m) (hbm : b + 266 ≤ m) (hi : i < 4) (e : ∀ c, c ≠ b + 232 + 3 * i → c ≠ b + 233 + 3 * i → c ≠ b + 234 + 3 * i → c ≠ m + 4 → c ≠ m + 5 → c ≠ m + 6 → mI M2 c = mI M c) (eR : mR M2 = mR M) (e4 : ∀ j, j ≠ i → mI M2 (m + 4) j = mI M (m + 4) j) (e5 : ∀ j, j ≠ i → mI M2 (m + 5) j = mI M (m + 5) j) (e6 : ∀ j, j < 24 * i ∨ 24 * i + 24 ≤ j → mI M2 (m + 6) j = mI M (m + 6) j)
    (hs : mI M2 (b + 232 + 3 * i) 0 = mI M2 (m + 4) i ∧ (mI M2 (m + 4) i = -1 ∨ mI M2 (m + 4) i = 0 ∨ mI M2 (m + 4) i = 1) ∧ (∃ n, n ≤ 24 ∧ mI M2 (b + 232 + 3 * i) 1 = nI n ∧ mI M2 (m + 5) i = nI n) ∧ ∀ j, j < 24 → Cell (mI M2 (b + 233 + 3 * i) j) (mI M2 (b + 234 + 3 * i) j) (mI M2 (m + 6) (24 * i + j))) : Sim M2 b m := by
  obtain ⟨hh, ⟨i1, i2⟩, ⟨⟨la1, p1⟩, ⟨la2, p2⟩⟩, t, s, l, w⟩ := h
  have o : ∀ c, c < b + 232 + 3 * i ∨ b + 234 + 3 * i < c → c < m + 4 ∨ m + 6 < c → mI M2 c = mI M c := fun c h1 h2 => e c (by omega) (by omega) (by omega) (by omega) (by omega) (by omega)
  refine ⟨?_, ⟨by rw [o b (by omega) (by omega), o m (by omega) (by omega)]; exact i1, fun q => ?_⟩, ⟨⟨la1, p1.mR eR⟩, ⟨la2, p2.mR eR⟩⟩, ?_, fun j hj => ?_, fun j hj => ?_, ?_⟩
  · rw [o (m + 1) (by omega) (by omega)]
    exact hh.mem (fun c h1 h2 _ => o c (by omega) (by omega)) (by rw [eR])
  · rw [o m (by omega) (by omega)] at q
    rw [o (m + 2) (by omega) (by omega)]
    exact (i2 q).mem (fun c h1 h2 _ => o c (by omega) (by omega)) (by rw [eR])
  · unfold TaR
    rw [o (b + 227) (by omega) (by omega), o m (by omega) (by omega), o (b + 228) (by omega) (by omega), o (m + 17) (by omega) (by omega)]
    exact t
  · by_cases q : j = i
    · subst q
      exact hs
    · obtain ⟨s0, s1, s2, s3⟩ := s j hj
      rw [o (b + 232 + 3 * j) (by omega) (by omega), o (b + 233 + 3 * j) (by omega) (by omega), o (b + 234 + 3 * j) (by omega) (by omega), e4 j q, e5 j q]
      refine ⟨s0, s1, s2, fun k hk => ?_⟩
      rw [e6 _ (by omega)]
      exact s3 k hk
  · rw [o (b + 245 + 4 * j) (by omega) (by omega), o (b + 246 + 4 * j) (by omega) (by omega), o (b + 247 + 4 * j) (by omega) (by omega), o (b + 248 + 4 * j) (by omega) (by omega), o (m + 7) (by omega) (by omega), o (m + 8) (by omega) (by omega), o (m + 9) (by omega) (by omega), o (m + 10) (by omega) (by omega), o (m + 11) (by omega) (by omega)]
    exact l j hj
  · unfold WaR
    rw [o b (by omega) (by omega), o m (by omega) (by omega), o (b + 265) (by omega) (by omega), o (m + 21) (by omega) (by omega)]
    exact w
def NewQ (M : Mm) (a : Nat) (s n : Int32) (M2 : Mm) : Prop := mI M2 a 0 = s ∧ mI M2 a 1 = n ∧ (∀ j, j < 24 → mI M2 (a + 1) j = 0 ∧ mI M2 (a + 2) j = 0) ∧ (∀ c, c ≠ a → c ≠ a + 1 → c ≠ a + 2 → mI M2 c = mI M c) ∧ mR M2 = mR M
theorem cl_makeNew (G : Gl) (d : Nat) {X : Sh} {a : Nat} {s n : Int32} (hS : Sh5 X a) (M0 : Mm) : ∀ (k i : Nat) (M : Mm), i + k = 24 → mI M a 0 = s → mI M a 1 = n → (∀ j, j < i → mI M (a + 1) j = 0 ∧ mI M (a + 2) j = 0) → (∀ c, c ≠ a → c ≠ a + 1 → c ≠ a + 2 → mI M c = mI M0 c) → mR M = mR M0 → Wv G m_X5_makeNew d 12 [(0, .ref a), (3, .int (nI i))] [] X M (NewQ M0 a s n)
  | 0, i, M, h, h1, h2, h3, h4, h5 => by
    have hi : i = 24 := h
    subst hi
    exact bX5_makeNew_12 hS ⟨fun _ => ⟨h1, h2, h3, h4, h5⟩, fun q => absurd (by decide) q⟩
  | k + 1, i, M, h, h1, h2, h3, h4, h5 => by
    refine bX5_makeNew_12 hS ⟨fun q => ?_, fun _ => ⟨i, rfl, by omega, ?_⟩⟩
    · have := (nI_leI (a := 24) (by omega) (by omega)).mp q
      omega
    · intro M5 e5 M6 e6
      have m6 : ∀ c, c ≠ a + 1 → c ≠ a + 2 → mI M6 c = mI M c := fun c h6 h7 => by rw [e6, mI_sI, up2_off _ _ _ h7, e5, mI_sI, up2_off _ _ _ h6]
      have r1 : mI M6 (a + 1) = upd (mI M (a + 1)) i 0 := by rw [e6, mI_sI, up2_off _ _ _ (by omega), e5, mI_sI, up2_row]
      have r2 : mI M6 (a + 2) = upd (mI M (a + 2)) i 0 := by rw [e6, mI_sI, up2_row, e5, mI_sI, up2_off _ _ _ (by omega)]
      rw [nI_1]
      refine cl_makeNew G d hS M0 k (i + 1) M6 (by omega) (by rw [m6 _ (by omega) (by omega)]; exact h1) (by rw [m6 _ (by omega) (by omega)]; exact h2) (fun j hj => ?_) (fun c h6 h7 h8 => (m6 c h7 h8).trans (h4 c h6 h7 h8)) (by rw [e6, e5]; exact h5)
      rw [r1, r2]
      by_cases e : j = i
      · subst e
        exact ⟨upd_eq, upd_eq⟩
      · rw [upd_ne e, upd_ne e]
        exact h3 j (by omega)
theorem cp_X5_makeNew (G : Gl) (d : Nat) (X : Sh) (M : Mm) (a : Nat) (s n : Int32) (hS : Sh5 X a) : Cv G m_X5_makeNew d [.ref a, .int s, .int n] X M (NewQ M a s n) := by
  refine Cv.of (by decide) (Nat.le_of_ble_eq_true rfl) (bX5_makeNew_0 hS ?_)
  intro M1 e1 M2 e2
  refine cl_makeNew G d hS M 24 0 M2 rfl ?_ ?_ (fun j hj => absurd hj (by omega)) (fun c h1 _ _ => ?_) ?_
  · rw [e2, mI_sI, up2_k _ _ _ (by omega), e1, mI_sI, up2_same]
  · rw [e2, mI_sI, up2_same]
  · rw [e2, mI_sI, up2_off _ _ _ h1, e1, mI_sI, up2_off _ _ _ h1]
  · rw [e2, e1]
    rfl
theorem cl_X11_sheet (G : Gl) (d : Nat) {X : Sh} {m i : Nat} {Q : Mm → Int32 → Prop} (hM : Sh10 X m) (hi : i < 4) (M0 : Mm) (hq : ∀ M2, (∀ j, 24 * i ≤ j → j < 24 * i + 24 → mI M2 (m + 6) j = 0) → (∀ j, j < 24 * i ∨ 24 * i + 24 ≤ j → mI M2 (m + 6) j = mI M0 (m + 6) j) → (∀ c, c ≠ m + 6 → mI M2 c = mI M0 c) → mR M2 = mR M0 → Q M2 (mI M0 (m + 5) i)) :
    ∀ (n k : Nat) (M : Mm), k + n = 24 → (∀ j, 24 * i ≤ j → j < 24 * i + k → mI M (m + 6) j = 0) → (∀ j, j < 24 * i ∨ 24 * i + 24 ≤ j → mI M (m + 6) j = mI M0 (m + 6) j) → (∀ c, c ≠ m + 6 → mI M c = mI M0 c) → mR M = mR M0 → Wn G m_X11_sheet (d + 1) 69 [(0, .ref m), (1, .int (nI i)), (4, .int (nI k))] [] X M Q
  | 0, k, M, h, h1, h2, h3, h4 => by
    have hk : k = 24 := h
    subst hk
    exact bX11_sheet_69 hM ⟨fun _ => ⟨i, rfl, hi, by rw [h3 (m + 5) (by omega)]; exact hq M h1 h2 h3 h4⟩, fun q => absurd (by decide) q⟩
  | n + 1, k, M, h, h1, h2, h3, h4 => by
    refine bX11_sheet_69 hM ⟨fun q => ?_, fun _ => ⟨24 * i + k, (by first | rfl | (simp only [n_lit, nI_add, pk_mul]; done) | (simp only [n_lit, nI_add, pk_mul]; exact congrArg nI (by omega))), by omega, ?_⟩⟩
    · have := (nI_leI (a := 24) (by omega) (by omega)).mp q
      omega
    · intro M8 e8
      have r8 : mI M8 (m + 6) = upd (mI M (m + 6)) (24 * i + k) 0 := by rw [e8, mI_sI, up2_row]
      rw [nI_1]
      refine cl_X11_sheet G d hM hi M0 hq n (k + 1) M8 (by omega) (fun j h5 h6 => ?_) (fun j h5 => ?_) (fun c h5 => by rw [e8, mI_sI, up2_off _ _ _ h5]; exact h3 c h5) (by rw [e8]; exact h4)
      · rw [r8]
        by_cases e : j = 24 * i + k
        · subst e
          exact upd_eq
        · rw [upd_ne e]
          exact h1 j h5 (by omega)
      · rw [r8, upd_ne (by omega)]
        exact h2 j h5
/-- both have made sheet i anew -/
theorem sheet_fin {M M11 M2 Mf : Mm} {b m i n : Nat} {s : Int32} (h : Sim M b m) (hbm : b + 266 ≤ m) (hi : i < 4) (hn : n ≤ 24) (hs : s = -1 ∨ s = 0 ∨ s = 1) (h1 : NewQ M (b + 232 + 3 * i) s (nI n) M11) (e2 : M2 = sI (sI M11 (m + 4) i s) (m + 5) i (nI n)) (f1 : ∀ j, 24 * i ≤ j → j < 24 * i + 24 → mI Mf (m + 6) j = 0) (f2 : ∀ j, j < 24 * i ∨ 24 * i + 24 ≤ j → mI Mf (m + 6) j = mI M2 (m + 6) j) (f3 : ∀ c, c ≠ m + 6 → mI Mf c = mI M2 c) (f4 : mR Mf = mR M2) : Sim Mf b m := by
  obtain ⟨n1, n2, n3, n4, n5⟩ := h1
  have m2 : ∀ c, c ≠ m + 4 → c ≠ m + 5 → mI M2 c = mI M11 c := fun c h1 h2 => by rw [e2, mI_sI, up2_off _ _ _ h2, mI_sI, up2_off _ _ _ h1]
  have r4 : mI M2 (m + 4) = upd (mI M11 (m + 4)) i s := by rw [e2, mI_sI, up2_off _ _ _ (by omega), mI_sI, up2_row]
  have r5 : mI M2 (m + 5) = upd (mI M11 (m + 5)) i (nI n) := by rw [e2, mI_sI, up2_row, mI_sI, up2_off _ _ _ (by omega)]
  have c1 : b + 232 + 3 * i + 1 = b + 233 + 3 * i := by omega
  have c2 : b + 232 + 3 * i + 2 = b + 234 + 3 * i := by omega
  rw [c1, c2] at n3 n4
  refine h.sheet hbm hi (fun c h1 h2 h3 h4 h5 h6 => by rw [f3 c h6, m2 c h4 h5, n4 c h1 h2 h3]) (by rw [f4, e2]; exact n5) (fun j hj => ?_) (fun j hj => ?_) (fun j hj => ?_) ⟨?_, ?_, ⟨n, hn, ?_, ?_⟩, fun j hj => ?_⟩
  · rw [f3 _ (by omega), r4, upd_ne hj, n4 _ (by omega) (by omega) (by omega)]
  · rw [f3 _ (by omega), r5, upd_ne hj, n4 _ (by omega) (by omega) (by omega)]
  · rw [f2 j hj, m2 _ (by omega) (by omega), n4 _ (by omega) (by omega) (by omega)]
  · rw [f3 _ (by omega), m2 _ (by omega) (by omega), n1, f3 _ (by omega), r4, upd_eq]
  · rw [f3 _ (by omega), r4, upd_eq]
    exact hs
  · rw [f3 _ (by omega), m2 _ (by omega) (by omega), n2]
  · rw [f3 _ (by omega), r5, upd_eq]
  · rw [f3 (b + 233 + 3 * i) (by omega), f3 (b + 234 + 3 * i) (by omega), m2 _ (by omega) (by omega), m2 _ (by omega) (by omega), (n3 j hj).1, (n3 j hj).2, f1 _ (by omega) (by omega)]
    exact Or.inr ⟨by decide, rfl, rfl⟩
theorem case_sheet (G : Gl) (d : Nat) (hd : 16 ≤ d) (X : Sh) (b m : Nat) (hS : Sh9 X b) (hM : Sh10 X m) (hbm : b + 266 ≤ m) (x1 x2 x3 : Int32) : Case G d X b m m_X10_sheet m_X11_sheet [.int x1, .int x2, .int x3] := by
  obtain ⟨d, rfl⟩ : ∃ d1, d = d1 + 1 := ⟨d - 1, by omega⟩
  intro M hs
  obtain ⟨⟨nb, nl, nx, nt, nd, la, hh⟩, hr⟩ := id hs
  by_cases h : 0 ≤ x1 ∧ x1 ≤ 3
  · obtain ⟨i, hi, rfl⟩ := ix_le (nb := 3) (by omega) h.1 h.2
    have hS5 := sh9_ES_sheets hS i (by omega)
    by_cases h2 : (-1) ≤ x2 ∧ x2 ≤ 1
    · by_cases hm : x2 = -1
      · subst hm
        refine Cn.of (by decide) (Nat.le_of_ble_eq_true rfl) (bX10_sheet_0 hS (by omega) ⟨fun q => absurd h q, fun _ => ⟨fun _ => ⟨fun q => absurd rfl q, fun _ => ⟨i, rfl, by omega, _, cp_X5_makeNew G d X M _ (-1) 0 hS5, ?_⟩⟩, fun q => absurd h2 q⟩⟩)
        intro M18 h18
        refine Cn.of (by decide) (Nat.le_of_ble_eq_true rfl) (bX11_sheet_0 hM (by omega) ⟨fun q => absurd h q, fun _ => ⟨fun q => absurd h2 q, fun _ => ⟨fun _ => ⟨fun _ => ⟨i, rfl, by omega, ?_⟩, fun q => absurd (by decide) q⟩, fun q => absurd (by decide) q⟩⟩⟩)
        intro M8 e8 M11 e11
        have e11 : M11 = sI M8 (m + 5) i (nI 0) := e11
        refine cl_X11_sheet G d hM (by omega) M11 (fun M2 f1 f2 f3 f4 => ⟨?_, sheet_fin hs hbm (by omega) (n := 0) (by omega) (Or.inl rfl) h18 (by rw [e11, e8]) f1 f2 f3 f4⟩) 24 0 M11 rfl (fun j h5 h6 => absurd h6 (by omega)) (fun _ _ => rfl) (fun _ _ => rfl) rfl
        rw [e11, mI_sI, up2_same]
        rfl
      · have x0 : 0 ≤ x2 := by
          rw [fa_le] at h2 ⊢
          have e1 : (-1 : Int32).toInt = -1 := rfl
          have e0 : (0 : Int32).toInt = 0 := rfl
          have ne : x2.toInt ≠ (-1 : Int32).toInt := fun q => hm (Int32.toInt_inj.mp q)
          omega
        have xn : ¬ x2 < 0 := i_nlt.mpr x0
        have s01 : x2 = -1 ∨ x2 = 0 ∨ x2 = 1 := by
          obtain ⟨v, hv, rfl⟩ := ix_le (nb := 1) (by omega) x0 h2.2
          match v, hv with
          | 0, _ => exact Or.inr (Or.inl rfl)
          | 1, _ => exact Or.inr (Or.inr rfl)
        by_cases h3 : x3 ≤ 24
        · by_cases h4 : 0 ≤ x3
          · obtain ⟨n, hn, rfl⟩ := ix_le (nb := 24) (by omega) h4 h3
            refine Cn.of (by decide) (Nat.le_of_ble_eq_true rfl) (bX10_sheet_0 hS (by omega) ⟨fun q => absurd h q, fun _ => ⟨fun _ => ⟨fun _ => ⟨fun _ => ⟨fun _ => ⟨i, rfl, by omega, _, cp_X5_makeNew G d X M _ x2 (nI n) hS5, ?_⟩, fun q => absurd h4 q⟩, fun q => absurd h3 q⟩, fun q => absurd q hm⟩, fun q => absurd h2 q⟩⟩)
            intro M18 h18
            refine Cn.of (by decide) (Nat.le_of_ble_eq_true rfl) (bX11_sheet_0 hM (by omega) ⟨fun q => absurd h q, fun _ => ⟨fun q => absurd h2 q, fun _ => ⟨fun q => absurd q xn, fun _ => ⟨fun _ => ⟨fun q => absurd q xn, fun _ => ⟨fun _ => ⟨i, rfl, by omega, ?_⟩, fun q => absurd h4 q⟩⟩, fun q => absurd h3 q⟩⟩⟩⟩)
            intro M8 e8 M11 e11
            rw [if_pos x0] at e11
            refine cl_X11_sheet G d hM (by omega) M11 (fun M2 f1 f2 f3 f4 => ⟨?_, sheet_fin hs hbm (by omega) hn s01 h18 (by rw [e11, e8]) f1 f2 f3 f4⟩) 24 0 M11 rfl (fun j h5 h6 => absurd h6 (by omega)) (fun _ _ => rfl) (fun _ _ => rfl) rfl
            rw [e11, mI_sI, up2_same]
          · exact Cn.of (by decide) (Nat.le_of_ble_eq_true rfl) (bX10_sheet_0 hS (by omega) ⟨fun q => absurd h q, fun _ => ⟨fun _ => ⟨fun _ => ⟨fun _ => ⟨fun q => absurd q h4, fun _ => Cn.of (by decide) (Nat.le_of_ble_eq_true rfl) (bX11_sheet_0 hM (by omega) ⟨fun q => absurd h q, fun _ => ⟨fun q => absurd h2 q, fun _ => ⟨fun q => absurd q xn, fun _ => ⟨fun _ => ⟨fun q => absurd q xn, fun _ => ⟨fun q => absurd q h4, fun _ => ⟨rfl, hs⟩⟩⟩, fun q => absurd h3 q⟩⟩⟩⟩)⟩, fun q => absurd h3 q⟩, fun q => absurd q hm⟩, fun q => absurd h2 q⟩⟩)
        · exact Cn.of (by decide) (Nat.le_of_ble_eq_true rfl) (bX10_sheet_0 hS (by omega) ⟨fun q => absurd h q, fun _ => ⟨fun _ => ⟨fun _ => ⟨fun q => absurd q h3, fun _ => Cn.of (by decide) (Nat.le_of_ble_eq_true rfl) (bX11_sheet_0 hM (by omega) ⟨fun q => absurd h q, fun _ => ⟨fun q => absurd h2 q, fun _ => ⟨fun q => absurd q xn, fun _ => ⟨fun q => absurd q h3, fun _ => ⟨rfl, hs⟩⟩⟩⟩⟩)⟩, fun q => absurd q hm⟩, fun q => absurd h2 q⟩⟩)
    · exact Cn.of (by decide) (Nat.le_of_ble_eq_true rfl) (bX10_sheet_0 hS (by omega) ⟨fun q => absurd h q, fun _ => ⟨fun q => absurd q h2, fun _ => Cn.of (by decide) (Nat.le_of_ble_eq_true rfl) (bX11_sheet_0 hM (by omega) ⟨fun q => absurd h q, fun _ => ⟨fun _ => ⟨rfl, hs⟩, fun q => absurd q h2⟩⟩)⟩⟩)
  · exact Cn.of (by decide) (Nat.le_of_ble_eq_true rfl) (bX10_sheet_0 hS (by omega) ⟨fun _ => Cn.of (by decide) (Nat.le_of_ble_eq_true rfl) (bX11_sheet_0 hM (by omega) ⟨fun _ => ⟨rfl, hs⟩, fun q => absurd q h⟩), fun q => absurd q h⟩)
