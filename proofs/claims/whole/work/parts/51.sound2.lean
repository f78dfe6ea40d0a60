/-! sound: the loops of both sides -/
theorem bX5_hangs_0 {G : Gl} {d : Nat} {X : Sh} {M : Mm} {Q : Mm → Int32 → Prop} {a : Nat} (hS : Sh5 X a) (h : Wn G m_X5_hangs (d + 1) 6 [(0, .ref a), (1, .int 0), (2, .int 0), (3, .int 0)] [] X M Q) : Wn G m_X5_hangs (d + 1) 0 [(0, .ref a)] [] X M Q := by
  refine wp_iconst (v := 0) dX5_hangs_0 rfl ?_
  refine wp_istore_n (lo2 := [(1, .int _), (0, .ref _)]) dX5_hangs_1 rfl (by decide) rfl ?_
  refine wp_iconst (v := 0) dX5_hangs_2 rfl ?_
  refine wp_istore_n (lo2 := [(2, .int _), (1, .int _), (0, .ref _)]) dX5_hangs_3 rfl (by decide) rfl ?_
  refine wp_iconst (v := 0) dX5_hangs_4 rfl ?_
  refine wp_istore_n (lo2 := [(3, .int _), (2, .int _), (1, .int _), (0, .ref _)]) dX5_hangs_5 rfl (by decide) rfl ?_
  exact Wp.sub [3, 2, 1, 0] rfl h
theorem bX5_hangs_6 {G : Gl} {d : Nat} {X : Sh} {M : Mm} {Q : Mm → Int32 → Prop} {a : Nat} {x1 : Int32} {x2 : Int32} {x3 : Int32} (hS : Sh5 X a) (h : (((mI M a 1) ≤ x3 → Q M x1) ∧ (¬ ((mI M a 1) ≤ x3) → (∃ q2 : Mm → Int32 → Prop, Cn G m_X5_knownAhead d [.ref a, .int x3] X M q2 ∧ ∀ M4 r5, q2 M4 r5 → (∃ j7 : Nat, x3 = nI j7 ∧ j7 < 24 ∧ ((¬ ((mI M4 (a + 2) j7 &&& 1) = 0) → Wn G m_X5_hangs (d + 1) 6 [(0, .ref a), (1, .int x1), (2, .int x2), (3, .int (x3 + 1))] [] X M4 Q) ∧ ((mI M4 (a + 2) j7 &&& 1) = 0 → ((r5 < 0 → Wn G m_X5_hangs (d + 1) 6 [(0, .ref a), (1, .int x1), (2, .int x2), (3, .int (x3 + 1))] [] X M4 Q) ∧ (¬ (r5 < 0) → (∃ j12 : Nat, r5 = nI j12 ∧ j12 < 24 ∧ (∀ v17 : Int32, v17 = (if (mI M4 (a + 1) j7) < (mI M4 (a + 1) j12) then 0 else (x2 + 1)) → (∀ v18 : Int32, v18 = (if x1 < v17 then v17 else x1) → Wn G m_X5_hangs (d + 1) 6 [(0, .ref a), (1, .int v18), (2, .int v17), (3, .int (x3 + 1))] [] X M4 Q)))))))))))) : Wn G m_X5_hangs (d + 1) 6 [(0, .ref a), (1, .int x1), (2, .int x2), (3, .int x3)] [] X M Q := by
  refine wp_iload_n 3 dX5_hangs_6 rfl rfl ?_
  refine wp_aload_n 0 dX5_hangs_7 rfl rfl ?_
  refine wp_getI dX5_hangs_8 fl_RX5_15 rfl (sh5_K hS) ?_
  refine wp_icmp_ge (tgt := 71) dX5_hangs_11 (by decide) (fun c1 => ?_) (fun c1 => ?_)
  · replace h := h.1 c1
    refine wp_iload_n 1 dX5_hangs_71 rfl rfl ?_
    exact wn_iret dX5_hangs_72 rfl h
  · replace h := h.2 c1
    refine wp_aload_n 0 dX5_hangs_14 rfl rfl ?_
    refine wp_iload_n 3 dX5_hangs_15 rfl rfl ?_
    obtain ⟨q2, o3, h⟩ := h
    refine wp_cvi dX5_hangs_16 ck_RX5_32 (sh5_K hS) (as := [.int x3]) rfl rfl (Nat.le_of_ble_eq_true rfl) o3 (fun M4 r5 o6 => ?_)
    replace h := h M4 r5 o6
    refine wp_istore (lo2 := [(4, .int _), (0, .ref _), (1, .int _), (2, .int _), (3, .int _)]) dX5_hangs_19 (by decide) rfl ?_
    refine wp_aload_n 1 dX5_hangs_21 rfl rfl ?_
    refine wp_getR dX5_hangs_22 fl_RX5_22 rfl (sh5_K hS) (sh5_F_lost hS) ?_
    refine wp_iload_n 4 dX5_hangs_25 rfl rfl ?_
    obtain ⟨j7, o8, o9, h⟩ := h
    refine wp_zald (n := 24) dX5_hangs_26 (sh5_K_lost hS) (sh5_N_lost hS) (by decide) o8 o9 ?_
    refine wp_if_ne (tgt := 65) dX5_hangs_27 (by decide) (fun c10 => ?_) (fun c10 => ?_)
    · replace h := h.1 c10
      refine wp_iinc (v := x3 + 1) (lo2 := [(3, .int _), (4, .int _), (0, .ref _), (1, .int _), (2, .int _)]) dX5_hangs_65 (q := 4) rfl rfl (by decide) rfl ?_
      refine wp_goto (tgt := 6) dX5_hangs_68 (by decide) ?_
      exact Wp.sub [2, 3, 4, 0] rfl h
    · replace h := h.2 c10
      refine wp_iload 0 dX5_hangs_30 rfl ?_
      refine wp_if_lt (tgt := 65) dX5_hangs_32 (by decide) (fun c11 => ?_) (fun c11 => ?_)
      · replace h := h.1 c11
        refine wp_iinc (v := x3 + 1) (lo2 := [(3, .int _), (4, .int _), (0, .ref _), (1, .int _), (2, .int _)]) dX5_hangs_65 (q := 4) rfl rfl (by decide) rfl ?_
        refine wp_goto (tgt := 6) dX5_hangs_68 (by decide) ?_
        exact Wp.sub [2, 3, 4, 0] rfl h
      · replace h := h.2 c11
        refine wp_aload_n 1 dX5_hangs_35 rfl rfl ?_
        refine wp_getR dX5_hangs_36 fl_RX5_18 rfl (sh5_K hS) (sh5_F_values hS) ?_
        refine wp_iload_n 4 dX5_hangs_39 rfl rfl ?_
        refine wp_iald (n := 24) dX5_hangs_40 (sh5_K_values hS) (sh5_N_values hS) (by decide) o8 o9 ?_
        refine wp_aload_n 1 dX5_hangs_41 rfl rfl ?_
        refine wp_getR dX5_hangs_42 fl_RX5_18 rfl (sh5_K hS) (sh5_F_values hS) ?_
        refine wp_iload 0 dX5_hangs_45 rfl ?_
        obtain ⟨j12, o13, o14, h⟩ := h
        refine wp_iald (n := 24) dX5_hangs_47 (sh5_K_values hS) (sh5_N_values hS) (by decide) o13 o14 ?_
        have K16 : Wp G m_X5_hangs (d + 1) 0 0 0 0 58 [(4, .int r5), (0, .ref a), (1, .int x1), (2, .int x2), (3, .int x3)] [.int ((if (mI M4 (a + 1) j7) < (mI M4 (a + 1) j12) then 0 else (x2 + 1)))] X M4 (fun X2 M2 v => X2 = X ∧ ∃ x, v = some (.int x) ∧ Q M2 x) := by
          refine wp_topi (fun v17 ev17 => ?_)
          replace h := h v17 ev17
          refine wp_istore_n (lo2 := [(2, .int _), (4, .int _), (0, .ref _), (1, .int _), (3, .int _)]) dX5_hangs_58 rfl (by decide) rfl ?_
          refine wp_iload_n 3 dX5_hangs_59 rfl rfl ?_
          refine wp_iload_n 0 dX5_hangs_60 rfl rfl ?_
          refine wp_mmax dX5_hangs_61 ml_RX5_36 ms_max mi_Math mc_max (Nat.le_of_ble_eq_true rfl) (Nat.le_refl _) (Nat.le_refl _) ?_
          refine wp_topi (fun v18 ev18 => ?_)
          replace h := h v18 ev18
          refine wp_istore_n (lo2 := [(1, .int _), (2, .int _), (4, .int _), (0, .ref _), (3, .int _)]) dX5_hangs_64 rfl (by decide) rfl ?_
          refine wp_iinc (v := x3 + 1) (lo2 := [(3, .int _), (1, .int _), (2, .int _), (4, .int _), (0, .ref _)]) dX5_hangs_65 (q := 4) rfl rfl (by decide) rfl ?_
          refine wp_goto (tgt := 6) dX5_hangs_68 (by decide) ?_
          exact Wp.sub [4, 1, 2, 0] rfl h
        refine wp_icmp_lt (tgt := 57) dX5_hangs_48 (by decide) (fun c15 => ?_) (fun c15 => ?_)
        · refine wp_iconst (v := 0) dX5_hangs_57 rfl ?_
          rw [if_pos c15] at K16
          exact K16
        · refine wp_iload_n 3 dX5_hangs_51 rfl rfl ?_
          refine wp_iconst (v := 1) dX5_hangs_52 rfl ?_
          refine wp_iadd dX5_hangs_53 ?_
          refine wp_goto (tgt := 58) dX5_hangs_54 (by decide) ?_
          rw [if_neg c15] at K16
          exact K16
theorem bX11_sound_0 {G : Gl} {d : Nat} {X : Sh} {M : Mm} {Q : Mm → Int32 → Prop} {a : Nat} {x1 : Int32} {x2 : Int32} {x3 : Int32} (hS : Sh10 X a) (hd : 1 ≤ d) (h : ((¬ (0 ≤ x1 ∧ x1 ≤ 3) → Q M (-1000000001)) ∧ (0 ≤ x1 ∧ x1 ≤ 3 → ((¬ (0 ≤ x2 ∧ x2 ≤ 1) → Q M (-1000000001)) ∧ (0 ≤ x2 ∧ x2 ≤ 1 → ((¬ (x2 = 1) → (∃ j4 : Nat, x1 = nI j4 ∧ j4 < 4 ∧ ((0 ≤ (mI M (a + 4) j4) → Wn G m_X11_sound (d + 1) 66 [(0, .ref a), (1, .int x1), (2, .int x2), (3, .int x3), (4, .int 0), (5, .int 0), (6, .int 0), (7, .int (-1000000005)), (8, .int 0)] [] X M Q) ∧ (¬ (0 ≤ (mI M (a + 4) j4)) → Q M (-1000000011))))) ∧ (x2 = 1 → ((0 ≤ x3 ∧ x3 ≤ 9999 → (∃ j9 : Nat, x1 = nI j9 ∧ j9 < 4 ∧ ((0 ≤ (mI M (a + 4) j9) → Wn G m_X11_sound (d + 1) 66 [(0, .ref a), (1, .int x1), (2, .int x2), (3, .int x3), (4, .int 0), (5, .int 0), (6, .int 0), (7, .int (-1000000005)), (8, .int 0)] [] X M Q) ∧ (¬ (0 ≤ (mI M (a + 4) j9)) → Q M (-1000000011))))) ∧ (¬ (0 ≤ x3 ∧ x3 ≤ 9999) → Q M (-1000000001)))))))))) : Wn G m_X11_sound (d + 1) 0 [(0, .ref a), (1, .int x1), (2, .int x2), (3, .int x3)] [] X M Q := by
  refine wp_iload_n 1 dX11_sound_0 rfl rfl ?_
  refine wp_csip dX11_sound_1 ck_RX11_324 rfl (as := [.int x1]) rfl rfl (Nat.le_of_ble_eq_true rfl) (cp_X11_isSheet G d (by omega) X M x1) ?_
  refine wp_ifB_eq (inferInstance) (tgt := 34) dX11_sound_4 (by decide) (fun c1 => ?_) (fun c1 => ?_)
  · replace h := h.1 c1
    refine wp_ldc dX11_sound_34 kc_RX11_100 ?_
    exact wn_iret dX11_sound_36 rfl h
  · replace h := h.2 c1
    refine wp_iload_n 2 dX11_sound_7 rfl rfl ?_
    refine wp_i2l dX11_sound_8 ?_
    refine wp_lconst (v := 0) dX11_sound_9 rfl ?_
    refine wp_lconst (v := 1) dX11_sound_10 rfl ?_
    refine wp_csip dX11_sound_11 ck_RX11_78 rfl (as := [.long x2.toInt64, .long 0, .long 1]) rfl rfl (Nat.le_of_ble_eq_true rfl) (cp_X11_isIn G d X M x2 0 1 (by decide) (by decide)) ?_
    refine wp_ifB_eq (inferInstance) (tgt := 34) dX11_sound_14 (by decide) (fun c2 => ?_) (fun c2 => ?_)
    · replace h := h.1 c2
      refine wp_ldc dX11_sound_34 kc_RX11_100 ?_
      exact wn_iret dX11_sound_36 rfl h
    · replace h := h.2 c2
      refine wp_iload_n 2 dX11_sound_17 rfl rfl ?_
      refine wp_iconst (v := 1) dX11_sound_18 rfl ?_
      refine wp_icmp_ne (tgt := 37) dX11_sound_19 (by decide) (fun c3 => ?_) (fun c3 => ?_)
      · replace h := h.1 c3
        refine wp_aload_n 0 dX11_sound_37 rfl rfl ?_
        refine wp_getR dX11_sound_38 fl_RX11_19 rfl (sh10_K hS) (sh10_F_tSort hS) ?_
        refine wp_iload_n 1 dX11_sound_41 rfl rfl ?_
        obtain ⟨j4, o5, o6, h⟩ := h
        refine wp_iald (n := 4) dX11_sound_42 (sh10_K_tSort hS) (sh10_N_tSort hS) (by decide) o5 o6 ?_
        refine wp_if_ge (tgt := 50) dX11_sound_43 (by decide) (fun c7 => ?_) (fun c7 => ?_)
        · replace h := h.1 c7
          refine wp_iconst (v := 0) dX11_sound_50 rfl ?_
          refine wp_istore (lo2 := [(4, .int _), (0, .ref _), (1, .int _), (2, .int _), (3, .int _)]) dX11_sound_51 (by decide) rfl ?_
          refine wp_iconst (v := 0) dX11_sound_53 rfl ?_
          refine wp_istore (lo2 := [(5, .int _), (4, .int _), (0, .ref _), (1, .int _), (2, .int _), (3, .int _)]) dX11_sound_54 (by decide) rfl ?_
          refine wp_iconst (v := 0) dX11_sound_56 rfl ?_
          refine wp_istore (lo2 := [(6, .int _), (5, .int _), (4, .int _), (0, .ref _), (1, .int _), (2, .int _), (3, .int _)]) dX11_sound_57 (by decide) rfl ?_
          refine wp_ldc dX11_sound_59 kc_RX11_77 ?_
          refine wp_istore (lo2 := [(7, .int _), (6, .int _), (5, .int _), (4, .int _), (0, .ref _), (1, .int _), (2, .int _), (3, .int _)]) dX11_sound_61 (by decide) rfl ?_
          refine wp_iconst (v := 0) dX11_sound_63 rfl ?_
          refine wp_istore (lo2 := [(8, .int _), (7, .int _), (6, .int _), (5, .int _), (4, .int _), (0, .ref _), (1, .int _), (2, .int _), (3, .int _)]) dX11_sound_64 (by decide) rfl ?_
          exact Wp.sub [5, 6, 7, 8, 4, 3, 2, 1, 0] rfl h
        · replace h := h.2 c7
          refine wp_ldcw dX11_sound_46 kc_RX11_328 ?_
          exact wn_iret dX11_sound_49 rfl h
      · replace h := h.2 c3
        refine wp_iload_n 3 dX11_sound_22 rfl rfl ?_
        refine wp_i2l dX11_sound_23 ?_
        refine wp_lconst (v := 0) dX11_sound_24 rfl ?_
        refine wp_ldc2 dX11_sound_25 kc_RX11_98 ?_
        refine wp_csip dX11_sound_28 ck_RX11_78 rfl (as := [.long x3.toInt64, .long 0, .long 9999]) rfl rfl (Nat.le_of_ble_eq_true rfl) (cp_X11_isIn G d X M x3 0 9999 (by decide) (by decide)) ?_
        refine wp_ifB_ne (inferInstance) (tgt := 37) dX11_sound_31 (by decide) (fun c8 => ?_) (fun c8 => ?_)
        · replace h := h.1 c8
          refine wp_aload_n 0 dX11_sound_37 rfl rfl ?_
          refine wp_getR dX11_sound_38 fl_RX11_19 rfl (sh10_K hS) (sh10_F_tSort hS) ?_
          refine wp_iload_n 1 dX11_sound_41 rfl rfl ?_
          obtain ⟨j9, o10, o11, h⟩ := h
          refine wp_iald (n := 4) dX11_sound_42 (sh10_K_tSort hS) (sh10_N_tSort hS) (by decide) o10 o11 ?_
          refine wp_if_ge (tgt := 50) dX11_sound_43 (by decide) (fun c12 => ?_) (fun c12 => ?_)
          · replace h := h.1 c12
            refine wp_iconst (v := 0) dX11_sound_50 rfl ?_
            refine wp_istore (lo2 := [(4, .int _), (0, .ref _), (1, .int _), (2, .int _), (3, .int _)]) dX11_sound_51 (by decide) rfl ?_
            refine wp_iconst (v := 0) dX11_sound_53 rfl ?_
            refine wp_istore (lo2 := [(5, .int _), (4, .int _), (0, .ref _), (1, .int _), (2, .int _), (3, .int _)]) dX11_sound_54 (by decide) rfl ?_
            refine wp_iconst (v := 0) dX11_sound_56 rfl ?_
            refine wp_istore (lo2 := [(6, .int _), (5, .int _), (4, .int _), (0, .ref _), (1, .int _), (2, .int _), (3, .int _)]) dX11_sound_57 (by decide) rfl ?_
            refine wp_ldc dX11_sound_59 kc_RX11_77 ?_
            refine wp_istore (lo2 := [(7, .int _), (6, .int _), (5, .int _), (4, .int _), (0, .ref _), (1, .int _), (2, .int _), (3, .int _)]) dX11_sound_61 (by decide) rfl ?_
            refine wp_iconst (v := 0) dX11_sound_63 rfl ?_
            refine wp_istore (lo2 := [(8, .int _), (7, .int _), (6, .int _), (5, .int _), (4, .int _), (0, .ref _), (1, .int _), (2, .int _), (3, .int _)]) dX11_sound_64 (by decide) rfl ?_
            exact Wp.sub [5, 6, 7, 8, 4, 3, 2, 1, 0] rfl h
          · replace h := h.2 c12
            refine wp_ldcw dX11_sound_46 kc_RX11_328 ?_
            exact wn_iret dX11_sound_49 rfl h
        · replace h := h.2 c8
          refine wp_ldc dX11_sound_34 kc_RX11_100 ?_
          exact wn_iret dX11_sound_36 rfl h
theorem bX11_sound_66 {G : Gl} {d : Nat} {X : Sh} {M : Mm} {Q : Mm → Int32 → Prop} {a : Nat} {x1 : Int32} {x2 : Int32} {x3 : Int32} {x4 : Int32} {x5 : Int32} {x6 : Int32} {x7 : Int32} {x8 : Int32} (hS : Sh10 X a) (h : (∃ j1 : Nat, x1 = nI j1 ∧ j1 < 4 ∧ (((mI M (a + 5) j1) ≤ x8 → Q M (if x2 = 0 then x4 else x6)) ∧ (¬ ((mI M (a + 5) j1) ≤ x8) → (∃ j7 : Nat, ((24 * x1) + x8) = nI j7 ∧ j7 < 96 ∧ (∀ v10 : Int32, v10 = (mI M (a + 6) j7) → ((v10 = (-1000000005) → Wn G m_X11_sound (d + 1) 66 [(0, .ref a), (1, .int x1), (2, .int x2), (3, .int x3), (4, .int x4), (5, .int x5), (6, .int x6), (7, .int x7), (8, .int (x8 + 1))] [] X M Q) ∧ (¬ (v10 = (-1000000005)) → (∀ v15 : Int32, v15 = (if x7 = (-1000000005) then 0 else (if v10 < x7 then 0 else (x5 + 1))) → (∀ v18 : Int32, v18 = (if v15 ≤ x4 then x4 else v15) → (∀ v22 : Int32, v22 = (x6 + (if ((¬ (x7 = (-1000000005))) ∧ (¬ ((x7 - v10) ≤ x3))) then 1 else 0)) → Wn G m_X11_sound (d + 1) 66 [(0, .ref a), (1, .int x1), (2, .int x2), (3, .int x3), (4, .int v18), (5, .int v15), (6, .int v22), (7, .int v10), (8, .int (x8 + 1))] [] X M Q))))))))))) : Wn G m_X11_sound (d + 1) 66 [(0, .ref a), (1, .int x1), (2, .int x2), (3, .int x3), (4, .int x4), (5, .int x5), (6, .int x6), (7, .int x7), (8, .int x8)] [] X M Q := by
  refine wp_iload 8 dX11_sound_66 rfl ?_
  refine wp_aload_n 0 dX11_sound_68 rfl rfl ?_
  refine wp_getR dX11_sound_69 fl_RX11_22 rfl (sh10_K hS) (sh10_F_tSize hS) ?_
  refine wp_iload_n 1 dX11_sound_72 rfl rfl ?_
  obtain ⟨j1, o2, o3, h⟩ := h
  refine wp_iald (n := 4) dX11_sound_73 (sh10_K_tSize hS) (sh10_N_tSize hS) (by decide) o2 o3 ?_
  refine wp_icmp_ge (tgt := 174) dX11_sound_74 (by decide) (fun c4 => ?_) (fun c4 => ?_)
  · replace h := h.1 c4
    refine wp_iload_n 2 dX11_sound_174 rfl rfl ?_
    have K6 : Wp G m_X11_sound (d + 1) 0 0 0 0 185 [(0, .ref a), (1, .int x1), (2, .int x2), (3, .int x3), (4, .int x4), (5, .int x5), (6, .int x6), (7, .int x7), (8, .int x8)] [.int ((if x2 = 0 then x4 else x6))] X M (fun X2 M2 v => X2 = X ∧ ∃ x, v = some (.int x) ∧ Q M2 x) := by
      exact wn_iret dX11_sound_185 rfl h
    refine wp_if_ne (tgt := 183) dX11_sound_175 (by decide) (fun c5 => ?_) (fun c5 => ?_)
    · refine wp_iload 6 dX11_sound_183 rfl ?_
      rw [if_neg c5] at K6
      exact K6
    · refine wp_iload 4 dX11_sound_178 rfl ?_
      refine wp_goto (tgt := 185) dX11_sound_180 (by decide) ?_
      rw [if_pos c5] at K6
      exact K6
  · replace h := h.2 c4
    refine wp_aload_n 0 dX11_sound_77 rfl rfl ?_
    refine wp_getR dX11_sound_78 fl_RX11_25 rfl (sh10_K hS) (sh10_F_tNumber hS) ?_
    refine wp_bipush (v := 24) dX11_sound_81 rfl ?_
    refine wp_iload_n 1 dX11_sound_83 rfl rfl ?_
    refine wp_imul dX11_sound_84 ?_
    refine wp_iload 8 dX11_sound_85 rfl ?_
    refine wp_iadd dX11_sound_87 ?_
    obtain ⟨j7, o8, o9, h⟩ := h
    refine wp_iald (n := 96) dX11_sound_88 (sh10_K_tNumber hS) (sh10_N_tNumber hS) (by decide) o8 o9 ?_
    refine wp_topi (fun v10 ev10 => ?_)
    replace h := h v10 ev10
    refine wp_istore (lo2 := [(9, .int _), (0, .ref _), (1, .int _), (2, .int _), (3, .int _), (4, .int _), (5, .int _), (6, .int _), (7, .int _), (8, .int _)]) dX11_sound_89 (by decide) rfl ?_
    refine wp_iload 0 dX11_sound_91 rfl ?_
    refine wp_ldc dX11_sound_93 kc_RX11_77 ?_
    refine wp_icmp_eq (tgt := 168) dX11_sound_95 (by decide) (fun c11 => ?_) (fun c11 => ?_)
    · replace h := h.1 c11
      refine wp_iinc (v := x8 + 1) (lo2 := [(8, .int _), (9, .int _), (0, .ref _), (1, .int _), (2, .int _), (3, .int _), (4, .int _), (5, .int _), (6, .int _), (7, .int _)]) dX11_sound_168 (q := 9) rfl rfl (by decide) rfl ?_
      refine wp_goto (tgt := 66) dX11_sound_171 (by decide) ?_
      exact Wp.sub [2, 3, 4, 5, 6, 7, 8, 9, 0] rfl h
    · replace h := h.2 c11
      refine wp_iload 8 dX11_sound_98 rfl ?_
      refine wp_ldc dX11_sound_100 kc_RX11_77 ?_
      have K14 : Wp G m_X11_sound (d + 1) 0 0 0 0 120 [(9, .int v10), (0, .ref a), (1, .int x1), (2, .int x2), (3, .int x3), (4, .int x4), (5, .int x5), (6, .int x6), (7, .int x7), (8, .int x8)] [.int ((if x7 = (-1000000005) then 0 else (if v10 < x7 then 0 else (x5 + 1))))] X M (fun X2 M2 v => X2 = X ∧ ∃ x, v = some (.int x) ∧ Q M2 x) := by
        refine wp_topi (fun v15 ev15 => ?_)
        replace h := h v15 ev15
        refine wp_istore (lo2 := [(5, .int _), (9, .int _), (0, .ref _), (1, .int _), (2, .int _), (3, .int _), (4, .int _), (6, .int _), (7, .int _), (8, .int _)]) dX11_sound_120 (by decide) rfl ?_
        refine wp_iload 0 dX11_sound_122 rfl ?_
        refine wp_iload 6 dX11_sound_124 rfl ?_
        have K17 : Wp G m_X11_sound (d + 1) 0 0 0 0 136 [(5, .int v15), (9, .int v10), (0, .ref a), (1, .int x1), (2, .int x2), (3, .int x3), (4, .int x4), (6, .int x6), (7, .int x7), (8, .int x8)] [.int ((if v15 ≤ x4 then x4 else v15))] X M (fun X2 M2 v => X2 = X ∧ ∃ x, v = some (.int x) ∧ Q M2 x) := by
          refine wp_topi (fun v18 ev18 => ?_)
          replace h := h v18 ev18
          refine wp_istore (lo2 := [(4, .int _), (5, .int _), (9, .int _), (0, .ref _), (1, .int _), (2, .int _), (3, .int _), (6, .int _), (7, .int _), (8, .int _)]) dX11_sound_136 (by decide) rfl ?_
          refine wp_iload 7 dX11_sound_138 rfl ?_
          refine wp_iload 8 dX11_sound_140 rfl ?_
          refine wp_ldc dX11_sound_142 kc_RX11_77 ?_
          have K21 : Wp G m_X11_sound (d + 1) 0 0 0 0 161 [(4, .int v18), (5, .int v15), (9, .int v10), (0, .ref a), (1, .int x1), (2, .int x2), (3, .int x3), (6, .int x6), (7, .int x7), (8, .int x8)] [.int (if ((¬ (x7 = (-1000000005))) ∧ (¬ ((x7 - v10) ≤ x3))) then 1 else 0), .int x6] X M (fun X2 M2 v => X2 = X ∧ ∃ x, v = some (.int x) ∧ Q M2 x) := by
            refine wp_iadd dX11_sound_161 ?_
            refine wp_topi (fun v22 ev22 => ?_)
            replace h := h v22 ev22
            refine wp_istore (lo2 := [(6, .int _), (4, .int _), (5, .int _), (9, .int _), (0, .ref _), (1, .int _), (2, .int _), (3, .int _), (7, .int _), (8, .int _)]) dX11_sound_162 (by decide) rfl ?_
            refine wp_iload 3 dX11_sound_164 rfl ?_
            refine wp_istore (lo2 := [(7, .int _), (6, .int _), (4, .int _), (5, .int _), (9, .int _), (0, .ref _), (1, .int _), (2, .int _), (3, .int _), (8, .int _)]) dX11_sound_166 (by decide) rfl ?_
            refine wp_iinc (v := x8 + 1) (lo2 := [(8, .int _), (7, .int _), (6, .int _), (4, .int _), (5, .int _), (9, .int _), (0, .ref _), (1, .int _), (2, .int _), (3, .int _)]) dX11_sound_168 (q := 9) rfl rfl (by decide) rfl ?_
            refine wp_goto (tgt := 66) dX11_sound_171 (by decide) ?_
            exact Wp.sub [6, 7, 8, 9, 3, 4, 2, 1, 0] rfl h
          refine wp_icmp_eq (tgt := 160) dX11_sound_144 (by decide) (fun c19 => ?_) (fun c19 => ?_)
          · refine wp_iconst (v := 0) dX11_sound_160 rfl ?_
            rw [if_neg (fun q => (fun q => q c19) q.1)] at K21
            exact K21
          · refine wp_iload 8 dX11_sound_147 rfl ?_
            refine wp_iload 2 dX11_sound_149 rfl ?_
            refine wp_isub dX11_sound_151 ?_
            refine wp_iload_n 6 dX11_sound_152 rfl rfl ?_
            refine wp_icmp_le (tgt := 160) dX11_sound_153 (by decide) (fun c20 => ?_) (fun c20 => ?_)
            · refine wp_iconst (v := 0) dX11_sound_160 rfl ?_
              rw [if_neg (fun q => (fun q => q c20) q.2)] at K21
              exact K21
            · refine wp_iconst (v := 1) dX11_sound_156 rfl ?_
              refine wp_goto (tgt := 161) dX11_sound_157 (by decide) ?_
              rw [if_pos ⟨c19, c20⟩] at K21
              exact K21
        refine wp_icmp_le (tgt := 134) dX11_sound_126 (by decide) (fun c16 => ?_) (fun c16 => ?_)
        · refine wp_iload 6 dX11_sound_134 rfl ?_
          rw [if_pos c16] at K17
          exact K17
        · refine wp_iload 0 dX11_sound_129 rfl ?_
          refine wp_goto (tgt := 136) dX11_sound_131 (by decide) ?_
          rw [if_neg c16] at K17
          exact K17
      refine wp_icmp_eq (tgt := 119) dX11_sound_102 (by decide) (fun c12 => ?_) (fun c12 => ?_)
      · refine wp_iconst (v := 0) dX11_sound_119 rfl ?_
        rw [if_pos c12] at K14
        exact K14
      · refine wp_iload 0 dX11_sound_105 rfl ?_
        refine wp_iload 8 dX11_sound_107 rfl ?_
        refine wp_icmp_lt (tgt := 119) dX11_sound_109 (by decide) (fun c13 => ?_) (fun c13 => ?_)
        · refine wp_iconst (v := 0) dX11_sound_119 rfl ?_
          rw [if_neg c12] at K14
          rw [if_pos c13] at K14
          exact K14
        · refine wp_iload 6 dX11_sound_112 rfl ?_
          refine wp_iconst (v := 1) dX11_sound_114 rfl ?_
          refine wp_iadd dX11_sound_115 ?_
          refine wp_goto (tgt := 120) dX11_sound_116 (by decide) ?_
          rw [if_neg c12] at K14
          rw [if_neg c13] at K14
          exact K14
/-- the number ahead of place k, or none -/
def kAv (x : Nat → Int32) (k : Nat) : Int32 := match kA x k with
  | none => -1000000005
  | some i => x i
/-- behind the first k places: most in a row, in a row now, slips by more than n -/
def sd (x : Nat → Int32) (n : Int32) : Nat → Int32 × Int32 × Int32
  | 0 => (0, 0, 0)
  | k + 1 => if x k = -1000000005 then sd x n k else
    (if (if kAv x k = -1000000005 then 0 else (if x k < kAv x k then 0 else (sd x n k).2.1 + 1)) ≤ (sd x n k).1 then (sd x n k).1 else (if kAv x k = -1000000005 then 0 else (if x k < kAv x k then 0 else (sd x n k).2.1 + 1)),
     if kAv x k = -1000000005 then 0 else (if x k < kAv x k then 0 else (sd x n k).2.1 + 1),
     (sd x n k).2.2 + (if (¬ (kAv x k = -1000000005)) ∧ (¬ ((kAv x k - x k) ≤ n)) then 1 else 0))
theorem sd_none {x : Nat → Int32} {n : Int32} : ∀ {k : Nat}, kA x k = none → sd x n k = (0, 0, 0)
  | 0, _ => rfl
  | k + 1, h => by
    have h' : (if x k = -1000000005 then kA x k else some k) = none := h
    by_cases q : x k = -1000000005
    · rw [if_pos q] at h'
      have e : sd x n (k + 1) = sd x n k := if_pos q
      rw [e]
      exact sd_none h'
    · rw [if_neg q] at h'
      cases h'
theorem kAv_none {x : Nat → Int32} {k : Nat} (h : kA x k = none) : kAv x k = -1000000005 := by
  unfold kAv
  rw [h]
theorem kAv_some {x : Nat → Int32} {k i : Nat} (h : kA x k = some i) : kAv x k = x i := by
  unfold kAv
  rw [h]
theorem cl_hangs (G : Gl) (d : Nat) {X : Sh} {M : Mm} {a N : Nat} {x : Nat → Int32} {n : Int32} {Q : Mm → Int32 → Prop} (hS : Sh5 X a) (hN : N ≤ 24) (hc : Cells M a x) (hn : mI M a 1 = nI N) (hq : Q M (sd x n N).1) : ∀ m k : Nat, k + m = N → Wn G m_X5_hangs (d + 1) 6 [(0, .ref a), (1, .int (sd x n k).1), (2, .int (sd x n k).2.1), (3, .int (nI k))] [] X M Q
  | 0, k, h => by
    have hk : k = N := h
    subst hk
    exact bX5_hangs_6 hS ⟨fun _ => hq, fun q => absurd (by rw [hn]; exact Int32.le_refl _) q⟩
  | m + 1, k, h => by
    have ih := cl_hangs G d hS hN hc hn hq m (k + 1) (by omega)
    have hl := cell_lost (hc k (by omega))
    have hkn : kAi x k = match kA x k with | none => -1 | some i => nI i := rfl
    refine bX5_hangs_6 hS ⟨fun q => ?_, fun _ => ⟨_, cp_X5_knownAhead G d X M a k x hS hc (by omega), ?_⟩⟩
    · rw [hn] at q
      have := (nI_leI (by omega) (by omega)).mp q
      omega
    rintro M4 r5 ⟨e, e5⟩
    have e := e.symm
    subst e
    refine ⟨k, rfl, by omega, fun q => ?_, fun q => ?_⟩
    · have z : x k = -1000000005 := Decidable.byContradiction (fun z => q (hl.mpr z))
      have e : sd x n (k + 1) = sd x n k := if_pos z
      rw [e] at ih
      rw [nI_1]
      exact ih
    · have z := hl.mp q
      have e : sd x n (k + 1) = _ := if_neg z
      rw [e] at ih
      have xk : mI M (a + 1) k = x k := by
        rcases hc k (by omega) with ⟨h1, _⟩ | ⟨_, _, h3⟩
        · exact absurd h1 z
        · exact h3
      cases hka : kA x k with
      | none =>
        rw [hka] at hkn
        have e0 := sd_none (n := n) hka
        refine ⟨fun _ => ?_, fun q2 => absurd (by rw [e5, hkn]; decide) q2⟩
        rw [kAv_none hka, e0] at ih
        rw [e0, nI_1]
        exact ih
      | some i =>
        rw [hka] at hkn
        have hi := kA_lt hka
        have xi : mI M (a + 1) i = x i := by
          rcases hc i (by omega) with ⟨h1, _⟩ | ⟨_, _, h3⟩
          · exact absurd h1 hi.2
          · exact h3
        refine ⟨fun q2 => ?_, fun _ => ⟨i, by rw [e5, hkn], by omega, ?_⟩⟩
        · rw [e5, hkn] at q2
          exact absurd q2 (nI_pos (by omega))
        · intro v17 e17 v18 e18
          rw [xk, xi] at e17
          rw [kAv_some hka] at ih
          simp only [hi.2, if_false] at ih
          rw [← e17] at ih
          have e3 : v18 = if v17 ≤ (sd x n k).1 then (sd x n k).1 else v17 := by
            rw [e18]
            by_cases w : (sd x n k).1 < v17
            · rw [if_pos w, if_neg (i_nle.mpr w)]
            · rw [if_neg w, if_pos (i_nlt.mp w)]
          rw [← e3] at ih
          rw [nI_1]
          exact ih
