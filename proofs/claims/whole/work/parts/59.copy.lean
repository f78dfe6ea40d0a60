/-! the call copy -/
theorem bX5_hasRow_0 {G : Gl} {d : Nat} {X : Sh} {M : Mm} {Q : Mm → Int32 → Prop} {a : Nat} {x1 : Int32} {x2 : Int32} (hS : Sh5 X a) (h : Q M (if ((¬ (x1 < 0)) ∧ (((¬ ((mI M a 1) < x1)) ∧ (((¬ (x2 < 0)) ∧ (¬ (((mI M a 1) - x1) < x2))))))) then 1 else 0)) : Wn G m_X5_hasRow d 0 [(0, .ref a), (1, .int x1), (2, .int x2)] [] X M Q := by
  refine wp_iload_n 1 dX5_hasRow_0 rfl rfl ?_
  have K5 : Wp G m_X5_hasRow d 0 0 0 0 31 [(0, .ref a), (1, .int x1), (2, .int x2)] [.int (if ((¬ (x1 < 0)) ∧ (((¬ ((mI M a 1) < x1)) ∧ (((¬ (x2 < 0)) ∧ (¬ (((mI M a 1) - x1) < x2))))))) then 1 else 0)] X M (fun X2 M2 v => X2 = X ∧ ∃ x, v = some (.int x) ∧ Q M2 x) := by
    exact wn_zret dX5_hasRow_31 rfl (ite_01 _) h
  refine wp_if_lt (tgt := 30) dX5_hasRow_1 (by decide) (fun c1 => ?_) (fun c1 => ?_)
  · refine wp_iconst (v := 0) dX5_hasRow_30 rfl ?_
    rw [if_neg (fun q => (fun q => q c1) q.1)] at K5
    exact K5
  · refine wp_iload_n 1 dX5_hasRow_4 rfl rfl ?_
    refine wp_aload_n 0 dX5_hasRow_5 rfl rfl ?_
    refine wp_getI dX5_hasRow_6 fl_RX5_15 rfl (sh5_K hS) ?_
    refine wp_icmp_gt (tgt := 30) dX5_hasRow_9 (by decide) (fun c4 => ?_) (fun c4 => ?_)
    · refine wp_iconst (v := 0) dX5_hasRow_30 rfl ?_
      rw [if_neg (fun q => (fun q => (fun q => q c4) q.1) q.2)] at K5
      exact K5
    · refine wp_iload_n 2 dX5_hasRow_12 rfl rfl ?_
      refine wp_if_lt (tgt := 30) dX5_hasRow_13 (by decide) (fun c3 => ?_) (fun c3 => ?_)
      · refine wp_iconst (v := 0) dX5_hasRow_30 rfl ?_
        rw [if_neg (fun q => (fun q => (fun q => (fun q => q c3) q.1) q.2) q.2)] at K5
        exact K5
      · refine wp_iload_n 2 dX5_hasRow_16 rfl rfl ?_
        refine wp_aload_n 0 dX5_hasRow_17 rfl rfl ?_
        refine wp_getI dX5_hasRow_18 fl_RX5_15 rfl (sh5_K hS) ?_
        refine wp_iload_n 1 dX5_hasRow_21 rfl rfl ?_
        refine wp_isub dX5_hasRow_22 ?_
        refine wp_icmp_gt (tgt := 30) dX5_hasRow_23 (by decide) (fun c2 => ?_) (fun c2 => ?_)
        · refine wp_iconst (v := 0) dX5_hasRow_30 rfl ?_
          rw [if_neg (fun q => (fun q => (fun q => (fun q => q c2) q.2) q.2) q.2)] at K5
          exact K5
        · refine wp_iconst (v := 1) dX5_hasRow_26 rfl ?_
          refine wp_goto (tgt := 31) dX5_hasRow_27 (by decide) ?_
          rw [if_pos ⟨c1, ⟨c4, ⟨c3, c2⟩⟩⟩] at K5
          exact K5
theorem bX10_copy_0 {G : Gl} {d : Nat} {X : Sh} {M : Mm} {Q : Mm → Int32 → Prop} {a : Nat} {x1 : Int32} {x2 : Int32} {x3 : Int32} {x4 : Int32} {x5 : Int32} (hS : Sh9 X a) (hd : 1 ≤ d) (h : ((¬ (0 ≤ x1 ∧ x1 ≤ 3) → Q M (-1000000001)) ∧ (0 ≤ x1 ∧ x1 ≤ 3 → ((0 ≤ x3 ∧ x3 ≤ 3 → (∃ j3 : Nat, x1 = nI j3 ∧ j3 < 4 ∧ (∃ j6 : Nat, x3 = nI j6 ∧ j6 < 4 ∧ (((mI M (a + 232 + 3 * j3) 0) = (-1) → Q M (-1000000011)) ∧ (¬ ((mI M (a + 232 + 3 * j3) 0) = (-1)) → ((¬ ((mI M (a + 232 + 3 * j6) 0) = (-1)) → (((mI M (a + 232 + 3 * j3) 0) = (mI M (a + 232 + 3 * j6) 0) → (∃ q12 : Mm → Int32 → Prop, Cn G m_X5_hasRow d [.ref (a + 232 + 3 * j3), .int x2, .int x5] X M q12 ∧ ∀ M14 r15, q12 M14 r15 → ((r15 = 0 → Q M14 (-1000000013)) ∧ (¬ (r15 = 0) → (∃ q18 : Mm → Int32 → Prop, Cn G m_X5_hasRow d [.ref (a + 232 + 3 * j6), .int x4, .int x5] X M14 q18 ∧ ∀ M20 r21, q18 M20 r21 → ((¬ (r21 = 0) → (∃ j24 : Nat, x2 = nI j24 ∧ (∃ j26 : Nat, x4 = nI j26 ∧ (∃ j28 : Nat, x5 = nI j28 ∧ (j24 + j28 ≤ 24 ∧ (j26 + j28 ≤ 24 ∧ (∀ M32 : Mm, M32 = sC M20 ((a + 232 + 3 * j3) + 1) j24 ((a + 232 + 3 * j6) + 1) j26 j28 → (∃ j33 : Nat, x2 = nI j33 ∧ (∃ j35 : Nat, x4 = nI j35 ∧ (∃ j37 : Nat, x5 = nI j37 ∧ (j33 + j37 ≤ 24 ∧ (j35 + j37 ≤ 24 ∧ (∀ M41 : Mm, M41 = sC M32 ((a + 232 + 3 * j3) + 2) j33 ((a + 232 + 3 * j6) + 2) j35 j37 → Q M41 x5))))))))))))) ∧ (r21 = 0 → Q M20 (-1000000013)))))))) ∧ (¬ ((mI M (a + 232 + 3 * j3) 0) = (mI M (a + 232 + 3 * j6) 0)) → Q M (-1000000012)))) ∧ ((mI M (a + 232 + 3 * j6) 0) = (-1) → Q M (-1000000011)))))))) ∧ (¬ (0 ≤ x3 ∧ x3 ≤ 3) → Q M (-1000000001)))))) : Wn G m_X10_copy (d + 1) 0 [(0, .ref a), (1, .int x1), (2, .int x2), (3, .int x3), (4, .int x4), (5, .int x5)] [] X M Q := by
  refine wp_iload_n 1 dX10_copy_0 rfl rfl ?_
  refine wp_csip dX10_copy_1 ck_RX10_271 rfl (as := [.int x1]) rfl rfl (Nat.le_of_ble_eq_true rfl) (cp_X10_isSheet G d (by omega) X M x1) ?_
  refine wp_ifB_eq (inferInstance) (tgt := 14) dX10_copy_4 (by decide) (fun c1 => ?_) (fun c1 => ?_)
  · replace h := h.1 c1
    refine wp_ldc dX10_copy_14 kc_RX10_67 ?_
    exact wn_iret dX10_copy_16 rfl h
  · replace h := h.2 c1
    refine wp_iload_n 3 dX10_copy_7 rfl rfl ?_
    refine wp_csip dX10_copy_8 ck_RX10_271 rfl (as := [.int x3]) rfl rfl (Nat.le_of_ble_eq_true rfl) (cp_X10_isSheet G d (by omega) X M x3) ?_
    refine wp_ifB_ne (inferInstance) (tgt := 17) dX10_copy_11 (by decide) (fun c2 => ?_) (fun c2 => ?_)
    · replace h := h.1 c2
      refine wp_aload_n 0 dX10_copy_17 rfl rfl ?_
      refine wp_getR dX10_copy_18 fl_RX10_39 rfl (sh9_K hS) (sh9_F_sheets hS) ?_
      refine wp_iload_n 1 dX10_copy_21 rfl rfl ?_
      obtain ⟨j3, o4, o5, h⟩ := h
      refine wp_fald (n := 4) dX10_copy_22 (Or.inl (sh9_K_sheets hS)) (sh9_N_sheets hS) (by decide) o4 o5 (sh9_E_sheets hS j3 o5) ?_
      refine wp_astore (lo2 := [(6, .ref _), (0, .ref _), (1, .int _), (2, .int _), (3, .int _), (4, .int _), (5, .int _)]) dX10_copy_23 (by decide) rfl ?_
      refine wp_aload_n 1 dX10_copy_25 rfl rfl ?_
      refine wp_getR dX10_copy_26 fl_RX10_39 rfl (sh9_K hS) (sh9_F_sheets hS) ?_
      refine wp_iload_n 4 dX10_copy_29 rfl rfl ?_
      obtain ⟨j6, o7, o8, h⟩ := h
      refine wp_fald (n := 4) dX10_copy_30 (Or.inl (sh9_K_sheets hS)) (sh9_N_sheets hS) (by decide) o7 o8 (sh9_E_sheets hS j6 o8) ?_
      refine wp_astore (lo2 := [(7, .ref _), (6, .ref _), (0, .ref _), (1, .int _), (2, .int _), (3, .int _), (4, .int _), (5, .int _)]) dX10_copy_31 (by decide) rfl ?_
      refine wp_aload 1 dX10_copy_33 rfl ?_
      refine wp_getI dX10_copy_35 fl_RX10_278 rfl (sh5_K (sh9_ES_sheets hS j3 o5)) ?_
      refine wp_iconst (v := (-1)) dX10_copy_38 rfl ?_
      refine wp_icmp_eq (tgt := 51) dX10_copy_39 (by decide) (fun c9 => ?_) (fun c9 => ?_)
      · replace h := h.1 c9
        refine wp_ldcw dX10_copy_51 kc_RX10_281 ?_
        exact wn_iret dX10_copy_54 rfl h
      · replace h := h.2 c9
        refine wp_aload 0 dX10_copy_42 rfl ?_
        refine wp_getI dX10_copy_44 fl_RX10_278 rfl (sh5_K (sh9_ES_sheets hS j6 o8)) ?_
        refine wp_iconst (v := (-1)) dX10_copy_47 rfl ?_
        refine wp_icmp_ne (tgt := 55) dX10_copy_48 (by decide) (fun c10 => ?_) (fun c10 => ?_)
        · replace h := h.1 c10
          refine wp_aload 1 dX10_copy_55 rfl ?_
          refine wp_getI dX10_copy_57 fl_RX10_278 rfl (sh5_K (sh9_ES_sheets hS j3 o5)) ?_
          refine wp_aload 0 dX10_copy_60 rfl ?_
          refine wp_getI dX10_copy_62 fl_RX10_278 rfl (sh5_K (sh9_ES_sheets hS j6 o8)) ?_
          refine wp_icmp_eq (tgt := 71) dX10_copy_65 (by decide) (fun c11 => ?_) (fun c11 => ?_)
          · replace h := h.1 c11
            refine wp_aload 1 dX10_copy_71 rfl ?_
            refine wp_iload_n 4 dX10_copy_73 rfl rfl ?_
            refine wp_iload 7 dX10_copy_74 rfl ?_
            obtain ⟨q12, o13, h⟩ := h
            refine wp_cvi dX10_copy_76 ck_RX10_298 (sh5_K (sh9_ES_sheets hS j3 o5)) (as := [.int x2, .int x5]) rfl rfl (Nat.le_of_ble_eq_true rfl) o13 (fun M14 r15 o16 => ?_)
            replace h := h M14 r15 o16
            refine wp_if_eq (tgt := 94) dX10_copy_79 (by decide) (fun c17 => ?_) (fun c17 => ?_)
            · replace h := h.1 c17
              refine wp_ldcw dX10_copy_94 kc_RX10_283 ?_
              exact wn_iret dX10_copy_97 rfl h
            · replace h := h.2 c17
              refine wp_aload 0 dX10_copy_82 rfl ?_
              refine wp_iload 6 dX10_copy_84 rfl ?_
              refine wp_iload 7 dX10_copy_86 rfl ?_
              obtain ⟨q18, o19, h⟩ := h
              refine wp_cvi dX10_copy_88 ck_RX10_298 (sh5_K (sh9_ES_sheets hS j6 o8)) (as := [.int x4, .int x5]) rfl rfl (Nat.le_of_ble_eq_true rfl) o19 (fun M20 r21 o22 => ?_)
              replace h := h M20 r21 o22
              refine wp_if_ne (tgt := 98) dX10_copy_91 (by decide) (fun c23 => ?_) (fun c23 => ?_)
              · replace h := h.1 c23
                refine wp_aload 1 dX10_copy_98 rfl ?_
                refine wp_getR dX10_copy_100 fl_RX10_301 rfl (sh5_K (sh9_ES_sheets hS j3 o5)) (sh5_F_values (sh9_ES_sheets hS j3 o5)) ?_
                refine wp_iload_n 4 dX10_copy_103 rfl rfl ?_
                refine wp_aload 0 dX10_copy_104 rfl ?_
                refine wp_getR dX10_copy_106 fl_RX10_301 rfl (sh5_K (sh9_ES_sheets hS j6 o8)) (sh5_F_values (sh9_ES_sheets hS j6 o8)) ?_
                refine wp_iload 6 dX10_copy_109 rfl ?_
                refine wp_iload 7 dX10_copy_111 rfl ?_
                obtain ⟨j24, o25, h⟩ := h
                obtain ⟨j26, o27, h⟩ := h
                obtain ⟨j28, o29, h⟩ := h
                obtain ⟨o30, h⟩ := h
                obtain ⟨o31, h⟩ := h
                refine wp_copy (n0 := 24) (n1 := 24) dX10_copy_113 cc_RX10_304 (sh5_K_values (sh9_ES_sheets hS j3 o5)) (sh5_K_values (sh9_ES_sheets hS j6 o8)) (sh5_N_values (sh9_ES_sheets hS j3 o5)) (sh5_N_values (sh9_ES_sheets hS j6 o8)) (by decide) (by decide) o25 o27 o29 o30 o31 (Nat.le_of_ble_eq_true rfl) ?_
                refine wp_nm (fun M32 eM32 => ?_)
                replace h := h M32 eM32
                refine wp_aload 1 dX10_copy_116 rfl ?_
                refine wp_getR dX10_copy_118 fl_RX10_310 rfl (sh5_K (sh9_ES_sheets hS j3 o5)) (sh5_F_lost (sh9_ES_sheets hS j3 o5)) ?_
                refine wp_iload_n 4 dX10_copy_121 rfl rfl ?_
                refine wp_aload 0 dX10_copy_122 rfl ?_
                refine wp_getR dX10_copy_124 fl_RX10_310 rfl (sh5_K (sh9_ES_sheets hS j6 o8)) (sh5_F_lost (sh9_ES_sheets hS j6 o8)) ?_
                refine wp_iload 6 dX10_copy_127 rfl ?_
                refine wp_iload 7 dX10_copy_129 rfl ?_
                obtain ⟨j33, o34, h⟩ := h
                obtain ⟨j35, o36, h⟩ := h
                obtain ⟨j37, o38, h⟩ := h
                obtain ⟨o39, h⟩ := h
                obtain ⟨o40, h⟩ := h
                refine wp_copyZ (n0 := 24) (n1 := 24) dX10_copy_131 cc_RX10_304 (sh5_K_lost (sh9_ES_sheets hS j3 o5)) (sh5_K_lost (sh9_ES_sheets hS j6 o8)) (sh5_N_lost (sh9_ES_sheets hS j3 o5)) (sh5_N_lost (sh9_ES_sheets hS j6 o8)) (by decide) (by decide) o34 o36 o38 o39 o40 (Nat.le_of_ble_eq_true rfl) ?_
                refine wp_nm (fun M41 eM41 => ?_)
                replace h := h M41 eM41
                refine wp_iload 7 dX10_copy_134 rfl ?_
                exact wn_iret dX10_copy_136 rfl h
              · replace h := h.2 c23
                refine wp_ldcw dX10_copy_94 kc_RX10_283 ?_
                exact wn_iret dX10_copy_97 rfl h
          · replace h := h.2 c11
            refine wp_ldc dX10_copy_68 kc_RX10_110 ?_
            exact wn_iret dX10_copy_70 rfl h
        · replace h := h.2 c10
          refine wp_ldcw dX10_copy_51 kc_RX10_281 ?_
          exact wn_iret dX10_copy_54 rfl h
    · replace h := h.2 c2
      refine wp_ldc dX10_copy_14 kc_RX10_67 ?_
      exact wn_iret dX10_copy_16 rfl h
theorem bX11_copy_0 {G : Gl} {d : Nat} {X : Sh} {M : Mm} {Q : Mm → Int32 → Prop} {a : Nat} {x1 : Int32} {x2 : Int32} {x3 : Int32} {x4 : Int32} {x5 : Int32} (hS : Sh10 X a) (hd : 1 ≤ d) (h : ((¬ (0 ≤ x1 ∧ x1 ≤ 3) → Q M (-1000000001)) ∧ (0 ≤ x1 ∧ x1 ≤ 3 → ((0 ≤ x3 ∧ x3 ≤ 3 → (∃ j3 : Nat, x1 = nI j3 ∧ j3 < 4 ∧ (((mI M (a + 4) j3) < 0 → Q M (-1000000011)) ∧ (¬ ((mI M (a + 4) j3) < 0) → (∃ j7 : Nat, x3 = nI j7 ∧ j7 < 4 ∧ ((0 ≤ (mI M (a + 4) j7) → (((mI M (a + 4) j3) = (mI M (a + 4) j7) → ((x2 < 0 → Q M (-1000000013)) ∧ (¬ (x2 < 0) → ((x4 < 0 → Q M (-1000000013)) ∧ (¬ (x4 < 0) → ((x5 < 0 → Q M (-1000000013)) ∧ (¬ (x5 < 0) → ((0 < (lg_cmp (x2.toInt64 + x5.toInt64) ((mI M (a + 5) j3).toInt64)) → Q M (-1000000013)) ∧ (¬ (0 < (lg_cmp (x2.toInt64 + x5.toInt64) ((mI M (a + 5) j3).toInt64))) → (((lg_cmp (x4.toInt64 + x5.toInt64) ((mI M (a + 5) j7).toInt64)) ≤ 0 → Wn G m_X11_copy (d + 1) 113 [(0, .ref a), (1, .int x1), (2, .int x2), (3, .int x3), (4, .int x4), (5, .int x5), (6, .int 0)] [] X M Q) ∧ (¬ ((lg_cmp (x4.toInt64 + x5.toInt64) ((mI M (a + 5) j7).toInt64)) ≤ 0) → Q M (-1000000013)))))))))))) ∧ (¬ ((mI M (a + 4) j3) = (mI M (a + 4) j7)) → Q M (-1000000012)))) ∧ (¬ (0 ≤ (mI M (a + 4) j7)) → Q M (-1000000011)))))))) ∧ (¬ (0 ≤ x3 ∧ x3 ≤ 3) → Q M (-1000000001)))))) : Wn G m_X11_copy (d + 1) 0 [(0, .ref a), (1, .int x1), (2, .int x2), (3, .int x3), (4, .int x4), (5, .int x5)] [] X M Q := by
  refine wp_iload_n 1 dX11_copy_0 rfl rfl ?_
  refine wp_csip dX11_copy_1 ck_RX11_324 rfl (as := [.int x1]) rfl rfl (Nat.le_of_ble_eq_true rfl) (cp_X11_isSheet G d (by omega) X M x1) ?_
  refine wp_ifB_eq (inferInstance) (tgt := 14) dX11_copy_4 (by decide) (fun c1 => ?_) (fun c1 => ?_)
  · replace h := h.1 c1
    refine wp_ldc dX11_copy_14 kc_RX11_100 ?_
    exact wn_iret dX11_copy_16 rfl h
  · replace h := h.2 c1
    refine wp_iload_n 3 dX11_copy_7 rfl rfl ?_
    refine wp_csip dX11_copy_8 ck_RX11_324 rfl (as := [.int x3]) rfl rfl (Nat.le_of_ble_eq_true rfl) (cp_X11_isSheet G d (by omega) X M x3) ?_
    refine wp_ifB_ne (inferInstance) (tgt := 17) dX11_copy_11 (by decide) (fun c2 => ?_) (fun c2 => ?_)
    · replace h := h.1 c2
      refine wp_aload_n 0 dX11_copy_17 rfl rfl ?_
      refine wp_getR dX11_copy_18 fl_RX11_19 rfl (sh10_K hS) (sh10_F_tSort hS) ?_
      refine wp_iload_n 1 dX11_copy_21 rfl rfl ?_
      obtain ⟨j3, o4, o5, h⟩ := h
      refine wp_iald (n := 4) dX11_copy_22 (sh10_K_tSort hS) (sh10_N_tSort hS) (by decide) o4 o5 ?_
      refine wp_if_lt (tgt := 35) dX11_copy_23 (by decide) (fun c6 => ?_) (fun c6 => ?_)
      · replace h := h.1 c6
        refine wp_ldcw dX11_copy_35 kc_RX11_328 ?_
        exact wn_iret dX11_copy_38 rfl h
      · replace h := h.2 c6
        refine wp_aload_n 0 dX11_copy_26 rfl rfl ?_
        refine wp_getR dX11_copy_27 fl_RX11_19 rfl (sh10_K hS) (sh10_F_tSort hS) ?_
        refine wp_iload_n 3 dX11_copy_30 rfl rfl ?_
        obtain ⟨j7, o8, o9, h⟩ := h
        refine wp_iald (n := 4) dX11_copy_31 (sh10_K_tSort hS) (sh10_N_tSort hS) (by decide) o8 o9 ?_
        refine wp_if_ge (tgt := 39) dX11_copy_32 (by decide) (fun c10 => ?_) (fun c10 => ?_)
        · replace h := h.1 c10
          refine wp_aload_n 0 dX11_copy_39 rfl rfl ?_
          refine wp_getR dX11_copy_40 fl_RX11_19 rfl (sh10_K hS) (sh10_F_tSort hS) ?_
          refine wp_iload_n 1 dX11_copy_43 rfl rfl ?_
          refine wp_iald (n := 4) dX11_copy_44 (sh10_K_tSort hS) (sh10_N_tSort hS) (by decide) o4 o5 ?_
          refine wp_aload_n 0 dX11_copy_45 rfl rfl ?_
          refine wp_getR dX11_copy_46 fl_RX11_19 rfl (sh10_K hS) (sh10_F_tSort hS) ?_
          refine wp_iload_n 3 dX11_copy_49 rfl rfl ?_
          refine wp_iald (n := 4) dX11_copy_50 (sh10_K_tSort hS) (sh10_N_tSort hS) (by decide) o8 o9 ?_
          refine wp_icmp_eq (tgt := 57) dX11_copy_51 (by decide) (fun c11 => ?_) (fun c11 => ?_)
          · replace h := h.1 c11
            refine wp_iload_n 2 dX11_copy_57 rfl rfl ?_
            refine wp_if_lt (tgt := 106) dX11_copy_58 (by decide) (fun c12 => ?_) (fun c12 => ?_)
            · replace h := h.1 c12
              refine wp_ldcw dX11_copy_106 kc_RX11_329 ?_
              exact wn_iret dX11_copy_109 rfl h
            · replace h := h.2 c12
              refine wp_iload 4 dX11_copy_61 rfl ?_
              refine wp_if_lt (tgt := 106) dX11_copy_63 (by decide) (fun c13 => ?_) (fun c13 => ?_)
              · replace h := h.1 c13
                refine wp_ldcw dX11_copy_106 kc_RX11_329 ?_
                exact wn_iret dX11_copy_109 rfl h
              · replace h := h.2 c13
                refine wp_iload 5 dX11_copy_66 rfl ?_
                refine wp_if_lt (tgt := 106) dX11_copy_68 (by decide) (fun c14 => ?_) (fun c14 => ?_)
                · replace h := h.1 c14
                  refine wp_ldcw dX11_copy_106 kc_RX11_329 ?_
                  exact wn_iret dX11_copy_109 rfl h
                · replace h := h.2 c14
                  refine wp_iload_n 2 dX11_copy_71 rfl rfl ?_
                  refine wp_i2l dX11_copy_72 ?_
                  refine wp_iload 5 dX11_copy_73 rfl ?_
                  refine wp_i2l dX11_copy_75 ?_
                  refine wp_ladd dX11_copy_76 ?_
                  refine wp_aload_n 0 dX11_copy_77 rfl rfl ?_
                  refine wp_getR dX11_copy_78 fl_RX11_22 rfl (sh10_K hS) (sh10_F_tSize hS) ?_
                  refine wp_iload_n 1 dX11_copy_81 rfl rfl ?_
                  refine wp_iald (n := 4) dX11_copy_82 (sh10_K_tSize hS) (sh10_N_tSize hS) (by decide) o4 o5 ?_
                  refine wp_i2l dX11_copy_83 ?_
                  refine wp_lcmp dX11_copy_84 ?_
                  refine wp_if_gt (tgt := 106) dX11_copy_85 (by decide) (fun c15 => ?_) (fun c15 => ?_)
                  · replace h := h.1 c15
                    refine wp_ldcw dX11_copy_106 kc_RX11_329 ?_
                    exact wn_iret dX11_copy_109 rfl h
                  · replace h := h.2 c15
                    refine wp_iload 4 dX11_copy_88 rfl ?_
                    refine wp_i2l dX11_copy_90 ?_
                    refine wp_iload 5 dX11_copy_91 rfl ?_
                    refine wp_i2l dX11_copy_93 ?_
                    refine wp_ladd dX11_copy_94 ?_
                    refine wp_aload_n 0 dX11_copy_95 rfl rfl ?_
                    refine wp_getR dX11_copy_96 fl_RX11_22 rfl (sh10_K hS) (sh10_F_tSize hS) ?_
                    refine wp_iload_n 3 dX11_copy_99 rfl rfl ?_
                    refine wp_iald (n := 4) dX11_copy_100 (sh10_K_tSize hS) (sh10_N_tSize hS) (by decide) o8 o9 ?_
                    refine wp_i2l dX11_copy_101 ?_
                    refine wp_lcmp dX11_copy_102 ?_
                    refine wp_if_le (tgt := 110) dX11_copy_103 (by decide) (fun c16 => ?_) (fun c16 => ?_)
                    · replace h := h.1 c16
                      refine wp_iconst (v := 0) dX11_copy_110 rfl ?_
                      refine wp_istore (lo2 := [(6, .int _), (0, .ref _), (1, .int _), (2, .int _), (3, .int _), (4, .int _), (5, .int _)]) dX11_copy_111 (by decide) rfl ?_
                      exact Wp.sub [1, 2, 3, 4, 5, 6, 0] rfl h
                    · replace h := h.2 c16
                      refine wp_ldcw dX11_copy_106 kc_RX11_329 ?_
                      exact wn_iret dX11_copy_109 rfl h
          · replace h := h.2 c11
            refine wp_ldc dX11_copy_54 kc_RX11_124 ?_
            exact wn_iret dX11_copy_56 rfl h
        · replace h := h.2 c10
          refine wp_ldcw dX11_copy_35 kc_RX11_328 ?_
          exact wn_iret dX11_copy_38 rfl h
    · replace h := h.2 c2
      refine wp_ldc dX11_copy_14 kc_RX11_100 ?_
      exact wn_iret dX11_copy_16 rfl h
theorem bX11_copy_113 {G : Gl} {d : Nat} {X : Sh} {M : Mm} {Q : Mm → Int32 → Prop} {a : Nat} {x1 : Int32} {x2 : Int32} {x3 : Int32} {x4 : Int32} {x5 : Int32} {x6 : Int32} (hS : Sh10 X a) (h : ((x5 ≤ x6 → Wn G m_X11_copy (d + 1) 150 [(0, .ref a), (3, .int x3), (4, .int x4), (5, .int x5), (6, .int 0)] [] X M Q) ∧ (¬ (x5 ≤ x6) → (∃ j2 : Nat, (((24 * x1) + x2) + x6) = nI j2 ∧ j2 < 96 ∧ (∃ j5 : Nat, x6 = nI j5 ∧ j5 < 24 ∧ (∀ M8 : Mm, M8 = sI M (a + 20) j5 (mI M (a + 6) j2) → Wn G m_X11_copy (d + 1) 113 [(0, .ref a), (1, .int x1), (2, .int x2), (3, .int x3), (4, .int x4), (5, .int x5), (6, .int (x6 + 1))] [] X M8 Q)))))) : Wn G m_X11_copy (d + 1) 113 [(0, .ref a), (1, .int x1), (2, .int x2), (3, .int x3), (4, .int x4), (5, .int x5), (6, .int x6)] [] X M Q := by
  refine wp_iload 6 dX11_copy_113 rfl ?_
  refine wp_iload 5 dX11_copy_115 rfl ?_
  refine wp_icmp_ge (tgt := 147) dX11_copy_117 (by decide) (fun c1 => ?_) (fun c1 => ?_)
  · replace h := h.1 c1
    refine wp_iconst (v := 0) dX11_copy_147 rfl ?_
    refine wp_istore (lo2 := [(6, .int _), (0, .ref _), (1, .int _), (2, .int _), (3, .int _), (4, .int _), (5, .int _)]) dX11_copy_148 (by decide) rfl ?_
    exact Wp.sub [1, 4, 5, 6, 0] rfl h
  · replace h := h.2 c1
    refine wp_aload_n 0 dX11_copy_120 rfl rfl ?_
    refine wp_getR dX11_copy_121 fl_RX11_68 rfl (sh10_K hS) (sh10_F_carried hS) ?_
    refine wp_iload 6 dX11_copy_124 rfl ?_
    refine wp_aload_n 0 dX11_copy_126 rfl rfl ?_
    refine wp_getR dX11_copy_127 fl_RX11_25 rfl (sh10_K hS) (sh10_F_tNumber hS) ?_
    refine wp_bipush (v := 24) dX11_copy_130 rfl ?_
    refine wp_iload_n 1 dX11_copy_132 rfl rfl ?_
    refine wp_imul dX11_copy_133 ?_
    refine wp_iload_n 2 dX11_copy_134 rfl rfl ?_
    refine wp_iadd dX11_copy_135 ?_
    refine wp_iload 6 dX11_copy_136 rfl ?_
    refine wp_iadd dX11_copy_138 ?_
    obtain ⟨j2, o3, o4, h⟩ := h
    refine wp_iald (n := 96) dX11_copy_139 (sh10_K_tNumber hS) (sh10_N_tNumber hS) (by decide) o3 o4 ?_
    obtain ⟨j5, o6, o7, h⟩ := h
    refine wp_iast (n := 24) dX11_copy_140 (sh10_K_carried hS) (sh10_N_carried hS) (by decide) o6 o7 ?_
    refine wp_nm (fun M8 eM8 => ?_)
    replace h := h M8 eM8
    refine wp_iinc (v := x6 + 1) (lo2 := [(6, .int _), (0, .ref _), (1, .int _), (2, .int _), (3, .int _), (4, .int _), (5, .int _)]) dX11_copy_141 (q := 6) rfl rfl (by decide) rfl ?_
    refine wp_goto (tgt := 113) dX11_copy_144 (by decide) ?_
    exact Wp.sub [1, 2, 3, 4, 5, 6, 0] rfl h
theorem bX11_copy_150 {G : Gl} {d : Nat} {X : Sh} {M : Mm} {Q : Mm → Int32 → Prop} {a : Nat} {x3 : Int32} {x4 : Int32} {x5 : Int32} {x6 : Int32} (hS : Sh10 X a) (h : ((x5 ≤ x6 → Q M x5) ∧ (¬ (x5 ≤ x6) → (∃ j2 : Nat, x6 = nI j2 ∧ j2 < 24 ∧ (∃ j5 : Nat, (((24 * x3) + x4) + x6) = nI j5 ∧ j5 < 96 ∧ (∀ M8 : Mm, M8 = sI M (a + 6) j5 (mI M (a + 20) j2) → Wn G m_X11_copy (d + 1) 150 [(0, .ref a), (3, .int x3), (4, .int x4), (5, .int x5), (6, .int (x6 + 1))] [] X M8 Q)))))) : Wn G m_X11_copy (d + 1) 150 [(0, .ref a), (3, .int x3), (4, .int x4), (5, .int x5), (6, .int x6)] [] X M Q := by
  refine wp_iload 4 dX11_copy_150 rfl ?_
  refine wp_iload 3 dX11_copy_152 rfl ?_
  refine wp_icmp_ge (tgt := 185) dX11_copy_154 (by decide) (fun c1 => ?_) (fun c1 => ?_)
  · replace h := h.1 c1
    refine wp_iload 3 dX11_copy_185 rfl ?_
    exact wn_iret dX11_copy_187 rfl h
  · replace h := h.2 c1
    refine wp_aload_n 0 dX11_copy_157 rfl rfl ?_
    refine wp_getR dX11_copy_158 fl_RX11_25 rfl (sh10_K hS) (sh10_F_tNumber hS) ?_
    refine wp_bipush (v := 24) dX11_copy_161 rfl ?_
    refine wp_iload_n 1 dX11_copy_163 rfl rfl ?_
    refine wp_imul dX11_copy_164 ?_
    refine wp_iload 2 dX11_copy_165 rfl ?_
    refine wp_iadd dX11_copy_167 ?_
    refine wp_iload 4 dX11_copy_168 rfl ?_
    refine wp_iadd dX11_copy_170 ?_
    refine wp_aload_n 0 dX11_copy_171 rfl rfl ?_
    refine wp_getR dX11_copy_172 fl_RX11_68 rfl (sh10_K hS) (sh10_F_carried hS) ?_
    refine wp_iload 4 dX11_copy_175 rfl ?_
    obtain ⟨j2, o3, o4, h⟩ := h
    refine wp_iald (n := 24) dX11_copy_177 (sh10_K_carried hS) (sh10_N_carried hS) (by decide) o3 o4 ?_
    obtain ⟨j5, o6, o7, h⟩ := h
    refine wp_iast (n := 96) dX11_copy_178 (sh10_K_tNumber hS) (sh10_N_tNumber hS) (by decide) o6 o7 ?_
    refine wp_nm (fun M8 eM8 => ?_)
    replace h := h M8 eM8
    refine wp_iinc (v := x6 + 1) (lo2 := [(6, .int _), (0, .ref _), (3, .int _), (4, .int _), (5, .int _)]) dX11_copy_179 (q := 4) rfl rfl (by decide) rfl ?_
    refine wp_goto (tgt := 150) dX11_copy_182 (by decide) ?_
    exact Wp.sub [1, 2, 3, 4, 0] rfl h
/-- a place x and k places from it on lie in n -/
def RowIn (x k : Int32) (n : Nat) : Prop := ∃ p q : Nat, x = nI p ∧ k = nI q ∧ p + q ≤ n
theorem hasRow_iff {x k : Int32} {n : Nat} (hn : n ≤ 24) : (¬ x < 0 ∧ ¬ nI n < x ∧ ¬ k < 0 ∧ ¬ nI n - x < k) ↔ RowIn x k n := by
  constructor
  · rintro ⟨h1, h2, h3, h4⟩
    obtain ⟨p, hp, rfl⟩ := nI_of h1
    obtain ⟨q, hq, rfl⟩ := nI_of h3
    have l1 := (nI_leI (by omega) (by omega)).mp (i_nlt.mp h2)
    rw [nI_subI n p l1] at h4
    have l2 := (nI_leI (by omega) (by omega)).mp (i_nlt.mp h4)
    exact ⟨p, q, rfl, rfl, by omega⟩
  · rintro ⟨p, q, rfl, rfl, h⟩
    refine ⟨nI_pos (by omega), fun z => ?_, nI_pos (by omega), fun z => ?_⟩
    · have := (nI_ltI (by omega) (by omega)).mp z
      omega
    · rw [nI_subI n p (by omega)] at z
      have := (nI_ltI (by omega) (by omega)).mp z
      omega
theorem cp_X5_hasRow (G : Gl) (d : Nat) (X : Sh) (M : Mm) (a n : Nat) (x k : Int32) (hS : Sh5 X a) (hn : n ≤ 24) (h1 : mI M a 1 = nI n) : Cn G m_X5_hasRow d [.ref a, .int x, .int k] X M (fun M2 r => M2 = M ∧ (r = 0 ↔ ¬ RowIn x k n)) := by
  refine Cn.of (by decide) (Nat.le_of_ble_eq_true rfl) (bX5_hasRow_0 hS ⟨rfl, ?_⟩)
  rw [h1]
  by_cases h : ¬ x < 0 ∧ ¬ nI n < x ∧ ¬ k < 0 ∧ ¬ nI n - x < k
  · rw [if_pos h]
    exact ⟨fun q => absurd q (by decide), fun q => absurd ((hasRow_iff hn).mp h) q⟩
  · rw [if_neg h]
    exact ⟨fun _ q => h ((hasRow_iff hn).mpr q), fun _ => rfl⟩
theorem sum_gt {p k n : Nat} (hp : p < 2147483648) (hk : k < 2147483648) (hn : n ≤ 24) : 0 < lg_cmp ((nI p).toInt64 + (nI k).toInt64) ((nI n).toInt64) ↔ n < p + k := by
  rw [lg_cmp_gt, nI_l (by omega), nI_l (by omega), nI_l (by omega), lN_add]
  exact pk_lLT (by omega) (by omega)
theorem sum_le {p k n : Nat} (hp : p < 2147483648) (hk : k < 2147483648) (hn : n ≤ 24) : lg_cmp ((nI p).toInt64 + (nI k).toInt64) ((nI n).toInt64) ≤ 0 ↔ p + k ≤ n := by
  rw [lg_cmp_le, nI_l (by omega), nI_l (by omega), nI_l (by omega), lN_add]
  exact pk_lLE (by omega) (by omega)
theorem cl_X11_copy_113 (G : Gl) (d : Nat) {X : Sh} {m i j p q N : Nat} {Q : Mm → Int32 → Prop} (hM : Sh10 X m) (M0 : Mm) (hi : i < 4) (hp : p + N ≤ 24) (hq : ∀ M2, (∀ k, k < N → mI M2 (m + 20) k = mI M0 (m + 6) (24 * i + p + k)) → (∀ c, c ≠ m + 20 → mI M2 c = mI M0 c) → mR M2 = mR M0 → Wn G m_X11_copy (d + 1) 150 [(0, .ref m), (3, .int (nI j)), (4, .int (nI q)), (5, .int (nI N)), (6, .int 0)] [] X M2 Q) :
    ∀ (n k : Nat) (M : Mm), k + n = N → (∀ c, c < k → mI M (m + 20) c = mI M0 (m + 6) (24 * i + p + c)) → (∀ c, c ≠ m + 20 → mI M c = mI M0 c) → mR M = mR M0 → Wn G m_X11_copy (d + 1) 113 [(0, .ref m), (1, .int (nI i)), (2, .int (nI p)), (3, .int (nI j)), (4, .int (nI q)), (5, .int (nI N)), (6, .int (nI k))] [] X M Q
  | 0, k, M, h, h1, h2, h3 => by
    have hk : k = N := h
    subst hk
    exact bX11_copy_113 hM ⟨fun _ => hq M h1 h2 h3, fun z => absurd (Int32.le_refl _) z⟩
  | n + 1, k, M, h, h1, h2, h3 => by
    refine bX11_copy_113 hM ⟨fun z => ?_, fun _ => ⟨24 * i + p + k, (by first | rfl | (simp only [n_lit, nI_add, pk_mul]; done) | (simp only [n_lit, nI_add, pk_mul]; exact congrArg nI (by omega))), by omega, k, rfl, by omega, ?_⟩⟩
    · have := (nI_leI (by omega) (by omega)).mp z
      omega
    intro M8 e8
    rw [nI_1]
    refine cl_X11_copy_113 G d hM M0 hi hp hq n (k + 1) M8 (by omega) (fun c hc => ?_) (fun c hc => ?_) ?_
    · rw [e8, mI_sI]
      by_cases e : c = k
      · subst e
        rw [up2_same, h2 _ (by omega)]
      · rw [up2_k _ _ _ e]
        exact h1 c (by omega)
    · rw [e8, mI_sI, up2_off _ _ _ hc, h2 c hc]
    · rw [e8]
      exact h3
theorem cl_X11_copy_150 (G : Gl) (d : Nat) {X : Sh} {m j q N : Nat} {g : Nat → Int32} {Q : Mm → Int32 → Prop} (hM : Sh10 X m) (M0 : Mm) (hj : j < 4) (hqN : q + N ≤ 24) (hg : ∀ k, k < N → mI M0 (m + 20) k = g k) (hq : ∀ M2, mI M2 (m + 6) = updR (mI M0 (m + 6)) (24 * j + q) N g → (∀ c, c ≠ m + 6 → mI M2 c = mI M0 c) → mR M2 = mR M0 → Q M2 (nI N)) :
    ∀ (n k : Nat) (M : Mm), k + n = N → mI M (m + 6) = updR (mI M0 (m + 6)) (24 * j + q) k g → (∀ c, c ≠ m + 6 → mI M c = mI M0 c) → mR M = mR M0 → Wn G m_X11_copy (d + 1) 150 [(0, .ref m), (3, .int (nI j)), (4, .int (nI q)), (5, .int (nI N)), (6, .int (nI k))] [] X M Q
  | 0, k, M, h, h1, h2, h3 => by
    have hk : k = N := h
    subst hk
    exact bX11_copy_150 hM ⟨fun _ => hq M h1 h2 h3, fun z => absurd (Int32.le_refl _) z⟩
  | n + 1, k, M, h, h1, h2, h3 => by
    refine bX11_copy_150 hM ⟨fun z => ?_, fun _ => ⟨k, rfl, by omega, 24 * j + q + k, (by first | rfl | (simp only [n_lit, nI_add, pk_mul]; done) | (simp only [n_lit, nI_add, pk_mul]; exact congrArg nI (by omega))), by omega, ?_⟩⟩
    · have := (nI_leI (by omega) (by omega)).mp z
      omega
    intro M8 e8
    rw [h2 (m + 20) (by omega), hg k (by omega)] at e8
    rw [nI_1]
    refine cl_X11_copy_150 G d hM M0 hj hqN hg hq n (k + 1) M8 (by omega) ?_ (fun c hc => ?_) ?_
    · rw [e8, mI_sI, up2_row, h1, updR_s]
    · rw [e8, mI_sI, up2_off _ _ _ hc, h2 c hc]
    · rw [e8]
      exact h3
/-- a state that differs in what nobody looks at -/
theorem Sim.far {M M2 : Mm} {b m : Nat} (h : Sim M b m) (hbm : b + 266 ≤ m) (e : ∀ c, c ≠ m + 20 → mI M2 c = mI M c) (r : mR M2 = mR M) : Sim M2 b m := by
  refine ⟨?_, h.2.mem (fun c hc => e c (by unfold RestK at hc; omega)) (by rw [e b (by omega)]) (by rw [e b (by omega)]) (by rw [e (b + 227) (by omega)]) (by rw [e m (by omega)]) (by rw [e m (by omega)]) (by rw [e m (by omega)]) (by rw [r]) ?_⟩
  · rw [e (m + 1) (by omega)]
    exact h.1.mem (fun c h1 h2 _ => e c (by omega)) (by rw [r])
  · obtain ⟨la, p⟩ := h.2.2.1.2
    exact ⟨la, p.mR r⟩
theorem cpy_R (f g : Nat → Int32) (sp dp n : Nat) : va_cpy f g sp dp n = updR g dp n (fun k => f (sp + k)) := rfl
theorem case_copy (G : Gl) (d : Nat) (hd : 16 ≤ d) (X : Sh) (b m : Nat) (hS : Sh9 X b) (hM : Sh10 X m) (hbm : b + 266 ≤ m) (x1 x2 x3 x4 x5 : Int32) : Case G d X b m m_X10_copy m_X11_copy [.int x1, .int x2, .int x3, .int x4, .int x5] := by
  obtain ⟨d, rfl⟩ : ∃ d1, d = d1 + 1 := ⟨d - 1, by omega⟩
  intro M hs
  obtain ⟨⟨nb, nl, nx, nt, nd, la, hh⟩, hr⟩ := id hs
  by_cases h : 0 ≤ x1 ∧ x1 ≤ 3
  · by_cases h3 : 0 ≤ x3 ∧ x3 ≤ 3
    · obtain ⟨i, hi, rfl⟩ := ix_le (nb := 3) (by omega) h.1 h.2
      obtain ⟨j, hj, rfl⟩ := ix_le (nb := 3) (by omega) h3.1 h3.2
      have hSi := sh9_ES_sheets hS i (by omega)
      have hSj := sh9_ES_sheets hS j (by omega)
      obtain ⟨s0, s1, ⟨n, hn, n1, n2⟩, s3⟩ := hr.2.2.2.1 i (by omega)
      obtain ⟨t0, t1, ⟨k, hk, k1, k2⟩, t3⟩ := hr.2.2.2.1 j (by omega)
      have sg : ∀ y : Int32, (y = -1 ∨ y = 0 ∨ y = 1) → (y < 0 ↔ y = -1) := fun y hy => by
        rcases hy with q | q | q
        · rw [q]
          decide
        · rw [q]
          decide
        · rw [q]
          decide
      by_cases hm : mI M (m + 4) i = -1
      · exact Cn.of (by decide) (Nat.le_of_ble_eq_true rfl) (bX10_copy_0 hS (by omega) ⟨fun q => absurd h q, fun _ => ⟨fun _ => ⟨i, rfl, by omega, j, rfl, by omega, fun _ => Cn.of (by decide) (Nat.le_of_ble_eq_true rfl) (bX11_copy_0 hM (by omega) ⟨fun q => absurd h q, fun _ => ⟨fun _ => ⟨i, rfl, by omega, fun _ => ⟨rfl, hs⟩, fun q => absurd ((sg _ s1).mpr hm) q⟩, fun q => absurd h3 q⟩⟩), fun q => absurd (s0.trans hm) q⟩, fun q => absurd h3 q⟩⟩)
      · have ci : ¬ mI M (b + 232 + 3 * i) 0 = -1 := fun q => hm (s0.symm.trans q)
        have ni : ¬ mI M (m + 4) i < 0 := fun q => hm ((sg _ s1).mp q)
        by_cases hm2 : mI M (m + 4) j = -1
        · exact Cn.of (by decide) (Nat.le_of_ble_eq_true rfl) (bX10_copy_0 hS (by omega) ⟨fun q => absurd h q, fun _ => ⟨fun _ => ⟨i, rfl, by omega, j, rfl, by omega, fun q => absurd q ci, fun _ => ⟨fun q => absurd (t0.trans hm2) q, fun _ => Cn.of (by decide) (Nat.le_of_ble_eq_true rfl) (bX11_copy_0 hM (by omega) ⟨fun q => absurd h q, fun _ => ⟨fun _ => ⟨i, rfl, by omega, fun q => absurd q ni, fun _ => ⟨j, rfl, by omega, fun q => absurd ((sg _ t1).mpr hm2) (i_nlt.mpr q), fun _ => ⟨rfl, hs⟩⟩⟩, fun q => absurd h3 q⟩⟩)⟩⟩, fun q => absurd h3 q⟩⟩)
        · have cj : ¬ mI M (b + 232 + 3 * j) 0 = -1 := fun q => hm2 (t0.symm.trans q)
          have nj : 0 ≤ mI M (m + 4) j := i_nlt.mp (fun q => hm2 ((sg _ t1).mp q))
          by_cases he : mI M (m + 4) i = mI M (m + 4) j
          · have he' : mI M (b + 232 + 3 * i) 0 = mI M (b + 232 + 3 * j) 0 := by rw [s0, t0, he]
            have refbad : ¬ (RowIn x2 x5 n ∧ RowIn x4 x5 k) → Cn G m_X11_copy (d + 1) [.ref m, .int (nI i), .int x2, .int (nI j), .int x4, .int x5] X M (fun M2 r2 => -1000000013 = r2 ∧ Sim M2 b m) := fun hb => by
              refine Cn.of (by decide) (Nat.le_of_ble_eq_true rfl) (bX11_copy_0 hM (by omega) ⟨fun q => absurd h q, fun _ => ⟨fun _ => ⟨i, rfl, by omega, fun q => absurd q ni, fun _ => ⟨j, rfl, by omega, fun _ => ⟨fun _ => ⟨fun _ => ⟨rfl, hs⟩, fun z2 => ⟨fun _ => ⟨rfl, hs⟩, fun z4 => ⟨fun _ => ⟨rfl, hs⟩, fun z5 => ?_⟩⟩⟩, fun q => absurd he q⟩, fun q => absurd nj q⟩⟩, fun q => absurd h3 q⟩⟩)
              obtain ⟨p, hp, rfl⟩ := nI_of z2
              obtain ⟨q, hq, rfl⟩ := nI_of z4
              obtain ⟨N, hN, rfl⟩ := nI_of z5
              rw [n2, k2, sum_gt (by omega) (by omega) hn, sum_le (by omega) (by omega) hk]
              exact ⟨fun _ => ⟨rfl, hs⟩, fun y1 => ⟨fun y2 => absurd ⟨⟨p, N, rfl, rfl, by omega⟩, ⟨q, N, rfl, rfl, by omega⟩⟩ hb, fun _ => ⟨rfl, hs⟩⟩⟩
            refine Cn.of (by decide) (Nat.le_of_ble_eq_true rfl) (bX10_copy_0 hS (by omega) ⟨fun q => absurd h q, fun _ => ⟨fun _ => ⟨i, rfl, by omega, j, rfl, by omega, fun q => absurd q ci, fun _ => ⟨fun _ => ⟨fun _ => ⟨_, cp_X5_hasRow G d X M _ n x2 x5 hSi hn n1, ?_⟩, fun q => absurd he' q⟩, fun q => absurd q cj⟩⟩, fun q => absurd h3 q⟩⟩)
            rintro M14 r15 ⟨e, e15⟩
            have e := e.symm
            subst e
            refine ⟨fun z => refbad (fun q => (e15.mp z) q.1), fun z => ⟨_, cp_X5_hasRow G d X M _ k x4 x5 hSj hk k1, ?_⟩⟩
            rintro M20 r21 ⟨e, e21⟩
            have e := e.symm
            subst e
            refine ⟨fun z2 => ?_, fun z2 => refbad (fun q => (e21.mp z2) q.2)⟩
            obtain ⟨p, N, rfl, rfl, hpN⟩ : RowIn x2 x5 n := Decidable.byContradiction (dec := Classical.propDecidable _) (fun y => z (e15.mpr y))
            obtain ⟨q, N2, rfl, eN, hqN⟩ : RowIn x4 (nI N) k := Decidable.byContradiction (dec := Classical.propDecidable _) (fun y => z2 (e21.mpr y))
            have eN := (nI_inj (by omega) (by omega)).mp eN
            subst eN
            refine ⟨p, rfl, q, rfl, N, rfl, by omega, by omega, ?_⟩
            intro M32 f32
            refine ⟨p, rfl, q, rfl, N, rfl, by omega, by omega, ?_⟩
            intro M41 f41
            rw [show b + 232 + 3 * i + 1 = b + 233 + 3 * i by omega, show b + 232 + 3 * j + 1 = b + 233 + 3 * j by omega] at f32
            rw [show b + 232 + 3 * i + 2 = b + 234 + 3 * i by omega, show b + 232 + 3 * j + 2 = b + 234 + 3 * j by omega] at f41
            have o41 : ∀ c, c ≠ b + 233 + 3 * j → c ≠ b + 234 + 3 * j → mI M41 c = mI M c := fun c c1 c2 => by rw [f41, sC_off _ _ _ _ _ _ c2, f32, sC_off _ _ _ _ _ _ c1]
            have v1 : mI M41 (b + 233 + 3 * j) = updR (mI M (b + 233 + 3 * j)) q N (fun c => mI M (b + 233 + 3 * i) (p + c)) := by rw [f41, sC_off _ _ _ _ _ _ (by omega), f32, sC_row, cpy_R]
            have v2 : mI M41 (b + 234 + 3 * j) = updR (mI M (b + 234 + 3 * j)) q N (fun c => mI M (b + 234 + 3 * i) (p + c)) := by rw [f41, sC_row, cpy_R, f32, sC_off _ _ _ _ _ _ (by omega), sC_off _ _ _ _ _ _ (by omega)]
            have r41 : mR M41 = mR M := by rw [f41, f32]; rfl
            have m41 : ∀ c, m ≤ c → mI M41 c = mI M c := fun c hc => o41 c (by omega) (by omega)
            refine Cn.of (by decide) (Nat.le_of_ble_eq_true rfl) (bX11_copy_0 hM (by omega) ⟨fun q => absurd h q, fun _ => ⟨fun _ => ⟨i, rfl, by omega, fun q => absurd (by rw [m41 _ (by omega)] at q; exact q) ni, fun _ => ⟨j, rfl, by omega, fun _ => ⟨fun _ => ⟨fun q => absurd q (nI_pos (by omega)), fun _ => ⟨fun q => absurd q (nI_pos (by omega)), fun _ => ⟨fun q => absurd q (nI_pos (by omega)), fun _ => ?_⟩⟩⟩, fun q => absurd (by rw [m41 _ (by omega)]; exact he) q⟩, fun q => absurd (by rw [m41 _ (by omega)]; exact nj) q⟩⟩, fun q => absurd h3 q⟩⟩)
            rw [m41 _ (by omega), n2, k2, sum_gt (by omega) (by omega) hn, sum_le (by omega) (by omega) hk]
            refine ⟨fun y => absurd y (by omega), fun _ => ⟨fun _ => ?_, fun y => absurd hqN y⟩⟩
            refine cl_X11_copy_113 G d hM M41 (by omega) (by omega) (fun N1 a1 a2 a3 => ?_) N 0 M41 (by omega) (fun c hc => absurd hc (by omega)) (fun _ _ => rfl) rfl
            refine cl_X11_copy_150 G d (g := fun c => mI M (m + 6) (24 * i + p + c)) hM N1 (by omega) (by omega) (fun c hc => by rw [a1 c hc, m41 _ (by omega)]) (fun N2 b1 b2 b3 => ?_) N 0 N1 (by omega) (updR_0 _ _ _).symm (fun _ _ => rfl) rfl
            rw [a2 _ (by omega), m41 _ (by omega)] at b1
            have oo : ∀ c, c ≠ b + 233 + 3 * j → c ≠ b + 234 + 3 * j → c ≠ m + 6 → c ≠ m + 20 → mI N2 c = mI M c := fun c c1 c2 c3 c4 => by rw [b2 c c3, a2 c c4, o41 c c1 c2]
            have hX : Sim ((fun c => if c = m + 20 then mI N2 (m + 20) else mI M c, mJ M, mR M) : Mm) b m := hs.far hbm (fun c hc => if_neg hc) rfl
            have gX : ∀ c, c ≠ m + 20 → mI ((fun c => if c = m + 20 then mI N2 (m + 20) else mI M c, mJ M, mR M) : Mm) c = mI M c := fun c hc => if_neg hc
            refine ⟨rfl, hX.sheet hbm (i := j) (by omega) (fun c _ z2 z3 _ _ z6 => ?_) (by rw [b3, a3, r41]; rfl) (fun y _ => by rw [oo _ (by omega) (by omega) (by omega) (by omega), gX _ (by omega)]) (fun y _ => by rw [oo _ (by omega) (by omega) (by omega) (by omega), gX _ (by omega)]) (fun y hy => by rw [b1, updR_out (by omega), gX _ (by omega)]) ⟨?_, ?_, ⟨k, hk, ?_, ?_⟩, fun c hc => ?_⟩⟩
            · by_cases e20 : c = m + 20
              · rw [e20]
                exact (if_pos rfl).symm
              · rw [oo c z2 z3 z6 e20, gX c e20]
            · rw [oo _ (by omega) (by omega) (by omega) (by omega), oo _ (by omega) (by omega) (by omega) (by omega), t0]
            · rw [oo _ (by omega) (by omega) (by omega) (by omega)]
              exact t1
            · rw [oo _ (by omega) (by omega) (by omega) (by omega), k1]
            · rw [oo _ (by omega) (by omega) (by omega) (by omega), k2]
            · rw [b2 (b + 233 + 3 * j) (by omega), b2 (b + 234 + 3 * j) (by omega), a2 (b + 233 + 3 * j) (by omega), a2 (b + 234 + 3 * j) (by omega), v1, v2, b1]
              by_cases y : q ≤ c ∧ c < q + N
              · rw [updR_in y, updR_in y, updR_in (by omega)]
                have := s3 (p + (c - q)) (by omega)
                rw [show 24 * i + p + (24 * j + c - (24 * j + q)) = 24 * i + (p + (c - q)) by omega]
                exact this
              · rw [updR_out y, updR_out y, updR_out (by omega)]
                exact t3 c hc
          · have he' : ¬ mI M (b + 232 + 3 * i) 0 = mI M (b + 232 + 3 * j) 0 := fun q => he (by rw [← s0, ← t0, q])
            exact Cn.of (by decide) (Nat.le_of_ble_eq_true rfl) (bX10_copy_0 hS (by omega) ⟨fun q => absurd h q, fun _ => ⟨fun _ => ⟨i, rfl, by omega, j, rfl, by omega, fun q => absurd q ci, fun _ => ⟨fun _ => ⟨fun q => absurd q he', fun _ => Cn.of (by decide) (Nat.le_of_ble_eq_true rfl) (bX11_copy_0 hM (by omega) ⟨fun q => absurd h q, fun _ => ⟨fun _ => ⟨i, rfl, by omega, fun q => absurd q ni, fun _ => ⟨j, rfl, by omega, fun _ => ⟨fun q => absurd q he, fun _ => ⟨rfl, hs⟩⟩, fun q => absurd nj q⟩⟩, fun q => absurd h3 q⟩⟩)⟩, fun q => absurd q cj⟩⟩, fun q => absurd h3 q⟩⟩)
    · exact Cn.of (by decide) (Nat.le_of_ble_eq_true rfl) (bX10_copy_0 hS (by omega) ⟨fun q => absurd h q, fun _ => ⟨fun q => absurd q h3, fun _ => Cn.of (by decide) (Nat.le_of_ble_eq_true rfl) (bX11_copy_0 hM (by omega) ⟨fun q => absurd h q, fun _ => ⟨fun q => absurd q h3, fun _ => ⟨rfl, hs⟩⟩⟩)⟩⟩)
  · exact Cn.of (by decide) (Nat.le_of_ble_eq_true rfl) (bX10_copy_0 hS (by omega) ⟨fun _ => Cn.of (by decide) (Nat.le_of_ble_eq_true rfl) (bX11_copy_0 hM (by omega) ⟨fun _ => ⟨rfl, hs⟩, fun q => absurd q h⟩), fun q => absurd q h⟩)
