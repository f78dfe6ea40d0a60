/-! the class's tape: writing, holding, the next word -/
theorem bX8_write_0 {G : Gl} {d : Nat} {X : Sh} {M : Mm} {Q : Mm → Prop} {a : Nat} {x1 : Int32} (hS : Sh7 X a) (h : ((96 ≤ (mI M a 10) → Q M) ∧ (¬ (96 ≤ (mI M a 10)) → (∃ j2 : Nat, (mI M a 10) = nI j2 ∧ j2 < 96 ∧ (∀ M5 : Mm, M5 = sI M (a + 2) j2 x1 → (∀ M6 : Mm, M6 = sI M5 a 10 ((mI M5 a 10) + 1) → Q M6)))))) : Wv G m_X8_write d 0 [(0, .ref a), (1, .int x1)] [] X M Q := by
  refine wp_aload_n 0 dX8_write_0 rfl rfl ?_
  refine wp_getI dX8_write_1 fl_RX8_64 rfl (sh7_K hS) ?_
  refine wp_bipush (v := 96) dX8_write_4 rfl ?_
  refine wp_icmp_ge (tgt := 29) dX8_write_6 (by decide) (fun c1 => ?_) (fun c1 => ?_)
  · replace h := h.1 c1
    exact wv_ret dX8_write_29 rfl h
  · replace h := h.2 c1
    refine wp_aload_n 0 dX8_write_9 rfl rfl ?_
    refine wp_getR dX8_write_10 fl_RX8_19 rfl (sh7_K hS) (sh7_F_code hS) ?_
    refine wp_aload_n 0 dX8_write_13 rfl rfl ?_
    refine wp_getI dX8_write_14 fl_RX8_64 rfl (sh7_K hS) ?_
    refine wp_iload_n 1 dX8_write_17 rfl rfl ?_
    obtain ⟨j2, o3, o4, h⟩ := h
    refine wp_iast (n := 96) dX8_write_18 (sh7_K_code hS) (sh7_N_code hS) (by decide) o3 o4 ?_
    refine wp_nm (fun M5 eM5 => ?_)
    replace h := h M5 eM5
    refine wp_aload_n 0 dX8_write_19 rfl rfl ?_
    refine wp_dup dX8_write_20 rfl ?_
    refine wp_getI dX8_write_21 fl_RX8_64 rfl (sh7_K hS) ?_
    refine wp_iconst (v := 1) dX8_write_24 rfl ?_
    refine wp_iadd dX8_write_25 ?_
    refine wp_putI dX8_write_26 fp_RX8_64 rfl (sh7_K hS) ?_
    refine wp_nm (fun M6 eM6 => ?_)
    replace h := h M6 eM6
    exact wv_ret dX8_write_29 rfl h
theorem bX8_hold_0 {G : Gl} {d : Nat} {X : Sh} {M : Mm} {Q : Mm → Prop} {a : Nat} {x1 : Int32} (hS : Sh7 X a) (h : ((96 ≤ (mI M a 12) → Q M) ∧ (¬ (96 ≤ (mI M a 12)) → (∃ j2 : Nat, (mI M a 12) = nI j2 ∧ j2 < 96 ∧ (∀ M5 : Mm, M5 = sI M (a + 3) j2 x1 → (∀ M6 : Mm, M6 = sI M5 a 12 ((mI M5 a 12) + 1) → Q M6)))))) : Wv G m_X8_hold d 0 [(0, .ref a), (1, .int x1)] [] X M Q := by
  refine wp_aload_n 0 dX8_hold_0 rfl rfl ?_
  refine wp_getI dX8_hold_1 fl_RX8_67 rfl (sh7_K hS) ?_
  refine wp_bipush (v := 96) dX8_hold_4 rfl ?_
  refine wp_icmp_ge (tgt := 29) dX8_hold_6 (by decide) (fun c1 => ?_) (fun c1 => ?_)
  · replace h := h.1 c1
    exact wv_ret dX8_hold_29 rfl h
  · replace h := h.2 c1
    refine wp_aload_n 0 dX8_hold_9 rfl rfl ?_
    refine wp_getR dX8_hold_10 fl_RX8_22 rfl (sh7_K hS) (sh7_F_signs hS) ?_
    refine wp_aload_n 0 dX8_hold_13 rfl rfl ?_
    refine wp_getI dX8_hold_14 fl_RX8_67 rfl (sh7_K hS) ?_
    refine wp_iload_n 1 dX8_hold_17 rfl rfl ?_
    obtain ⟨j2, o3, o4, h⟩ := h
    refine wp_iast (n := 96) dX8_hold_18 (sh7_K_signs hS) (sh7_N_signs hS) (by decide) o3 o4 ?_
    refine wp_nm (fun M5 eM5 => ?_)
    replace h := h M5 eM5
    refine wp_aload_n 0 dX8_hold_19 rfl rfl ?_
    refine wp_dup dX8_hold_20 rfl ?_
    refine wp_getI dX8_hold_21 fl_RX8_67 rfl (sh7_K hS) ?_
    refine wp_iconst (v := 1) dX8_hold_24 rfl ?_
    refine wp_iadd dX8_hold_25 ?_
    refine wp_putI dX8_hold_26 fp_RX8_67 rfl (sh7_K hS) ?_
    refine wp_nm (fun M6 eM6 => ?_)
    replace h := h M6 eM6
    exact wv_ret dX8_hold_29 rfl h
theorem bX8_heldRank_0 {G : Gl} {d : Nat} {X : Sh} {M : Mm} {Q : Mm → Int32 → Prop} {a : Nat} (hS : Sh7 X a) (h : (((mI M a 12) ≤ 0 → Q M 0) ∧ (¬ ((mI M a 12) ≤ 0) → (∃ j2 : Nat, ((mI M a 12) - 1) = nI j2 ∧ j2 < 96 ∧ Q M (f_rank (mI M (a + 3) j2)))))) : Wn G m_X8_heldRank (d + 1) 0 [(0, .ref a)] [] X M Q := by
  refine wp_aload_n 0 dX8_heldRank_0 rfl rfl ?_
  refine wp_getI dX8_heldRank_1 fl_RX8_67 rfl (sh7_K hS) ?_
  refine wp_if_le (tgt := 24) dX8_heldRank_4 (by decide) (fun c1 => ?_) (fun c1 => ?_)
  · replace h := h.1 c1
    refine wp_iconst (v := 0) dX8_heldRank_24 rfl ?_
    exact wn_iret dX8_heldRank_25 rfl h
  · replace h := h.2 c1
    refine wp_aload_n 0 dX8_heldRank_7 rfl rfl ?_
    refine wp_getR dX8_heldRank_8 fl_RX8_22 rfl (sh7_K hS) (sh7_F_signs hS) ?_
    refine wp_aload_n 0 dX8_heldRank_11 rfl rfl ?_
    refine wp_getI dX8_heldRank_12 fl_RX8_67 rfl (sh7_K hS) ?_
    refine wp_iconst (v := 1) dX8_heldRank_15 rfl ?_
    refine wp_isub dX8_heldRank_16 ?_
    obtain ⟨j2, o3, o4, h⟩ := h
    refine wp_iald (n := 96) dX8_heldRank_17 (sh7_K_signs hS) (sh7_N_signs hS) (by decide) o3 o4 ?_
    refine wp_csip dX8_heldRank_18 ck_RX8_142 rfl (as := [.int ((mI M (a + 3) j2))]) rfl rfl (Nat.le_of_ble_eq_true rfl) (cp_X8_rankOf G d X M (mI M (a + 3) j2)) ?_
    refine wp_goto (tgt := 25) dX8_heldRank_21 (by decide) ?_
    exact wn_iret dX8_heldRank_25 rfl h
theorem bX8_writeHeldFrom_0 {G : Gl} {d : Nat} {X : Sh} {M : Mm} {Q : Mm → Prop} {a : Nat} {x1 : Int32} {x2 : Int32} (hS : Sh7 X a) (h : (((mI M a 12) ≤ 0 → Q M) ∧ (¬ ((mI M a 12) ≤ 0) → (∃ q2 : Mm → Int32 → Prop, Cn G m_X8_heldRank d [.ref a] X M q2 ∧ ∀ M4 r5, q2 M4 r5 → ((x1 < r5 → (∀ M8 : Mm, M8 = sI M4 a 12 ((mI M4 a 12) - 1) → (∃ j9 : Nat, (mI M8 a 12) = nI j9 ∧ j9 < 96 ∧ (∃ q12 : Mm → Prop, Cv G m_X8_write d [.ref a, .int ((-(mI M8 (a + 3) j9)))] X M8 q12 ∧ ∀ M14, q12 M14 → Wv G m_X8_writeHeldFrom (d + 1) 0 [(0, .ref a), (1, .int x1), (2, .int x2)] [] X M14 Q)))) ∧ (¬ (x1 < r5) → ((x2 = 0 → Q M4) ∧ (¬ (x2 = 0) → (∃ q17 : Mm → Int32 → Prop, Cn G m_X8_heldRank d [.ref a] X M4 q17 ∧ ∀ M19 r20, q17 M19 r20 → ((¬ (r20 = x1) → Q M19) ∧ (r20 = x1 → (∀ M23 : Mm, M23 = sI M19 a 12 ((mI M19 a 12) - 1) → (∃ j24 : Nat, (mI M23 a 12) = nI j24 ∧ j24 < 96 ∧ (∃ q27 : Mm → Prop, Cv G m_X8_write d [.ref a, .int ((-(mI M23 (a + 3) j24)))] X M23 q27 ∧ ∀ M29, q27 M29 → Wv G m_X8_writeHeldFrom (d + 1) 0 [(0, .ref a), (1, .int x1), (2, .int x2)] [] X M29 Q)))))))))))))) : Wv G m_X8_writeHeldFrom (d + 1) 0 [(0, .ref a), (1, .int x1), (2, .int x2)] [] X M Q := by
  refine wp_aload_n 0 dX8_writeHeldFrom_0 rfl rfl ?_
  refine wp_getI dX8_writeHeldFrom_1 fl_RX8_67 rfl (sh7_K hS) ?_
  refine wp_if_le (tgt := 54) dX8_writeHeldFrom_4 (by decide) (fun c1 => ?_) (fun c1 => ?_)
  · replace h := h.1 c1
    exact wv_ret dX8_writeHeldFrom_54 rfl h
  · replace h := h.2 c1
    refine wp_aload_n 0 dX8_writeHeldFrom_7 rfl rfl ?_
    obtain ⟨q2, o3, h⟩ := h
    refine wp_cvi dX8_writeHeldFrom_8 ck_RX8_145 (sh7_K hS) (as := []) rfl rfl (Nat.le_of_ble_eq_true rfl) o3 (fun M4 r5 o6 => ?_)
    replace h := h M4 r5 o6
    refine wp_iload_n 1 dX8_writeHeldFrom_11 rfl rfl ?_
    refine wp_icmp_gt (tgt := 27) dX8_writeHeldFrom_12 (by decide) (fun c7 => ?_) (fun c7 => ?_)
    · replace h := h.1 c7
      refine wp_aload_n 0 dX8_writeHeldFrom_27 rfl rfl ?_
      refine wp_dup dX8_writeHeldFrom_28 rfl ?_
      refine wp_getI dX8_writeHeldFrom_29 fl_RX8_67 rfl (sh7_K hS) ?_
      refine wp_iconst (v := 1) dX8_writeHeldFrom_32 rfl ?_
      refine wp_isub dX8_writeHeldFrom_33 ?_
      refine wp_putI dX8_writeHeldFrom_34 fp_RX8_67 rfl (sh7_K hS) ?_
      refine wp_nm (fun M8 eM8 => ?_)
      replace h := h M8 eM8
      refine wp_aload_n 0 dX8_writeHeldFrom_37 rfl rfl ?_
      refine wp_aload_n 0 dX8_writeHeldFrom_38 rfl rfl ?_
      refine wp_getR dX8_writeHeldFrom_39 fl_RX8_22 rfl (sh7_K hS) (sh7_F_signs hS) ?_
      refine wp_aload_n 0 dX8_writeHeldFrom_42 rfl rfl ?_
      refine wp_getI dX8_writeHeldFrom_43 fl_RX8_67 rfl (sh7_K hS) ?_
      obtain ⟨j9, o10, o11, h⟩ := h
      refine wp_iald (n := 96) dX8_writeHeldFrom_46 (sh7_K_signs hS) (sh7_N_signs hS) (by decide) o10 o11 ?_
      refine wp_ineg dX8_writeHeldFrom_47 ?_
      obtain ⟨q12, o13, h⟩ := h
      refine wp_cvv dX8_writeHeldFrom_48 ck_RX8_118 (sh7_K hS) (as := [.int ((-(mI M8 (a + 3) j9)))]) rfl rfl (Nat.le_of_ble_eq_true rfl) o13 (fun M14 o15 => ?_)
      replace h := h M14 o15
      refine wp_goto (tgt := 0) dX8_writeHeldFrom_51 (by decide) ?_
      exact Wp.sub [0, 1, 2] rfl h
    · replace h := h.2 c7
      refine wp_iload_n 2 dX8_writeHeldFrom_15 rfl rfl ?_
      refine wp_if_eq (tgt := 54) dX8_writeHeldFrom_16 (by decide) (fun c16 => ?_) (fun c16 => ?_)
      · replace h := h.1 c16
        exact wv_ret dX8_writeHeldFrom_54 rfl h
      · replace h := h.2 c16
        refine wp_aload_n 0 dX8_writeHeldFrom_19 rfl rfl ?_
        obtain ⟨q17, o18, h⟩ := h
        refine wp_cvi dX8_writeHeldFrom_20 ck_RX8_145 (sh7_K hS) (as := []) rfl rfl (Nat.le_of_ble_eq_true rfl) o18 (fun M19 r20 o21 => ?_)
        replace h := h M19 r20 o21
        refine wp_iload_n 1 dX8_writeHeldFrom_23 rfl rfl ?_
        refine wp_icmp_ne (tgt := 54) dX8_writeHeldFrom_24 (by decide) (fun c22 => ?_) (fun c22 => ?_)
        · replace h := h.1 c22
          exact wv_ret dX8_writeHeldFrom_54 rfl h
        · replace h := h.2 c22
          refine wp_aload_n 0 dX8_writeHeldFrom_27 rfl rfl ?_
          refine wp_dup dX8_writeHeldFrom_28 rfl ?_
          refine wp_getI dX8_writeHeldFrom_29 fl_RX8_67 rfl (sh7_K hS) ?_
          refine wp_iconst (v := 1) dX8_writeHeldFrom_32 rfl ?_
          refine wp_isub dX8_writeHeldFrom_33 ?_
          refine wp_putI dX8_writeHeldFrom_34 fp_RX8_67 rfl (sh7_K hS) ?_
          refine wp_nm (fun M23 eM23 => ?_)
          replace h := h M23 eM23
          refine wp_aload_n 0 dX8_writeHeldFrom_37 rfl rfl ?_
          refine wp_aload_n 0 dX8_writeHeldFrom_38 rfl rfl ?_
          refine wp_getR dX8_writeHeldFrom_39 fl_RX8_22 rfl (sh7_K hS) (sh7_F_signs hS) ?_
          refine wp_aload_n 0 dX8_writeHeldFrom_42 rfl rfl ?_
          refine wp_getI dX8_writeHeldFrom_43 fl_RX8_67 rfl (sh7_K hS) ?_
          obtain ⟨j24, o25, o26, h⟩ := h
          refine wp_iald (n := 96) dX8_writeHeldFrom_46 (sh7_K_signs hS) (sh7_N_signs hS) (by decide) o25 o26 ?_
          refine wp_ineg dX8_writeHeldFrom_47 ?_
          obtain ⟨q27, o28, h⟩ := h
          refine wp_cvv dX8_writeHeldFrom_48 ck_RX8_118 (sh7_K hS) (as := [.int ((-(mI M23 (a + 3) j24)))]) rfl rfl (Nat.le_of_ble_eq_true rfl) o28 (fun M29 o30 => ?_)
          replace h := h M29 o30
          refine wp_goto (tgt := 0) dX8_writeHeldFrom_51 (by decide) ?_
          exact Wp.sub [0, 1, 2] rfl h
theorem bX8_endPiece_0 {G : Gl} {d : Nat} {X : Sh} {M : Mm} {Q : Mm → Prop} {a : Nat} (hS : Sh7 X a) (h : (∀ M1 : Mm, M1 = sI M a 15 0 → Wv G m_X8_endPiece (d + 1) 5 [(0, .ref a)] [] X M1 Q)) : Wv G m_X8_endPiece (d + 1) 0 [(0, .ref a)] [] X M Q := by
  refine wp_aload_n 0 dX8_endPiece_0 rfl rfl ?_
  refine wp_iconst (v := 0) dX8_endPiece_1 rfl ?_
  refine wp_putZ dX8_endPiece_2 fp_RX8_41 rfl (sh7_K hS) (Or.inl rfl) ?_
  refine wp_nm (fun M1 eM1 => ?_)
  replace h := h M1 eM1
  exact Wp.sub [0] rfl h
theorem bX8_endPiece_5 {G : Gl} {d : Nat} {X : Sh} {M : Mm} {Q : Mm → Prop} {a : Nat} (hS : Sh7 X a) (h : (((mI M a 12) ≤ 0 → Q M) ∧ (¬ ((mI M a 12) ≤ 0) → (∃ j2 : Nat, ((mI M a 12) - 1) = nI j2 ∧ j2 < 96 ∧ ((¬ ((mI M (a + 3) j2) = 33) → Q M) ∧ ((mI M (a + 3) j2) = 33 → (∀ M6 : Mm, M6 = sI M a 12 ((mI M a 12) - 1) → (∀ M7 : Mm, M7 = sI M6 a 14 ((mI M6 a 14) - 1) → (∃ q8 : Mm → Prop, Cv G m_X8_write d [.ref a, .int (-33)] X M7 q8 ∧ ∀ M10, q8 M10 → Wv G m_X8_endPiece (d + 1) 5 [(0, .ref a)] [] X M10 Q))))))))) : Wv G m_X8_endPiece (d + 1) 5 [(0, .ref a)] [] X M Q := by
  refine wp_aload_n 0 dX8_endPiece_5 rfl rfl ?_
  refine wp_getI dX8_endPiece_6 fl_RX8_67 rfl (sh7_K hS) ?_
  refine wp_if_le (tgt := 57) dX8_endPiece_9 (by decide) (fun c1 => ?_) (fun c1 => ?_)
  · replace h := h.1 c1
    exact wv_ret dX8_endPiece_57 rfl h
  · replace h := h.2 c1
    refine wp_aload_n 0 dX8_endPiece_12 rfl rfl ?_
    refine wp_getR dX8_endPiece_13 fl_RX8_22 rfl (sh7_K hS) (sh7_F_signs hS) ?_
    refine wp_aload_n 0 dX8_endPiece_16 rfl rfl ?_
    refine wp_getI dX8_endPiece_17 fl_RX8_67 rfl (sh7_K hS) ?_
    refine wp_iconst (v := 1) dX8_endPiece_20 rfl ?_
    refine wp_isub dX8_endPiece_21 ?_
    obtain ⟨j2, o3, o4, h⟩ := h
    refine wp_iald (n := 96) dX8_endPiece_22 (sh7_K_signs hS) (sh7_N_signs hS) (by decide) o3 o4 ?_
    refine wp_bipush (v := 33) dX8_endPiece_23 rfl ?_
    refine wp_icmp_ne (tgt := 57) dX8_endPiece_25 (by decide) (fun c5 => ?_) (fun c5 => ?_)
    · replace h := h.1 c5
      exact wv_ret dX8_endPiece_57 rfl h
    · replace h := h.2 c5
      refine wp_aload_n 0 dX8_endPiece_28 rfl rfl ?_
      refine wp_dup dX8_endPiece_29 rfl ?_
      refine wp_getI dX8_endPiece_30 fl_RX8_67 rfl (sh7_K hS) ?_
      refine wp_iconst (v := 1) dX8_endPiece_33 rfl ?_
      refine wp_isub dX8_endPiece_34 ?_
      refine wp_putI dX8_endPiece_35 fp_RX8_67 rfl (sh7_K hS) ?_
      refine wp_nm (fun M6 eM6 => ?_)
      replace h := h M6 eM6
      refine wp_aload_n 0 dX8_endPiece_38 rfl rfl ?_
      refine wp_dup dX8_endPiece_39 rfl ?_
      refine wp_getI dX8_endPiece_40 fl_RX8_70 rfl (sh7_K hS) ?_
      refine wp_iconst (v := 1) dX8_endPiece_43 rfl ?_
      refine wp_isub dX8_endPiece_44 ?_
      refine wp_putI dX8_endPiece_45 fp_RX8_70 rfl (sh7_K hS) ?_
      refine wp_nm (fun M7 eM7 => ?_)
      replace h := h M7 eM7
      refine wp_aload_n 0 dX8_endPiece_48 rfl rfl ?_
      refine wp_bipush (v := (-33)) dX8_endPiece_49 rfl ?_
      obtain ⟨q8, o9, h⟩ := h
      refine wp_cvv dX8_endPiece_51 ck_RX8_118 (sh7_K hS) (as := [.int (-33)]) rfl rfl (Nat.le_of_ble_eq_true rfl) o9 (fun M10 o11 => ?_)
      replace h := h M10 o11
      refine wp_goto (tgt := 5) dX8_endPiece_54 (by decide) ?_
      exact Wp.sub [0] rfl h
theorem bX8_numberThere_0 {G : Gl} {d : Nat} {X : Sh} {M : Mm} {Q : Mm → Int32 → Prop} {a : Nat} (hS : Sh7 X a) (h : ((((mI M a 3) - (mI M a 2)) ≤ 4 → (∀ v2 : Int32, v2 = (mI M a 2) → Wn G m_X8_numberThere d 22 [(0, .ref a), (1, .int 0), (2, .int v2)] [] X M Q)) ∧ (¬ (((mI M a 3) - (mI M a 2)) ≤ 4) → Q M (-1)))) : Wn G m_X8_numberThere d 0 [(0, .ref a)] [] X M Q := by
  refine wp_aload_n 0 dX8_numberThere_0 rfl rfl ?_
  refine wp_getI dX8_numberThere_1 fl_RX8_58 rfl (sh7_K hS) ?_
  refine wp_aload_n 0 dX8_numberThere_4 rfl rfl ?_
  refine wp_getI dX8_numberThere_5 fl_RX8_32 rfl (sh7_K hS) ?_
  refine wp_isub dX8_numberThere_8 ?_
  refine wp_iconst (v := 4) dX8_numberThere_9 rfl ?_
  refine wp_icmp_le (tgt := 15) dX8_numberThere_10 (by decide) (fun c1 => ?_) (fun c1 => ?_)
  · replace h := h.1 c1
    refine wp_iconst (v := 0) dX8_numberThere_15 rfl ?_
    refine wp_istore_n (lo2 := [(1, .int _), (0, .ref _)]) dX8_numberThere_16 rfl (by decide) rfl ?_
    refine wp_aload_n 1 dX8_numberThere_17 rfl rfl ?_
    refine wp_getI dX8_numberThere_18 fl_RX8_32 rfl (sh7_K hS) ?_
    refine wp_topi (fun v2 ev2 => ?_)
    replace h := h v2 ev2
    refine wp_istore_n (lo2 := [(2, .int _), (1, .int _), (0, .ref _)]) dX8_numberThere_21 rfl (by decide) rfl ?_
    exact Wp.sub [2, 1, 0] rfl h
  · replace h := h.2 c1
    refine wp_iconst (v := (-1)) dX8_numberThere_13 rfl ?_
    exact wn_iret dX8_numberThere_14 rfl h
theorem bX8_numberThere_22 {G : Gl} {d : Nat} {X : Sh} {M : Mm} {Q : Mm → Int32 → Prop} {a : Nat} {x1 : Int32} {x2 : Int32} (hS : Sh7 X a) (h : (((mI M a 3) ≤ x2 → Q M x1) ∧ (¬ ((mI M a 3) ≤ x2) → (∃ j2 : Nat, x2 = nI j2 ∧ j2 < 96 ∧ (∀ v5 : Int32, v5 = (((x1 * 10) + (mI M (a + 1) j2)) - 48) → Wn G m_X8_numberThere d 22 [(0, .ref a), (1, .int v5), (2, .int (x2 + 1))] [] X M Q))))) : Wn G m_X8_numberThere d 22 [(0, .ref a), (1, .int x1), (2, .int x2)] [] X M Q := by
  refine wp_iload_n 2 dX8_numberThere_22 rfl rfl ?_
  refine wp_aload_n 0 dX8_numberThere_23 rfl rfl ?_
  refine wp_getI dX8_numberThere_24 fl_RX8_58 rfl (sh7_K hS) ?_
  refine wp_icmp_ge (tgt := 51) dX8_numberThere_27 (by decide) (fun c1 => ?_) (fun c1 => ?_)
  · replace h := h.1 c1
    refine wp_iload_n 1 dX8_numberThere_51 rfl rfl ?_
    exact wn_iret dX8_numberThere_52 rfl h
  · replace h := h.2 c1
    refine wp_iload_n 1 dX8_numberThere_30 rfl rfl ?_
    refine wp_bipush (v := 10) dX8_numberThere_31 rfl ?_
    refine wp_imul dX8_numberThere_33 ?_
    refine wp_aload_n 0 dX8_numberThere_34 rfl rfl ?_
    refine wp_getR dX8_numberThere_35 fl_RX8_9 rfl (sh7_K hS) (sh7_F_bytes hS) ?_
    refine wp_iload_n 2 dX8_numberThere_38 rfl rfl ?_
    obtain ⟨j2, o3, o4, h⟩ := h
    refine wp_iald (n := 96) dX8_numberThere_39 (sh7_K_bytes hS) (sh7_N_bytes hS) (by decide) o3 o4 ?_
    refine wp_iadd dX8_numberThere_40 ?_
    refine wp_bipush (v := 48) dX8_numberThere_41 rfl ?_
    refine wp_isub dX8_numberThere_43 ?_
    refine wp_topi (fun v5 ev5 => ?_)
    replace h := h v5 ev5
    refine wp_istore_n (lo2 := [(1, .int _), (0, .ref _), (2, .int _)]) dX8_numberThere_44 rfl (by decide) rfl ?_
    refine wp_iinc (v := x2 + 1) (lo2 := [(2, .int _), (1, .int _), (0, .ref _)]) dX8_numberThere_45 (q := 2) rfl rfl (by decide) rfl ?_
    refine wp_goto (tgt := 22) dX8_numberThere_48 (by decide) ?_
    exact Wp.sub [2, 1, 0] rfl h
theorem bX8_sortAt_0 {G : Gl} {d : Nat} {X : Sh} {M : Mm} {Q : Mm → Int32 → Prop} {a : Nat} {x1 : Int32} (hS : Sh7 X a) (h : ((x1 < (mI M a 1) → (∃ j2 : Nat, x1 = nI j2 ∧ j2 < 96 ∧ (∀ v5 : Int32, v5 = (mI M (a + 1) j2) → ((v5 < 97 → Q M (if v5 < 48 then 3 else (if 57 < v5 then 3 else 2))) ∧ (¬ (v5 < 97) → ((122 < v5 → Q M (if v5 < 48 then 3 else (if 57 < v5 then 3 else 2))) ∧ (¬ (122 < v5) → Q M 1))))))) ∧ (¬ (x1 < (mI M a 1)) → Q M 0))) : Wn G m_X8_sortAt d 0 [(0, .ref a), (1, .int x1)] [] X M Q := by
  refine wp_iload_n 1 dX8_sortAt_0 rfl rfl ?_
  refine wp_aload_n 0 dX8_sortAt_1 rfl rfl ?_
  refine wp_getI dX8_sortAt_2 fl_RX8_15 rfl (sh7_K hS) ?_
  refine wp_icmp_lt (tgt := 10) dX8_sortAt_5 (by decide) (fun c1 => ?_) (fun c1 => ?_)
  · replace h := h.1 c1
    refine wp_aload_n 0 dX8_sortAt_10 rfl rfl ?_
    refine wp_getR dX8_sortAt_11 fl_RX8_9 rfl (sh7_K hS) (sh7_F_bytes hS) ?_
    refine wp_iload_n 1 dX8_sortAt_14 rfl rfl ?_
    obtain ⟨j2, o3, o4, h⟩ := h
    refine wp_iald (n := 96) dX8_sortAt_15 (sh7_K_bytes hS) (sh7_N_bytes hS) (by decide) o3 o4 ?_
    refine wp_topi (fun v5 ev5 => ?_)
    replace h := h v5 ev5
    refine wp_istore_n (lo2 := [(2, .int _), (0, .ref _), (1, .int _)]) dX8_sortAt_16 rfl (by decide) rfl ?_
    refine wp_iload_n 0 dX8_sortAt_17 rfl rfl ?_
    refine wp_bipush (v := 97) dX8_sortAt_18 rfl ?_
    refine wp_icmp_lt (tgt := 31) dX8_sortAt_20 (by decide) (fun c6 => ?_) (fun c6 => ?_)
    · replace h := h.1 c6
      refine wp_iload_n 0 dX8_sortAt_31 rfl rfl ?_
      refine wp_bipush (v := 48) dX8_sortAt_32 rfl ?_
      have K9 : Wp G m_X8_sortAt d 0 0 0 0 48 [(2, .int v5), (0, .ref a), (1, .int x1)] [.int ((if v5 < 48 then 3 else (if 57 < v5 then 3 else 2)))] X M (fun X2 M2 v => X2 = X ∧ ∃ x, v = some (.int x) ∧ Q M2 x) := by
        exact wn_iret dX8_sortAt_48 rfl h
      refine wp_icmp_lt (tgt := 47) dX8_sortAt_34 (by decide) (fun c7 => ?_) (fun c7 => ?_)
      · refine wp_iconst (v := 3) dX8_sortAt_47 rfl ?_
        rw [if_pos c7] at K9
        exact K9
      · refine wp_iload_n 0 dX8_sortAt_37 rfl rfl ?_
        refine wp_bipush (v := 57) dX8_sortAt_38 rfl ?_
        refine wp_icmp_gt (tgt := 47) dX8_sortAt_40 (by decide) (fun c8 => ?_) (fun c8 => ?_)
        · refine wp_iconst (v := 3) dX8_sortAt_47 rfl ?_
          rw [if_neg c7] at K9
          rw [if_pos c8] at K9
          exact K9
        · refine wp_iconst (v := 2) dX8_sortAt_43 rfl ?_
          refine wp_goto (tgt := 48) dX8_sortAt_44 (by decide) ?_
          rw [if_neg c7] at K9
          rw [if_neg c8] at K9
          exact K9
    · replace h := h.2 c6
      refine wp_iload_n 0 dX8_sortAt_23 rfl rfl ?_
      refine wp_bipush (v := 122) dX8_sortAt_24 rfl ?_
      refine wp_icmp_gt (tgt := 31) dX8_sortAt_26 (by decide) (fun c10 => ?_) (fun c10 => ?_)
      · replace h := h.1 c10
        refine wp_iload_n 0 dX8_sortAt_31 rfl rfl ?_
        refine wp_bipush (v := 48) dX8_sortAt_32 rfl ?_
        have K13 : Wp G m_X8_sortAt d 0 0 0 0 48 [(2, .int v5), (0, .ref a), (1, .int x1)] [.int ((if v5 < 48 then 3 else (if 57 < v5 then 3 else 2)))] X M (fun X2 M2 v => X2 = X ∧ ∃ x, v = some (.int x) ∧ Q M2 x) := by
          exact wn_iret dX8_sortAt_48 rfl h
        refine wp_icmp_lt (tgt := 47) dX8_sortAt_34 (by decide) (fun c11 => ?_) (fun c11 => ?_)
        · refine wp_iconst (v := 3) dX8_sortAt_47 rfl ?_
          rw [if_pos c11] at K13
          exact K13
        · refine wp_iload_n 0 dX8_sortAt_37 rfl rfl ?_
          refine wp_bipush (v := 57) dX8_sortAt_38 rfl ?_
          refine wp_icmp_gt (tgt := 47) dX8_sortAt_40 (by decide) (fun c12 => ?_) (fun c12 => ?_)
          · refine wp_iconst (v := 3) dX8_sortAt_47 rfl ?_
            rw [if_neg c11] at K13
            rw [if_pos c12] at K13
            exact K13
          · refine wp_iconst (v := 2) dX8_sortAt_43 rfl ?_
            refine wp_goto (tgt := 48) dX8_sortAt_44 (by decide) ?_
            rw [if_neg c11] at K13
            rw [if_neg c12] at K13
            exact K13
      · replace h := h.2 c10
        refine wp_iconst (v := 1) dX8_sortAt_29 rfl ?_
        exact wn_iret dX8_sortAt_30 rfl h
  · replace h := h.2 c1
    refine wp_iconst (v := 0) dX8_sortAt_8 rfl ?_
    exact wn_iret dX8_sortAt_9 rfl h
theorem bX8_step_0 {G : Gl} {d : Nat} {X : Sh} {M : Mm} {Q : Mm → Prop} {a : Nat} (hS : Sh7 X a) (h : (((mI M a 4) = 1 → (∀ M2 : Mm, M2 = sI M a 2 (mI M a 3) → Wv G m_X8_step (d + 1) 30 [(0, .ref a), (1, .int 1)] [] X M2 Q)) ∧ (¬ ((mI M a 4) = 1) → (∀ v5 : Int32, v5 = (if (mI M a 4) = 2 then 1 else 0) → (∀ M6 : Mm, M6 = sI M a 2 (mI M a 3) → Wv G m_X8_step (d + 1) 30 [(0, .ref a), (1, .int v5)] [] X M6 Q))))) : Wv G m_X8_step (d + 1) 0 [(0, .ref a)] [] X M Q := by
  refine wp_aload_n 0 dX8_step_0 rfl rfl ?_
  refine wp_getI dX8_step_1 fl_RX8_38 rfl (sh7_K hS) ?_
  refine wp_iconst (v := 1) dX8_step_4 rfl ?_
  refine wp_icmp_eq (tgt := 16) dX8_step_5 (by decide) (fun c1 => ?_) (fun c1 => ?_)
  · replace h := h.1 c1
    refine wp_iconst (v := 1) dX8_step_16 rfl ?_
    refine wp_goto (tgt := 21) dX8_step_17 (by decide) ?_
    refine wp_istore_n (lo2 := [(1, .int _), (0, .ref _)]) dX8_step_21 rfl (by decide) rfl ?_
    refine wp_aload_n 1 dX8_step_22 rfl rfl ?_
    refine wp_aload_n 1 dX8_step_23 rfl rfl ?_
    refine wp_getI dX8_step_24 fl_RX8_58 rfl (sh7_K hS) ?_
    refine wp_putI dX8_step_27 fp_RX8_32 rfl (sh7_K hS) ?_
    refine wp_nm (fun M2 eM2 => ?_)
    replace h := h M2 eM2
    exact Wp.sub [1, 0] rfl h
  · replace h := h.2 c1
    refine wp_aload_n 0 dX8_step_8 rfl rfl ?_
    refine wp_getI dX8_step_9 fl_RX8_38 rfl (sh7_K hS) ?_
    refine wp_iconst (v := 2) dX8_step_12 rfl ?_
    have K4 : Wp G m_X8_step (d + 1) 0 0 0 0 21 [(0, .ref a)] [.int (if (mI M a 4) = 2 then 1 else 0)] X M (fun X2 M2 v => X2 = X ∧ v = none ∧ Q M2) := by
      refine wp_topi (fun v5 ev5 => ?_)
      replace h := h v5 ev5
      refine wp_istore_n (lo2 := [(1, .int _), (0, .ref _)]) dX8_step_21 rfl (by decide) rfl ?_
      refine wp_aload_n 1 dX8_step_22 rfl rfl ?_
      refine wp_aload_n 1 dX8_step_23 rfl rfl ?_
      refine wp_getI dX8_step_24 fl_RX8_58 rfl (sh7_K hS) ?_
      refine wp_putI dX8_step_27 fp_RX8_32 rfl (sh7_K hS) ?_
      refine wp_nm (fun M6 eM6 => ?_)
      replace h := h M6 eM6
      exact Wp.sub [1, 0] rfl h
    refine wp_icmp_ne (tgt := 20) dX8_step_13 (by decide) (fun c3 => ?_) (fun c3 => ?_)
    · refine wp_iconst (v := 0) dX8_step_20 rfl ?_
      rw [if_neg c3] at K4
      exact K4
    · refine wp_iconst (v := 1) dX8_step_16 rfl ?_
      refine wp_goto (tgt := 21) dX8_step_17 (by decide) ?_
      rw [if_pos c3] at K4
      exact K4
theorem bX8_step_30 {G : Gl} {d : Nat} {X : Sh} {M : Mm} {Q : Mm → Prop} {a : Nat} {x1 : Int32} (hS : Sh7 X a) (h : (((mI M a 1) ≤ (mI M a 2) → (∀ M5 : Mm, M5 = sI M a 5 (if ((¬ (x1 = 0)) ∧ ((mI M a 2) = (mI M a 3))) then 1 else 0) → (∀ M6 : Mm, M6 = sI M5 a 3 (mI M5 a 2) → (∃ q7 : Mm → Int32 → Prop, Cn G m_X8_sortAt d [.ref a, .int ((mI M6 a 2))] X M6 q7 ∧ ∀ M9 r10, q7 M9 r10 → (∀ M12 : Mm, M12 = sI M9 a 4 r10 → ((¬ ((mI M12 a 4) = 0) → (∀ M14 : Mm, M14 = sI M12 a 3 ((mI M12 a 3) + 1) → Wv G m_X8_step (d + 1) 130 [(0, .ref a)] [] X M14 Q)) ∧ ((mI M12 a 4) = 0 → Q M12))))))) ∧ (¬ ((mI M a 1) ≤ (mI M a 2)) → (∃ j15 : Nat, (mI M a 2) = nI j15 ∧ j15 < 96 ∧ ((¬ ((mI M (a + 1) j15) = 32) → (∀ M22 : Mm, M22 = sI M a 5 (if ((¬ (x1 = 0)) ∧ ((mI M a 2) = (mI M a 3))) then 1 else 0) → (∀ M23 : Mm, M23 = sI M22 a 3 (mI M22 a 2) → (∃ q24 : Mm → Int32 → Prop, Cn G m_X8_sortAt d [.ref a, .int ((mI M23 a 2))] X M23 q24 ∧ ∀ M26 r27, q24 M26 r27 → (∀ M29 : Mm, M29 = sI M26 a 4 r27 → ((¬ ((mI M29 a 4) = 0) → (∀ M31 : Mm, M31 = sI M29 a 3 ((mI M29 a 3) + 1) → Wv G m_X8_step (d + 1) 130 [(0, .ref a)] [] X M31 Q)) ∧ ((mI M29 a 4) = 0 → Q M29))))))) ∧ ((mI M (a + 1) j15) = 32 → (∀ M32 : Mm, M32 = sI M a 2 ((mI M a 2) + 1) → Wv G m_X8_step (d + 1) 30 [(0, .ref a), (1, .int x1)] [] X M32 Q))))))) : Wv G m_X8_step (d + 1) 30 [(0, .ref a), (1, .int x1)] [] X M Q := by
  refine wp_aload_n 0 dX8_step_30 rfl rfl ?_
  refine wp_getI dX8_step_31 fl_RX8_32 rfl (sh7_K hS) ?_
  refine wp_aload_n 0 dX8_step_34 rfl rfl ?_
  refine wp_getI dX8_step_35 fl_RX8_15 rfl (sh7_K hS) ?_
  refine wp_icmp_ge (tgt := 68) dX8_step_38 (by decide) (fun c1 => ?_) (fun c1 => ?_)
  · replace h := h.1 c1
    refine wp_aload_n 0 dX8_step_68 rfl rfl ?_
    refine wp_iload_n 1 dX8_step_69 rfl rfl ?_
    have K4 : Wp G m_X8_step (d + 1) 0 0 0 0 89 [(0, .ref a), (1, .int x1)] [.int (if ((¬ (x1 = 0)) ∧ ((mI M a 2) = (mI M a 3))) then 1 else 0), .ref a] X M (fun X2 M2 v => X2 = X ∧ v = none ∧ Q M2) := by
      refine wp_putZ dX8_step_89 fp_RX8_73 rfl (sh7_K hS) (ite_01 _) ?_
      refine wp_nm (fun M5 eM5 => ?_)
      replace h := h M5 eM5
      refine wp_aload_n 0 dX8_step_92 rfl rfl ?_
      refine wp_aload_n 0 dX8_step_93 rfl rfl ?_
      refine wp_getI dX8_step_94 fl_RX8_32 rfl (sh7_K hS) ?_
      refine wp_putI dX8_step_97 fp_RX8_58 rfl (sh7_K hS) ?_
      refine wp_nm (fun M6 eM6 => ?_)
      replace h := h M6 eM6
      refine wp_aload_n 0 dX8_step_100 rfl rfl ?_
      refine wp_aload_n 0 dX8_step_101 rfl rfl ?_
      refine wp_aload_n 0 dX8_step_102 rfl rfl ?_
      refine wp_getI dX8_step_103 fl_RX8_32 rfl (sh7_K hS) ?_
      obtain ⟨q7, o8, h⟩ := h
      refine wp_cvi dX8_step_106 ck_RX8_76 (sh7_K hS) (as := [.int ((mI M6 a 2))]) rfl rfl (Nat.le_of_ble_eq_true rfl) o8 (fun M9 r10 o11 => ?_)
      replace h := h M9 r10 o11
      refine wp_putI dX8_step_109 fp_RX8_38 rfl (sh7_K hS) ?_
      refine wp_nm (fun M12 eM12 => ?_)
      replace h := h M12 eM12
      refine wp_aload_n 0 dX8_step_112 rfl rfl ?_
      refine wp_getI dX8_step_113 fl_RX8_38 rfl (sh7_K hS) ?_
      refine wp_if_ne (tgt := 120) dX8_step_116 (by decide) (fun c13 => ?_) (fun c13 => ?_)
      · replace h := h.1 c13
        refine wp_aload_n 0 dX8_step_120 rfl rfl ?_
        refine wp_dup dX8_step_121 rfl ?_
        refine wp_getI dX8_step_122 fl_RX8_58 rfl (sh7_K hS) ?_
        refine wp_iconst (v := 1) dX8_step_125 rfl ?_
        refine wp_iadd dX8_step_126 ?_
        refine wp_putI dX8_step_127 fp_RX8_58 rfl (sh7_K hS) ?_
        refine wp_nm (fun M14 eM14 => ?_)
        replace h := h M14 eM14
        exact Wp.sub [0] rfl h
      · replace h := h.2 c13
        exact wv_ret dX8_step_119 rfl h
    refine wp_if_eq (tgt := 88) dX8_step_70 (by decide) (fun c2 => ?_) (fun c2 => ?_)
    · refine wp_iconst (v := 0) dX8_step_88 rfl ?_
      rw [if_neg (fun q => (fun q => q c2) q.1)] at K4
      exact K4
    · refine wp_aload_n 0 dX8_step_73 rfl rfl ?_
      refine wp_getI dX8_step_74 fl_RX8_32 rfl (sh7_K hS) ?_
      refine wp_aload_n 0 dX8_step_77 rfl rfl ?_
      refine wp_getI dX8_step_78 fl_RX8_58 rfl (sh7_K hS) ?_
      refine wp_icmp_ne (tgt := 88) dX8_step_81 (by decide) (fun c3 => ?_) (fun c3 => ?_)
      · refine wp_iconst (v := 0) dX8_step_88 rfl ?_
        rw [if_neg (fun q => c3 q.2)] at K4
        exact K4
      · refine wp_iconst (v := 1) dX8_step_84 rfl ?_
        refine wp_goto (tgt := 89) dX8_step_85 (by decide) ?_
        rw [if_pos ⟨c2, c3⟩] at K4
        exact K4
  · replace h := h.2 c1
    refine wp_aload_n 0 dX8_step_41 rfl rfl ?_
    refine wp_getR dX8_step_42 fl_RX8_9 rfl (sh7_K hS) (sh7_F_bytes hS) ?_
    refine wp_aload_n 0 dX8_step_45 rfl rfl ?_
    refine wp_getI dX8_step_46 fl_RX8_32 rfl (sh7_K hS) ?_
    obtain ⟨j15, o16, o17, h⟩ := h
    refine wp_iald (n := 96) dX8_step_49 (sh7_K_bytes hS) (sh7_N_bytes hS) (by decide) o16 o17 ?_
    refine wp_bipush (v := 32) dX8_step_50 rfl ?_
    refine wp_icmp_ne (tgt := 68) dX8_step_52 (by decide) (fun c18 => ?_) (fun c18 => ?_)
    · replace h := h.1 c18
      refine wp_aload_n 0 dX8_step_68 rfl rfl ?_
      refine wp_iload_n 1 dX8_step_69 rfl rfl ?_
      have K21 : Wp G m_X8_step (d + 1) 0 0 0 0 89 [(0, .ref a), (1, .int x1)] [.int (if ((¬ (x1 = 0)) ∧ ((mI M a 2) = (mI M a 3))) then 1 else 0), .ref a] X M (fun X2 M2 v => X2 = X ∧ v = none ∧ Q M2) := by
        refine wp_putZ dX8_step_89 fp_RX8_73 rfl (sh7_K hS) (ite_01 _) ?_
        refine wp_nm (fun M22 eM22 => ?_)
        replace h := h M22 eM22
        refine wp_aload_n 0 dX8_step_92 rfl rfl ?_
        refine wp_aload_n 0 dX8_step_93 rfl rfl ?_
        refine wp_getI dX8_step_94 fl_RX8_32 rfl (sh7_K hS) ?_
        refine wp_putI dX8_step_97 fp_RX8_58 rfl (sh7_K hS) ?_
        refine wp_nm (fun M23 eM23 => ?_)
        replace h := h M23 eM23
        refine wp_aload_n 0 dX8_step_100 rfl rfl ?_
        refine wp_aload_n 0 dX8_step_101 rfl rfl ?_
        refine wp_aload_n 0 dX8_step_102 rfl rfl ?_
        refine wp_getI dX8_step_103 fl_RX8_32 rfl (sh7_K hS) ?_
        obtain ⟨q24, o25, h⟩ := h
        refine wp_cvi dX8_step_106 ck_RX8_76 (sh7_K hS) (as := [.int ((mI M23 a 2))]) rfl rfl (Nat.le_of_ble_eq_true rfl) o25 (fun M26 r27 o28 => ?_)
        replace h := h M26 r27 o28
        refine wp_putI dX8_step_109 fp_RX8_38 rfl (sh7_K hS) ?_
        refine wp_nm (fun M29 eM29 => ?_)
        replace h := h M29 eM29
        refine wp_aload_n 0 dX8_step_112 rfl rfl ?_
        refine wp_getI dX8_step_113 fl_RX8_38 rfl (sh7_K hS) ?_
        refine wp_if_ne (tgt := 120) dX8_step_116 (by decide) (fun c30 => ?_) (fun c30 => ?_)
        · replace h := h.1 c30
          refine wp_aload_n 0 dX8_step_120 rfl rfl ?_
          refine wp_dup dX8_step_121 rfl ?_
          refine wp_getI dX8_step_122 fl_RX8_58 rfl (sh7_K hS) ?_
          refine wp_iconst (v := 1) dX8_step_125 rfl ?_
          refine wp_iadd dX8_step_126 ?_
          refine wp_putI dX8_step_127 fp_RX8_58 rfl (sh7_K hS) ?_
          refine wp_nm (fun M31 eM31 => ?_)
          replace h := h M31 eM31
          exact Wp.sub [0] rfl h
        · replace h := h.2 c30
          exact wv_ret dX8_step_119 rfl h
      refine wp_if_eq (tgt := 88) dX8_step_70 (by decide) (fun c19 => ?_) (fun c19 => ?_)
      · refine wp_iconst (v := 0) dX8_step_88 rfl ?_
        rw [if_neg (fun q => (fun q => q c19) q.1)] at K21
        exact K21
      · refine wp_aload_n 0 dX8_step_73 rfl rfl ?_
        refine wp_getI dX8_step_74 fl_RX8_32 rfl (sh7_K hS) ?_
        refine wp_aload_n 0 dX8_step_77 rfl rfl ?_
        refine wp_getI dX8_step_78 fl_RX8_58 rfl (sh7_K hS) ?_
        refine wp_icmp_ne (tgt := 88) dX8_step_81 (by decide) (fun c20 => ?_) (fun c20 => ?_)
        · refine wp_iconst (v := 0) dX8_step_88 rfl ?_
          rw [if_neg (fun q => c20 q.2)] at K21
          exact K21
        · refine wp_iconst (v := 1) dX8_step_84 rfl ?_
          refine wp_goto (tgt := 89) dX8_step_85 (by decide) ?_
          rw [if_pos ⟨c19, c20⟩] at K21
          exact K21
    · replace h := h.2 c18
      refine wp_aload_n 0 dX8_step_55 rfl rfl ?_
      refine wp_dup dX8_step_56 rfl ?_
      refine wp_getI dX8_step_57 fl_RX8_32 rfl (sh7_K hS) ?_
      refine wp_iconst (v := 1) dX8_step_60 rfl ?_
      refine wp_iadd dX8_step_61 ?_
      refine wp_putI dX8_step_62 fp_RX8_32 rfl (sh7_K hS) ?_
      refine wp_nm (fun M32 eM32 => ?_)
      replace h := h M32 eM32
      refine wp_goto (tgt := 30) dX8_step_65 (by decide) ?_
      exact Wp.sub [0, 1] rfl h
theorem bX8_step_130 {G : Gl} {d : Nat} {X : Sh} {M : Mm} {Q : Mm → Prop} {a : Nat} (hS : Sh7 X a) (h : (((mI M a 4) = 3 → Q M) ∧ (¬ ((mI M a 4) = 3) → (((mI M a 1) ≤ (mI M a 3) → Q M) ∧ (¬ ((mI M a 1) ≤ (mI M a 3)) → (∃ q3 : Mm → Int32 → Prop, Cn G m_X8_sortAt d [.ref a, .int ((mI M a 3))] X M q3 ∧ ∀ M5 r6, q3 M5 r6 → ((¬ (r6 = (mI M5 a 4)) → Q M5) ∧ (r6 = (mI M5 a 4) → (∀ M9 : Mm, M9 = sI M5 a 3 ((mI M5 a 3) + 1) → Wv G m_X8_step (d + 1) 130 [(0, .ref a)] [] X M9 Q))))))))) : Wv G m_X8_step (d + 1) 130 [(0, .ref a)] [] X M Q := by
  refine wp_aload_n 0 dX8_step_130 rfl rfl ?_
  refine wp_getI dX8_step_131 fl_RX8_38 rfl (sh7_K hS) ?_
  refine wp_iconst (v := 3) dX8_step_134 rfl ?_
  refine wp_icmp_eq (tgt := 177) dX8_step_135 (by decide) (fun c1 => ?_) (fun c1 => ?_)
  · replace h := h.1 c1
    exact wv_ret dX8_step_177 rfl h
  · replace h := h.2 c1
    refine wp_aload_n 0 dX8_step_138 rfl rfl ?_
    refine wp_getI dX8_step_139 fl_RX8_58 rfl (sh7_K hS) ?_
    refine wp_aload_n 0 dX8_step_142 rfl rfl ?_
    refine wp_getI dX8_step_143 fl_RX8_15 rfl (sh7_K hS) ?_
    refine wp_icmp_ge (tgt := 177) dX8_step_146 (by decide) (fun c2 => ?_) (fun c2 => ?_)
    · replace h := h.1 c2
      exact wv_ret dX8_step_177 rfl h
    · replace h := h.2 c2
      refine wp_aload_n 0 dX8_step_149 rfl rfl ?_
      refine wp_aload_n 0 dX8_step_150 rfl rfl ?_
      refine wp_getI dX8_step_151 fl_RX8_58 rfl (sh7_K hS) ?_
      obtain ⟨q3, o4, h⟩ := h
      refine wp_cvi dX8_step_154 ck_RX8_76 (sh7_K hS) (as := [.int ((mI M a 3))]) rfl rfl (Nat.le_of_ble_eq_true rfl) o4 (fun M5 r6 o7 => ?_)
      replace h := h M5 r6 o7
      refine wp_aload_n 0 dX8_step_157 rfl rfl ?_
      refine wp_getI dX8_step_158 fl_RX8_38 rfl (sh7_K hS) ?_
      refine wp_icmp_ne (tgt := 177) dX8_step_161 (by decide) (fun c8 => ?_) (fun c8 => ?_)
      · replace h := h.1 c8
        exact wv_ret dX8_step_177 rfl h
      · replace h := h.2 c8
        refine wp_aload_n 0 dX8_step_164 rfl rfl ?_
        refine wp_dup dX8_step_165 rfl ?_
        refine wp_getI dX8_step_166 fl_RX8_58 rfl (sh7_K hS) ?_
        refine wp_iconst (v := 1) dX8_step_169 rfl ?_
        refine wp_iadd dX8_step_170 ?_
        refine wp_putI dX8_step_171 fp_RX8_58 rfl (sh7_K hS) ?_
        refine wp_nm (fun M9 eM9 => ?_)
        replace h := h M9 eM9
        refine wp_goto (tgt := 130) dX8_step_174 (by decide) ?_
        exact Wp.sub [0] rfl h
def ecd (it : Nat × Nat) : Int32 := e_code (nI it.1) (nI it.2)
def CdIs (p : Nat → Int32) (O : List (Nat × Nat)) : Prop := ∀ i, i < O.length → p i = ecd (O.getD i (0, 0))
theorem CdIs.snoc {p : Nat → Int32} {O : List (Nat × Nat)} {it : Nat × Nat} {v : Int32} (h : CdIs p O) (hv : v = ecd it) : CdIs (upd p O.length v) (O ++ [it]) := by
  intro i hi
  simp only [List.length_append, List.length_cons, List.length_nil] at hi
  by_cases q : i < O.length
  · rw [upd_ne (by omega), List.getD_eq_getElem?_getD, List.getElem?_append_left q, ← List.getD_eq_getElem?_getD]
    exact h i q
  · have hi2 : i = O.length := by omega
    subst hi2
    rw [upd_eq, hv, List.getD_eq_getElem?_getD, List.getElem?_append_right (Nat.le_refl _), Nat.sub_self]
    rfl
abbrev hI (H : List Nat) : List Int32 := H.map nI
def HB (H : List Nat) : Prop := ∀ x ∈ H, x ≤ 255
/-- what is held and written -/
def HO (M : Mm) (a : Nat) (H : List Nat) (O : List (Nat × Nat)) : Prop := mI M a 10 = nI O.length ∧ CdIs (mI M (a + 2)) O ∧ mI M a 12 = nI H.length ∧ PileIs (mI M (a + 3)) (hI H)
theorem cp_X8_write (G : Gl) (d : Nat) (X : Sh) (M : Mm) (a L : Nat) (x : Int32) (hS : Sh7 X a) (h10 : mI M a 10 = nI L) (hL : L < 96) : Cv G m_X8_write d [.ref a, .int x] X M (fun M2 => M2 = sI (sI M (a + 2) L x) a 10 (nI (L + 1))) := by
  refine Cv.of (by decide) (Nat.le_of_ble_eq_true rfl) (bX8_write_0 hS ⟨fun q => ?_, fun _ => ⟨L, h10, hL, ?_⟩⟩)
  · rw [h10] at q
    have := (nI_leI (a := 96) (by omega) (by omega)).mp q
    omega
  · intro M5 e5 M6 e6
    have : mI M5 a 10 = nI L := by rw [e5, mI_sI, up2_off _ _ _ (by omega), h10]
    rw [e6, this, nI_1, e5]
theorem cp_X8_hold (G : Gl) (d : Nat) (X : Sh) (M : Mm) (a L : Nat) (x : Int32) (hS : Sh7 X a) (h12 : mI M a 12 = nI L) (hL : L < 96) : Cv G m_X8_hold d [.ref a, .int x] X M (fun M2 => M2 = sI (sI M (a + 3) L x) a 12 (nI (L + 1))) := by
  refine Cv.of (by decide) (Nat.le_of_ble_eq_true rfl) (bX8_hold_0 hS ⟨fun q => ?_, fun _ => ⟨L, h12, hL, ?_⟩⟩)
  · rw [h12] at q
    have := (nI_leI (a := 96) (by omega) (by omega)).mp q
    omega
  · intro M5 e5 M6 e6
    have : mI M5 a 12 = nI L := by rw [e5, mI_sI, up2_off _ _ _ (by omega), h12]
    rw [e6, this, nI_1, e5]
theorem pile_hd {M : Mm} {a x : Nat} {H : List Nat} (h : PileIs (mI M (a + 3)) (hI (x :: H))) : mI M (a + 3) H.length = nI x := by
  have := pile_top (x := nI x) (s := hI H) h
  rw [List.length_map] at this
  exact this
theorem cp_X8_heldRank (G : Gl) (d : Nat) (hd : 1 ≤ d) (X : Sh) (M : Mm) (a : Nat) (H : List Nat) (hS : Sh7 X a) (h12 : mI M a 12 = nI H.length) (hP : PileIs (mI M (a + 3)) (hI H)) (hB : HB H) (hl : H.length ≤ 96) : Cn G m_X8_heldRank d [.ref a] X M (fun M2 r => M2 = M ∧ r = nI (trk H)) := by
  obtain ⟨d, rfl⟩ : ∃ d1, d = d1 + 1 := ⟨d - 1, by omega⟩
  refine Cn.of (by decide) (Nat.le_of_ble_eq_true rfl) (bX8_heldRank_0 hS ?_)
  cases H with
  | nil =>
    rw [h12]
    exact ⟨fun _ => ⟨rfl, rfl⟩, fun q => absurd (Int32.le_refl _) q⟩
  | cons x H =>
    have hl : H.length + 1 ≤ 96 := hl
    have h12 : mI M a 12 = nI (H.length + 1) := h12
    rw [h12]
    refine ⟨fun q => ?_, fun _ => ⟨H.length, nI_pred _, by omega, rfl, ?_⟩⟩
    · have := (nI_leI (b := 0) (by omega) (by omega)).mp q
      omega
    · rw [pile_hd hP, f_rank_n (hB x List.mem_cons_self)]
      rfl
/-- what the writing of held signs leaves as it was -/
def WhF (a : Nat) (M M2 : Mm) : Prop := (∀ b, b ≠ a → b ≠ a + 2 → mI M2 b = mI M b) ∧ (∀ j, j ≠ 10 → j ≠ 12 → j ≠ 14 → mI M2 a j = mI M a j) ∧ mR M2 = mR M
theorem WhF.refl (a : Nat) (M : Mm) : WhF a M M := ⟨fun _ _ _ => rfl, fun _ _ _ _ => rfl, rfl⟩
theorem WhF.trans {a : Nat} {M M2 M3 : Mm} (h1 : WhF a M M2) (h2 : WhF a M2 M3) : WhF a M M3 := ⟨fun b p q => (h2.1 b p q).trans (h1.1 b p q), fun j p q r => (h2.2.1 j p q r).trans (h1.2.1 j p q r), h2.2.2.trans h1.2.2⟩
/-- the top sign is taken and written -/
theorem pop_write {M M8 M14 : Mm} {a x : Nat} {H : List Nat} {O : List (Nat × Nat)} {v : Int32} (h : HO M a (x :: H) O) (e8 : M8 = sI M a 12 (mI M a 12 - 1)) (e14 : M14 = sI (sI M8 (a + 2) O.length v) a 10 (nI (O.length + 1))) (hv : v = -(nI x)) : HO M14 a H (O ++ [(2, x)]) ∧ WhF a M M14 ∧ mI M14 a 14 = mI M a 14 := by
  obtain ⟨h10, hC, h12, hP⟩ := h
  have h12 : mI M a 12 = nI (H.length + 1) := h12
  rw [h12, nI_pred] at e8
  refine ⟨⟨?_, ?_, ?_, ?_⟩, ⟨fun b p q => ?_, fun j p q r => ?_, ?_⟩, ?_⟩
  · rw [e14, mI_sI, up2_same]
    simp only [List.length_append, List.length_cons, List.length_nil]
  · rw [e14, mI_sI, up2_off _ _ _ (by omega), mI_sI, up2_row, e8, mI_sI, up2_off _ _ _ (by omega)]
    exact hC.snoc hv
  · rw [e14, mI_sI, up2_k _ _ _ (by omega), mI_sI, up2_off _ _ _ (by omega), e8, mI_sI, up2_same]
  · rw [e14, mI_sI, up2_off _ _ _ (by omega), mI_sI, up2_off _ _ _ (by omega), e8, mI_sI, up2_off _ _ _ (by omega)]
    exact pile_tail (x := nI x) (s := hI H) hP
  · rw [e14, mI_sI, up2_off _ _ _ p, mI_sI, up2_off _ _ _ q, e8, mI_sI, up2_off _ _ _ p]
  · rw [e14, mI_sI, up2_k _ _ _ p, mI_sI, up2_off _ _ _ (by omega), e8, mI_sI, up2_k _ _ _ q]
  · rw [e14, e8]
    rfl
  · rw [e14, mI_sI, up2_k _ _ _ (by omega), mI_sI, up2_off _ _ _ (by omega), e8, mI_sI, up2_k _ _ _ (by omega)]
theorem fl_pop {r : Nat} {b : Bool} {x : Nat} {H : List Nat} {O : List (Nat × Nat)} (h : r < rk x ∨ (b = true ∧ rk x = r)) : fl r b (x :: H) O = fl r b H (O ++ [(2, x)]) := if_pos h
theorem fl_stop {r : Nat} {b : Bool} {x : Nat} {H : List Nat} {O : List (Nat × Nat)} (h : ¬ (r < rk x ∨ (b = true ∧ rk x = r))) : fl r b (x :: H) O = (x :: H, O) := if_neg h
theorem cl_writeHeld (G : Gl) (d : Nat) (hd : 1 ≤ d) {X : Sh} {a r : Nat} {b : Bool} {x2 : Int32} {Q : Mm → Prop} (hS : Sh7 X a) (hr : r ≤ 5) (hb : x2 = 0 ↔ b = false) (M0 : Mm) :
    ∀ (H : List Nat) (O : List (Nat × Nat)) (M : Mm), HO M a H O → HB H → H.length + O.length ≤ 96 → WhF a M0 M → mI M a 14 = mI M0 a 14 → (∀ M2, HO M2 a (fl r b H O).1 (fl r b H O).2 → WhF a M0 M2 → mI M2 a 14 = mI M0 a 14 → Q M2) → Wv G m_X8_writeHeldFrom (d + 1) 0 [(0, .ref a), (1, .int (nI r)), (2, .int x2)] [] X M Q
  | [], O, M, h, hB, hl, hF, h14, hq => by
    refine bX8_writeHeldFrom_0 hS ⟨fun _ => hq M h hF h14, fun q => absurd ?_ q⟩
    rw [h.2.2.1]
    exact Int32.le_refl _
  | x :: H, O, M, h, hB, hl, hF, h14, hq => by
    obtain ⟨h10, hC, h12, hP⟩ := id h
    have h12' : mI M a 12 = nI (H.length + 1) := h12
    have hl : H.length + 1 + O.length ≤ 96 := hl
    have rl := rk_le x
    have x255 := hB x List.mem_cons_self
    have hr5 : Cn G m_X8_heldRank d [.ref a] X M (fun M2 y => M2 = M ∧ y = nI (rk x)) := cp_X8_heldRank G d hd X M a (x :: H) hS h12 hP hB (by show H.length + 1 ≤ 96; omega)
    have pop : (r < rk x ∨ (b = true ∧ rk x = r)) → ∀ M8 : Mm, M8 = sI M a 12 ((mI M a 12) - 1) → (∃ j9 : Nat, (mI M8 a 12) = nI j9 ∧ j9 < 96 ∧ (∃ q12 : Mm → Prop, Cv G m_X8_write d [.ref a, .int ((-(mI M8 (a + 3) j9)))] X M8 q12 ∧ ∀ M14, q12 M14 → Wv G m_X8_writeHeldFrom (d + 1) 0 [(0, .ref a), (1, .int (nI r)), (2, .int x2)] [] X M14 Q)) := fun hc M8 e8 => by
      refine ⟨H.length, by rw [e8, mI_sI, up2_same, h12', nI_pred], by omega, _, cp_X8_write G d X M8 a O.length _ hS (by rw [e8, mI_sI, up2_k _ _ _ (by omega), h10]) (by omega), ?_⟩
      intro M14 e14
      have top : mI M8 (a + 3) H.length = nI x := by rw [e8, mI_sI, up2_off _ _ _ (by omega), pile_hd hP]
      rw [top] at e14
      obtain ⟨g1, g2, g3⟩ := pop_write h e8 e14 rfl
      rw [fl_pop hc] at hq
      refine cl_writeHeld G d hd hS hr hb M0 H (O ++ [(2, x)]) M14 g1 (fun y hy => hB y (List.mem_cons_of_mem _ hy)) ?_ (hF.trans g2) (g3.trans h14) hq
      simp only [List.length_append, List.length_cons, List.length_nil]
      omega
    refine bX8_writeHeldFrom_0 hS ⟨fun q => ?_, fun _ => ⟨_, hr5, ?_⟩⟩
    · rw [h12'] at q
      have := (nI_leI (b := 0) (by omega) (by omega)).mp q
      omega
    rintro M4 r5 ⟨e, rfl⟩
    have e := e.symm
    subst e
    refine ⟨fun q => pop (Or.inl ((nI_ltI (by omega) (by omega)).mp q)), fun q => ?_⟩
    have q' : ¬ r < rk x := fun y => q ((nI_ltI (by omega) (by omega)).mpr y)
    refine ⟨fun hz => ?_, fun hz => ⟨_, hr5, ?_⟩⟩
    · rw [fl_stop (fun y => y.elim q' (fun u => by rw [hb.mp hz] at u; cases u.1))] at hq
      exact hq M h hF h14
    · have bt : b = true := by
        cases b with
        | true => rfl
        | false => exact absurd (hb.mpr rfl) hz
      rintro M19 r20 ⟨e, rfl⟩
      have e := e.symm
      subst e
      refine ⟨fun hne => ?_, fun he => pop (Or.inr ⟨bt, (nI_inj (by omega) (by omega)).mp he⟩)⟩
      rw [fl_stop (fun y => y.elim q' (fun u => hne (congrArg nI u.2)))] at hq
      exact hq M h hF h14
theorem cp_X8_writeHeldFrom (G : Gl) (d : Nat) (hd : 2 ≤ d) (X : Sh) (M : Mm) (a r : Nat) (b : Bool) (x2 : Int32) (H : List Nat) (O : List (Nat × Nat)) (hS : Sh7 X a) (hr : r ≤ 5) (hb : x2 = 0 ↔ b = false) (h : HO M a H O) (hB : HB H) (hl : H.length + O.length ≤ 96) : Cv G m_X8_writeHeldFrom d [.ref a, .int (nI r), .int x2] X M (fun M2 => HO M2 a (fl r b H O).1 (fl r b H O).2 ∧ WhF a M M2 ∧ mI M2 a 14 = mI M a 14) := by
  obtain ⟨d, rfl⟩ : ∃ d1, d = d1 + 1 := ⟨d - 1, by omega⟩
  exact Cv.of (by decide) (Nat.le_of_ble_eq_true rfl) (cl_writeHeld G d (by omega) hS hr hb M H O M h hB hl (WhF.refl _ _) rfl (fun M2 h1 h2 h3 => ⟨h1, h2, h3⟩))
/-- how many signs ! are held -/
def cnt : List Nat → Nat
  | [] => 0
  | x :: H => (if x = 33 then 1 else 0) + cnt H
theorem cl_endPiece (G : Gl) (d : Nat) (hd : 1 ≤ d) {X : Sh} {a : Nat} {Q : Mm → Prop} (hS : Sh7 X a) (M0 : Mm) :
    ∀ (H : List Nat) (O : List (Nat × Nat)) (nn : Nat) (M : Mm), HO M a H O → cnt H ≤ nn → H.length + O.length ≤ 96 → WhF a M0 M → mI M a 14 = nI nn → (∀ M2, HO M2 a (nots H O nn).1 (nots H O nn).2.1 → WhF a M0 M2 → mI M2 a 14 = nI (nots H O nn).2.2 → Q M2) → HB H → Wv G m_X8_endPiece (d + 1) 5 [(0, .ref a)] [] X M Q
  | [], O, nn, M, h, hc, hl, hF, h14, hq, hB => by
    refine bX8_endPiece_5 hS ⟨fun _ => hq M h hF h14, fun q => absurd ?_ q⟩
    rw [h.2.2.1]
    exact Int32.le_refl _
  | x :: H, O, nn, M, h, hc, hl, hF, h14, hq, hB => by
    obtain ⟨h10, hC, h12, hP⟩ := id h
    have h12' : mI M a 12 = nI (H.length + 1) := h12
    have hl : H.length + 1 + O.length ≤ 96 := hl
    have x255 := hB x List.mem_cons_self
    refine bX8_endPiece_5 hS ⟨fun q => ?_, fun _ => ⟨H.length, by rw [h12', nI_pred], by omega, fun q => ?_, fun q => ?_⟩⟩
    · rw [h12'] at q
      have := (nI_leI (b := 0) (by omega) (by omega)).mp q
      omega
    · rw [pile_hd hP] at q
      have nx : ¬ x = 33 := fun y => q (by rw [y]; rfl)
      have e : nots (x :: H) O nn = (x :: H, O, nn) := if_neg nx
      rw [e] at hq
      exact hq M h hF h14
    · rw [pile_hd hP] at q
      have x33 : x = 33 := (nI_inj (b := 33) (by omega) (by omega)).mp q
      have hc : (if x = 33 then 1 else 0) + cnt H ≤ nn := hc
      rw [if_pos x33] at hc
      have e : nots (x :: H) O nn = nots H (O ++ [(2, 33)]) (nn - 1) := if_pos x33
      rw [e] at hq
      intro M6 e6 M7 e7
      have g14 : mI M6 a 14 = nI nn := by rw [e6, mI_sI, up2_k _ _ _ (by omega), h14]
      rw [g14, show nn = nn - 1 + 1 by omega, nI_pred] at e7
      have z10 : mI M7 a 10 = nI O.length := by rw [e7, mI_sI, up2_k _ _ _ (by omega), e6, mI_sI, up2_k _ _ _ (by omega), h10]
      refine ⟨_, cp_X8_write G d X M7 a O.length _ hS z10 (by omega), ?_⟩
      intro M10 e10
      obtain ⟨g1, g2, g3⟩ := pop_write h e6 (rfl : sI (sI M6 (a + 2) O.length (-33)) a 10 (nI (O.length + 1)) = _) (by rw [x33]; rfl)
      rw [x33] at g1
      have o : ∀ c, c ≠ a → mI M10 c = mI (sI (sI M6 (a + 2) O.length (-33)) a 10 (nI (O.length + 1))) c := fun c hc => by
        rw [e10, mI_sI, up2_off _ _ _ hc, mI_sI, mI_sI, up2_off _ _ _ hc, mI_sI, e7]
        by_cases y : c = a + 2
        · subst y
          rw [up2_row, up2_row, mI_sI, up2_off _ _ _ hc]
        · rw [up2_off _ _ _ y, up2_off _ _ _ y, mI_sI, up2_off _ _ _ hc]
      have p : ∀ j, j ≠ 14 → mI M10 a j = mI (sI (sI M6 (a + 2) O.length (-33)) a 10 (nI (O.length + 1))) a j := fun j hj => by
        by_cases y : j = 10
        · rw [y, e10, mI_sI, up2_same, mI_sI, up2_same]
        · rw [e10, mI_sI, up2_k _ _ _ y, mI_sI, up2_off _ _ _ (by omega), e7, mI_sI, up2_k _ _ _ hj, mI_sI, up2_k _ _ _ y, mI_sI, up2_off _ _ _ (by omega)]
      have H10 : HO M10 a H (O ++ [(2, 33)]) := by
        obtain ⟨k1, k2, k3, k4⟩ := g1
        exact ⟨by rw [p 10 (by omega)]; exact k1, by rw [o (a + 2) (by omega)]; exact k2, by rw [p 12 (by omega)]; exact k3, by rw [o (a + 3) (by omega)]; exact k4⟩
      have F10 : WhF a M M10 := ⟨fun b b1 b2 => by rw [o b b1]; exact g2.1 b b1 b2, fun j j1 j2 j3 => by rw [p j j3]; exact g2.2.1 j j1 j2 j3, by rw [e10, e7, e6]; rfl⟩
      refine cl_endPiece G d hd hS M0 H (O ++ [(2, 33)]) (nn - 1) M10 H10 (by omega) ?_ (hF.trans F10) ?_ hq (fun y hy => hB y (List.mem_cons_of_mem _ hy))
      · simp only [List.length_append, List.length_cons, List.length_nil]
        omega
      · rw [e10, mI_sI, up2_k _ _ _ (by omega), mI_sI, up2_off _ _ _ (by omega), e7, mI_sI, up2_same]
theorem cp_X8_endPiece (G : Gl) (d : Nat) (hd : 2 ≤ d) (X : Sh) (M : Mm) (a nn : Nat) (H : List Nat) (O : List (Nat × Nat)) (hS : Sh7 X a) (h : HO M a H O) (hB : HB H) (hc : cnt H ≤ nn) (hl : H.length + O.length ≤ 96) (h14 : mI M a 14 = nI nn) : Cv G m_X8_endPiece d [.ref a] X M (fun M2 => HO M2 a (nots H O nn).1 (nots H O nn).2.1 ∧ WhF a (sI M a 15 0) M2 ∧ mI M2 a 14 = nI (nots H O nn).2.2) := by
  obtain ⟨d, rfl⟩ : ∃ d1, d = d1 + 1 := ⟨d - 1, by omega⟩
  refine Cv.of (by decide) (Nat.le_of_ble_eq_true rfl) (bX8_endPiece_0 hS ?_)
  intro M1 e1
  rw [← e1]
  have o : ∀ c, c ≠ a → mI M1 c = mI M c := fun c hc => by rw [e1, mI_sI, up2_off _ _ _ hc]
  have p : ∀ j, j ≠ 15 → mI M1 a j = mI M a j := fun j hj => by rw [e1, mI_sI, up2_k _ _ _ hj]
  have h1 : HO M1 a H O := ⟨by rw [p 10 (by omega)]; exact h.1, by rw [o (a + 2) (by omega)]; exact h.2.1, by rw [p 12 (by omega)]; exact h.2.2.1, by rw [o (a + 3) (by omega)]; exact h.2.2.2⟩
  exact cl_endPiece G d (by omega) hS M1 H O nn M1 h1 hc hl (WhF.refl _ _) (by rw [p 14 (by omega), h14]) (fun M2 k1 k2 k3 => ⟨k1, k2, k3⟩) hB
/-- the tape of the class: n bytes, c -/
def BYc (M : Mm) (a : Nat) (c : Nat → Nat) (n : Nat) : Prop := mI M a 1 = nI n ∧ n ≤ 96 ∧ ∀ i, i < n → mI M (a + 1) i = nI (c i) ∧ c i ≤ 255
def CT (M : Mm) (a : Nat) (k : Tk) : Prop := mI M a 2 = nI (kB k) ∧ mI M a 3 = nI (kE k) ∧ mI M a 4 = nI (kS k) ∧ mI M a 5 = nI (kZ k)
theorem cp_X8_sortAt (G : Gl) (d : Nat) (X : Sh) (M : Mm) (a p n : Nat) (c : Nat → Nat) (hS : Sh7 X a) (hB : BYc M a c n) (hp : p ≤ 96) : Cn G m_X8_sortAt d [.ref a, .int (nI p)] X M (fun M2 r => M2 = M ∧ r = nI (tsrt c n p)) := by
  obtain ⟨h1, hn, hc⟩ := hB
  refine Cn.of (by decide) (Nat.le_of_ble_eq_true rfl) (bX8_sortAt_0 hS ?_)
  rw [h1]
  refine ⟨fun q => ?_, fun q => ⟨rfl, ?_⟩⟩
  · have lt := (nI_ltI (by omega) (by omega)).mp q
    obtain ⟨e, l⟩ := hc p lt
    refine ⟨p, rfl, by omega, ?_⟩
    intro v5 e5
    rw [e] at e5
    subst e5
    have ge48 : (nI (c p) < 48) ↔ c p < 48 := nI_ltI (b := 48) (by omega) (by omega)
    have gt57 : ((57 : Int32) < nI (c p)) ↔ 57 < c p := nI_ltI (a := 57) (by omega) (by omega)
    have lt97 : (nI (c p) < 97) ↔ c p < 97 := nI_ltI (b := 97) (by omega) (by omega)
    have gt122 : ((122 : Int32) < nI (c p)) ↔ 122 < c p := nI_ltI (a := 122) (by omega) (by omega)
    have sg : ¬ (97 ≤ c p ∧ c p ≤ 122) → (if nI (c p) < 48 then (3 : Int32) else (if 57 < nI (c p) then 3 else 2)) = nI (tsrt c n p) := fun z => by
      unfold tsrt
      rw [if_neg (show ¬ n ≤ p by omega), if_neg z]
      by_cases y : c p < 48
      · rw [if_pos (ge48.mpr y), if_neg (by omega)]
        rfl
      · rw [if_neg (fun u => y (ge48.mp u))]
        by_cases y2 : 57 < c p
        · rw [if_pos (gt57.mpr y2), if_neg (by omega)]
          rfl
        · rw [if_neg (fun u => y2 (gt57.mp u)), if_pos (by omega)]
          rfl
    refine ⟨fun z => ⟨rfl, sg (by have := lt97.mp z; omega)⟩, fun z => ⟨fun z2 => ⟨rfl, sg (by have := gt122.mp z2; omega)⟩, fun z2 => ⟨rfl, ?_⟩⟩⟩
    have : tsrt c n p = 1 := (tsrt_1 lt).mpr ⟨by
      have : ¬ c p < 97 := fun u => z (lt97.mpr u)
      omega, by
      have : ¬ 122 < c p := fun u => z2 (gt122.mpr u)
      omega⟩
    rw [this]
    rfl
  · have : tsrt c n p = 0 := tsrt_0.mpr (Nat.le_of_not_lt (fun u => q ((nI_ltI (by omega) (by omega)).mpr u)))
    rw [this]
    rfl
theorem cl_numberThere (G : Gl) (d : Nat) {X : Sh} {M : Mm} {a n : Nat} {c : Nat → Nat} {k : Tk} {Q : Mm → Int32 → Prop} (hS : Sh7 X a) (hB : BYc M a c n) (hT : TV c n k) (hC : CT M a k) (h2 : kS k = 2) (h4 : kE k - kB k ≤ 4) (hq : Q M (nI (tnum c (kB k) (kE k - kB k)))) :
    ∀ (f j : Nat), j + f = kE k - kB k → Wn G m_X8_numberThere d 22 [(0, .ref a), (1, .int (nI (tnum c (kB k) j))), (2, .int (nI (kB k + j)))] [] X M Q
  | 0, j, h => by
    have hj : j = kE k - kB k := h
    have hT5 := hT.2.2.2.2.1 (by omega)
    have n96 := hB.2.1
    have ke := hT.2.2.1
    refine bX8_numberThere_22 hS ⟨fun _ => by rw [hj]; exact hq, fun q => absurd ?_ q⟩
    rw [hC.2.1]
    exact (nI_leI (by omega) (by omega)).mpr (by omega)
  | f + 1, j, h => by
    have hT5 := hT.2.2.2.2.1 (by omega)
    have n96 := hB.2.1
    have ke := hT.2.2.1
    obtain ⟨e, l⟩ := hB.2.2 (kB k + j) (by omega)
    have dg := hT.2.2.2.2.2.1 h2
    have lt := tnum_lt (c := c) (b := kB k) (j := j) (fun i i1 i2 => dg i i1 (by omega))
    have p3 : 10 ^ j ≤ 10 ^ 3 := Nat.pow_le_pow_right (by omega) (by omega)
    have d0 := dg (kB k + j) (by omega) (by omega)
    refine bX8_numberThere_22 hS ⟨fun q => ?_, fun _ => ⟨kB k + j, rfl, by omega, ?_⟩⟩
    · rw [hC.2.1] at q
      have := (nI_leI (by omega) (by omega)).mp q
      omega
    intro v5 e5
    rw [e] at e5
    have ev : v5 = nI (tnum c (kB k) (j + 1)) := by
      rw [e5, n_lit 10, pk_mul, nI_add, n_lit 48, nI_subI _ _ (by omega)]
      refine congrArg nI ?_
      show tnum c (kB k) j * 10 + c (kB k + j) - 48 = 10 * tnum c (kB k) j + (c (kB k + j) - 48)
      omega
    rw [ev, nI_1]
    exact cl_numberThere G d hS hB hT hC h2 h4 hq f (j + 1) (by omega)
theorem cp_X8_numberThere (G : Gl) (d : Nat) (X : Sh) (M : Mm) (a n : Nat) (c : Nat → Nat) (k : Tk) (hS : Sh7 X a) (hB : BYc M a c n) (hT : TV c n k) (hC : CT M a k) (h2 : kS k = 2) : Cn G m_X8_numberThere d [.ref a] X M (fun M2 r => M2 = M ∧ r = if kE k - kB k ≤ 4 then nI (tnum c (kB k) (kE k - kB k)) else -1) := by
  have hT5 := hT.2.2.2.2.1 (by omega)
  have n96 := hB.2.1
  have ke := hT.2.2.1
  refine Cn.of (by decide) (Nat.le_of_ble_eq_true rfl) (bX8_numberThere_0 hS ?_)
  rw [hC.1, hC.2.1, nI_subI _ _ (by omega)]
  refine ⟨fun q => ?_, fun q => ⟨rfl, ?_⟩⟩
  · have h4 := (nI_leI (b := 4) (by omega) (by omega)).mp q
    intro v2 e2
    subst e2
    rw [if_pos h4]
    exact cl_numberThere G d hS hB hT hC h2 h4 ⟨rfl, rfl⟩ (kE k - kB k) 0 (by omega)
  · rw [if_neg (fun u => q ((nI_leI (b := 4) (by omega) (by omega)).mpr u))]
def StF (a : Nat) (M M2 : Mm) : Prop := (∀ b, b ≠ a → mI M2 b = mI M b) ∧ (∀ j, j < 2 ∨ 5 < j → mI M2 a j = mI M a j) ∧ mR M2 = mR M
theorem StF.set {a j : Nat} {v : Int32} {M M1 M2 : Mm} (h : StF a M M1) (hj : 2 ≤ j ∧ j ≤ 5) (e : M2 = sI M1 a j v) : StF a M M2 := by
  refine ⟨fun b hb => ?_, fun i hi => ?_, ?_⟩
  · rw [e, mI_sI, up2_off _ _ _ hb, h.1 b hb]
  · rw [e, mI_sI, up2_k _ _ _ (by omega), h.2.1 i hi]
  · rw [e]
    exact h.2.2
theorem StF.by {a n : Nat} {c : Nat → Nat} {M M2 : Mm} (h : StF a M M2) (hB : BYc M a c n) : BYc M2 a c n := by
  obtain ⟨h1, hn, hc⟩ := hB
  refine ⟨by rw [h.2.1 1 (by omega), h1], hn, fun i hi => ?_⟩
  rw [h.1 (a + 1) (by omega)]
  exact hc i hi
theorem cl_step_130 (G : Gl) (d : Nat) {X : Sh} {a n s e : Nat} {c : Nat → Nat} {Q : Mm → Prop} (hS : Sh7 X a) (M0 : Mm) (hB : BYc M0 a c n) (hs3 : ¬ s = 3) (hs : s ≤ 3) (hq : ∀ M2, mI M2 a 3 = nI e → (∀ j, j ≠ 3 → mI M2 a j = mI M0 a j) → (∀ b, b ≠ a → mI M2 b = mI M0 b) → mR M2 = mR M0 → Q M2) (h4 : mI M0 a 4 = nI s) :
    ∀ (f p : Nat) (M : Mm), p + f = n → tend c n s f p = e → mI M a 3 = nI p → (∀ j, j ≠ 3 → mI M a j = mI M0 a j) → (∀ b, b ≠ a → mI M b = mI M0 b) → mR M = mR M0 → Wv G m_X8_step (d + 1) 130 [(0, .ref a)] [] X M Q
  | 0, p, M, h, he, h3, hj, ho, hr => by
    have hp : p = n := h
    have he : p = e := he
    have n96 := hB.2.1
    refine bX8_step_130 hS ⟨fun q => ?_, fun _ => ⟨fun _ => hq M (by rw [h3, he]) hj ho hr, fun q => absurd ?_ q⟩⟩
    · rw [hj 4 (by omega), h4] at q
      exact absurd ((nI_inj (b := 3) (by omega) (by omega)).mp q) hs3
    · rw [hj 1 (by omega), hB.1, h3, hp]
      exact Int32.le_refl _
  | f + 1, p, M, h, he, h3, hj, ho, hr => by
    have n96 := hB.2.1
    have he : (if tsrt c n p = s then tend c n s f (p + 1) else p) = e := he
    have hBM : BYc M a c n := ⟨by rw [hj 1 (by omega)]; exact hB.1, n96, fun i hi => by rw [ho (a + 1) (by omega)]; exact hB.2.2 i hi⟩
    have tl := tsrt_le c n p
    refine bX8_step_130 hS ⟨fun q => ?_, fun _ => ⟨fun q => ?_, fun _ => ?_⟩⟩
    · rw [hj 4 (by omega), h4] at q
      exact absurd ((nI_inj (b := 3) (by omega) (by omega)).mp q) hs3
    · rw [hj 1 (by omega), hB.1, h3] at q
      have := (nI_leI (by omega) (by omega)).mp q
      omega
    rw [h3]
    refine ⟨_, cp_X8_sortAt G d X M a p n c hS hBM (by omega), ?_⟩
    rintro M5 r6 ⟨e5, rfl⟩
    have e5 := e5.symm
    subst e5
    rw [hj 4 (by omega), h4]
    refine ⟨fun q => ?_, fun q => ?_⟩
    · rw [if_neg (fun u => q (congrArg nI u))] at he
      exact hq M (by rw [h3, he]) hj ho hr
    · rw [if_pos ((nI_inj (by omega) (by omega)).mp q)] at he
      intro M9 e9
      rw [h3, nI_1] at e9
      exact cl_step_130 G d hS M0 hB hs3 hs hq h4 f (p + 1) M9 (by omega) he (by rw [e9, mI_sI, up2_same]) (fun j hj2 => by rw [e9, mI_sI, up2_k _ _ _ hj2, hj j hj2]) (fun b hb => by rw [e9, mI_sI, up2_off _ _ _ hb, ho b hb]) (by rw [e9]; exact hr)
theorem step_cont (G : Gl) (d : Nat) {X : Sh} {a n w : Nat} {c : Nat → Nat} {k : Tk} {Q : Mm → Prop} (hS : Sh7 X a) (M0 : Mm) (hB : BYc M0 a c n) (hk : kE k ≤ n) (hw : w ≤ 1) (hw1 : w = 1 ↔ kS k = 1 ∨ kS k = 2) (hq : ∀ M2, CT M2 a (tnext c n k) → StF a M0 M2 → Q M2) (M : Mm) (h2 : mI M a 2 = nI (tbeg c n k)) (h3 : mI M a 3 = nI (kE k)) (hF : StF a M0 M) : (∀ M5 : Mm, M5 = sI M a 5 (if ((¬ (nI w = 0)) ∧ ((mI M a 2) = (mI M a 3))) then 1 else 0) → (∀ M6 : Mm, M6 = sI M5 a 3 (mI M5 a 2) → (∃ q7 : Mm → Int32 → Prop, Cn G m_X8_sortAt d [.ref a, .int ((mI M6 a 2))] X M6 q7 ∧ ∀ M9 r10, q7 M9 r10 → (∀ M12 : Mm, M12 = sI M9 a 4 r10 → ((¬ ((mI M12 a 4) = 0) → (∀ M14 : Mm, M14 = sI M12 a 3 ((mI M12 a 3) + 1) → Wv G m_X8_step (d + 1) 130 [(0, .ref a)] [] X M14 Q)) ∧ ((mI M12 a 4) = 0 → Q M12)))))) := by
  have n96 := hB.2.1
  have bl : tbeg c n k ≤ n := (TV.next hk).1.2.1
  have b0 : kE k ≤ tbeg c n k := (TV.next hk).2
  have tl := tsrt_le c n (tbeg c n k)
  intro M5 e5 M6 e6
  have ez : (if ((¬ (nI w = 0)) ∧ ((mI M a 2) = (mI M a 3))) then (1 : Int32) else 0) = nI (kZ (tnext c n k)) := by
    rw [h2, h3]
    show _ = nI (if (kS k = 1 ∨ kS k = 2) ∧ tbeg c n k = kE k then 1 else 0)
    by_cases y : (kS k = 1 ∨ kS k = 2) ∧ tbeg c n k = kE k
    · have hc : (¬ (nI w = 0)) ∧ nI (tbeg c n k) = nI (kE k) := ⟨fun u => by
        have := (nI_inj (b := 0) (by omega) (by omega)).mp u
        have := hw1.mpr y.1
        omega, congrArg nI y.2⟩
      exact (if_pos hc).trans (congrArg nI (if_pos y)).symm
    · have hc : ¬ ((¬ (nI w = 0)) ∧ nI (tbeg c n k) = nI (kE k)) := fun u => by
        refine y ⟨hw1.mp ?_, (nI_inj (by omega) (by omega)).mp u.2⟩
        have : ¬ w = 0 := fun v => u.1 (by rw [v]; rfl)
        omega
      exact (if_neg hc).trans (congrArg nI (if_neg y)).symm
  rw [ez] at e5
  have F5 := hF.set (by omega) e5
  have F6 := F5.set (by omega) e6
  have g2 : mI M6 a 2 = nI (tbeg c n k) := by rw [e6, mI_sI, up2_k _ _ _ (by omega), e5, mI_sI, up2_k _ _ _ (by omega), h2]
  have g3 : mI M6 a 3 = nI (tbeg c n k) := by rw [e6, mI_sI, up2_same, e5, mI_sI, up2_k _ _ _ (by omega), h2]
  have g5 : mI M6 a 5 = nI (kZ (tnext c n k)) := by rw [e6, mI_sI, up2_k _ _ _ (by omega), e5, mI_sI, up2_same]
  rw [g2]
  refine ⟨_, cp_X8_sortAt G d X M6 a (tbeg c n k) n c hS (F6.by hB) (by omega), ?_⟩
  rintro M9 r10 ⟨e, rfl⟩
  have e := e.symm
  subst e
  intro M12 e12
  have F12 := F6.set (by omega) e12
  have k2 : mI M12 a 2 = nI (tbeg c n k) := by rw [e12, mI_sI, up2_k _ _ _ (by omega), g2]
  have k3 : mI M12 a 3 = nI (tbeg c n k) := by rw [e12, mI_sI, up2_k _ _ _ (by omega), g3]
  have k4 : mI M12 a 4 = nI (tsrt c n (tbeg c n k)) := by rw [e12, mI_sI, up2_same]
  have k5 : mI M12 a 5 = nI (kZ (tnext c n k)) := by rw [e12, mI_sI, up2_k _ _ _ (by omega), g5]
  rw [k4]
  refine ⟨fun q => ?_, fun q => ?_⟩
  · have s0 : ¬ tsrt c n (tbeg c n k) = 0 := fun u => q (by rw [u]; rfl)
    have blt := tsrt_lt s0
    intro M14 e14
    rw [k3, nI_1] at e14
    have F14 := F12.set (by omega) e14
    have m2 : mI M14 a 2 = nI (tbeg c n k) := by rw [e14, mI_sI, up2_k _ _ _ (by omega), k2]
    have m3 : mI M14 a 3 = nI (tbeg c n k + 1) := by rw [e14, mI_sI, up2_same]
    have m4 : mI M14 a 4 = nI (tsrt c n (tbeg c n k)) := by rw [e14, mI_sI, up2_k _ _ _ (by omega), k4]
    have m5 : mI M14 a 5 = nI (kZ (tnext c n k)) := by rw [e14, mI_sI, up2_k _ _ _ (by omega), k5]
    by_cases s3 : tsrt c n (tbeg c n k) = 3
    · refine bX8_step_130 hS ⟨fun _ => hq M14 ⟨m2, ?_, m4, m5⟩ F14, fun u => absurd (by rw [m4, s3]; rfl) u⟩
      rw [m3]
      show _ = nI (tfin c n (tbeg c n k))
      unfold tfin
      rw [if_neg s0, if_pos s3]
    · refine cl_step_130 G d (e := tfin c n (tbeg c n k)) hS M14 (F14.by hB) s3 tl (fun M2 r1 r2 r3 r4 => hq M2 ⟨?_, r1, ?_, ?_⟩ ⟨fun b hb => ?_, fun j hj => ?_, ?_⟩) m4 (n - (tbeg c n k + 1)) (tbeg c n k + 1) M14 (by omega) ?_ m3 (fun _ _ => rfl) (fun _ _ => rfl) rfl
      · rw [r2 2 (by omega), m2]
        rfl
      · rw [r2 4 (by omega), m4]
        rfl
      · rw [r2 5 (by omega), m5]
      · rw [r3 b hb, F14.1 b hb]
      · rw [r2 j (by omega), F14.2.1 j hj]
      · rw [r4, F14.2.2]
      · unfold tfin
        rw [if_neg s0, if_neg s3]
  · have s0 : tsrt c n (tbeg c n k) = 0 := (nI_inj (b := 0) (by omega) (by omega)).mp q
    refine hq M12 ⟨k2, ?_, k4, k5⟩ F12
    rw [k3]
    show _ = nI (tfin c n (tbeg c n k))
    unfold tfin
    rw [if_pos s0]
theorem cl_step_30 (G : Gl) (d : Nat) {X : Sh} {a n w : Nat} {c : Nat → Nat} {k : Tk} {Q : Mm → Prop} (hS : Sh7 X a) (M0 : Mm) (hB : BYc M0 a c n) (hk : kE k ≤ n) (hw : w ≤ 1) (hw1 : w = 1 ↔ kS k = 1 ∨ kS k = 2) (hq : ∀ M2, CT M2 a (tnext c n k) → StF a M0 M2 → Q M2) :
    ∀ (f p : Nat) (M : Mm), p + f = n → tbeg c n k = tskip c f p → mI M a 2 = nI p → mI M a 3 = nI (kE k) → StF a M0 M → Wv G m_X8_step (d + 1) 30 [(0, .ref a), (1, .int (nI w))] [] X M Q
  | 0, p, M, h, hs, h2, h3, hF => by
    have hp : p = n := h
    have hs : tbeg c n k = p := hs
    refine bX8_step_30 hS ⟨fun _ => step_cont G d hS M0 hB hk hw hw1 hq M (by rw [h2, hs]) h3 hF, fun q => absurd ?_ q⟩
    rw [h2, (hF.by hB).1, hp]
    exact Int32.le_refl _
  | f + 1, p, M, h, hs, h2, h3, hF => by
    have n96 := hB.2.1
    obtain ⟨eb, lb⟩ := hB.2.2 p (by omega)
    have ebM : mI M (a + 1) p = nI (c p) := by rw [hF.1 _ (by omega), eb]
    have hs2 : tbeg c n k = if c p = 32 then tskip c f (p + 1) else p := hs
    refine bX8_step_30 hS ⟨fun q => ?_, fun _ => ⟨p, h2, by omega, fun q => ?_, fun q => ?_⟩⟩
    · rw [h2, (hF.by hB).1] at q
      have := (nI_leI (by omega) (by omega)).mp q
      omega
    · rw [ebM] at q
      rw [if_neg (fun y => q (by rw [y]; rfl))] at hs2
      exact step_cont G d hS M0 hB hk hw hw1 hq M (by rw [h2, hs2]) h3 hF
    · rw [ebM] at q
      have q := (nI_inj (b := 32) (by omega) (by omega)).mp q
      rw [if_pos q] at hs2
      intro M32 e32
      rw [h2, nI_1] at e32
      exact cl_step_30 G d hS M0 hB hk hw hw1 hq f (p + 1) M32 (by omega) hs2 (by rw [e32, mI_sI, up2_same]) (by rw [e32, mI_sI, up2_k _ _ _ (by omega), h3]) (hF.set (by omega) e32)
/-- the class goes on to the next word or sign -/
theorem cp_X8_step (G : Gl) (d : Nat) (hd : 1 ≤ d) (X : Sh) (M : Mm) (a n : Nat) (c : Nat → Nat) (k : Tk) (hS : Sh7 X a) (hB : BYc M a c n) (hk : kE k ≤ n) (hs : kS k ≤ 3) (h3 : mI M a 3 = nI (kE k)) (h4 : mI M a 4 = nI (kS k)) : Cv G m_X8_step d [.ref a] X M (fun M2 => CT M2 a (tnext c n k) ∧ StF a M M2) := by
  obtain ⟨d, rfl⟩ : ∃ d1, d = d1 + 1 := ⟨d - 1, by omega⟩
  have go : ∀ (w : Nat) (M1 : Mm), w ≤ 1 → (w = 1 ↔ kS k = 1 ∨ kS k = 2) → M1 = sI M a 2 (mI M a 3) → Wv G m_X8_step (d + 1) 30 [(0, .ref a), (1, .int (nI w))] [] X M1 (fun M2 => CT M2 a (tnext c n k) ∧ StF a M M2) := fun w M1 hw hw1 e1 => by
    refine cl_step_30 G d hS M hB hk hw hw1 (fun M2 r1 r2 => ⟨r1, r2⟩) (n - kE k) (kE k) M1 (by omega) rfl (by rw [e1, mI_sI, up2_same, h3]) (by rw [e1, mI_sI, up2_k _ _ _ (by omega), h3]) ⟨fun b hb => by rw [e1, mI_sI, up2_off _ _ _ hb], fun j hj => by rw [e1, mI_sI, up2_k _ _ _ (by omega)], by rw [e1]; rfl⟩
  refine Cv.of (by decide) (Nat.le_of_ble_eq_true rfl) (bX8_step_0 hS ?_)
  rw [h4]
  refine ⟨fun q => fun M2 e2 => ?_, fun q => fun v5 e5 M6 e6 => ?_⟩
  · have s1 := (nI_inj (b := 1) (by omega) (by omega)).mp q
    exact go 1 M2 (by omega) (by omega) e2
  · by_cases y : kS k = 2
    · rw [if_pos (by rw [y]; rfl)] at e5
      subst e5
      exact go 1 M6 (by omega) (by omega) e6
    · have y2 : ¬ nI (kS k) = (2 : Int32) := fun u => y ((nI_inj (b := 2) (by omega) (by omega)).mp u)
      rw [if_neg y2] at e5
      subst e5
      exact go 0 M6 (by omega) ⟨fun u => by omega, fun u => by
        rcases u with u | u
        · exact absurd (by rw [u]; rfl) q
        · exact absurd u y⟩ e6
