/-! the class reads a text -/
theorem wp_ldcS {G : Gl} {y : Md} {d mc ms ce sl pc : Nat} {lo : List (Nat × Value)} {st : List Value} {X : Sh} {M : Mm} {Q : Sh → Mm → Option Value → Prop} {idx : Nat} (hd : decode y.2.1 pc = .ok (.ldc idx, 2)) (i : Nat) (hi : i < 6) (hw : (y.1.cls, kIx.getD i 0) = ("BurdenHouse$Tape", idx)) (kk : Wp G y d mc ms ce sl (pc + 2) lo (.ref (G.2 (10 + i)) :: st) X M Q) : Wp G y d mc ms ce sl pc lo st X M Q := by
  intro p l e s m args below meth c H locs ls hC hR hz hS hl
  have e1 : y.1.cls = "BurdenHouse$Tape" := congrArg Prod.fst hw
  have e2 : kIx.getD i 0 = idx := congrArg Prod.snd hw
  have hZ := hC.2.2.2.2.2.2.2.1.2.2.1 i hi
  rw [e2, ← e1] at hZ
  exact va_ldcS hC.1 hC.2.1 hC.2.2.2.2.2.1 hZ hd (kk p l e s m args below meth c H locs ls hC hR hz hS hl)
theorem bX8_takesPiece_0 {G : Gl} {d : Nat} {X : Sh} {M : Mm} {Q : Mm → Int32 → Prop} {a : Nat} (hS : Sh7 X a) (h : ((¬ ((mI M a 4) = 3) → (((mI M a 5) = 0 → ((¬ ((mI M a 4) = 2) → (∃ q4 : Mm → Int32 → Prop, Cn G m_X8_nameThere d [.ref a] X M q4 ∧ ∀ M6 r7, q4 M6 r7 → ((0 ≤ r7 → (∃ q10 : Mm → Prop, Cv G m_X8_write d [.ref a, .int r7] X M6 q10 ∧ ∀ M12, q10 M12 → (∀ M14 : Mm, M14 = sI M12 a 8 ((mI M12 a 8) + 1) → (∃ q15 : Mm → Prop, Cv G m_X8_endPiece d [.ref a] X M14 q15 ∧ ∀ M17, q15 M17 → Q M17 1)))) ∧ (¬ (0 ≤ r7) → Q M6 0)))) ∧ ((mI M a 4) = 2 → (∃ q19 : Mm → Int32 → Prop, Cn G m_X8_numberThere d [.ref a] X M q19 ∧ ∀ M21 r22, q19 M21 r22 → ((0 ≤ r22 → (∃ q25 : Mm → Prop, Cv G m_X8_write d [.ref a, .int r22] X M21 q25 ∧ ∀ M27, q25 M27 → (∀ M29 : Mm, M29 = sI M27 a 8 ((mI M27 a 8) + 1) → (∃ q30 : Mm → Prop, Cv G m_X8_endPiece d [.ref a] X M29 q30 ∧ ∀ M32, q30 M32 → Q M32 1)))) ∧ (¬ (0 ≤ r22) → Q M21 0)))))) ∧ (¬ ((mI M a 5) = 0) → Q M 0))) ∧ ((mI M a 4) = 3 → (∃ q34 : Mm → Int32 → Prop, Cn G m_X8_takesOpening d [.ref a] X M q34 ∧ ∀ M36 r37, q34 M36 r37 → ((r37 = 0 ∨ r37 = 1) ∧ Q M36 r37))))) : Wn G m_X8_takesPiece (d + 1) 0 [(0, .ref a)] [] X M Q := by
  refine wp_aload_n 0 dX8_takesPiece_0 rfl rfl ?_
  refine wp_getI dX8_takesPiece_1 fl_RX8_38 rfl (sh7_K hS) ?_
  refine wp_iconst (v := 3) dX8_takesPiece_4 rfl ?_
  refine wp_icmp_ne (tgt := 13) dX8_takesPiece_5 (by decide) (fun c1 => ?_) (fun c1 => ?_)
  · replace h := h.1 c1
    refine wp_aload_n 0 dX8_takesPiece_13 rfl rfl ?_
    refine wp_getI dX8_takesPiece_14 fl_RX8_73 rfl (sh7_K hS) ?_
    refine wp_if_eq (tgt := 22) dX8_takesPiece_17 (by decide) (fun c2 => ?_) (fun c2 => ?_)
    · replace h := h.1 c2
      refine wp_aload_n 0 dX8_takesPiece_22 rfl rfl ?_
      refine wp_getI dX8_takesPiece_23 fl_RX8_38 rfl (sh7_K hS) ?_
      refine wp_iconst (v := 2) dX8_takesPiece_26 rfl ?_
      refine wp_icmp_ne (tgt := 37) dX8_takesPiece_27 (by decide) (fun c3 => ?_) (fun c3 => ?_)
      · replace h := h.1 c3
        refine wp_aload_n 0 dX8_takesPiece_37 rfl rfl ?_
        obtain ⟨q4, o5, h⟩ := h
        refine wp_cvi dX8_takesPiece_38 ck_RX8_115 (sh7_K hS) (as := []) rfl rfl (Nat.le_of_ble_eq_true rfl) o5 (fun M6 r7 o8 => ?_)
        replace h := h M6 r7 o8
        refine wp_istore_n (lo2 := [(1, .int _), (0, .ref _)]) dX8_takesPiece_41 rfl (by decide) rfl ?_
        refine wp_iload_n 0 dX8_takesPiece_42 rfl rfl ?_
        refine wp_if_ge (tgt := 48) dX8_takesPiece_43 (by decide) (fun c9 => ?_) (fun c9 => ?_)
        · replace h := h.1 c9
          refine wp_aload_n 1 dX8_takesPiece_48 rfl rfl ?_
          refine wp_iload_n 0 dX8_takesPiece_49 rfl rfl ?_
          obtain ⟨q10, o11, h⟩ := h
          refine wp_cvv dX8_takesPiece_50 ck_RX8_118 (sh7_K hS) (as := [.int r7]) rfl rfl (Nat.le_of_ble_eq_true rfl) o11 (fun M12 o13 => ?_)
          replace h := h M12 o13
          refine wp_aload_n 1 dX8_takesPiece_53 rfl rfl ?_
          refine wp_dup dX8_takesPiece_54 rfl ?_
          refine wp_getI dX8_takesPiece_55 fl_RX8_61 rfl (sh7_K hS) ?_
          refine wp_iconst (v := 1) dX8_takesPiece_58 rfl ?_
          refine wp_iadd dX8_takesPiece_59 ?_
          refine wp_putI dX8_takesPiece_60 fp_RX8_61 rfl (sh7_K hS) ?_
          refine wp_nm (fun M14 eM14 => ?_)
          replace h := h M14 eM14
          refine wp_aload_n 1 dX8_takesPiece_63 rfl rfl ?_
          obtain ⟨q15, o16, h⟩ := h
          refine wp_cvv dX8_takesPiece_64 ck_RX8_122 (sh7_K hS) (as := []) rfl rfl (Nat.le_of_ble_eq_true rfl) o16 (fun M17 o18 => ?_)
          replace h := h M17 o18
          refine wp_iconst (v := 1) dX8_takesPiece_67 rfl ?_
          exact wn_zret dX8_takesPiece_68 rfl (Or.inr rfl) h
        · replace h := h.2 c9
          refine wp_iconst (v := 0) dX8_takesPiece_46 rfl ?_
          exact wn_zret dX8_takesPiece_47 rfl (Or.inl rfl) h
      · replace h := h.2 c3
        refine wp_aload_n 0 dX8_takesPiece_30 rfl rfl ?_
        obtain ⟨q19, o20, h⟩ := h
        refine wp_cvi dX8_takesPiece_31 ck_RX8_91 (sh7_K hS) (as := []) rfl rfl (Nat.le_of_ble_eq_true rfl) o20 (fun M21 r22 o23 => ?_)
        replace h := h M21 r22 o23
        refine wp_goto (tgt := 41) dX8_takesPiece_34 (by decide) ?_
        refine wp_istore_n (lo2 := [(1, .int _), (0, .ref _)]) dX8_takesPiece_41 rfl (by decide) rfl ?_
        refine wp_iload_n 0 dX8_takesPiece_42 rfl rfl ?_
        refine wp_if_ge (tgt := 48) dX8_takesPiece_43 (by decide) (fun c24 => ?_) (fun c24 => ?_)
        · replace h := h.1 c24
          refine wp_aload_n 1 dX8_takesPiece_48 rfl rfl ?_
          refine wp_iload_n 0 dX8_takesPiece_49 rfl rfl ?_
          obtain ⟨q25, o26, h⟩ := h
          refine wp_cvv dX8_takesPiece_50 ck_RX8_118 (sh7_K hS) (as := [.int r22]) rfl rfl (Nat.le_of_ble_eq_true rfl) o26 (fun M27 o28 => ?_)
          replace h := h M27 o28
          refine wp_aload_n 1 dX8_takesPiece_53 rfl rfl ?_
          refine wp_dup dX8_takesPiece_54 rfl ?_
          refine wp_getI dX8_takesPiece_55 fl_RX8_61 rfl (sh7_K hS) ?_
          refine wp_iconst (v := 1) dX8_takesPiece_58 rfl ?_
          refine wp_iadd dX8_takesPiece_59 ?_
          refine wp_putI dX8_takesPiece_60 fp_RX8_61 rfl (sh7_K hS) ?_
          refine wp_nm (fun M29 eM29 => ?_)
          replace h := h M29 eM29
          refine wp_aload_n 1 dX8_takesPiece_63 rfl rfl ?_
          obtain ⟨q30, o31, h⟩ := h
          refine wp_cvv dX8_takesPiece_64 ck_RX8_122 (sh7_K hS) (as := []) rfl rfl (Nat.le_of_ble_eq_true rfl) o31 (fun M32 o33 => ?_)
          replace h := h M32 o33
          refine wp_iconst (v := 1) dX8_takesPiece_67 rfl ?_
          exact wn_zret dX8_takesPiece_68 rfl (Or.inr rfl) h
        · replace h := h.2 c24
          refine wp_iconst (v := 0) dX8_takesPiece_46 rfl ?_
          exact wn_zret dX8_takesPiece_47 rfl (Or.inl rfl) h
    · replace h := h.2 c2
      refine wp_iconst (v := 0) dX8_takesPiece_20 rfl ?_
      exact wn_zret dX8_takesPiece_21 rfl (Or.inl rfl) h
  · replace h := h.2 c1
    refine wp_aload_n 0 dX8_takesPiece_8 rfl rfl ?_
    obtain ⟨q34, o35, h⟩ := h
    refine wp_cvi dX8_takesPiece_9 ck_RX8_112 (sh7_K hS) (as := []) rfl rfl (Nat.le_of_ble_eq_true rfl) o35 (fun M36 r37 o38 => ?_)
    replace h := h M36 r37 o38
    obtain ⟨o39, h⟩ := h
    exact wn_zret dX8_takesPiece_12 rfl o39 h
theorem bX8_takesOpening_0 {G : Gl} {d : Nat} {X : Sh} {M : Mm} {Q : Mm → Int32 → Prop} {a : Nat} (hS : Sh7 X a) (h : (∃ j1 : Nat, (mI M a 2) = nI j1 ∧ j1 < 96 ∧ (∀ v4 : Int32, v4 = (mI M (a + 1) j1) → ((¬ (v4 = 40) → ((¬ (v4 = 33) → Q M 0) ∧ (v4 = 33 → ((8 ≤ (mI M a 14) → Q M 0) ∧ (¬ (8 ≤ (mI M a 14)) → (∀ M8 : Mm, M8 = sI M a 14 ((mI M a 14) + 1) → (∃ q9 : Mm → Prop, Cv G m_X8_hold d [.ref a, .int v4] X M8 q9 ∧ ∀ M11, q9 M11 → Q M11 1))))))) ∧ (v4 = 40 → ((8 ≤ (mI M a 13) → ((¬ (v4 = 33) → Q M 0) ∧ (v4 = 33 → ((8 ≤ (mI M a 14) → Q M 0) ∧ (¬ (8 ≤ (mI M a 14)) → (∀ M16 : Mm, M16 = sI M a 14 ((mI M a 14) + 1) → (∃ q17 : Mm → Prop, Cv G m_X8_hold d [.ref a, .int v4] X M16 q17 ∧ ∀ M19, q17 M19 → Q M19 1))))))) ∧ (¬ (8 ≤ (mI M a 13)) → (∀ M21 : Mm, M21 = sI M a 13 ((mI M a 13) + 1) → (∃ q22 : Mm → Prop, Cv G m_X8_hold d [.ref a, .int v4] X M21 q22 ∧ ∀ M24, q22 M24 → Q M24 1))))))))) : Wn G m_X8_takesOpening (d + 1) 0 [(0, .ref a)] [] X M Q := by
  refine wp_aload_n 0 dX8_takesOpening_0 rfl rfl ?_
  refine wp_getR dX8_takesOpening_1 fl_RX8_9 rfl (sh7_K hS) (sh7_F_bytes hS) ?_
  refine wp_aload_n 0 dX8_takesOpening_4 rfl rfl ?_
  refine wp_getI dX8_takesOpening_5 fl_RX8_32 rfl (sh7_K hS) ?_
  obtain ⟨j1, o2, o3, h⟩ := h
  refine wp_iald (n := 96) dX8_takesOpening_8 (sh7_K_bytes hS) (sh7_N_bytes hS) (by decide) o2 o3 ?_
  refine wp_topi (fun v4 ev4 => ?_)
  replace h := h v4 ev4
  refine wp_istore_n (lo2 := [(1, .int _), (0, .ref _)]) dX8_takesOpening_9 rfl (by decide) rfl ?_
  refine wp_iload_n 0 dX8_takesOpening_10 rfl rfl ?_
  refine wp_bipush (v := 40) dX8_takesOpening_11 rfl ?_
  refine wp_icmp_ne (tgt := 38) dX8_takesOpening_13 (by decide) (fun c5 => ?_) (fun c5 => ?_)
  · replace h := h.1 c5
    refine wp_iload_n 0 dX8_takesOpening_38 rfl rfl ?_
    refine wp_bipush (v := 33) dX8_takesOpening_39 rfl ?_
    refine wp_icmp_ne (tgt := 66) dX8_takesOpening_41 (by decide) (fun c6 => ?_) (fun c6 => ?_)
    · replace h := h.1 c6
      refine wp_iconst (v := 0) dX8_takesOpening_66 rfl ?_
      exact wn_zret dX8_takesOpening_67 rfl (Or.inl rfl) h
    · replace h := h.2 c6
      refine wp_aload_n 1 dX8_takesOpening_44 rfl rfl ?_
      refine wp_getI dX8_takesOpening_45 fl_RX8_70 rfl (sh7_K hS) ?_
      refine wp_bipush (v := 8) dX8_takesOpening_48 rfl ?_
      refine wp_icmp_ge (tgt := 66) dX8_takesOpening_50 (by decide) (fun c7 => ?_) (fun c7 => ?_)
      · replace h := h.1 c7
        refine wp_iconst (v := 0) dX8_takesOpening_66 rfl ?_
        exact wn_zret dX8_takesOpening_67 rfl (Or.inl rfl) h
      · replace h := h.2 c7
        refine wp_aload_n 1 dX8_takesOpening_53 rfl rfl ?_
        refine wp_dup dX8_takesOpening_54 rfl ?_
        refine wp_getI dX8_takesOpening_55 fl_RX8_70 rfl (sh7_K hS) ?_
        refine wp_iconst (v := 1) dX8_takesOpening_58 rfl ?_
        refine wp_iadd dX8_takesOpening_59 ?_
        refine wp_putI dX8_takesOpening_60 fp_RX8_70 rfl (sh7_K hS) ?_
        refine wp_nm (fun M8 eM8 => ?_)
        replace h := h M8 eM8
        refine wp_goto (tgt := 68) dX8_takesOpening_63 (by decide) ?_
        refine wp_aload_n 1 dX8_takesOpening_68 rfl rfl ?_
        refine wp_iload_n 0 dX8_takesOpening_69 rfl rfl ?_
        obtain ⟨q9, o10, h⟩ := h
        refine wp_cvv dX8_takesOpening_70 ck_RX8_136 (sh7_K hS) (as := [.int v4]) rfl rfl (Nat.le_of_ble_eq_true rfl) o10 (fun M11 o12 => ?_)
        replace h := h M11 o12
        refine wp_iconst (v := 1) dX8_takesOpening_73 rfl ?_
        exact wn_zret dX8_takesOpening_74 rfl (Or.inr rfl) h
  · replace h := h.2 c5
    refine wp_aload_n 1 dX8_takesOpening_16 rfl rfl ?_
    refine wp_getI dX8_takesOpening_17 fl_RX8_51 rfl (sh7_K hS) ?_
    refine wp_bipush (v := 8) dX8_takesOpening_20 rfl ?_
    refine wp_icmp_ge (tgt := 38) dX8_takesOpening_22 (by decide) (fun c13 => ?_) (fun c13 => ?_)
    · replace h := h.1 c13
      refine wp_iload_n 0 dX8_takesOpening_38 rfl rfl ?_
      refine wp_bipush (v := 33) dX8_takesOpening_39 rfl ?_
      refine wp_icmp_ne (tgt := 66) dX8_takesOpening_41 (by decide) (fun c14 => ?_) (fun c14 => ?_)
      · replace h := h.1 c14
        refine wp_iconst (v := 0) dX8_takesOpening_66 rfl ?_
        exact wn_zret dX8_takesOpening_67 rfl (Or.inl rfl) h
      · replace h := h.2 c14
        refine wp_aload_n 1 dX8_takesOpening_44 rfl rfl ?_
        refine wp_getI dX8_takesOpening_45 fl_RX8_70 rfl (sh7_K hS) ?_
        refine wp_bipush (v := 8) dX8_takesOpening_48 rfl ?_
        refine wp_icmp_ge (tgt := 66) dX8_takesOpening_50 (by decide) (fun c15 => ?_) (fun c15 => ?_)
        · replace h := h.1 c15
          refine wp_iconst (v := 0) dX8_takesOpening_66 rfl ?_
          exact wn_zret dX8_takesOpening_67 rfl (Or.inl rfl) h
        · replace h := h.2 c15
          refine wp_aload_n 1 dX8_takesOpening_53 rfl rfl ?_
          refine wp_dup dX8_takesOpening_54 rfl ?_
          refine wp_getI dX8_takesOpening_55 fl_RX8_70 rfl (sh7_K hS) ?_
          refine wp_iconst (v := 1) dX8_takesOpening_58 rfl ?_
          refine wp_iadd dX8_takesOpening_59 ?_
          refine wp_putI dX8_takesOpening_60 fp_RX8_70 rfl (sh7_K hS) ?_
          refine wp_nm (fun M16 eM16 => ?_)
          replace h := h M16 eM16
          refine wp_goto (tgt := 68) dX8_takesOpening_63 (by decide) ?_
          refine wp_aload_n 1 dX8_takesOpening_68 rfl rfl ?_
          refine wp_iload_n 0 dX8_takesOpening_69 rfl rfl ?_
          obtain ⟨q17, o18, h⟩ := h
          refine wp_cvv dX8_takesOpening_70 ck_RX8_136 (sh7_K hS) (as := [.int v4]) rfl rfl (Nat.le_of_ble_eq_true rfl) o18 (fun M19 o20 => ?_)
          replace h := h M19 o20
          refine wp_iconst (v := 1) dX8_takesOpening_73 rfl ?_
          exact wn_zret dX8_takesOpening_74 rfl (Or.inr rfl) h
    · replace h := h.2 c13
      refine wp_aload_n 1 dX8_takesOpening_25 rfl rfl ?_
      refine wp_dup dX8_takesOpening_26 rfl ?_
      refine wp_getI dX8_takesOpening_27 fl_RX8_51 rfl (sh7_K hS) ?_
      refine wp_iconst (v := 1) dX8_takesOpening_30 rfl ?_
      refine wp_iadd dX8_takesOpening_31 ?_
      refine wp_putI dX8_takesOpening_32 fp_RX8_51 rfl (sh7_K hS) ?_
      refine wp_nm (fun M21 eM21 => ?_)
      replace h := h M21 eM21
      refine wp_goto (tgt := 68) dX8_takesOpening_35 (by decide) ?_
      refine wp_aload_n 1 dX8_takesOpening_68 rfl rfl ?_
      refine wp_iload_n 0 dX8_takesOpening_69 rfl rfl ?_
      obtain ⟨q22, o23, h⟩ := h
      refine wp_cvv dX8_takesOpening_70 ck_RX8_136 (sh7_K hS) (as := [.int v4]) rfl rfl (Nat.le_of_ble_eq_true rfl) o23 (fun M24 o25 => ?_)
      replace h := h M24 o25
      refine wp_iconst (v := 1) dX8_takesOpening_73 rfl ?_
      exact wn_zret dX8_takesOpening_74 rfl (Or.inr rfl) h
theorem bX8_takesSign_0 {G : Gl} {d : Nat} {X : Sh} {M : Mm} {Q : Mm → Int32 → Prop} {a : Nat} (hS : Sh7 X a) (h : (((mI M a 4) = 3 → (∃ j2 : Nat, (mI M a 2) = nI j2 ∧ j2 < 96 ∧ (∀ v5 : Int32, v5 = (mI M (a + 1) j2) → ((¬ (v5 = 41) → (∀ v7 : Int32, v7 = (f_rank v5) → ((¬ (v7 = 0) → (∃ q11 : Mm → Prop, Cv G m_X8_writeHeldFrom d [.ref a, .int v7, .int (if ¬ (v7 = 3) then 1 else 0)] X M q11 ∧ ∀ M13, q11 M13 → ((¬ (v7 = 3) → (∃ q16 : Mm → Prop, Cv G m_X8_hold d [.ref a, .int v5] X M13 q16 ∧ ∀ M18, q16 M18 → (∀ M20 : Mm, M20 = sI M18 a 15 1 → Q M20 1))) ∧ (v7 = 3 → (∃ q21 : Mm → Int32 → Prop, Cn G m_X8_heldRank d [.ref a] X M13 q21 ∧ ∀ M23 r24, q21 M23 r24 → ((¬ (r24 = 3) → (∃ q27 : Mm → Prop, Cv G m_X8_hold d [.ref a, .int v5] X M23 q27 ∧ ∀ M29, q27 M29 → (∀ M31 : Mm, M31 = sI M29 a 15 1 → Q M31 1))) ∧ (r24 = 3 → Q M23 0))))))) ∧ (v7 = 0 → Q M 0)))) ∧ (v5 = 41 → (∃ q32 : Mm → Int32 → Prop, Cn G m_X8_takesClosing d [.ref a] X M q32 ∧ ∀ M34 r35, q32 M34 r35 → ((r35 = 0 ∨ r35 = 1) ∧ Q M34 r35))))))) ∧ (¬ ((mI M a 4) = 3) → Q M 0))) : Wn G m_X8_takesSign (d + 1) 0 [(0, .ref a)] [] X M Q := by
  refine wp_aload_n 0 dX8_takesSign_0 rfl rfl ?_
  refine wp_getI dX8_takesSign_1 fl_RX8_38 rfl (sh7_K hS) ?_
  refine wp_iconst (v := 3) dX8_takesSign_4 rfl ?_
  refine wp_icmp_eq (tgt := 10) dX8_takesSign_5 (by decide) (fun c1 => ?_) (fun c1 => ?_)
  · replace h := h.1 c1
    refine wp_aload_n 0 dX8_takesSign_10 rfl rfl ?_
    refine wp_getR dX8_takesSign_11 fl_RX8_9 rfl (sh7_K hS) (sh7_F_bytes hS) ?_
    refine wp_aload_n 0 dX8_takesSign_14 rfl rfl ?_
    refine wp_getI dX8_takesSign_15 fl_RX8_32 rfl (sh7_K hS) ?_
    obtain ⟨j2, o3, o4, h⟩ := h
    refine wp_iald (n := 96) dX8_takesSign_18 (sh7_K_bytes hS) (sh7_N_bytes hS) (by decide) o3 o4 ?_
    refine wp_topi (fun v5 ev5 => ?_)
    replace h := h v5 ev5
    refine wp_istore_n (lo2 := [(1, .int _), (0, .ref _)]) dX8_takesSign_19 rfl (by decide) rfl ?_
    refine wp_iload_n 0 dX8_takesSign_20 rfl rfl ?_
    refine wp_bipush (v := 41) dX8_takesSign_21 rfl ?_
    refine wp_icmp_ne (tgt := 31) dX8_takesSign_23 (by decide) (fun c6 => ?_) (fun c6 => ?_)
    · replace h := h.1 c6
      refine wp_iload_n 0 dX8_takesSign_31 rfl rfl ?_
      refine wp_csip dX8_takesSign_32 ck_RX8_142 rfl (as := [.int v5]) rfl rfl (Nat.le_of_ble_eq_true rfl) (cp_X8_rankOf G d X M v5) ?_
      refine wp_topi (fun v7 ev7 => ?_)
      replace h := h v7 ev7
      refine wp_istore_n (lo2 := [(2, .int _), (1, .int _), (0, .ref _)]) dX8_takesSign_35 rfl (by decide) rfl ?_
      refine wp_iload_n 0 dX8_takesSign_36 rfl rfl ?_
      refine wp_if_ne (tgt := 42) dX8_takesSign_37 (by decide) (fun c8 => ?_) (fun c8 => ?_)
      · replace h := h.1 c8
        refine wp_aload_n 2 dX8_takesSign_42 rfl rfl ?_
        refine wp_iload_n 0 dX8_takesSign_43 rfl rfl ?_
        refine wp_iload_n 0 dX8_takesSign_44 rfl rfl ?_
        refine wp_iconst (v := 3) dX8_takesSign_45 rfl ?_
        have K10 : Wp G m_X8_takesSign (d + 1) 0 0 0 0 54 [(2, .int v7), (1, .int v5), (0, .ref a)] [.int (if ¬ (v7 = 3) then 1 else 0), .int v7, .ref a] X M (fun X2 M2 v => X2 = X ∧ ∃ x, v = some (.int x) ∧ Q M2 x) := by
          obtain ⟨q11, o12, h⟩ := h
          refine wp_cvv dX8_takesSign_54 ck_RX8_54 (sh7_K hS) (as := [.int v7, .int (if ¬ (v7 = 3) then 1 else 0)]) rfl rfl (Nat.le_of_ble_eq_true rfl) o12 (fun M13 o14 => ?_)
          replace h := h M13 o14
          refine wp_iload_n 0 dX8_takesSign_57 rfl rfl ?_
          refine wp_iconst (v := 3) dX8_takesSign_58 rfl ?_
          refine wp_icmp_ne (tgt := 72) dX8_takesSign_59 (by decide) (fun c15 => ?_) (fun c15 => ?_)
          · replace h := h.1 c15
            refine wp_aload_n 2 dX8_takesSign_72 rfl rfl ?_
            refine wp_iload_n 1 dX8_takesSign_73 rfl rfl ?_
            obtain ⟨q16, o17, h⟩ := h
            refine wp_cvv dX8_takesSign_74 ck_RX8_136 (sh7_K hS) (as := [.int v5]) rfl rfl (Nat.le_of_ble_eq_true rfl) o17 (fun M18 o19 => ?_)
            replace h := h M18 o19
            refine wp_aload_n 2 dX8_takesSign_77 rfl rfl ?_
            refine wp_iconst (v := 1) dX8_takesSign_78 rfl ?_
            refine wp_putZ dX8_takesSign_79 fp_RX8_41 rfl (sh7_K hS) (Or.inr rfl) ?_
            refine wp_nm (fun M20 eM20 => ?_)
            replace h := h M20 eM20
            refine wp_iconst (v := 1) dX8_takesSign_82 rfl ?_
            exact wn_zret dX8_takesSign_83 rfl (Or.inr rfl) h
          · replace h := h.2 c15
            refine wp_aload_n 2 dX8_takesSign_62 rfl rfl ?_
            obtain ⟨q21, o22, h⟩ := h
            refine wp_cvi dX8_takesSign_63 ck_RX8_145 (sh7_K hS) (as := []) rfl rfl (Nat.le_of_ble_eq_true rfl) o22 (fun M23 r24 o25 => ?_)
            replace h := h M23 r24 o25
            refine wp_iconst (v := 3) dX8_takesSign_66 rfl ?_
            refine wp_icmp_ne (tgt := 72) dX8_takesSign_67 (by decide) (fun c26 => ?_) (fun c26 => ?_)
            · replace h := h.1 c26
              refine wp_aload_n 2 dX8_takesSign_72 rfl rfl ?_
              refine wp_iload_n 1 dX8_takesSign_73 rfl rfl ?_
              obtain ⟨q27, o28, h⟩ := h
              refine wp_cvv dX8_takesSign_74 ck_RX8_136 (sh7_K hS) (as := [.int v5]) rfl rfl (Nat.le_of_ble_eq_true rfl) o28 (fun M29 o30 => ?_)
              replace h := h M29 o30
              refine wp_aload_n 2 dX8_takesSign_77 rfl rfl ?_
              refine wp_iconst (v := 1) dX8_takesSign_78 rfl ?_
              refine wp_putZ dX8_takesSign_79 fp_RX8_41 rfl (sh7_K hS) (Or.inr rfl) ?_
              refine wp_nm (fun M31 eM31 => ?_)
              replace h := h M31 eM31
              refine wp_iconst (v := 1) dX8_takesSign_82 rfl ?_
              exact wn_zret dX8_takesSign_83 rfl (Or.inr rfl) h
            · replace h := h.2 c26
              refine wp_iconst (v := 0) dX8_takesSign_70 rfl ?_
              exact wn_zret dX8_takesSign_71 rfl (Or.inl rfl) h
        refine wp_icmp_eq (tgt := 53) dX8_takesSign_46 (by decide) (fun c9 => ?_) (fun c9 => ?_)
        · refine wp_iconst (v := 0) dX8_takesSign_53 rfl ?_
          rw [if_neg (fun q => q c9)] at K10
          exact K10
        · refine wp_iconst (v := 1) dX8_takesSign_49 rfl ?_
          refine wp_goto (tgt := 54) dX8_takesSign_50 (by decide) ?_
          rw [if_pos c9] at K10
          exact K10
      · replace h := h.2 c8
        refine wp_iconst (v := 0) dX8_takesSign_40 rfl ?_
        exact wn_zret dX8_takesSign_41 rfl (Or.inl rfl) h
    · replace h := h.2 c6
      refine wp_aload_n 1 dX8_takesSign_26 rfl rfl ?_
      obtain ⟨q32, o33, h⟩ := h
      refine wp_cvi dX8_takesSign_27 ck_RX8_139 (sh7_K hS) (as := []) rfl rfl (Nat.le_of_ble_eq_true rfl) o33 (fun M34 r35 o36 => ?_)
      replace h := h M34 r35 o36
      obtain ⟨o37, h⟩ := h
      exact wn_zret dX8_takesSign_30 rfl o37 h
  · replace h := h.2 c1
    refine wp_iconst (v := 0) dX8_takesSign_8 rfl ?_
    exact wn_zret dX8_takesSign_9 rfl (Or.inl rfl) h
theorem bX8_takesClosing_0 {G : Gl} {d : Nat} {X : Sh} {M : Mm} {Q : Mm → Int32 → Prop} {a : Nat} (hS : Sh7 X a) (h : ((¬ ((mI M a 13) = 0) → (∃ q2 : Mm → Prop, Cv G m_X8_writeHeldFrom d [.ref a, .int 1, .int 1] X M q2 ∧ ∀ M4, q2 M4 → (((mI M4 a 12) ≤ 0 → (∀ M7 : Mm, M7 = sI M4 a 13 ((mI M4 a 13) - 1) → (∃ q8 : Mm → Prop, Cv G m_X8_endPiece d [.ref a] X M7 q8 ∧ ∀ M10, q8 M10 → Q M10 1))) ∧ (¬ ((mI M4 a 12) ≤ 0) → (∀ M12 : Mm, M12 = sI M4 a 12 ((mI M4 a 12) - 1) → (∀ M13 : Mm, M13 = sI M12 a 13 ((mI M12 a 13) - 1) → (∃ q14 : Mm → Prop, Cv G m_X8_endPiece d [.ref a] X M13 q14 ∧ ∀ M16, q14 M16 → Q M16 1))))))) ∧ ((mI M a 13) = 0 → Q M 0))) : Wn G m_X8_takesClosing (d + 1) 0 [(0, .ref a)] [] X M Q := by
  refine wp_aload_n 0 dX8_takesClosing_0 rfl rfl ?_
  refine wp_getI dX8_takesClosing_1 fl_RX8_51 rfl (sh7_K hS) ?_
  refine wp_if_ne (tgt := 9) dX8_takesClosing_4 (by decide) (fun c1 => ?_) (fun c1 => ?_)
  · replace h := h.1 c1
    refine wp_aload_n 0 dX8_takesClosing_9 rfl rfl ?_
    refine wp_iconst (v := 1) dX8_takesClosing_10 rfl ?_
    refine wp_iconst (v := 1) dX8_takesClosing_11 rfl ?_
    obtain ⟨q2, o3, h⟩ := h
    refine wp_cvv dX8_takesClosing_12 ck_RX8_54 (sh7_K hS) (as := [.int 1, .int 1]) rfl rfl (Nat.le_of_ble_eq_true rfl) o3 (fun M4 o5 => ?_)
    replace h := h M4 o5
    refine wp_aload_n 0 dX8_takesClosing_15 rfl rfl ?_
    refine wp_getI dX8_takesClosing_16 fl_RX8_67 rfl (sh7_K hS) ?_
    refine wp_if_le (tgt := 32) dX8_takesClosing_19 (by decide) (fun c6 => ?_) (fun c6 => ?_)
    · replace h := h.1 c6
      refine wp_aload_n 0 dX8_takesClosing_32 rfl rfl ?_
      refine wp_dup dX8_takesClosing_33 rfl ?_
      refine wp_getI dX8_takesClosing_34 fl_RX8_51 rfl (sh7_K hS) ?_
      refine wp_iconst (v := 1) dX8_takesClosing_37 rfl ?_
      refine wp_isub dX8_takesClosing_38 ?_
      refine wp_putI dX8_takesClosing_39 fp_RX8_51 rfl (sh7_K hS) ?_
      refine wp_nm (fun M7 eM7 => ?_)
      replace h := h M7 eM7
      refine wp_aload_n 0 dX8_takesClosing_42 rfl rfl ?_
      obtain ⟨q8, o9, h⟩ := h
      refine wp_cvv dX8_takesClosing_43 ck_RX8_122 (sh7_K hS) (as := []) rfl rfl (Nat.le_of_ble_eq_true rfl) o9 (fun M10 o11 => ?_)
      replace h := h M10 o11
      refine wp_iconst (v := 1) dX8_takesClosing_46 rfl ?_
      exact wn_zret dX8_takesClosing_47 rfl (Or.inr rfl) h
    · replace h := h.2 c6
      refine wp_aload_n 0 dX8_takesClosing_22 rfl rfl ?_
      refine wp_dup dX8_takesClosing_23 rfl ?_
      refine wp_getI dX8_takesClosing_24 fl_RX8_67 rfl (sh7_K hS) ?_
      refine wp_iconst (v := 1) dX8_takesClosing_27 rfl ?_
      refine wp_isub dX8_takesClosing_28 ?_
      refine wp_putI dX8_takesClosing_29 fp_RX8_67 rfl (sh7_K hS) ?_
      refine wp_nm (fun M12 eM12 => ?_)
      replace h := h M12 eM12
      refine wp_aload_n 0 dX8_takesClosing_32 rfl rfl ?_
      refine wp_dup dX8_takesClosing_33 rfl ?_
      refine wp_getI dX8_takesClosing_34 fl_RX8_51 rfl (sh7_K hS) ?_
      refine wp_iconst (v := 1) dX8_takesClosing_37 rfl ?_
      refine wp_isub dX8_takesClosing_38 ?_
      refine wp_putI dX8_takesClosing_39 fp_RX8_51 rfl (sh7_K hS) ?_
      refine wp_nm (fun M13 eM13 => ?_)
      replace h := h M13 eM13
      refine wp_aload_n 0 dX8_takesClosing_42 rfl rfl ?_
      obtain ⟨q14, o15, h⟩ := h
      refine wp_cvv dX8_takesClosing_43 ck_RX8_122 (sh7_K hS) (as := []) rfl rfl (Nat.le_of_ble_eq_true rfl) o15 (fun M16 o17 => ?_)
      replace h := h M16 o17
      refine wp_iconst (v := 1) dX8_takesClosing_46 rfl ?_
      exact wn_zret dX8_takesClosing_47 rfl (Or.inr rfl) h
  · replace h := h.2 c1
    refine wp_iconst (v := 0) dX8_takesClosing_7 rfl ?_
    exact wn_zret dX8_takesClosing_8 rfl (Or.inl rfl) h
theorem bX8_beginReading_0 {G : Gl} {d : Nat} {X : Sh} {M : Mm} {Q : Mm → Prop} {a : Nat} (hS : Sh7 X a) (h : (∀ M1 : Mm, M1 = sI M a 3 0 → (∀ M2 : Mm, M2 = sI M1 a 4 0 → (∀ M3 : Mm, M3 = sI M2 a 8 0 → (∀ M4 : Mm, M4 = sI M3 a 10 0 → (∀ M5 : Mm, M5 = sI M4 a 12 0 → (∀ M6 : Mm, M6 = sI M5 a 13 0 → (∀ M7 : Mm, M7 = sI M6 a 14 0 → (∀ M8 : Mm, M8 = sI M7 a 15 1 → Q M8))))))))) : Wv G m_X8_beginReading d 0 [(0, .ref a)] [] X M Q := by
  refine wp_aload_n 0 dX8_beginReading_0 rfl rfl ?_
  refine wp_iconst (v := 0) dX8_beginReading_1 rfl ?_
  refine wp_putI dX8_beginReading_2 fp_RX8_58 rfl (sh7_K hS) ?_
  refine wp_nm (fun M1 eM1 => ?_)
  replace h := h M1 eM1
  refine wp_aload_n 0 dX8_beginReading_5 rfl rfl ?_
  refine wp_iconst (v := 0) dX8_beginReading_6 rfl ?_
  refine wp_putI dX8_beginReading_7 fp_RX8_38 rfl (sh7_K hS) ?_
  refine wp_nm (fun M2 eM2 => ?_)
  replace h := h M2 eM2
  refine wp_aload_n 0 dX8_beginReading_10 rfl rfl ?_
  refine wp_iconst (v := 0) dX8_beginReading_11 rfl ?_
  refine wp_putI dX8_beginReading_12 fp_RX8_61 rfl (sh7_K hS) ?_
  refine wp_nm (fun M3 eM3 => ?_)
  replace h := h M3 eM3
  refine wp_aload_n 0 dX8_beginReading_15 rfl rfl ?_
  refine wp_iconst (v := 0) dX8_beginReading_16 rfl ?_
  refine wp_putI dX8_beginReading_17 fp_RX8_64 rfl (sh7_K hS) ?_
  refine wp_nm (fun M4 eM4 => ?_)
  replace h := h M4 eM4
  refine wp_aload_n 0 dX8_beginReading_20 rfl rfl ?_
  refine wp_iconst (v := 0) dX8_beginReading_21 rfl ?_
  refine wp_putI dX8_beginReading_22 fp_RX8_67 rfl (sh7_K hS) ?_
  refine wp_nm (fun M5 eM5 => ?_)
  replace h := h M5 eM5
  refine wp_aload_n 0 dX8_beginReading_25 rfl rfl ?_
  refine wp_iconst (v := 0) dX8_beginReading_26 rfl ?_
  refine wp_putI dX8_beginReading_27 fp_RX8_51 rfl (sh7_K hS) ?_
  refine wp_nm (fun M6 eM6 => ?_)
  replace h := h M6 eM6
  refine wp_aload_n 0 dX8_beginReading_30 rfl rfl ?_
  refine wp_iconst (v := 0) dX8_beginReading_31 rfl ?_
  refine wp_putI dX8_beginReading_32 fp_RX8_70 rfl (sh7_K hS) ?_
  refine wp_nm (fun M7 eM7 => ?_)
  replace h := h M7 eM7
  refine wp_aload_n 0 dX8_beginReading_35 rfl rfl ?_
  refine wp_iconst (v := 1) dX8_beginReading_36 rfl ?_
  refine wp_putZ dX8_beginReading_37 fp_RX8_41 rfl (sh7_K hS) (Or.inr rfl) ?_
  refine wp_nm (fun M8 eM8 => ?_)
  replace h := h M8 eM8
  exact wv_ret dX8_beginReading_40 rfl h
theorem bX8_readText_0 {G : Gl} {d : Nat} {X : Sh} {M : Mm} {Q : Mm → Int32 → Prop} {a : Nat} (hS : Sh7 X a) (h : (∃ q1 : Mm → Prop, Cv G m_X8_beginReading d [.ref a] X M q1 ∧ ∀ M3, q1 M3 → (∃ q5 : Mm → Int32 → Prop, Cn G m_X8_takesHead d [.ref a] X M3 q5 ∧ ∀ M7 r8, q5 M7 r8 → ((¬ (r8 = 0) → (∃ q11 : Mm → Prop, Cv G m_X8_step d [.ref a] X M7 q11 ∧ ∀ M13, q11 M13 → Wn G m_X8_readText (d + 1) 22 [(0, .ref a), (1, .int 0)] [] X M13 Q)) ∧ (r8 = 0 → Q M7 (mI M7 a 2)))))) : Wn G m_X8_readText (d + 1) 0 [(0, .ref a)] [] X M Q := by
  refine wp_aload_n 0 dX8_readText_0 rfl rfl ?_
  obtain ⟨q1, o2, h⟩ := h
  refine wp_cvv dX8_readText_1 ck_RX8_25 (sh7_K hS) (as := []) rfl rfl (Nat.le_of_ble_eq_true rfl) o2 (fun M3 o4 => ?_)
  replace h := h M3 o4
  refine wp_aload_n 0 dX8_readText_4 rfl rfl ?_
  obtain ⟨q5, o6, h⟩ := h
  refine wp_cvi dX8_readText_5 ck_RX8_28 (sh7_K hS) (as := []) rfl rfl (Nat.le_of_ble_eq_true rfl) o6 (fun M7 r8 o9 => ?_)
  replace h := h M7 r8 o9
  refine wp_if_ne (tgt := 16) dX8_readText_8 (by decide) (fun c10 => ?_) (fun c10 => ?_)
  · replace h := h.1 c10
    refine wp_aload_n 0 dX8_readText_16 rfl rfl ?_
    obtain ⟨q11, o12, h⟩ := h
    refine wp_cvv dX8_readText_17 ck_RX8_35 (sh7_K hS) (as := []) rfl rfl (Nat.le_of_ble_eq_true rfl) o12 (fun M13 o14 => ?_)
    replace h := h M13 o14
    refine wp_iconst (v := 0) dX8_readText_20 rfl ?_
    refine wp_istore_n (lo2 := [(1, .int _), (0, .ref _)]) dX8_readText_21 rfl (by decide) rfl ?_
    exact Wp.sub [1, 0] rfl h
  · replace h := h.2 c10
    refine wp_aload_n 0 dX8_readText_11 rfl rfl ?_
    refine wp_getI dX8_readText_12 fl_RX8_32 rfl (sh7_K hS) ?_
    exact wn_iret dX8_readText_15 rfl h
theorem bX8_readText_22 {G : Gl} {d : Nat} {X : Sh} {M : Mm} {Q : Mm → Int32 → Prop} {a : Nat} {x1 : Int32} (hS : Sh7 X a) (h : ((96 ≤ x1 → ((¬ ((mI M a 15) = 0) → Q M (mI M a 2)) ∧ ((mI M a 15) = 0 → (((mI M a 13) ≤ 0 → (∃ q4 : Mm → Prop, Cv G m_X8_writeHeldFrom d [.ref a, .int 1, .int 1] X M q4 ∧ ∀ M6, q4 M6 → Q M6 (-1))) ∧ (¬ ((mI M a 13) ≤ 0) → Q M (mI M a 2)))))) ∧ (¬ (96 ≤ x1) → (((mI M a 4) = 0 → ((¬ ((mI M a 15) = 0) → Q M (mI M a 2)) ∧ ((mI M a 15) = 0 → (((mI M a 13) ≤ 0 → (∃ q11 : Mm → Prop, Cv G m_X8_writeHeldFrom d [.ref a, .int 1, .int 1] X M q11 ∧ ∀ M13, q11 M13 → Q M13 (-1))) ∧ (¬ ((mI M a 13) ≤ 0) → Q M (mI M a 2)))))) ∧ (¬ ((mI M a 4) = 0) → (((mI M a 15) = 0 → (∃ q16 : Mm → Int32 → Prop, Cn G m_X8_takesSign d [.ref a] X M q16 ∧ ∀ M18 r19, q16 M18 r19 → ((¬ (r19 = 0) → (∃ q22 : Mm → Prop, Cv G m_X8_step d [.ref a] X M18 q22 ∧ ∀ M24, q22 M24 → Wn G m_X8_readText (d + 1) 22 [(0, .ref a), (1, .int (x1 + 1))] [] X M24 Q)) ∧ (r19 = 0 → Q M18 (mI M18 a 2))))) ∧ (¬ ((mI M a 15) = 0) → (∃ q26 : Mm → Int32 → Prop, Cn G m_X8_takesPiece d [.ref a] X M q26 ∧ ∀ M28 r29, q26 M28 r29 → ((r29 = 0 → Q M28 (mI M28 a 2)) ∧ (¬ (r29 = 0) → (∃ q32 : Mm → Prop, Cv G m_X8_step d [.ref a] X M28 q32 ∧ ∀ M34, q32 M34 → Wn G m_X8_readText (d + 1) 22 [(0, .ref a), (1, .int (x1 + 1))] [] X M34 Q))))))))))) : Wn G m_X8_readText (d + 1) 22 [(0, .ref a), (1, .int x1)] [] X M Q := by
  refine wp_iload_n 1 dX8_readText_22 rfl rfl ?_
  refine wp_bipush (v := 96) dX8_readText_23 rfl ?_
  refine wp_icmp_ge (tgt := 74) dX8_readText_25 (by decide) (fun c1 => ?_) (fun c1 => ?_)
  · replace h := h.1 c1
    refine wp_aload_n 0 dX8_readText_74 rfl rfl ?_
    refine wp_getI dX8_readText_75 fl_RX8_41 rfl (sh7_K hS) ?_
    refine wp_if_ne (tgt := 88) dX8_readText_78 (by decide) (fun c2 => ?_) (fun c2 => ?_)
    · replace h := h.1 c2
      refine wp_aload_n 0 dX8_readText_88 rfl rfl ?_
      refine wp_getI dX8_readText_89 fl_RX8_32 rfl (sh7_K hS) ?_
      exact wn_iret dX8_readText_92 rfl h
    · replace h := h.2 c2
      refine wp_aload_n 0 dX8_readText_81 rfl rfl ?_
      refine wp_getI dX8_readText_82 fl_RX8_51 rfl (sh7_K hS) ?_
      refine wp_if_le (tgt := 93) dX8_readText_85 (by decide) (fun c3 => ?_) (fun c3 => ?_)
      · replace h := h.1 c3
        refine wp_aload_n 0 dX8_readText_93 rfl rfl ?_
        refine wp_iconst (v := 1) dX8_readText_94 rfl ?_
        refine wp_iconst (v := 1) dX8_readText_95 rfl ?_
        obtain ⟨q4, o5, h⟩ := h
        refine wp_cvv dX8_readText_96 ck_RX8_54 (sh7_K hS) (as := [.int 1, .int 1]) rfl rfl (Nat.le_of_ble_eq_true rfl) o5 (fun M6 o7 => ?_)
        replace h := h M6 o7
        refine wp_iconst (v := (-1)) dX8_readText_99 rfl ?_
        exact wn_iret dX8_readText_100 rfl h
      · replace h := h.2 c3
        refine wp_aload_n 0 dX8_readText_88 rfl rfl ?_
        refine wp_getI dX8_readText_89 fl_RX8_32 rfl (sh7_K hS) ?_
        exact wn_iret dX8_readText_92 rfl h
  · replace h := h.2 c1
    refine wp_aload_n 0 dX8_readText_28 rfl rfl ?_
    refine wp_getI dX8_readText_29 fl_RX8_38 rfl (sh7_K hS) ?_
    refine wp_if_eq (tgt := 74) dX8_readText_32 (by decide) (fun c8 => ?_) (fun c8 => ?_)
    · replace h := h.1 c8
      refine wp_aload_n 0 dX8_readText_74 rfl rfl ?_
      refine wp_getI dX8_readText_75 fl_RX8_41 rfl (sh7_K hS) ?_
      refine wp_if_ne (tgt := 88) dX8_readText_78 (by decide) (fun c9 => ?_) (fun c9 => ?_)
      · replace h := h.1 c9
        refine wp_aload_n 0 dX8_readText_88 rfl rfl ?_
        refine wp_getI dX8_readText_89 fl_RX8_32 rfl (sh7_K hS) ?_
        exact wn_iret dX8_readText_92 rfl h
      · replace h := h.2 c9
        refine wp_aload_n 0 dX8_readText_81 rfl rfl ?_
        refine wp_getI dX8_readText_82 fl_RX8_51 rfl (sh7_K hS) ?_
        refine wp_if_le (tgt := 93) dX8_readText_85 (by decide) (fun c10 => ?_) (fun c10 => ?_)
        · replace h := h.1 c10
          refine wp_aload_n 0 dX8_readText_93 rfl rfl ?_
          refine wp_iconst (v := 1) dX8_readText_94 rfl ?_
          refine wp_iconst (v := 1) dX8_readText_95 rfl ?_
          obtain ⟨q11, o12, h⟩ := h
          refine wp_cvv dX8_readText_96 ck_RX8_54 (sh7_K hS) (as := [.int 1, .int 1]) rfl rfl (Nat.le_of_ble_eq_true rfl) o12 (fun M13 o14 => ?_)
          replace h := h M13 o14
          refine wp_iconst (v := (-1)) dX8_readText_99 rfl ?_
          exact wn_iret dX8_readText_100 rfl h
        · replace h := h.2 c10
          refine wp_aload_n 0 dX8_readText_88 rfl rfl ?_
          refine wp_getI dX8_readText_89 fl_RX8_32 rfl (sh7_K hS) ?_
          exact wn_iret dX8_readText_92 rfl h
    · replace h := h.2 c8
      refine wp_aload_n 0 dX8_readText_35 rfl rfl ?_
      refine wp_getI dX8_readText_36 fl_RX8_41 rfl (sh7_K hS) ?_
      refine wp_if_eq (tgt := 52) dX8_readText_39 (by decide) (fun c15 => ?_) (fun c15 => ?_)
      · replace h := h.1 c15
        refine wp_aload_n 0 dX8_readText_52 rfl rfl ?_
        obtain ⟨q16, o17, h⟩ := h
        refine wp_cvi dX8_readText_53 ck_RX8_48 (sh7_K hS) (as := []) rfl rfl (Nat.le_of_ble_eq_true rfl) o17 (fun M18 r19 o20 => ?_)
        replace h := h M18 r19 o20
        refine wp_if_ne (tgt := 64) dX8_readText_56 (by decide) (fun c21 => ?_) (fun c21 => ?_)
        · replace h := h.1 c21
          refine wp_aload_n 0 dX8_readText_64 rfl rfl ?_
          obtain ⟨q22, o23, h⟩ := h
          refine wp_cvv dX8_readText_65 ck_RX8_35 (sh7_K hS) (as := []) rfl rfl (Nat.le_of_ble_eq_true rfl) o23 (fun M24 o25 => ?_)
          replace h := h M24 o25
          refine wp_iinc (v := x1 + 1) (lo2 := [(1, .int _), (0, .ref _)]) dX8_readText_68 (q := 1) rfl rfl (by decide) rfl ?_
          refine wp_goto (tgt := 22) dX8_readText_71 (by decide) ?_
          exact Wp.sub [1, 0] rfl h
        · replace h := h.2 c21
          refine wp_aload_n 0 dX8_readText_59 rfl rfl ?_
          refine wp_getI dX8_readText_60 fl_RX8_32 rfl (sh7_K hS) ?_
          exact wn_iret dX8_readText_63 rfl h
      · replace h := h.2 c15
        refine wp_aload_n 0 dX8_readText_42 rfl rfl ?_
        obtain ⟨q26, o27, h⟩ := h
        refine wp_cvi dX8_readText_43 ck_RX8_45 (sh7_K hS) (as := []) rfl rfl (Nat.le_of_ble_eq_true rfl) o27 (fun M28 r29 o30 => ?_)
        replace h := h M28 r29 o30
        refine wp_if_eq (tgt := 59) dX8_readText_46 (by decide) (fun c31 => ?_) (fun c31 => ?_)
        · replace h := h.1 c31
          refine wp_aload_n 0 dX8_readText_59 rfl rfl ?_
          refine wp_getI dX8_readText_60 fl_RX8_32 rfl (sh7_K hS) ?_
          exact wn_iret dX8_readText_63 rfl h
        · replace h := h.2 c31
          refine wp_goto (tgt := 64) dX8_readText_49 (by decide) ?_
          refine wp_aload_n 0 dX8_readText_64 rfl rfl ?_
          obtain ⟨q32, o33, h⟩ := h
          refine wp_cvv dX8_readText_65 ck_RX8_35 (sh7_K hS) (as := []) rfl rfl (Nat.le_of_ble_eq_true rfl) o33 (fun M34 o35 => ?_)
          replace h := h M34 o35
          refine wp_iinc (v := x1 + 1) (lo2 := [(1, .int _), (0, .ref _)]) dX8_readText_68 (q := 1) rfl rfl (by decide) rfl ?_
          refine wp_goto (tgt := 22) dX8_readText_71 (by decide) ?_
          exact Wp.sub [1, 0] rfl h
theorem bX8_keyThere_0 {G : Gl} {d : Nat} {X : Sh} {M : Mm} {Q : Mm → Int32 → Prop} {a : Nat} (hS : Sh7 X a) (h : (∃ q1 : Mm → Int32 → Prop, Cn G m_X8_isThere d [.ref a, .ref (G.2 10)] X M q1 ∧ ∀ M3 r4, q1 M3 r4 → ((r4 = 0 → (∃ q7 : Mm → Int32 → Prop, Cn G m_X8_isThere d [.ref a, .ref (G.2 11)] X M3 q7 ∧ ∀ M9 r10, q7 M9 r10 → ((r10 = 0 → (∃ q13 : Mm → Int32 → Prop, Cn G m_X8_isThere d [.ref a, .ref (G.2 12)] X M9 q13 ∧ ∀ M15 r16, q13 M15 r16 → Q M15 (if r16 = 0 then (-1) else 2))) ∧ (¬ (r10 = 0) → Q M9 1)))) ∧ (¬ (r4 = 0) → Q M3 0)))) : Wn G m_X8_keyThere (d + 1) 0 [(0, .ref a)] [] X M Q := by
  refine wp_aload_n 0 dX8_keyThere_0 rfl rfl ?_
  refine wp_ldcS dX8_keyThere_1 0 (by decide) rfl ?_
  obtain ⟨q1, o2, h⟩ := h
  refine wp_cvi dX8_keyThere_3 ck_RX8_96 (sh7_K hS) (as := [.ref (G.2 10)]) rfl rfl (Nat.le_of_ble_eq_true rfl) o2 (fun M3 r4 o5 => ?_)
  replace h := h M3 r4 o5
  refine wp_if_eq (tgt := 11) dX8_keyThere_6 (by decide) (fun c6 => ?_) (fun c6 => ?_)
  · replace h := h.1 c6
    refine wp_aload_n 0 dX8_keyThere_11 rfl rfl ?_
    refine wp_ldcS dX8_keyThere_12 1 (by decide) rfl ?_
    obtain ⟨q7, o8, h⟩ := h
    refine wp_cvi dX8_keyThere_14 ck_RX8_96 (sh7_K hS) (as := [.ref (G.2 11)]) rfl rfl (Nat.le_of_ble_eq_true rfl) o8 (fun M9 r10 o11 => ?_)
    replace h := h M9 r10 o11
    refine wp_if_eq (tgt := 22) dX8_keyThere_17 (by decide) (fun c12 => ?_) (fun c12 => ?_)
    · replace h := h.1 c12
      refine wp_aload_n 0 dX8_keyThere_22 rfl rfl ?_
      refine wp_ldcS dX8_keyThere_23 2 (by decide) rfl ?_
      obtain ⟨q13, o14, h⟩ := h
      refine wp_cvi dX8_keyThere_25 ck_RX8_96 (sh7_K hS) (as := [.ref (G.2 12)]) rfl rfl (Nat.le_of_ble_eq_true rfl) o14 (fun M15 r16 o17 => ?_)
      replace h := h M15 r16 o17
      have K19 : Wp G m_X8_keyThere (d + 1) 0 0 0 0 36 [(0, .ref a)] [.int ((if r16 = 0 then (-1) else 2))] X M15 (fun X2 M2 v => X2 = X ∧ ∃ x, v = some (.int x) ∧ Q M2 x) := by
        exact wn_iret dX8_keyThere_36 rfl h
      refine wp_if_eq (tgt := 35) dX8_keyThere_28 (by decide) (fun c18 => ?_) (fun c18 => ?_)
      · refine wp_iconst (v := (-1)) dX8_keyThere_35 rfl ?_
        rw [if_pos c18] at K19
        exact K19
      · refine wp_iconst (v := 2) dX8_keyThere_31 rfl ?_
        refine wp_goto (tgt := 36) dX8_keyThere_32 (by decide) ?_
        rw [if_neg c18] at K19
        exact K19
    · replace h := h.2 c12
      refine wp_iconst (v := 1) dX8_keyThere_20 rfl ?_
      exact wn_iret dX8_keyThere_21 rfl h
  · replace h := h.2 c6
    refine wp_iconst (v := 0) dX8_keyThere_9 rfl ?_
    exact wn_iret dX8_keyThere_10 rfl h
theorem bX8_takesHead_0 {G : Gl} {d : Nat} {X : Sh} {M : Mm} {Q : Mm → Int32 → Prop} {a : Nat} (hS : Sh7 X a) (h : (∃ q1 : Mm → Prop, Cv G m_X8_step d [.ref a] X M q1 ∧ ∀ M3, q1 M3 → (∃ q5 : Mm → Int32 → Prop, Cn G m_X8_keyThere d [.ref a] X M3 q5 ∧ ∀ M7 r8, q5 M7 r8 → (∀ M10 : Mm, M10 = sI M7 a 6 r8 → (∀ M11 : Mm, M11 = sI M10 a 7 (-1000000005) → (((mI M11 a 6) = 0 → (∃ q13 : Mm → Prop, Cv G m_X8_step d [.ref a] X M11 q13 ∧ ∀ M15, q13 M15 → ((¬ ((mI M15 a 4) = 2) → Q M15 0) ∧ ((mI M15 a 4) = 2 → (((mI M15 a 5) = 0 → (∃ q19 : Mm → Int32 → Prop, Cn G m_X8_numberThere d [.ref a] X M15 q19 ∧ ∀ M21 r22, q19 M21 r22 → (∀ M24 : Mm, M24 = sI M21 a 7 r22 → Q M24 (if ((¬ ((mI M24 a 7) < 0)) ∧ (¬ (6 ≤ (mI M24 a 7)))) then 1 else 0)))) ∧ (¬ ((mI M15 a 5) = 0) → Q M15 0)))))) ∧ (¬ ((mI M11 a 6) = 0) → Q M11 (if ¬ ((mI M11 a 6) < 0) then 1 else 0)))))))) : Wn G m_X8_takesHead (d + 1) 0 [(0, .ref a)] [] X M Q := by
  refine wp_aload_n 0 dX8_takesHead_0 rfl rfl ?_
  obtain ⟨q1, o2, h⟩ := h
  refine wp_cvv dX8_takesHead_1 ck_RX8_35 (sh7_K hS) (as := []) rfl rfl (Nat.le_of_ble_eq_true rfl) o2 (fun M3 o4 => ?_)
  replace h := h M3 o4
  refine wp_aload_n 0 dX8_takesHead_4 rfl rfl ?_
  refine wp_aload_n 0 dX8_takesHead_5 rfl rfl ?_
  obtain ⟨q5, o6, h⟩ := h
  refine wp_cvi dX8_takesHead_6 ck_RX8_80 (sh7_K hS) (as := []) rfl rfl (Nat.le_of_ble_eq_true rfl) o6 (fun M7 r8 o9 => ?_)
  replace h := h M7 r8 o9
  refine wp_putI dX8_takesHead_9 fp_RX8_84 rfl (sh7_K hS) ?_
  refine wp_nm (fun M10 eM10 => ?_)
  replace h := h M10 eM10
  refine wp_aload_n 0 dX8_takesHead_12 rfl rfl ?_
  refine wp_ldc dX8_takesHead_13 kc_RX8_87 ?_
  refine wp_putI dX8_takesHead_15 fp_RX8_88 rfl (sh7_K hS) ?_
  refine wp_nm (fun M11 eM11 => ?_)
  replace h := h M11 eM11
  refine wp_aload_n 0 dX8_takesHead_18 rfl rfl ?_
  refine wp_getI dX8_takesHead_19 fl_RX8_84 rfl (sh7_K hS) ?_
  refine wp_if_eq (tgt := 38) dX8_takesHead_22 (by decide) (fun c12 => ?_) (fun c12 => ?_)
  · replace h := h.1 c12
    refine wp_aload_n 0 dX8_takesHead_38 rfl rfl ?_
    obtain ⟨q13, o14, h⟩ := h
    refine wp_cvv dX8_takesHead_39 ck_RX8_35 (sh7_K hS) (as := []) rfl rfl (Nat.le_of_ble_eq_true rfl) o14 (fun M15 o16 => ?_)
    replace h := h M15 o16
    refine wp_aload_n 0 dX8_takesHead_42 rfl rfl ?_
    refine wp_getI dX8_takesHead_43 fl_RX8_38 rfl (sh7_K hS) ?_
    refine wp_iconst (v := 2) dX8_takesHead_46 rfl ?_
    refine wp_icmp_ne (tgt := 57) dX8_takesHead_47 (by decide) (fun c17 => ?_) (fun c17 => ?_)
    · replace h := h.1 c17
      refine wp_iconst (v := 0) dX8_takesHead_57 rfl ?_
      exact wn_zret dX8_takesHead_58 rfl (Or.inl rfl) h
    · replace h := h.2 c17
      refine wp_aload_n 0 dX8_takesHead_50 rfl rfl ?_
      refine wp_getI dX8_takesHead_51 fl_RX8_73 rfl (sh7_K hS) ?_
      refine wp_if_eq (tgt := 59) dX8_takesHead_54 (by decide) (fun c18 => ?_) (fun c18 => ?_)
      · replace h := h.1 c18
        refine wp_aload_n 0 dX8_takesHead_59 rfl rfl ?_
        refine wp_aload_n 0 dX8_takesHead_60 rfl rfl ?_
        obtain ⟨q19, o20, h⟩ := h
        refine wp_cvi dX8_takesHead_61 ck_RX8_91 (sh7_K hS) (as := []) rfl rfl (Nat.le_of_ble_eq_true rfl) o20 (fun M21 r22 o23 => ?_)
        replace h := h M21 r22 o23
        refine wp_putI dX8_takesHead_64 fp_RX8_88 rfl (sh7_K hS) ?_
        refine wp_nm (fun M24 eM24 => ?_)
        replace h := h M24 eM24
        refine wp_aload_n 0 dX8_takesHead_67 rfl rfl ?_
        refine wp_getI dX8_takesHead_68 fl_RX8_88 rfl (sh7_K hS) ?_
        have K27 : Wp G m_X8_takesHead (d + 1) 0 0 0 0 88 [(0, .ref a)] [.int (if ((¬ ((mI M24 a 7) < 0)) ∧ (¬ (6 ≤ (mI M24 a 7)))) then 1 else 0)] X M24 (fun X2 M2 v => X2 = X ∧ ∃ x, v = some (.int x) ∧ Q M2 x) := by
          exact wn_zret dX8_takesHead_88 rfl (ite_01 _) h
        refine wp_if_lt (tgt := 87) dX8_takesHead_71 (by decide) (fun c25 => ?_) (fun c25 => ?_)
        · refine wp_iconst (v := 0) dX8_takesHead_87 rfl ?_
          rw [if_neg (fun q => (fun q => q c25) q.1)] at K27
          exact K27
        · refine wp_aload_n 0 dX8_takesHead_74 rfl rfl ?_
          refine wp_getI dX8_takesHead_75 fl_RX8_88 rfl (sh7_K hS) ?_
          refine wp_bipush (v := 6) dX8_takesHead_78 rfl ?_
          refine wp_icmp_ge (tgt := 87) dX8_takesHead_80 (by decide) (fun c26 => ?_) (fun c26 => ?_)
          · refine wp_iconst (v := 0) dX8_takesHead_87 rfl ?_
            rw [if_neg (fun q => (fun q => q c26) q.2)] at K27
            exact K27
          · refine wp_iconst (v := 1) dX8_takesHead_83 rfl ?_
            refine wp_goto (tgt := 88) dX8_takesHead_84 (by decide) ?_
            rw [if_pos ⟨c25, c26⟩] at K27
            exact K27
      · replace h := h.2 c18
        refine wp_iconst (v := 0) dX8_takesHead_57 rfl ?_
        exact wn_zret dX8_takesHead_58 rfl (Or.inl rfl) h
  · replace h := h.2 c12
    refine wp_aload_n 0 dX8_takesHead_25 rfl rfl ?_
    refine wp_getI dX8_takesHead_26 fl_RX8_84 rfl (sh7_K hS) ?_
    have K29 : Wp G m_X8_takesHead (d + 1) 0 0 0 0 37 [(0, .ref a)] [.int (if ¬ ((mI M11 a 6) < 0) then 1 else 0)] X M11 (fun X2 M2 v => X2 = X ∧ ∃ x, v = some (.int x) ∧ Q M2 x) := by
      exact wn_zret dX8_takesHead_37 rfl (ite_01 _) h
    refine wp_if_lt (tgt := 36) dX8_takesHead_29 (by decide) (fun c28 => ?_) (fun c28 => ?_)
    · refine wp_iconst (v := 0) dX8_takesHead_36 rfl ?_
      rw [if_neg (fun q => q c28)] at K29
      exact K29
    · refine wp_iconst (v := 1) dX8_takesHead_32 rfl ?_
      refine wp_goto (tgt := 37) dX8_takesHead_33 (by decide) ?_
      rw [if_pos c28] at K29
      exact K29
def isT (c : Nat → Nat) (k : Tk) (i : Nat) : Prop := kE k - kB k = kLn i ∧ ∀ j, j < kLn i → nI (c (kB k + j)) = kCh i j
theorem TV.be {c : Nat → Nat} {n : Nat} {k : Tk} (h : TV c n k) : kB k ≤ kE k := by
  by_cases z : kS k = 0
  · have := h.2.2.2.1 z
    omega
  · exact Nat.le_of_lt (h.2.2.2.2.1 z)
theorem cl_isThere (G : Gl) (d : Nat) (hd : 3 ≤ d) {X : Sh} {M : Mm} {a n i : Nat} {c : Nat → Nat} {k : Tk} {Q : Mm → Int32 → Prop} (hS : Sh7 X a) (hB : BYc M a c n) (hT : TV c n k) (hC : CT M a k) (hi : i < 6) (hl : kE k - kB k = kLn i) (h1 : isT c k i → Q M 1) (h0 : ¬ isT c k i → Q M 0) :
    ∀ (f j : Nat), j + f = kLn i → (∀ t, t < j → nI (c (kB k + t)) = kCh i t) → Wn G m_X8_isThere (d + 1) 20 [(0, .ref a), (1, .ref (G.2 (10 + i))), (2, .int (nI j))] [] X M Q
  | 0, j, h, hs => by
    have h4 := kLn_le hi
    have hj : j = kLn i := h
    refine wp_iload_n 2 dX8_isThere_20 rfl rfl ?_
    refine wp_aload_n 1 dX8_isThere_21 rfl rfl ?_
    refine wp_svip dX8_isThere_22 cs_RX8_104 hi (as := []) rfl rfl (Nat.le_of_ble_eq_true rfl) (cp_J0_length G d (by omega) X M i hi) ?_
    refine wp_icmp_ge (tgt := 55) dX8_isThere_25 (by decide) (fun _ => ?_) (fun q => absurd (by rw [hj]; exact Int32.le_refl _) q)
    refine wp_iconst (v := 1) dX8_isThere_55 rfl ?_
    exact wn_zret dX8_isThere_56 rfl (Or.inr rfl) (h1 ⟨hl, fun t ht => hs t (by omega)⟩)
  | f + 1, j, h, hs => by
    have h4 := kLn_le hi
    have n96 := hB.2.1
    have ke := hT.2.2.1
    have be := hT.be
    have b1 := (hB.2.2 (kB k + j) (by omega)).1
    refine wp_iload_n 2 dX8_isThere_20 rfl rfl ?_
    refine wp_aload_n 1 dX8_isThere_21 rfl rfl ?_
    refine wp_svip dX8_isThere_22 cs_RX8_104 hi (as := []) rfl rfl (Nat.le_of_ble_eq_true rfl) (cp_J0_length G d (by omega) X M i hi) ?_
    refine wp_icmp_ge (tgt := 55) dX8_isThere_25 (by decide) (fun q => ?_) (fun _ => ?_)
    · have := (nI_leI (by omega) (by omega)).mp q
      omega
    refine wp_aload_n 0 dX8_isThere_28 rfl rfl ?_
    refine wp_getR dX8_isThere_29 fl_RX8_9 rfl (sh7_K hS) (sh7_F_bytes hS) ?_
    refine wp_aload_n 0 dX8_isThere_32 rfl rfl ?_
    refine wp_getI dX8_isThere_33 fl_RX8_32 rfl (sh7_K hS) ?_
    refine wp_iload_n 2 dX8_isThere_36 rfl rfl ?_
    refine wp_iadd dX8_isThere_37 ?_
    rw [hC.1, nI_add]
    refine wp_iald (n := 96) (j := kB k + j) dX8_isThere_38 (sh7_K_bytes hS) (sh7_N_bytes hS) (by decide) rfl (by omega) ?_
    refine wp_aload_n 1 dX8_isThere_39 rfl rfl ?_
    refine wp_iload_n 2 dX8_isThere_40 rfl rfl ?_
    refine wp_svip dX8_isThere_41 cs_RX8_108 hi (as := [.int (nI j)]) rfl rfl (Nat.le_of_ble_eq_true rfl) (cp_J0_charAt G d hd X M i j hi (by omega)) ?_
    refine wp_icmp_eq (tgt := 49) dX8_isThere_44 (by decide) (fun q => ?_) (fun q => ?_)
    · refine wp_iinc (v := nI j + 1) (lo2 := [(2, .int _), (0, .ref _), (1, .ref _)]) dX8_isThere_49 (q := 2) rfl rfl (by decide) rfl ?_
      refine wp_goto (tgt := 20) dX8_isThere_52 (by decide) ?_
      rw [nI_1]
      refine Wp.sub [1, 2, 0] rfl (cl_isThere G d hd hS hB hT hC hi hl h1 h0 f (j + 1) (by omega) (fun t ht => ?_))
      by_cases y : t = j
      · rw [y, ← b1]
        exact q
      · exact hs t (by omega)
    · refine wp_iconst (v := 0) dX8_isThere_47 rfl ?_
      refine wn_zret dX8_isThere_48 rfl (Or.inl rfl) (h0 (fun z => q ?_))
      rw [b1]
      exact z.2 j (by omega)
theorem cp_X8_isThere (G : Gl) (d : Nat) (hd : 4 ≤ d) (X : Sh) (M : Mm) (a n i : Nat) (c : Nat → Nat) (k : Tk) (hS : Sh7 X a) (hB : BYc M a c n) (hT : TV c n k) (hC : CT M a k) (hi : i < 6) : Cn G m_X8_isThere d [.ref a, .ref (G.2 (10 + i))] X M (fun M2 r => M2 = M ∧ (isT c k i → r = 1) ∧ (¬ isT c k i → r = 0)) := by
  obtain ⟨d, rfl⟩ : ∃ d1, d = d1 + 1 := ⟨d - 1, by omega⟩
  have h4 := kLn_le hi
  have n96 := hB.2.1
  have ke := hT.2.2.1
  have be := hT.be
  refine Cn.of (by decide) (Nat.le_of_ble_eq_true rfl) ?_
  refine wp_aload_n 0 dX8_isThere_0 rfl rfl ?_
  refine wp_getI dX8_isThere_1 fl_RX8_58 rfl (sh7_K hS) ?_
  refine wp_aload_n 0 dX8_isThere_4 rfl rfl ?_
  refine wp_getI dX8_isThere_5 fl_RX8_32 rfl (sh7_K hS) ?_
  refine wp_isub dX8_isThere_8 ?_
  rw [hC.1, hC.2.1, nI_subI _ _ be]
  refine wp_aload_n 1 dX8_isThere_9 rfl rfl ?_
  refine wp_svip dX8_isThere_10 cs_RX8_104 hi (as := []) rfl rfl (Nat.le_of_ble_eq_true rfl) (cp_J0_length G d (by omega) X M i hi) ?_
  refine wp_icmp_eq (tgt := 18) dX8_isThere_13 (by decide) (fun q => ?_) (fun q => ?_)
  · have q := (nI_inj (by omega) (by omega)).mp q
    refine wp_iconst (v := 0) dX8_isThere_18 rfl ?_
    refine wp_istore_n (lo2 := [(2, .int _), (0, .ref _), (1, .ref _)]) dX8_isThere_19 rfl (by decide) rfl ?_
    exact Wp.sub [1, 2, 0] rfl (cl_isThere G d (by omega) hS hB hT hC hi q (fun z => ⟨rfl, fun _ => rfl, fun y => absurd z y⟩) (fun z => ⟨rfl, fun y => absurd y z, fun _ => rfl⟩) (kLn i) 0 (by omega) (fun t ht => absurd ht (by omega)))
  · refine wp_iconst (v := 0) dX8_isThere_16 rfl ?_
    exact wn_zret dX8_isThere_17 rfl (Or.inl rfl) ⟨rfl, fun z => absurd (congrArg nI z.1) q, fun _ => rfl⟩
theorem cp_X8_keyThere (G : Gl) (d : Nat) (hd : 5 ≤ d) (X : Sh) (M : Mm) (a n : Nat) (c : Nat → Nat) (k : Tk) (hS : Sh7 X a) (hB : BYc M a c n) (hT : TV c n k) (hC : CT M a k) : Cn G m_X8_keyThere d [.ref a] X M (fun M2 r => M2 = M ∧ (isT c k 0 → r = 0) ∧ (¬ isT c k 0 → isT c k 1 → r = 1) ∧ (¬ isT c k 0 → ¬ isT c k 1 → isT c k 2 → r = 2) ∧ (¬ isT c k 0 → ¬ isT c k 1 → ¬ isT c k 2 → r = -1)) := by
  obtain ⟨d, rfl⟩ : ∃ d1, d = d1 + 1 := ⟨d - 1, by omega⟩
  refine Cn.of (by decide) (Nat.le_of_ble_eq_true rfl) (bX8_keyThere_0 hS ⟨_, cp_X8_isThere G d (by omega) X M a n 0 c k hS hB hT hC (by omega), ?_⟩)
  rintro M3 r4 ⟨rfl, y1, y0⟩
  refine ⟨fun q => ?_, fun q => ?_⟩
  · have n0 : ¬ isT c k 0 := fun z => by rw [y1 z] at q; exact absurd q (by decide)
    refine ⟨_, cp_X8_isThere G d (by omega) X M3 a n 1 c k hS hB hT hC (by omega), ?_⟩
    rintro M9 r10 ⟨rfl, z1, z0⟩
    refine ⟨fun q => ?_, fun q => ?_⟩
    · have n1 : ¬ isT c k 1 := fun z => by rw [z1 z] at q; exact absurd q (by decide)
      refine ⟨_, cp_X8_isThere G d (by omega) X M9 a n 2 c k hS hB hT hC (by omega), ?_⟩
      rintro M15 r16 ⟨rfl, x1, x0⟩
      refine ⟨rfl, fun z => absurd z n0, fun _ z => absurd z n1, fun _ _ z => ?_, fun _ _ z => ?_⟩
      · rw [x1 z]
        rfl
      · rw [x0 z]
        rfl
    · have i1 : isT c k 1 := Classical.byContradiction (fun z => q (z0 z))
      exact ⟨rfl, fun z => absurd z n0, fun _ _ => rfl, fun _ z => absurd i1 z, fun _ z => absurd i1 z⟩
  · have i0 : isT c k 0 := Classical.byContradiction (fun z => q (y0 z))
    exact ⟨rfl, fun _ => rfl, fun z => absurd i0 z, fun z => absurd i0 z, fun z => absurd i0 z⟩
/-- the class's number of the reference's key -/
def kc (key : Nat) : Nat := if key ≤ 5 then 0 else key - 5
def kT (key : Nat) : Nat := if key ≤ 5 then 3 else if key = 6 then 4 else 5
theorem kHas_3 {x : Nat} : kHas 3 x ↔ nI x = 104 ∨ nI x = 116 ∨ nI x = 98 ∨ nI x = 115 := by
  constructor
  · rintro ⟨j, hj, e⟩
    match j, hj, e with
    | 0, _, e => exact Or.inl e.symm
    | 1, _, e => exact Or.inr (Or.inl e.symm)
    | 2, _, e => exact Or.inr (Or.inr (Or.inl e.symm))
    | 3, _, e => exact Or.inr (Or.inr (Or.inr e.symm))
    | j + 4, h, _ => exact absurd h (by have : kLn 3 = 4 := rfl; omega)
  · rintro (e | e | e | e)
    · exact ⟨0, by decide, e.symm⟩
    · exact ⟨1, by decide, e.symm⟩
    · exact ⟨2, by decide, e.symm⟩
    · exact ⟨3, by decide, e.symm⟩
theorem kHas_4 {x : Nat} : kHas 4 x ↔ nI x = 104 ∨ nI x = 116 ∨ nI x = 105 := by
  constructor
  · rintro ⟨j, hj, e⟩
    match j, hj, e with
    | 0, _, e => exact Or.inl e.symm
    | 1, _, e => exact Or.inr (Or.inl e.symm)
    | 2, _, e => exact Or.inr (Or.inr e.symm)
    | j + 3, h, _ => exact absurd h (by have : kLn 4 = 3 := rfl; omega)
  · rintro (e | e | e)
    · exact ⟨0, by decide, e.symm⟩
    · exact ⟨1, by decide, e.symm⟩
    · exact ⟨2, by decide, e.symm⟩
theorem kHas_5 {x : Nat} : kHas 5 x ↔ nI x = 104 ∨ nI x = 99 := by
  constructor
  · rintro ⟨j, hj, e⟩
    match j, hj, e with
    | 0, _, e => exact Or.inl e.symm
    | 1, _, e => exact Or.inr e.symm
    | j + 2, h, _ => exact absurd h (by have : kLn 5 = 2 := rfl; omega)
  · rintro (e | e)
    · exact ⟨0, by decide, e.symm⟩
    · exact ⟨1, by decide, e.symm⟩
theorem kHas_name {key x : Nat} (hk : key ≤ 7) : kHas (kT key) x ↔ p_isName (nI key) (nI x) := by
  by_cases h5 : key ≤ 5
  · have e : kT key = 3 := if_pos h5
    rw [e]
    refine kHas_3.trans ?_
    unfold p_isName
    have n6 : ¬ nI key = (6 : Int32) := fun q => by
      have := (nI_inj (b := 6) (by omega) (by omega)).mp q
      omega
    have n7 : ¬ nI key = (7 : Int32) := fun q => by
      have := (nI_inj (b := 7) (by omega) (by omega)).mp q
      omega
    rw [if_neg n6, if_neg n7]
  · by_cases h6 : key = 6
    · subst h6
      exact kHas_4
    · have h7 : key = 7 := by omega
      subst h7
      exact kHas_5
theorem ecd_1 {x : Nat} (hx : 97 ≤ x) : ecd (1, x) = nI (10000 + x - 97) := by
  show e_code (nI 1) (nI x) = _
  unfold e_code
  rw [if_neg (by decide), if_pos (show nI 1 = 1 from rfl), n_lit 97, nI_subI _ _ hx, n_lit 10000, nI_add, show 10000 + (x - 97) = 10000 + x - 97 by omega]
theorem i2c_small {x : Nat} (h : x < 65536) : ((nI x).toUInt32 % 65536).toInt32 = nI x := by
  have e2 : (nI x).toUInt32.toNat = x := by
    show (UInt32.ofNat x).toNat = x
    rw [UInt32.toNat_ofNat']
    exact Nat.mod_eq_of_lt (by omega)
  have e3 : (nI x).toUInt32 % 65536 = (nI x).toUInt32 := UInt32.toNat_inj.mp (by
    rw [UInt32.toNat_mod, e2]
    exact Nat.mod_eq_of_lt h)
  rw [e3]
  rfl
theorem cp_X8_nameThere (G : Gl) (d : Nat) (hd : 5 ≤ d) (X : Sh) (M : Mm) (a n key : Nat) (c : Nat → Nat) (k : Tk) (hS : Sh7 X a) (hB : BYc M a c n) (hT : TV c n k) (hC : CT M a k) (h6 : mI M a 6 = nI (kc key)) (hk : key ≤ 7) (h1 : kS k = 1) : Cn G m_X8_nameThere d [.ref a] X M (fun M2 r => M2 = M ∧ (kE k - kB k = 1 ∧ p_isName (nI key) (nI (c (kB k))) → r = ecd (1, c (kB k)) ∧ 0 ≤ r) ∧ (¬ (kE k - kB k = 1 ∧ p_isName (nI key) (nI (c (kB k)))) → r = -1)) := by
  obtain ⟨d, rfl⟩ : ∃ d1, d = d1 + 1 := ⟨d - 1, by omega⟩
  have n96 := hB.2.1
  have ke := hT.2.2.1
  have be := hT.2.2.2.2.1 (by omega)
  obtain ⟨eb, lb⟩ := hB.2.2 (kB k) (by omega)
  have let1 : 97 ≤ c (kB k) ∧ c (kB k) ≤ 122 := by
    have := hT.1
    rw [h1] at this
    exact (tsrt_1 (by omega)).mp this.symm
  refine Cn.of (by decide) (Nat.le_of_ble_eq_true rfl) ?_
  refine wp_aload_n 0 dX8_nameThere_0 rfl rfl ?_
  refine wp_getI dX8_nameThere_1 fl_RX8_58 rfl (sh7_K hS) ?_
  refine wp_aload_n 0 dX8_nameThere_4 rfl rfl ?_
  refine wp_getI dX8_nameThere_5 fl_RX8_32 rfl (sh7_K hS) ?_
  refine wp_isub dX8_nameThere_8 ?_
  rw [hC.1, hC.2.1, nI_subI _ _ (by omega)]
  refine wp_iconst (v := 1) dX8_nameThere_9 rfl ?_
  refine wp_icmp_eq (tgt := 15) dX8_nameThere_10 (by decide) (fun q => ?_) (fun q => ?_)
  · have q := (nI_inj (b := 1) (by omega) (by omega)).mp q
    have go : ∀ i, i = kT key → Wn G m_X8_nameThere (d + 1) 42 [(0, .ref a)] [.ref (G.2 (10 + i))] X M (fun M2 r => M2 = M ∧ (kE k - kB k = 1 ∧ p_isName (nI key) (nI (c (kB k))) → r = ecd (1, c (kB k)) ∧ 0 ≤ r) ∧ (¬ (kE k - kB k = 1 ∧ p_isName (nI key) (nI (c (kB k)))) → r = -1)) := by
      intro i ei
      have hi : i < 6 := by
        rw [ei]
        unfold kT
        repeat' split
        all_goals omega
      refine wp_astore_n (lo2 := [(1, .ref _), (0, .ref _)]) dX8_nameThere_42 rfl (by decide) rfl ?_
      refine wp_aload_n 1 dX8_nameThere_43 rfl rfl ?_
      refine wp_getR dX8_nameThere_44 fl_RX8_9 rfl (sh7_K hS) (sh7_F_bytes hS) ?_
      refine wp_aload_n 1 dX8_nameThere_47 rfl rfl ?_
      refine wp_getI dX8_nameThere_48 fl_RX8_32 rfl (sh7_K hS) ?_
      refine wp_iald (n := 96) (j := kB k) dX8_nameThere_51 (sh7_K_bytes hS) (sh7_N_bytes hS) (by decide) hC.1 (by omega) ?_
      rw [eb]
      refine wp_istore_n (lo2 := [(2, .int _), (1, .ref _), (0, .ref _)]) dX8_nameThere_52 rfl (by decide) rfl ?_
      refine wp_aload_n 1 dX8_nameThere_53 rfl rfl ?_
      refine wp_iload_n 0 dX8_nameThere_54 rfl rfl ?_
      refine wp_i2c dX8_nameThere_55 ?_
      rw [i2c_small (by omega)]
      refine wp_svi dX8_nameThere_56 cs_RX8_131 hi (as := [.int (nI (c (kB k)))]) rfl rfl (Nat.le_of_ble_eq_true rfl) (cp_J0_indexOf1 G d (by omega) X M i (c (kB k)) hi lb) (fun M2 x h => ?_)
      obtain ⟨rfl, h⟩ := h
      rw [ei, kHas_name hk] at h
      refine wp_if_ge (tgt := 66) dX8_nameThere_59 (by decide) (fun z => ?_) (fun z => ?_)
      · have nm : p_isName (nI key) (nI (c (kB k))) := Classical.byContradiction (fun y => absurd (h.mpr y) (Int32.not_lt.mpr z))
        refine wp_sipush (v := 10000) dX8_nameThere_66 rfl ?_
        refine wp_iload_n 0 dX8_nameThere_69 rfl rfl ?_
        refine wp_iadd dX8_nameThere_70 ?_
        refine wp_bipush (v := 97) dX8_nameThere_71 rfl ?_
        refine wp_isub dX8_nameThere_73 ?_
        have ev : (10000 : Int32) + nI (c (kB k)) - 97 = nI (10000 + c (kB k) - 97) := by
          rw [n_lit 10000, nI_add, n_lit 97, nI_subI _ _ (by omega)]
        rw [ev]
        exact wn_iret dX8_nameThere_74 rfl ⟨rfl, fun _ => ⟨(ecd_1 let1.1).symm, (nI_leI (a := 0) (by omega) (by omega)).mpr (by omega)⟩, fun y => absurd ⟨q, nm⟩ y⟩
      · have nm : ¬ p_isName (nI key) (nI (c (kB k))) := h.mp (Int32.not_le.mp z)
        refine wp_iconst (v := -1) dX8_nameThere_62 rfl ?_
        refine wp_goto (tgt := 74) dX8_nameThere_63 (by decide) ?_
        exact wn_iret dX8_nameThere_74 rfl ⟨rfl, fun y => absurd y.2 nm, fun _ => rfl⟩
    refine wp_aload_n 0 dX8_nameThere_15 rfl rfl ?_
    refine wp_getI dX8_nameThere_16 fl_RX8_84 rfl (sh7_K hS) ?_
    rw [h6]
    have kl : kc key ≤ 2 := by
      unfold kc
      split <;> omega
    refine wp_if_ne (tgt := 27) dX8_nameThere_19 (by decide) (fun z => ?_) (fun z => ?_)
    · have n5 : ¬ key ≤ 5 := fun y => z (by rw [show kc key = 0 from if_pos y]; rfl)
      refine wp_aload_n 0 dX8_nameThere_27 rfl rfl ?_
      refine wp_getI dX8_nameThere_28 fl_RX8_84 rfl (sh7_K hS) ?_
      rw [h6, show kc key = key - 5 from if_neg n5]
      refine wp_iconst (v := 1) dX8_nameThere_31 rfl ?_
      refine wp_icmp_ne (tgt := 40) dX8_nameThere_32 (by decide) (fun z2 => ?_) (fun z2 => ?_)
      · refine wp_ldcS dX8_nameThere_40 5 (by decide) rfl ?_
        refine go 5 ?_
        have n6 : ¬ key = 6 := fun y => z2 (by rw [y]; rfl)
        unfold kT
        rw [if_neg n5, if_neg n6]
      · have := (nI_inj (b := 1) (by omega) (by omega)).mp z2
        refine wp_ldcS dX8_nameThere_35 4 (by decide) rfl ?_
        refine wp_goto (tgt := 42) dX8_nameThere_37 (by decide) ?_
        refine go 4 ?_
        unfold kT
        rw [if_neg n5, if_pos (by omega)]
    · have z := (nI_inj (b := 0) (by omega) (by omega)).mp z
      have y5 : key ≤ 5 := Nat.le_of_not_lt (fun y => by
        have : kc key = key - 5 := if_neg (by omega)
        omega)
      refine wp_ldcS dX8_nameThere_22 3 (by decide) rfl ?_
      refine wp_goto (tgt := 42) dX8_nameThere_24 (by decide) ?_
      exact go 3 (if_pos y5).symm
  · refine wp_iconst (v := -1) dX8_nameThere_13 rfl ?_
    exact wn_iret dX8_nameThere_14 rfl ⟨rfl, fun y => absurd (congrArg nI y.1) q, fun _ => rfl⟩
