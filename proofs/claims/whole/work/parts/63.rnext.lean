/-! the reference's reading of a text: the next word or sign, a step of the code -/
theorem bX11_isLetter_0 {G : Gl} {d : Nat} {X : Sh} {M : Mm} {Q : Mm → Int32 → Prop} {a : Nat} {x1 : Int32} (hS : Sh10 X a) (h : (((mI M a 19) ≤ x1 → Q M 0) ∧ (¬ ((mI M a 19) ≤ x1) → (∃ j2 : Nat, x1 = nI j2 ∧ j2 < 96 ∧ Q M (if 97 ≤ (mI M (a + 17) j2) ∧ (mI M (a + 17) j2) ≤ 122 then 1 else 0))))) : Wn G m_X11_isLetter (d + 1) 0 [(0, .ref a), (1, .int x1)] [] X M Q := by
  refine wp_iload_n 1 dX11_isLetter_0 rfl rfl ?_
  refine wp_aload_n 0 dX11_isLetter_1 rfl rfl ?_
  refine wp_getI dX11_isLetter_2 fl_RX11_219 rfl (sh10_K hS) ?_
  refine wp_icmp_ge (tgt := 31) dX11_isLetter_5 (by decide) (fun c1 => ?_) (fun c1 => ?_)
  · replace h := h.1 c1
    refine wp_iconst (v := 0) dX11_isLetter_31 rfl ?_
    exact wn_zret dX11_isLetter_32 rfl (Or.inl rfl) h
  · replace h := h.2 c1
    refine wp_aload_n 0 dX11_isLetter_8 rfl rfl ?_
    refine wp_getR dX11_isLetter_9 fl_RX11_59 rfl (sh10_K hS) (sh10_F_tape hS) ?_
    refine wp_iload_n 1 dX11_isLetter_12 rfl rfl ?_
    obtain ⟨j2, o3, o4, h⟩ := h
    refine wp_iald (n := 96) dX11_isLetter_13 (sh10_K_tape hS) (sh10_N_tape hS) (by decide) o3 o4 ?_
    refine wp_i2l dX11_isLetter_14 ?_
    refine wp_ldc2 dX11_isLetter_15 kc_RX11_222 ?_
    refine wp_ldc2 dX11_isLetter_18 kc_RX11_224 ?_
    refine wp_csip dX11_isLetter_21 ck_RX11_78 rfl (as := [.long ((mI M (a + 17) j2).toInt64), .long 97, .long 122]) rfl rfl (Nat.le_of_ble_eq_true rfl) (cp_X11_isIn G d X M (mI M (a + 17) j2) 97 122 (by decide) (by decide)) ?_
    have K6 : Wp G m_X11_isLetter (d + 1) 0 0 0 0 32 [(0, .ref a), (1, .int x1)] [.int (if 97 ≤ (mI M (a + 17) j2) ∧ (mI M (a + 17) j2) ≤ 122 then 1 else 0)] X M (fun X2 M2 v => X2 = X ∧ ∃ x, v = some (.int x) ∧ Q M2 x) := by
      exact wn_zret dX11_isLetter_32 rfl (ite_01 _) h
    refine wp_ifB_eq (inferInstance) (tgt := 31) dX11_isLetter_24 (by decide) (fun c5 => ?_) (fun c5 => ?_)
    · refine wp_iconst (v := 0) dX11_isLetter_31 rfl ?_
      rw [if_neg c5] at K6
      exact K6
    · refine wp_iconst (v := 1) dX11_isLetter_27 rfl ?_
      refine wp_goto (tgt := 32) dX11_isLetter_28 (by decide) ?_
      rw [if_pos c5] at K6
      exact K6
theorem bX11_isDigit_0 {G : Gl} {d : Nat} {X : Sh} {M : Mm} {Q : Mm → Int32 → Prop} {a : Nat} {x1 : Int32} (hS : Sh10 X a) (h : (((mI M a 19) ≤ x1 → Q M 0) ∧ (¬ ((mI M a 19) ≤ x1) → (∃ j2 : Nat, x1 = nI j2 ∧ j2 < 96 ∧ Q M (if 48 ≤ (mI M (a + 17) j2) ∧ (mI M (a + 17) j2) ≤ 57 then 1 else 0))))) : Wn G m_X11_isDigit (d + 1) 0 [(0, .ref a), (1, .int x1)] [] X M Q := by
  refine wp_iload_n 1 dX11_isDigit_0 rfl rfl ?_
  refine wp_aload_n 0 dX11_isDigit_1 rfl rfl ?_
  refine wp_getI dX11_isDigit_2 fl_RX11_219 rfl (sh10_K hS) ?_
  refine wp_icmp_ge (tgt := 31) dX11_isDigit_5 (by decide) (fun c1 => ?_) (fun c1 => ?_)
  · replace h := h.1 c1
    refine wp_iconst (v := 0) dX11_isDigit_31 rfl ?_
    exact wn_zret dX11_isDigit_32 rfl (Or.inl rfl) h
  · replace h := h.2 c1
    refine wp_aload_n 0 dX11_isDigit_8 rfl rfl ?_
    refine wp_getR dX11_isDigit_9 fl_RX11_59 rfl (sh10_K hS) (sh10_F_tape hS) ?_
    refine wp_iload_n 1 dX11_isDigit_12 rfl rfl ?_
    obtain ⟨j2, o3, o4, h⟩ := h
    refine wp_iald (n := 96) dX11_isDigit_13 (sh10_K_tape hS) (sh10_N_tape hS) (by decide) o3 o4 ?_
    refine wp_i2l dX11_isDigit_14 ?_
    refine wp_ldc2 dX11_isDigit_15 kc_RX11_226 ?_
    refine wp_ldc2 dX11_isDigit_18 kc_RX11_228 ?_
    refine wp_csip dX11_isDigit_21 ck_RX11_78 rfl (as := [.long ((mI M (a + 17) j2).toInt64), .long 48, .long 57]) rfl rfl (Nat.le_of_ble_eq_true rfl) (cp_X11_isIn G d X M (mI M (a + 17) j2) 48 57 (by decide) (by decide)) ?_
    have K6 : Wp G m_X11_isDigit (d + 1) 0 0 0 0 32 [(0, .ref a), (1, .int x1)] [.int (if 48 ≤ (mI M (a + 17) j2) ∧ (mI M (a + 17) j2) ≤ 57 then 1 else 0)] X M (fun X2 M2 v => X2 = X ∧ ∃ x, v = some (.int x) ∧ Q M2 x) := by
      exact wn_zret dX11_isDigit_32 rfl (ite_01 _) h
    refine wp_ifB_eq (inferInstance) (tgt := 31) dX11_isDigit_24 (by decide) (fun c5 => ?_) (fun c5 => ?_)
    · refine wp_iconst (v := 0) dX11_isDigit_31 rfl ?_
      rw [if_neg c5] at K6
      exact K6
    · refine wp_iconst (v := 1) dX11_isDigit_27 rfl ?_
      refine wp_goto (tgt := 32) dX11_isDigit_28 (by decide) ?_
      rw [if_pos c5] at K6
      exact K6
theorem bX11_step_0 {G : Gl} {d : Nat} {X : Sh} {M : Mm} {Q : Mm → Prop} {a : Nat} {x1 : Int32} {x2 : Int32} (hS : Sh10 X a) (h : (∃ j1 : Nat, ((mI M a 28) + (2 * (mI M a 27))) = nI j1 ∧ j1 < 2950 ∧ (∀ M4 : Mm, M4 = sI M (a + 1) j1 x1 → (∃ j5 : Nat, (((mI M4 a 28) + (2 * (mI M4 a 27))) + 1) = nI j5 ∧ j5 < 2950 ∧ (∀ M8 : Mm, M8 = sI M4 (a + 1) j5 x2 → (∀ M9 : Mm, M9 = sI M8 a 27 ((mI M8 a 27) + 1) → Q M9)))))) : Wv G m_X11_step d 0 [(0, .ref a), (1, .int x1), (2, .int x2)] [] X M Q := by
  refine wp_aload_n 0 dX11_step_0 rfl rfl ?_
  refine wp_getR dX11_step_1 fl_RX11_7 rfl (sh10_K hS) (sh10_F_s hS) ?_
  refine wp_aload_n 0 dX11_step_4 rfl rfl ?_
  refine wp_getI dX11_step_5 fl_RX11_258 rfl (sh10_K hS) ?_
  refine wp_iconst (v := 2) dX11_step_8 rfl ?_
  refine wp_aload_n 0 dX11_step_9 rfl rfl ?_
  refine wp_getI dX11_step_10 fl_RX11_261 rfl (sh10_K hS) ?_
  refine wp_imul dX11_step_13 ?_
  refine wp_iadd dX11_step_14 ?_
  refine wp_iload_n 1 dX11_step_15 rfl rfl ?_
  obtain ⟨j1, o2, o3, h⟩ := h
  refine wp_iast (n := 2950) dX11_step_16 (sh10_K_s hS) (sh10_N_s hS) (by decide) o2 o3 ?_
  refine wp_nm (fun M4 eM4 => ?_)
  replace h := h M4 eM4
  refine wp_aload_n 0 dX11_step_17 rfl rfl ?_
  refine wp_getR dX11_step_18 fl_RX11_7 rfl (sh10_K hS) (sh10_F_s hS) ?_
  refine wp_aload_n 0 dX11_step_21 rfl rfl ?_
  refine wp_getI dX11_step_22 fl_RX11_258 rfl (sh10_K hS) ?_
  refine wp_iconst (v := 2) dX11_step_25 rfl ?_
  refine wp_aload_n 0 dX11_step_26 rfl rfl ?_
  refine wp_getI dX11_step_27 fl_RX11_261 rfl (sh10_K hS) ?_
  refine wp_imul dX11_step_30 ?_
  refine wp_iadd dX11_step_31 ?_
  refine wp_iconst (v := 1) dX11_step_32 rfl ?_
  refine wp_iadd dX11_step_33 ?_
  refine wp_iload_n 2 dX11_step_34 rfl rfl ?_
  obtain ⟨j5, o6, o7, h⟩ := h
  refine wp_iast (n := 2950) dX11_step_35 (sh10_K_s hS) (sh10_N_s hS) (by decide) o6 o7 ?_
  refine wp_nm (fun M8 eM8 => ?_)
  replace h := h M8 eM8
  refine wp_aload_n 0 dX11_step_36 rfl rfl ?_
  refine wp_dup dX11_step_37 rfl ?_
  refine wp_getI dX11_step_38 fl_RX11_261 rfl (sh10_K hS) ?_
  refine wp_iconst (v := 1) dX11_step_41 rfl ?_
  refine wp_iadd dX11_step_42 ?_
  refine wp_putI dX11_step_43 fp_RX11_261 rfl (sh10_K hS) ?_
  refine wp_nm (fun M9 eM9 => ?_)
  replace h := h M9 eM9
  exact wv_ret dX11_step_46 rfl h
theorem bX11_next_0 {G : Gl} {d : Nat} {X : Sh} {M : Mm} {Q : Mm → Prop} {a : Nat} (hS : Sh10 X a) (h : (∀ v5 : Int32, v5 = (if ((¬ ((mI M a 21) ≤ 0)) ∧ ((((mI M a 22) = 1) ∨ ((mI M a 22) = 2)))) then 1 else 0) → (∀ v6 : Int32, v6 = (mI M a 21) → Wv G m_X11_next (d + 1) 34 [(0, .ref a), (1, .int v5), (2, .int v6)] [] X M Q))) : Wv G m_X11_next (d + 1) 0 [(0, .ref a)] [] X M Q := by
  refine wp_aload_n 0 dX11_next_0 rfl rfl ?_
  refine wp_getI dX11_next_1 fl_RX11_230 rfl (sh10_K hS) ?_
  have K4 : Wp G m_X11_next (d + 1) 0 0 0 0 28 [(0, .ref a)] [.int (if ((¬ ((mI M a 21) ≤ 0)) ∧ ((((mI M a 22) = 1) ∨ ((mI M a 22) = 2)))) then 1 else 0)] X M (fun X2 M2 v => X2 = X ∧ v = none ∧ Q M2) := by
    refine wp_topi (fun v5 ev5 => ?_)
    replace h := h v5 ev5
    refine wp_istore_n (lo2 := [(1, .int _), (0, .ref _)]) dX11_next_28 rfl (by decide) rfl ?_
    refine wp_aload_n 1 dX11_next_29 rfl rfl ?_
    refine wp_getI dX11_next_30 fl_RX11_230 rfl (sh10_K hS) ?_
    refine wp_topi (fun v6 ev6 => ?_)
    replace h := h v6 ev6
    refine wp_istore_n (lo2 := [(2, .int _), (1, .int _), (0, .ref _)]) dX11_next_33 rfl (by decide) rfl ?_
    exact Wp.sub [2, 1, 0] rfl h
  refine wp_if_le (tgt := 27) dX11_next_4 (by decide) (fun c1 => ?_) (fun c1 => ?_)
  · refine wp_iconst (v := 0) dX11_next_27 rfl ?_
    rw [if_neg (fun q => (fun q => q c1) q.1)] at K4
    exact K4
  · refine wp_aload_n 0 dX11_next_7 rfl rfl ?_
    refine wp_getI dX11_next_8 fl_RX11_233 rfl (sh10_K hS) ?_
    refine wp_iconst (v := 1) dX11_next_11 rfl ?_
    refine wp_icmp_eq (tgt := 23) dX11_next_12 (by decide) (fun c3 => ?_) (fun c3 => ?_)
    · refine wp_iconst (v := 1) dX11_next_23 rfl ?_
      refine wp_goto (tgt := 28) dX11_next_24 (by decide) ?_
      rw [if_pos ⟨c1, (Or.inl c3)⟩] at K4
      exact K4
    · refine wp_aload_n 0 dX11_next_15 rfl rfl ?_
      refine wp_getI dX11_next_16 fl_RX11_233 rfl (sh10_K hS) ?_
      refine wp_iconst (v := 2) dX11_next_19 rfl ?_
      refine wp_icmp_ne (tgt := 27) dX11_next_20 (by decide) (fun c2 => ?_) (fun c2 => ?_)
      · refine wp_iconst (v := 0) dX11_next_27 rfl ?_
        rw [if_neg (fun q => (fun q => q.elim c3 c2) q.2)] at K4
        exact K4
      · refine wp_iconst (v := 1) dX11_next_23 rfl ?_
        refine wp_goto (tgt := 28) dX11_next_24 (by decide) ?_
        rw [if_pos ⟨c1, (Or.inr c2)⟩] at K4
        exact K4
theorem bX11_next_34 {G : Gl} {d : Nat} {X : Sh} {M : Mm} {Q : Mm → Prop} {a : Nat} {x1 : Int32} {x2 : Int32} (hS : Sh10 X a) (h : (((mI M a 19) ≤ (mI M a 21) → (∀ v5 : Int32, v5 = (if ((¬ (x1 = 0)) ∧ (x2 = (mI M a 21))) then 1 else 0) → (∀ M6 : Mm, M6 = sI M a 20 (mI M a 21) → ((¬ ((mI M6 a 20) = (mI M6 a 19)) → (∃ q8 : Mm → Int32 → Prop, Cn G m_X11_isLetter d [.ref a, .int ((mI M6 a 20))] X M6 q8 ∧ ∀ M10 r11, q8 M10 r11 → ((r11 = 0 → (∃ q14 : Mm → Int32 → Prop, Cn G m_X11_isDigit d [.ref a, .int ((mI M10 a 20))] X M10 q14 ∧ ∀ M16 r17, q14 M16 r17 → ((r17 = 0 → (∀ M20 : Mm, M20 = sI M16 a 22 3 → (∃ j21 : Nat, (mI M20 a 20) = nI j21 ∧ j21 < 96 ∧ (∀ M24 : Mm, M24 = sI M20 a 24 (mI M20 (a + 17) j21) → (∀ M25 : Mm, M25 = sI M24 a 21 ((mI M24 a 21) + 1) → Q M25))))) ∧ (¬ (r17 = 0) → (∀ M26 : Mm, M26 = sI M16 a 23 0 → Wv G m_X11_next (d + 1) 214 [(0, .ref a), (1, .int v5)] [] X M26 Q))))) ∧ (¬ (r11 = 0) → Wv G m_X11_next (d + 1) 128 [(0, .ref a), (1, .int v5)] [] X M10 Q)))) ∧ ((mI M6 a 20) = (mI M6 a 19) → (∀ M27 : Mm, M27 = sI M6 a 22 0 → Q M27)))))) ∧ (¬ ((mI M a 19) ≤ (mI M a 21)) → (∃ j28 : Nat, (mI M a 21) = nI j28 ∧ j28 < 96 ∧ ((¬ ((mI M (a + 17) j28) = 32) → (∀ v35 : Int32, v35 = (if ((¬ (x1 = 0)) ∧ (x2 = (mI M a 21))) then 1 else 0) → (∀ M36 : Mm, M36 = sI M a 20 (mI M a 21) → ((¬ ((mI M36 a 20) = (mI M36 a 19)) → (∃ q38 : Mm → Int32 → Prop, Cn G m_X11_isLetter d [.ref a, .int ((mI M36 a 20))] X M36 q38 ∧ ∀ M40 r41, q38 M40 r41 → ((r41 = 0 → (∃ q44 : Mm → Int32 → Prop, Cn G m_X11_isDigit d [.ref a, .int ((mI M40 a 20))] X M40 q44 ∧ ∀ M46 r47, q44 M46 r47 → ((r47 = 0 → (∀ M50 : Mm, M50 = sI M46 a 22 3 → (∃ j51 : Nat, (mI M50 a 20) = nI j51 ∧ j51 < 96 ∧ (∀ M54 : Mm, M54 = sI M50 a 24 (mI M50 (a + 17) j51) → (∀ M55 : Mm, M55 = sI M54 a 21 ((mI M54 a 21) + 1) → Q M55))))) ∧ (¬ (r47 = 0) → (∀ M56 : Mm, M56 = sI M46 a 23 0 → Wv G m_X11_next (d + 1) 214 [(0, .ref a), (1, .int v35)] [] X M56 Q))))) ∧ (¬ (r41 = 0) → Wv G m_X11_next (d + 1) 128 [(0, .ref a), (1, .int v35)] [] X M40 Q)))) ∧ ((mI M36 a 20) = (mI M36 a 19) → (∀ M57 : Mm, M57 = sI M36 a 22 0 → Q M57)))))) ∧ ((mI M (a + 17) j28) = 32 → (∀ M58 : Mm, M58 = sI M a 21 ((mI M a 21) + 1) → Wv G m_X11_next (d + 1) 34 [(0, .ref a), (1, .int x1), (2, .int x2)] [] X M58 Q))))))) : Wv G m_X11_next (d + 1) 34 [(0, .ref a), (1, .int x1), (2, .int x2)] [] X M Q := by
  refine wp_aload_n 0 dX11_next_34 rfl rfl ?_
  refine wp_getI dX11_next_35 fl_RX11_230 rfl (sh10_K hS) ?_
  refine wp_aload_n 0 dX11_next_38 rfl rfl ?_
  refine wp_getI dX11_next_39 fl_RX11_219 rfl (sh10_K hS) ?_
  refine wp_icmp_ge (tgt := 72) dX11_next_42 (by decide) (fun c1 => ?_) (fun c1 => ?_)
  · replace h := h.1 c1
    refine wp_iload_n 1 dX11_next_72 rfl rfl ?_
    have K4 : Wp G m_X11_next (d + 1) 0 0 0 0 89 [(0, .ref a), (1, .int x1), (2, .int x2)] [.int (if ((¬ (x1 = 0)) ∧ (x2 = (mI M a 21))) then 1 else 0)] X M (fun X2 M2 v => X2 = X ∧ v = none ∧ Q M2) := by
      refine wp_topi (fun v5 ev5 => ?_)
      replace h := h v5 ev5
      refine wp_istore_n (lo2 := [(1, .int _), (0, .ref _), (2, .int _)]) dX11_next_89 rfl (by decide) rfl ?_
      refine wp_aload_n 1 dX11_next_90 rfl rfl ?_
      refine wp_aload_n 1 dX11_next_91 rfl rfl ?_
      refine wp_getI dX11_next_92 fl_RX11_230 rfl (sh10_K hS) ?_
      refine wp_putI dX11_next_95 fp_RX11_236 rfl (sh10_K hS) ?_
      refine wp_nm (fun M6 eM6 => ?_)
      replace h := h M6 eM6
      refine wp_aload_n 1 dX11_next_98 rfl rfl ?_
      refine wp_getI dX11_next_99 fl_RX11_236 rfl (sh10_K hS) ?_
      refine wp_aload_n 1 dX11_next_102 rfl rfl ?_
      refine wp_getI dX11_next_103 fl_RX11_219 rfl (sh10_K hS) ?_
      refine wp_icmp_ne (tgt := 117) dX11_next_106 (by decide) (fun c7 => ?_) (fun c7 => ?_)
      · replace h := h.1 c7
        refine wp_aload_n 1 dX11_next_117 rfl rfl ?_
        refine wp_aload_n 1 dX11_next_118 rfl rfl ?_
        refine wp_getI dX11_next_119 fl_RX11_236 rfl (sh10_K hS) ?_
        obtain ⟨q8, o9, h⟩ := h
        refine wp_cvi dX11_next_122 ck_RX11_239 (sh10_K hS) (as := [.int ((mI M6 a 20))]) rfl rfl (Nat.le_of_ble_eq_true rfl) o9 (fun M10 r11 o12 => ?_)
        replace h := h M10 r11 o12
        refine wp_if_eq (tgt := 198) dX11_next_125 (by decide) (fun c13 => ?_) (fun c13 => ?_)
        · replace h := h.1 c13
          refine wp_aload_n 1 dX11_next_198 rfl rfl ?_
          refine wp_aload_n 1 dX11_next_199 rfl rfl ?_
          refine wp_getI dX11_next_200 fl_RX11_236 rfl (sh10_K hS) ?_
          obtain ⟨q14, o15, h⟩ := h
          refine wp_cvi dX11_next_203 ck_RX11_245 (sh10_K hS) (as := [.int ((mI M10 a 20))]) rfl rfl (Nat.le_of_ble_eq_true rfl) o15 (fun M16 r17 o18 => ?_)
          replace h := h M16 r17 o18
          refine wp_if_eq (tgt := 311) dX11_next_206 (by decide) (fun c19 => ?_) (fun c19 => ?_)
          · replace h := h.1 c19
            refine wp_aload_n 1 dX11_next_311 rfl rfl ?_
            refine wp_iconst (v := 3) dX11_next_312 rfl ?_
            refine wp_putI dX11_next_313 fp_RX11_233 rfl (sh10_K hS) ?_
            refine wp_nm (fun M20 eM20 => ?_)
            replace h := h M20 eM20
            refine wp_aload_n 1 dX11_next_316 rfl rfl ?_
            refine wp_aload_n 1 dX11_next_317 rfl rfl ?_
            refine wp_getR dX11_next_318 fl_RX11_59 rfl (sh10_K hS) (sh10_F_tape hS) ?_
            refine wp_aload_n 1 dX11_next_321 rfl rfl ?_
            refine wp_getI dX11_next_322 fl_RX11_236 rfl (sh10_K hS) ?_
            obtain ⟨j21, o22, o23, h⟩ := h
            refine wp_iald (n := 96) dX11_next_325 (sh10_K_tape hS) (sh10_N_tape hS) (by decide) o22 o23 ?_
            refine wp_putI dX11_next_326 fp_RX11_242 rfl (sh10_K hS) ?_
            refine wp_nm (fun M24 eM24 => ?_)
            replace h := h M24 eM24
            refine wp_aload_n 1 dX11_next_329 rfl rfl ?_
            refine wp_dup dX11_next_330 rfl ?_
            refine wp_getI dX11_next_331 fl_RX11_230 rfl (sh10_K hS) ?_
            refine wp_iconst (v := 1) dX11_next_334 rfl ?_
            refine wp_iadd dX11_next_335 ?_
            refine wp_putI dX11_next_336 fp_RX11_230 rfl (sh10_K hS) ?_
            refine wp_nm (fun M25 eM25 => ?_)
            replace h := h M25 eM25
            exact wv_ret dX11_next_339 rfl h
          · replace h := h.2 c19
            refine wp_aload_n 1 dX11_next_209 rfl rfl ?_
            refine wp_iconst (v := 0) dX11_next_210 rfl ?_
            refine wp_putI dX11_next_211 fp_RX11_248 rfl (sh10_K hS) ?_
            refine wp_nm (fun M26 eM26 => ?_)
            replace h := h M26 eM26
            exact Wp.sub [1, 0] rfl h
        · replace h := h.2 c13
          exact Wp.sub [1, 0] rfl h
      · replace h := h.2 c7
        refine wp_aload_n 1 dX11_next_109 rfl rfl ?_
        refine wp_iconst (v := 0) dX11_next_110 rfl ?_
        refine wp_putI dX11_next_111 fp_RX11_233 rfl (sh10_K hS) ?_
        refine wp_nm (fun M27 eM27 => ?_)
        replace h := h M27 eM27
        refine wp_goto (tgt := 339) dX11_next_114 (by decide) ?_
        exact wv_ret dX11_next_339 rfl h
    refine wp_if_eq (tgt := 88) dX11_next_73 (by decide) (fun c2 => ?_) (fun c2 => ?_)
    · refine wp_iconst (v := 0) dX11_next_88 rfl ?_
      rw [if_neg (fun q => (fun q => q c2) q.1)] at K4
      exact K4
    · refine wp_iload_n 2 dX11_next_76 rfl rfl ?_
      refine wp_aload_n 0 dX11_next_77 rfl rfl ?_
      refine wp_getI dX11_next_78 fl_RX11_230 rfl (sh10_K hS) ?_
      refine wp_icmp_ne (tgt := 88) dX11_next_81 (by decide) (fun c3 => ?_) (fun c3 => ?_)
      · refine wp_iconst (v := 0) dX11_next_88 rfl ?_
        rw [if_neg (fun q => c3 q.2)] at K4
        exact K4
      · refine wp_iconst (v := 1) dX11_next_84 rfl ?_
        refine wp_goto (tgt := 89) dX11_next_85 (by decide) ?_
        rw [if_pos ⟨c2, c3⟩] at K4
        exact K4
  · replace h := h.2 c1
    refine wp_aload_n 0 dX11_next_45 rfl rfl ?_
    refine wp_getR dX11_next_46 fl_RX11_59 rfl (sh10_K hS) (sh10_F_tape hS) ?_
    refine wp_aload_n 0 dX11_next_49 rfl rfl ?_
    refine wp_getI dX11_next_50 fl_RX11_230 rfl (sh10_K hS) ?_
    obtain ⟨j28, o29, o30, h⟩ := h
    refine wp_iald (n := 96) dX11_next_53 (sh10_K_tape hS) (sh10_N_tape hS) (by decide) o29 o30 ?_
    refine wp_bipush (v := 32) dX11_next_54 rfl ?_
    refine wp_icmp_ne (tgt := 72) dX11_next_56 (by decide) (fun c31 => ?_) (fun c31 => ?_)
    · replace h := h.1 c31
      refine wp_iload_n 1 dX11_next_72 rfl rfl ?_
      have K34 : Wp G m_X11_next (d + 1) 0 0 0 0 89 [(0, .ref a), (1, .int x1), (2, .int x2)] [.int (if ((¬ (x1 = 0)) ∧ (x2 = (mI M a 21))) then 1 else 0)] X M (fun X2 M2 v => X2 = X ∧ v = none ∧ Q M2) := by
        refine wp_topi (fun v35 ev35 => ?_)
        replace h := h v35 ev35
        refine wp_istore_n (lo2 := [(1, .int _), (0, .ref _), (2, .int _)]) dX11_next_89 rfl (by decide) rfl ?_
        refine wp_aload_n 1 dX11_next_90 rfl rfl ?_
        refine wp_aload_n 1 dX11_next_91 rfl rfl ?_
        refine wp_getI dX11_next_92 fl_RX11_230 rfl (sh10_K hS) ?_
        refine wp_putI dX11_next_95 fp_RX11_236 rfl (sh10_K hS) ?_
        refine wp_nm (fun M36 eM36 => ?_)
        replace h := h M36 eM36
        refine wp_aload_n 1 dX11_next_98 rfl rfl ?_
        refine wp_getI dX11_next_99 fl_RX11_236 rfl (sh10_K hS) ?_
        refine wp_aload_n 1 dX11_next_102 rfl rfl ?_
        refine wp_getI dX11_next_103 fl_RX11_219 rfl (sh10_K hS) ?_
        refine wp_icmp_ne (tgt := 117) dX11_next_106 (by decide) (fun c37 => ?_) (fun c37 => ?_)
        · replace h := h.1 c37
          refine wp_aload_n 1 dX11_next_117 rfl rfl ?_
          refine wp_aload_n 1 dX11_next_118 rfl rfl ?_
          refine wp_getI dX11_next_119 fl_RX11_236 rfl (sh10_K hS) ?_
          obtain ⟨q38, o39, h⟩ := h
          refine wp_cvi dX11_next_122 ck_RX11_239 (sh10_K hS) (as := [.int ((mI M36 a 20))]) rfl rfl (Nat.le_of_ble_eq_true rfl) o39 (fun M40 r41 o42 => ?_)
          replace h := h M40 r41 o42
          refine wp_if_eq (tgt := 198) dX11_next_125 (by decide) (fun c43 => ?_) (fun c43 => ?_)
          · replace h := h.1 c43
            refine wp_aload_n 1 dX11_next_198 rfl rfl ?_
            refine wp_aload_n 1 dX11_next_199 rfl rfl ?_
            refine wp_getI dX11_next_200 fl_RX11_236 rfl (sh10_K hS) ?_
            obtain ⟨q44, o45, h⟩ := h
            refine wp_cvi dX11_next_203 ck_RX11_245 (sh10_K hS) (as := [.int ((mI M40 a 20))]) rfl rfl (Nat.le_of_ble_eq_true rfl) o45 (fun M46 r47 o48 => ?_)
            replace h := h M46 r47 o48
            refine wp_if_eq (tgt := 311) dX11_next_206 (by decide) (fun c49 => ?_) (fun c49 => ?_)
            · replace h := h.1 c49
              refine wp_aload_n 1 dX11_next_311 rfl rfl ?_
              refine wp_iconst (v := 3) dX11_next_312 rfl ?_
              refine wp_putI dX11_next_313 fp_RX11_233 rfl (sh10_K hS) ?_
              refine wp_nm (fun M50 eM50 => ?_)
              replace h := h M50 eM50
              refine wp_aload_n 1 dX11_next_316 rfl rfl ?_
              refine wp_aload_n 1 dX11_next_317 rfl rfl ?_
              refine wp_getR dX11_next_318 fl_RX11_59 rfl (sh10_K hS) (sh10_F_tape hS) ?_
              refine wp_aload_n 1 dX11_next_321 rfl rfl ?_
              refine wp_getI dX11_next_322 fl_RX11_236 rfl (sh10_K hS) ?_
              obtain ⟨j51, o52, o53, h⟩ := h
              refine wp_iald (n := 96) dX11_next_325 (sh10_K_tape hS) (sh10_N_tape hS) (by decide) o52 o53 ?_
              refine wp_putI dX11_next_326 fp_RX11_242 rfl (sh10_K hS) ?_
              refine wp_nm (fun M54 eM54 => ?_)
              replace h := h M54 eM54
              refine wp_aload_n 1 dX11_next_329 rfl rfl ?_
              refine wp_dup dX11_next_330 rfl ?_
              refine wp_getI dX11_next_331 fl_RX11_230 rfl (sh10_K hS) ?_
              refine wp_iconst (v := 1) dX11_next_334 rfl ?_
              refine wp_iadd dX11_next_335 ?_
              refine wp_putI dX11_next_336 fp_RX11_230 rfl (sh10_K hS) ?_
              refine wp_nm (fun M55 eM55 => ?_)
              replace h := h M55 eM55
              exact wv_ret dX11_next_339 rfl h
            · replace h := h.2 c49
              refine wp_aload_n 1 dX11_next_209 rfl rfl ?_
              refine wp_iconst (v := 0) dX11_next_210 rfl ?_
              refine wp_putI dX11_next_211 fp_RX11_248 rfl (sh10_K hS) ?_
              refine wp_nm (fun M56 eM56 => ?_)
              replace h := h M56 eM56
              exact Wp.sub [1, 0] rfl h
          · replace h := h.2 c43
            exact Wp.sub [1, 0] rfl h
        · replace h := h.2 c37
          refine wp_aload_n 1 dX11_next_109 rfl rfl ?_
          refine wp_iconst (v := 0) dX11_next_110 rfl ?_
          refine wp_putI dX11_next_111 fp_RX11_233 rfl (sh10_K hS) ?_
          refine wp_nm (fun M57 eM57 => ?_)
          replace h := h M57 eM57
          refine wp_goto (tgt := 339) dX11_next_114 (by decide) ?_
          exact wv_ret dX11_next_339 rfl h
      refine wp_if_eq (tgt := 88) dX11_next_73 (by decide) (fun c32 => ?_) (fun c32 => ?_)
      · refine wp_iconst (v := 0) dX11_next_88 rfl ?_
        rw [if_neg (fun q => (fun q => q c32) q.1)] at K34
        exact K34
      · refine wp_iload_n 2 dX11_next_76 rfl rfl ?_
        refine wp_aload_n 0 dX11_next_77 rfl rfl ?_
        refine wp_getI dX11_next_78 fl_RX11_230 rfl (sh10_K hS) ?_
        refine wp_icmp_ne (tgt := 88) dX11_next_81 (by decide) (fun c33 => ?_) (fun c33 => ?_)
        · refine wp_iconst (v := 0) dX11_next_88 rfl ?_
          rw [if_neg (fun q => c33 q.2)] at K34
          exact K34
        · refine wp_iconst (v := 1) dX11_next_84 rfl ?_
          refine wp_goto (tgt := 89) dX11_next_85 (by decide) ?_
          rw [if_pos ⟨c32, c33⟩] at K34
          exact K34
    · replace h := h.2 c31
      refine wp_aload_n 0 dX11_next_59 rfl rfl ?_
      refine wp_dup dX11_next_60 rfl ?_
      refine wp_getI dX11_next_61 fl_RX11_230 rfl (sh10_K hS) ?_
      refine wp_iconst (v := 1) dX11_next_64 rfl ?_
      refine wp_iadd dX11_next_65 ?_
      refine wp_putI dX11_next_66 fp_RX11_230 rfl (sh10_K hS) ?_
      refine wp_nm (fun M58 eM58 => ?_)
      replace h := h M58 eM58
      refine wp_goto (tgt := 34) dX11_next_69 (by decide) ?_
      exact Wp.sub [0, 1, 2] rfl h
theorem bX11_next_214 {G : Gl} {d : Nat} {X : Sh} {M : Mm} {Q : Mm → Prop} {a : Nat} {x1 : Int32} (hS : Sh10 X a) (h : (∃ q1 : Mm → Int32 → Prop, Cn G m_X11_isDigit d [.ref a, .int ((mI M a 21))] X M q1 ∧ ∀ M3 r4, q1 M3 r4 → ((r4 = 0 → ((¬ (x1 = 0) → (∀ M8 : Mm, M8 = sI M3 a 22 4 → Q M8)) ∧ (x1 = 0 → (∀ M11 : Mm, M11 = sI M3 a 22 (if ((mI M3 a 21) - (mI M3 a 20)) ≤ 4 then 2 else 4) → Q M11)))) ∧ (¬ (r4 = 0) → ((4 ≤ ((mI M3 a 21) - (mI M3 a 20)) → (∀ M13 : Mm, M13 = sI M3 a 23 (mI M3 a 23) → (∀ M14 : Mm, M14 = sI M13 a 21 ((mI M13 a 21) + 1) → Wv G m_X11_next (d + 1) 214 [(0, .ref a), (1, .int x1)] [] X M14 Q))) ∧ (¬ (4 ≤ ((mI M3 a 21) - (mI M3 a 20))) → (∃ j15 : Nat, (mI M3 a 21) = nI j15 ∧ j15 < 96 ∧ (∀ M18 : Mm, M18 = sI M3 a 23 (((10 * (mI M3 a 23)) + (mI M3 (a + 17) j15)) - 48) → (∀ M19 : Mm, M19 = sI M18 a 21 ((mI M18 a 21) + 1) → Wv G m_X11_next (d + 1) 214 [(0, .ref a), (1, .int x1)] [] X M19 Q))))))))) : Wv G m_X11_next (d + 1) 214 [(0, .ref a), (1, .int x1)] [] X M Q := by
  refine wp_aload_n 0 dX11_next_214 rfl rfl ?_
  refine wp_aload_n 0 dX11_next_215 rfl rfl ?_
  refine wp_getI dX11_next_216 fl_RX11_230 rfl (sh10_K hS) ?_
  obtain ⟨q1, o2, h⟩ := h
  refine wp_cvi dX11_next_219 ck_RX11_245 (sh10_K hS) (as := [.int ((mI M a 21))]) rfl rfl (Nat.le_of_ble_eq_true rfl) o2 (fun M3 r4 o5 => ?_)
  replace h := h M3 r4 o5
  refine wp_if_eq (tgt := 282) dX11_next_222 (by decide) (fun c6 => ?_) (fun c6 => ?_)
  · replace h := h.1 c6
    refine wp_aload_n 0 dX11_next_282 rfl rfl ?_
    refine wp_iload_n 1 dX11_next_283 rfl rfl ?_
    refine wp_if_ne (tgt := 300) dX11_next_284 (by decide) (fun c7 => ?_) (fun c7 => ?_)
    · replace h := h.1 c7
      refine wp_iconst (v := 4) dX11_next_300 rfl ?_
      refine wp_goto (tgt := 305) dX11_next_301 (by decide) ?_
      refine wp_putI dX11_next_305 fp_RX11_233 rfl (sh10_K hS) ?_
      refine wp_nm (fun M8 eM8 => ?_)
      replace h := h M8 eM8
      refine wp_goto (tgt := 339) dX11_next_308 (by decide) ?_
      exact wv_ret dX11_next_339 rfl h
    · replace h := h.2 c7
      refine wp_aload_n 0 dX11_next_287 rfl rfl ?_
      refine wp_getI dX11_next_288 fl_RX11_230 rfl (sh10_K hS) ?_
      refine wp_aload_n 0 dX11_next_291 rfl rfl ?_
      refine wp_getI dX11_next_292 fl_RX11_236 rfl (sh10_K hS) ?_
      refine wp_isub dX11_next_295 ?_
      refine wp_iconst (v := 4) dX11_next_296 rfl ?_
      have K10 : Wp G m_X11_next (d + 1) 0 0 0 0 305 [(0, .ref a), (1, .int x1)] [.int ((if ((mI M3 a 21) - (mI M3 a 20)) ≤ 4 then 2 else 4)), .ref a] X M3 (fun X2 M2 v => X2 = X ∧ v = none ∧ Q M2) := by
        refine wp_putI dX11_next_305 fp_RX11_233 rfl (sh10_K hS) ?_
        refine wp_nm (fun M11 eM11 => ?_)
        replace h := h M11 eM11
        refine wp_goto (tgt := 339) dX11_next_308 (by decide) ?_
        exact wv_ret dX11_next_339 rfl h
      refine wp_icmp_le (tgt := 304) dX11_next_297 (by decide) (fun c9 => ?_) (fun c9 => ?_)
      · refine wp_iconst (v := 2) dX11_next_304 rfl ?_
        rw [if_pos c9] at K10
        exact K10
      · refine wp_iconst (v := 4) dX11_next_300 rfl ?_
        refine wp_goto (tgt := 305) dX11_next_301 (by decide) ?_
        rw [if_neg c9] at K10
        exact K10
  · replace h := h.2 c6
    refine wp_aload_n 0 dX11_next_225 rfl rfl ?_
    refine wp_aload_n 0 dX11_next_226 rfl rfl ?_
    refine wp_getI dX11_next_227 fl_RX11_230 rfl (sh10_K hS) ?_
    refine wp_aload_n 0 dX11_next_230 rfl rfl ?_
    refine wp_getI dX11_next_231 fl_RX11_236 rfl (sh10_K hS) ?_
    refine wp_isub dX11_next_234 ?_
    refine wp_iconst (v := 4) dX11_next_235 rfl ?_
    refine wp_icmp_ge (tgt := 262) dX11_next_236 (by decide) (fun c12 => ?_) (fun c12 => ?_)
    · replace h := h.1 c12
      refine wp_aload_n 0 dX11_next_262 rfl rfl ?_
      refine wp_getI dX11_next_263 fl_RX11_248 rfl (sh10_K hS) ?_
      refine wp_putI dX11_next_266 fp_RX11_248 rfl (sh10_K hS) ?_
      refine wp_nm (fun M13 eM13 => ?_)
      replace h := h M13 eM13
      refine wp_aload_n 0 dX11_next_269 rfl rfl ?_
      refine wp_dup dX11_next_270 rfl ?_
      refine wp_getI dX11_next_271 fl_RX11_230 rfl (sh10_K hS) ?_
      refine wp_iconst (v := 1) dX11_next_274 rfl ?_
      refine wp_iadd dX11_next_275 ?_
      refine wp_putI dX11_next_276 fp_RX11_230 rfl (sh10_K hS) ?_
      refine wp_nm (fun M14 eM14 => ?_)
      replace h := h M14 eM14
      refine wp_goto (tgt := 214) dX11_next_279 (by decide) ?_
      exact Wp.sub [0, 1] rfl h
    · replace h := h.2 c12
      refine wp_bipush (v := 10) dX11_next_239 rfl ?_
      refine wp_aload_n 0 dX11_next_241 rfl rfl ?_
      refine wp_getI dX11_next_242 fl_RX11_248 rfl (sh10_K hS) ?_
      refine wp_imul dX11_next_245 ?_
      refine wp_aload_n 0 dX11_next_246 rfl rfl ?_
      refine wp_getR dX11_next_247 fl_RX11_59 rfl (sh10_K hS) (sh10_F_tape hS) ?_
      refine wp_aload_n 0 dX11_next_250 rfl rfl ?_
      refine wp_getI dX11_next_251 fl_RX11_230 rfl (sh10_K hS) ?_
      obtain ⟨j15, o16, o17, h⟩ := h
      refine wp_iald (n := 96) dX11_next_254 (sh10_K_tape hS) (sh10_N_tape hS) (by decide) o16 o17 ?_
      refine wp_iadd dX11_next_255 ?_
      refine wp_bipush (v := 48) dX11_next_256 rfl ?_
      refine wp_isub dX11_next_258 ?_
      refine wp_goto (tgt := 266) dX11_next_259 (by decide) ?_
      refine wp_putI dX11_next_266 fp_RX11_248 rfl (sh10_K hS) ?_
      refine wp_nm (fun M18 eM18 => ?_)
      replace h := h M18 eM18
      refine wp_aload_n 0 dX11_next_269 rfl rfl ?_
      refine wp_dup dX11_next_270 rfl ?_
      refine wp_getI dX11_next_271 fl_RX11_230 rfl (sh10_K hS) ?_
      refine wp_iconst (v := 1) dX11_next_274 rfl ?_
      refine wp_iadd dX11_next_275 ?_
      refine wp_putI dX11_next_276 fp_RX11_230 rfl (sh10_K hS) ?_
      refine wp_nm (fun M19 eM19 => ?_)
      replace h := h M19 eM19
      refine wp_goto (tgt := 214) dX11_next_279 (by decide) ?_
      exact Wp.sub [0, 1] rfl h
theorem bX11_next_128 {G : Gl} {d : Nat} {X : Sh} {M : Mm} {Q : Mm → Prop} {a : Nat} {x1 : Int32} (hS : Sh10 X a) (h : (∃ q1 : Mm → Int32 → Prop, Cn G m_X11_isLetter d [.ref a, .int ((mI M a 21))] X M q1 ∧ ∀ M3 r4, q1 M3 r4 → ((r4 = 0 → (∀ M9 : Mm, M9 = sI M3 a 22 (if x1 = 0 then 1 else 4) → ((¬ (((mI M9 a 21) - (mI M9 a 20)) = 1) → (∀ M11 : Mm, M11 = sI M9 a 24 0 → Q M11)) ∧ (((mI M9 a 21) - (mI M9 a 20)) = 1 → (∃ j12 : Nat, (mI M9 a 20) = nI j12 ∧ j12 < 96 ∧ (∀ M15 : Mm, M15 = sI M9 a 24 (mI M9 (a + 17) j12) → Q M15)))))) ∧ (¬ (r4 = 0) → (∀ M16 : Mm, M16 = sI M3 a 21 ((mI M3 a 21) + 1) → Wv G m_X11_next (d + 1) 128 [(0, .ref a), (1, .int x1)] [] X M16 Q))))) : Wv G m_X11_next (d + 1) 128 [(0, .ref a), (1, .int x1)] [] X M Q := by
  refine wp_aload_n 0 dX11_next_128 rfl rfl ?_
  refine wp_aload_n 0 dX11_next_129 rfl rfl ?_
  refine wp_getI dX11_next_130 fl_RX11_230 rfl (sh10_K hS) ?_
  obtain ⟨q1, o2, h⟩ := h
  refine wp_cvi dX11_next_133 ck_RX11_239 (sh10_K hS) (as := [.int ((mI M a 21))]) rfl rfl (Nat.le_of_ble_eq_true rfl) o2 (fun M3 r4 o5 => ?_)
  replace h := h M3 r4 o5
  refine wp_if_eq (tgt := 152) dX11_next_136 (by decide) (fun c6 => ?_) (fun c6 => ?_)
  · replace h := h.1 c6
    refine wp_aload_n 0 dX11_next_152 rfl rfl ?_
    refine wp_iload_n 1 dX11_next_153 rfl rfl ?_
    have K8 : Wp G m_X11_next (d + 1) 0 0 0 0 162 [(0, .ref a), (1, .int x1)] [.int ((if x1 = 0 then 1 else 4)), .ref a] X M3 (fun X2 M2 v => X2 = X ∧ v = none ∧ Q M2) := by
      refine wp_putI dX11_next_162 fp_RX11_233 rfl (sh10_K hS) ?_
      refine wp_nm (fun M9 eM9 => ?_)
      replace h := h M9 eM9
      refine wp_aload_n 0 dX11_next_165 rfl rfl ?_
      refine wp_aload_n 0 dX11_next_166 rfl rfl ?_
      refine wp_getI dX11_next_167 fl_RX11_230 rfl (sh10_K hS) ?_
      refine wp_aload_n 0 dX11_next_170 rfl rfl ?_
      refine wp_getI dX11_next_171 fl_RX11_236 rfl (sh10_K hS) ?_
      refine wp_isub dX11_next_174 ?_
      refine wp_iconst (v := 1) dX11_next_175 rfl ?_
      refine wp_icmp_ne (tgt := 191) dX11_next_176 (by decide) (fun c10 => ?_) (fun c10 => ?_)
      · replace h := h.1 c10
        refine wp_iconst (v := 0) dX11_next_191 rfl ?_
        refine wp_putI dX11_next_192 fp_RX11_242 rfl (sh10_K hS) ?_
        refine wp_nm (fun M11 eM11 => ?_)
        replace h := h M11 eM11
        refine wp_goto (tgt := 339) dX11_next_195 (by decide) ?_
        exact wv_ret dX11_next_339 rfl h
      · replace h := h.2 c10
        refine wp_aload_n 0 dX11_next_179 rfl rfl ?_
        refine wp_getR dX11_next_180 fl_RX11_59 rfl (sh10_K hS) (sh10_F_tape hS) ?_
        refine wp_aload_n 0 dX11_next_183 rfl rfl ?_
        refine wp_getI dX11_next_184 fl_RX11_236 rfl (sh10_K hS) ?_
        obtain ⟨j12, o13, o14, h⟩ := h
        refine wp_iald (n := 96) dX11_next_187 (sh10_K_tape hS) (sh10_N_tape hS) (by decide) o13 o14 ?_
        refine wp_goto (tgt := 192) dX11_next_188 (by decide) ?_
        refine wp_putI dX11_next_192 fp_RX11_242 rfl (sh10_K hS) ?_
        refine wp_nm (fun M15 eM15 => ?_)
        replace h := h M15 eM15
        refine wp_goto (tgt := 339) dX11_next_195 (by decide) ?_
        exact wv_ret dX11_next_339 rfl h
    refine wp_if_eq (tgt := 161) dX11_next_154 (by decide) (fun c7 => ?_) (fun c7 => ?_)
    · refine wp_iconst (v := 1) dX11_next_161 rfl ?_
      rw [if_pos c7] at K8
      exact K8
    · refine wp_iconst (v := 4) dX11_next_157 rfl ?_
      refine wp_goto (tgt := 162) dX11_next_158 (by decide) ?_
      rw [if_neg c7] at K8
      exact K8
  · replace h := h.2 c6
    refine wp_aload_n 0 dX11_next_139 rfl rfl ?_
    refine wp_dup dX11_next_140 rfl ?_
    refine wp_getI dX11_next_141 fl_RX11_230 rfl (sh10_K hS) ?_
    refine wp_iconst (v := 1) dX11_next_144 rfl ?_
    refine wp_iadd dX11_next_145 ?_
    refine wp_putI dX11_next_146 fp_RX11_230 rfl (sh10_K hS) ?_
    refine wp_nm (fun M16 eM16 => ?_)
    replace h := h M16 eM16
    refine wp_goto (tgt := 128) dX11_next_149 (by decide) ?_
    exact Wp.sub [0, 1] rfl h
/-- the tape of the reference: n bytes, c -/
def BY (M : Mm) (m : Nat) (c : Nat → Nat) (n : Nat) : Prop := mI M m 19 = nI n ∧ n ≤ 96 ∧ ∀ i, i < n → mI M (m + 17) i = nI (c i) ∧ c i ≤ 255
theorem cp_X11_isLetter (G : Gl) (d : Nat) (hd : 1 ≤ d) (X : Sh) (M : Mm) (m p n : Nat) (c : Nat → Nat) (hM : Sh10 X m) (hB : BY M m c n) (hp : p ≤ 96) : Cn G m_X11_isLetter d [.ref m, .int (nI p)] X M (fun M2 r => M2 = M ∧ (r = 0 ↔ ¬ tsrt c n p = 1)) := by
  obtain ⟨d, rfl⟩ : ∃ d1, d = d1 + 1 := ⟨d - 1, by omega⟩
  obtain ⟨h19, hn, hc⟩ := hB
  refine Cn.of (by decide) (Nat.le_of_ble_eq_true rfl) (bX11_isLetter_0 hM ⟨fun q => ⟨rfl, fun _ z => ?_, fun _ => rfl⟩, fun q => ⟨p, rfl, ?_, rfl, ?_⟩⟩)
  · rw [h19] at q
    have q := (nI_leI (by omega) (by omega)).mp q
    rw [tsrt_0.mpr q] at z
    cases z
  · rw [h19] at q
    have : ¬ n ≤ p := fun z => q ((nI_leI (by omega) (by omega)).mpr z)
    omega
  · rw [h19] at q
    have lt : p < n := Nat.lt_of_not_le (fun z => q ((nI_leI (by omega) (by omega)).mpr z))
    obtain ⟨e, l⟩ := hc p lt
    rw [e, tsrt_1 lt]
    by_cases z : 97 ≤ c p ∧ c p ≤ 122
    · rw [if_pos ⟨(nI_leI (a := 97) (by omega) (by omega)).mpr z.1, (nI_leI (b := 122) (by omega) (by omega)).mpr z.2⟩]
      exact ⟨fun y => absurd y (by decide), fun y => absurd z y⟩
    · rw [if_neg (fun y => z ⟨(nI_leI (a := 97) (by omega) (by omega)).mp y.1, (nI_leI (b := 122) (by omega) (by omega)).mp y.2⟩)]
      exact ⟨fun _ => z, fun _ => rfl⟩
theorem cp_X11_isDigit (G : Gl) (d : Nat) (hd : 1 ≤ d) (X : Sh) (M : Mm) (m p n : Nat) (c : Nat → Nat) (hM : Sh10 X m) (hB : BY M m c n) (hp : p ≤ 96) : Cn G m_X11_isDigit d [.ref m, .int (nI p)] X M (fun M2 r => M2 = M ∧ (r = 0 ↔ ¬ tsrt c n p = 2)) := by
  obtain ⟨d, rfl⟩ : ∃ d1, d = d1 + 1 := ⟨d - 1, by omega⟩
  obtain ⟨h19, hn, hc⟩ := hB
  refine Cn.of (by decide) (Nat.le_of_ble_eq_true rfl) (bX11_isDigit_0 hM ⟨fun q => ⟨rfl, fun _ z => ?_, fun _ => rfl⟩, fun q => ⟨p, rfl, ?_, rfl, ?_⟩⟩)
  · rw [h19] at q
    have q := (nI_leI (by omega) (by omega)).mp q
    rw [tsrt_0.mpr q] at z
    cases z
  · rw [h19] at q
    have : ¬ n ≤ p := fun z => q ((nI_leI (by omega) (by omega)).mpr z)
    omega
  · rw [h19] at q
    have lt : p < n := Nat.lt_of_not_le (fun z => q ((nI_leI (by omega) (by omega)).mpr z))
    obtain ⟨e, l⟩ := hc p lt
    rw [e, tsrt_2 lt]
    by_cases z : 48 ≤ c p ∧ c p ≤ 57
    · rw [if_pos ⟨(nI_leI (a := 48) (by omega) (by omega)).mpr z.1, (nI_leI (b := 57) (by omega) (by omega)).mpr z.2⟩]
      exact ⟨fun y => absurd y (by decide), fun y => absurd z y⟩
    · rw [if_neg (fun y => z ⟨(nI_leI (a := 48) (by omega) (by omega)).mp y.1, (nI_leI (b := 57) (by omega) (by omega)).mp y.2⟩)]
      exact ⟨fun _ => z, fun _ => rfl⟩
/-- the reference's sort of a word or sign: 4 is none -/
def rtok (k : Tk) : Nat := if kS k = 0 then 0 else if kS k = 3 then 3 else if kS k = 1 then (if kZ k = 1 then 4 else 1) else if kZ k = 1 ∨ 4 < kE k - kB k then 4 else 2
/-- the reference looks at k -/
def RT (M : Mm) (m : Nat) (c : Nat → Nat) (k : Tk) : Prop := mI M m 20 = nI (kB k) ∧ mI M m 21 = nI (kE k) ∧ mI M m 22 = nI (rtok k) ∧ (rtok k = 2 → mI M m 23 = nI (tnum c (kB k) (kE k - kB k))) ∧ (kS k = 1 → mI M m 24 = nI (if kE k - kB k = 1 then c (kB k) else 0)) ∧ (kS k = 3 → mI M m 24 = nI (c (kB k)))
def NxF (m : Nat) (M M2 : Mm) : Prop := (∀ b, b ≠ m → mI M2 b = mI M b) ∧ (∀ j, j < 20 ∨ 24 < j → mI M2 m j = mI M m j) ∧ mR M2 = mR M
theorem NxF.set {m j : Nat} {v : Int32} {M M1 M2 : Mm} (h : NxF m M M1) (hj : 20 ≤ j ∧ j ≤ 24) (e : M2 = sI M1 m j v) : NxF m M M2 := by
  refine ⟨fun b hb => ?_, fun i hi => ?_, ?_⟩
  · rw [e, mI_sI, up2_off _ _ _ hb, h.1 b hb]
  · rw [e, mI_sI, up2_k _ _ _ (by omega), h.2.1 i hi]
  · rw [e]
    exact h.2.2
theorem NxF.by {m n : Nat} {c : Nat → Nat} {M M2 : Mm} (h : NxF m M M2) (hB : BY M m c n) : BY M2 m c n := by
  obtain ⟨h19, hn, hc⟩ := hB
  refine ⟨by rw [h.2.1 19 (by omega), h19], hn, fun i hi => ?_⟩
  rw [h.1 (m + 17) (by omega)]
  exact hc i hi
/-- digits: the number of the first four -/
theorem cl_next_214 (G : Gl) (d : Nat) (hd : 1 ≤ d) {X : Sh} {m n b z : Nat} {c : Nat → Nat} {Q : Mm → Prop} (hM : Sh10 X m) (M0 : Mm) (hB : BY M0 m c n) (hz : z ≤ 1) (hq : ∀ M2 (e : Nat), (∀ f, b + f = n → e = tend c n 2 f b) → mI M2 m 20 = nI b → mI M2 m 21 = nI e → mI M2 m 22 = nI (if z = 1 ∨ 4 < e - b then 4 else 2) → (e - b ≤ 4 → mI M2 m 23 = nI (tnum c b (e - b))) → NxF m M0 M2 → Q M2) :
    ∀ (f p : Nat) (M : Mm), p + f = n → b ≤ p → (∀ g, b + g = n → tend c n 2 g b = tend c n 2 f p) → (∀ i, b ≤ i → i < p → 48 ≤ c i ∧ c i ≤ 57) → mI M m 20 = nI b → mI M m 21 = nI p → mI M m 23 = nI (tnum c b (if p - b ≤ 4 then p - b else 4)) → NxF m M0 M → Wv G m_X11_next (d + 1) 214 [(0, .ref m), (1, .int (nI z))] [] X M Q := by
  intro f
  induction f with
  | zero =>
    intro p M h hbp hT hD h20 h21 h23 hF
    refine bX11_next_214 hM ?_
    rw [h21]
    refine ⟨_, cp_X11_isDigit G d hd X M m p n c hM (hF.by hB) (by have := hB.2.1; omega), ?_⟩
    rintro M3 r4 ⟨e, e4⟩
    have e := e.symm
    subst e
    have h0 : ¬ tsrt c n p = 2 := fun q => by
      rw [tsrt_0.mpr (by omega)] at q
      cases q
    have r0 := e4.mpr h0
    rw [r0, h21, h20, nI_subI p b hbp]
    have n96 := hB.2.1
    have stop : ∀ v M2, M2 = sI M m 22 v → v = nI (if z = 1 ∨ 4 < p - b then 4 else 2) → Q M2 := fun v M2 e2 ev => by
      refine hq M2 p (fun g hg => by rw [hT g hg]; rfl) ?_ ?_ ?_ (fun h4 => ?_) (hF.set (by omega) e2)
      · rw [e2, mI_sI, up2_k _ _ _ (by omega), h20]
      · rw [e2, mI_sI, up2_k _ _ _ (by omega), h21]
      · rw [e2, mI_sI, up2_same, ev]
      · rw [e2, mI_sI, up2_k _ _ _ (by omega), h23, if_pos h4]
    refine ⟨fun _ => ⟨fun hx => fun M8 e8 => ?_, fun hx => fun M11 e11 => ?_⟩, fun q => absurd rfl q⟩
    · have z1 : z = 1 := by
        match z, hz with
        | 0, _ => exact absurd rfl hx
        | 1, _ => rfl
      exact stop 4 M8 e8 (by rw [if_pos (Or.inl z1)]; rfl)
    · have z0 : z = 0 := (nI_inj (b := 0) (by omega) (by omega)).mp hx
      refine stop _ M11 e11 ?_
      by_cases y : p - b ≤ 4
      · have y1 : nI (p - b) ≤ (4 : Int32) := (nI_leI (b := 4) (by omega) (by omega)).mpr y
        rw [if_pos y1, if_neg (by omega)]
        rfl
      · have y1 : ¬ nI (p - b) ≤ (4 : Int32) := fun q => y ((nI_leI (b := 4) (by omega) (by omega)).mp q)
        rw [if_neg y1, if_pos (by omega)]
        rfl
  | succ f ih =>
    intro p M h hbp hT hD h20 h21 h23 hF
    have n96 := hB.2.1
    refine bX11_next_214 hM ?_
    rw [h21]
    refine ⟨_, cp_X11_isDigit G d hd X M m p n c hM (hF.by hB) (by omega), ?_⟩
    rintro M3 r4 ⟨e, e4⟩
    have e := e.symm
    subst e
    obtain ⟨eb, lb⟩ := hB.2.2 p (by omega)
    have ebM : mI M (m + 17) p = nI (c p) := by rw [hF.1 _ (by omega), eb]
    rw [h21, h20, nI_subI p b hbp]
    by_cases h2 : tsrt c n p = 2
    · have r0 : ¬ r4 = 0 := fun q => (e4.mp q) h2
      have dp := (tsrt_2 (by omega)).mp h2
      have et : tend c n 2 (f + 1) p = tend c n 2 f (p + 1) := by
        show (if tsrt c n p = 2 then tend c n 2 f (p + 1) else p) = _
        rw [if_pos h2]
      have hD2 : ∀ i, b ≤ i → i < p + 1 → 48 ≤ c i ∧ c i ≤ 57 := fun i i1 i2 => by
        by_cases e : i = p
        · rw [e]
          exact dp
        · exact hD i i1 (by omega)
      refine ⟨fun q => absurd q r0, fun _ => ⟨fun h4 => ?_, fun h4 => ⟨p, rfl, by omega, ?_⟩⟩⟩
      · have h4 := (nI_leI (a := 4) (by omega) (by omega)).mp h4
        intro M13 e13 M14 e14
        have F13 := hF.set (by omega) e13
        refine ih (p + 1) M14 (by omega) (by omega) (fun g hg => by rw [hT g hg, et]) hD2 ?_ ?_ ?_ (F13.set (by omega) e14)
        · rw [e14, mI_sI, up2_k _ _ _ (by omega), e13, mI_sI, up2_k _ _ _ (by omega), h20]
        · rw [e14, mI_sI, up2_same, e13, mI_sI, up2_k _ _ _ (by omega), h21, nI_1]
        · rw [e14, mI_sI, up2_k _ _ _ (by omega), e13, mI_sI, up2_same, h23, if_neg (show ¬ p + 1 - b ≤ 4 by omega)]
          by_cases y : p - b ≤ 4
          · rw [if_pos y, show p - b = 4 by omega]
          · rw [if_neg y]
      · have h4' : ¬ 4 ≤ p - b := fun q => h4 ((nI_leI (a := 4) (by omega) (by omega)).mpr q)
        intro M18 e18 M19 e19
        rw [h23, ebM, if_pos (show p - b ≤ 4 by omega)] at e18
        have lt := tnum_lt (c := c) (b := b) (j := p - b) (fun i i1 i2 => hD i i1 (by omega))
        have p3 : 10 ^ (p - b) ≤ 10 ^ 3 := Nat.pow_le_pow_right (by omega) (by omega)
        have ev : 10 * nI (tnum c b (p - b)) + nI (c p) - 48 = nI (tnum c b (p + 1 - b)) := by
          rw [n_lit 10, pk_mul, nI_add, n_lit 48, nI_subI _ _ (by omega), show p + 1 - b = p - b + 1 by omega]
          refine congrArg nI ?_
          show 10 * tnum c b (p - b) + c p - 48 = 10 * tnum c b (p - b) + (c (b + (p - b)) - 48)
          rw [show b + (p - b) = p by omega]
          omega
        rw [ev] at e18
        have F18 := hF.set (by omega) e18
        refine ih (p + 1) M19 (by omega) (by omega) (fun g hg => by rw [hT g hg, et]) hD2 ?_ ?_ ?_ (F18.set (by omega) e19)
        · rw [e19, mI_sI, up2_k _ _ _ (by omega), e18, mI_sI, up2_k _ _ _ (by omega), h20]
        · rw [e19, mI_sI, up2_same, e18, mI_sI, up2_k _ _ _ (by omega), h21, nI_1]
        · rw [e19, mI_sI, up2_k _ _ _ (by omega), e18, mI_sI, up2_same, if_pos (by omega)]
    · have r0 := e4.mpr h2
      have et : tend c n 2 (f + 1) p = p := by
        show (if tsrt c n p = 2 then tend c n 2 f (p + 1) else p) = _
        rw [if_neg h2]
      have stop : ∀ v M2, M2 = sI M m 22 v → v = nI (if z = 1 ∨ 4 < p - b then 4 else 2) → Q M2 := fun v M2 e2 ev => by
        refine hq M2 p (fun g hg => by rw [hT g hg, et]) ?_ ?_ ?_ (fun h4 => ?_) (hF.set (by omega) e2)
        · rw [e2, mI_sI, up2_k _ _ _ (by omega), h20]
        · rw [e2, mI_sI, up2_k _ _ _ (by omega), h21]
        · rw [e2, mI_sI, up2_same, ev]
        · rw [e2, mI_sI, up2_k _ _ _ (by omega), h23, if_pos h4]
      refine ⟨fun _ => ⟨fun hx => fun M8 e8 => ?_, fun hx => fun M11 e11 => ?_⟩, fun q => absurd r0 q⟩
      · have z1 : z = 1 := by
          match z, hz with
          | 0, _ => exact absurd rfl hx
          | 1, _ => rfl
        exact stop 4 M8 e8 (by rw [if_pos (Or.inl z1)]; rfl)
      · have z0 : z = 0 := (nI_inj (b := 0) (by omega) (by omega)).mp hx
        refine stop _ M11 e11 ?_
        by_cases y : p - b ≤ 4
        · have y1 : nI (p - b) ≤ (4 : Int32) := (nI_leI (b := 4) (by omega) (by omega)).mpr y
          rw [if_pos y1, if_neg (by omega)]
          rfl
        · have y1 : ¬ nI (p - b) ≤ (4 : Int32) := fun q => y ((nI_leI (b := 4) (by omega) (by omega)).mp q)
          rw [if_neg y1, if_pos (by omega)]
          rfl
/-- letters -/
theorem cl_next_128 (G : Gl) (d : Nat) (hd : 1 ≤ d) {X : Sh} {m n b z : Nat} {c : Nat → Nat} {Q : Mm → Prop} (hM : Sh10 X m) (M0 : Mm) (hB : BY M0 m c n) (hz : z ≤ 1) (hbn : b < n) (hq : ∀ M2 (e : Nat), (∀ f, b + f = n → e = tend c n 1 f b) → mI M2 m 20 = nI b → mI M2 m 21 = nI e → mI M2 m 22 = nI (if z = 1 then 4 else 1) → mI M2 m 24 = nI (if e - b = 1 then c b else 0) → NxF m M0 M2 → Q M2) :
    ∀ (f p : Nat) (M : Mm), p + f = n → b ≤ p → (∀ g, b + g = n → tend c n 1 g b = tend c n 1 f p) → mI M m 20 = nI b → mI M m 21 = nI p → NxF m M0 M → Wv G m_X11_next (d + 1) 128 [(0, .ref m), (1, .int (nI z))] [] X M Q := by
  intro f
  have n96 := hB.2.1
  obtain ⟨eb, lb⟩ := hB.2.2 b hbn
  have stop : ∀ (p : Nat) (M : Mm), p ≤ n → b ≤ p → (∀ g, b + g = n → tend c n 1 g b = p) → mI M m 20 = nI b → mI M m 21 = nI p → NxF m M0 M → (∀ M9 : Mm, M9 = sI M m 22 (if nI z = 0 then 1 else 4) → ((¬ (((mI M9 m 21) - (mI M9 m 20)) = 1) → (∀ M11 : Mm, M11 = sI M9 m 24 0 → Q M11)) ∧ (((mI M9 m 21) - (mI M9 m 20)) = 1 → (∃ j12 : Nat, (mI M9 m 20) = nI j12 ∧ j12 < 96 ∧ (∀ M15 : Mm, M15 = sI M9 m 24 (mI M9 (m + 17) j12) → Q M15))))) := fun p M hpn hbp hT h20 h21 hF M9 e9 => by
    have F9 := hF.set (by omega) e9
    have g20 : mI M9 m 20 = nI b := by rw [e9, mI_sI, up2_k _ _ _ (by omega), h20]
    have g21 : mI M9 m 21 = nI p := by rw [e9, mI_sI, up2_k _ _ _ (by omega), h21]
    have g22 : mI M9 m 22 = nI (if z = 1 then 4 else 1) := by
      rw [e9, mI_sI, up2_same]
      match z, hz with
      | 0, _ => rfl
      | 1, _ => rfl
    rw [g20, g21, nI_subI p b hbp]
    refine ⟨fun q => fun M11 e11 => ?_, fun q => ⟨b, rfl, by omega, fun M15 e15 => ?_⟩⟩
    · have q' : ¬ p - b = 1 := fun y => q (by rw [y]; rfl)
      refine hq M11 p (fun g hg => (hT g hg).symm) ?_ ?_ ?_ ?_ (F9.set (by omega) e11)
      · rw [e11, mI_sI, up2_k _ _ _ (by omega), g20]
      · rw [e11, mI_sI, up2_k _ _ _ (by omega), g21]
      · rw [e11, mI_sI, up2_k _ _ _ (by omega), g22]
      · rw [e11, mI_sI, up2_same, if_neg q']
        rfl
    · have q' : p - b = 1 := (nI_inj (b := 1) (by omega) (by omega)).mp q
      refine hq M15 p (fun g hg => (hT g hg).symm) ?_ ?_ ?_ ?_ (F9.set (by omega) e15)
      · rw [e15, mI_sI, up2_k _ _ _ (by omega), g20]
      · rw [e15, mI_sI, up2_k _ _ _ (by omega), g21]
      · rw [e15, mI_sI, up2_k _ _ _ (by omega), g22]
      · rw [e15, mI_sI, up2_same, if_pos q', F9.1 (m + 17) (by omega), eb]
  induction f with
  | zero =>
    intro p M h hbp hT h20 h21 hF
    refine bX11_next_128 hM ?_
    rw [h21]
    refine ⟨_, cp_X11_isLetter G d hd X M m p n c hM (hF.by hB) (by omega), ?_⟩
    rintro M3 r4 ⟨e, e4⟩
    have e := e.symm
    subst e
    have h0 : ¬ tsrt c n p = 1 := fun q => by
      rw [tsrt_0.mpr (by omega)] at q
      cases q
    exact ⟨fun _ => stop p M (by omega) hbp (fun g hg => by rw [hT g hg]; rfl) h20 h21 hF, fun q => absurd (e4.mpr h0) q⟩
  | succ f ih =>
    intro p M h hbp hT h20 h21 hF
    refine bX11_next_128 hM ?_
    rw [h21]
    refine ⟨_, cp_X11_isLetter G d hd X M m p n c hM (hF.by hB) (by omega), ?_⟩
    rintro M3 r4 ⟨e, e4⟩
    have e := e.symm
    subst e
    by_cases h1 : tsrt c n p = 1
    · refine ⟨fun q => absurd h1 (e4.mp q), fun _ => ?_⟩
      intro M16 e16
      rw [h21, nI_1] at e16
      refine ih (p + 1) M16 (by omega) (by omega) (fun g hg => ?_) ?_ ?_ (hF.set (by omega) e16)
      · rw [hT g hg]
        show (if tsrt c n p = 1 then tend c n 1 f (p + 1) else p) = _
        rw [if_pos h1]
      · rw [e16, mI_sI, up2_k _ _ _ (by omega), h20]
      · rw [e16, mI_sI, up2_same]
    · refine ⟨fun _ => stop p M (by omega) hbp (fun g hg => ?_) h20 h21 hF, fun q => absurd (e4.mpr h1) q⟩
      rw [hT g hg]
      show (if tsrt c n p = 1 then tend c n 1 f (p + 1) else p) = _
      rw [if_neg h1]
theorem next_cont (G : Gl) (d : Nat) (hd : 1 ≤ d) {X : Sh} {m n : Nat} {c : Nat → Nat} {k : Tk} {Q : Mm → Prop} (hM : Sh10 X m) (M0 : Mm) (hB : BY M0 m c n) (hk : kE k ≤ n) (hq : ∀ M2, RT M2 m c (tnext c n k) → NxF m M0 M2 → Q M2) (M : Mm) (h21 : mI M m 21 = nI (tbeg c n k)) (hF : NxF m M0 M) : (∀ v5 : Int32, v5 = (if ((¬ ((if kS k = 1 ∨ kS k = 2 then (1 : Int32) else 0) = 0)) ∧ ((nI (kE k)) = (mI M m 21))) then 1 else 0) → (∀ M6 : Mm, M6 = sI M m 20 (mI M m 21) → ((¬ ((mI M6 m 20) = (mI M6 m 19)) → (∃ q8 : Mm → Int32 → Prop, Cn G m_X11_isLetter d [.ref m, .int ((mI M6 m 20))] X M6 q8 ∧ ∀ M10 r11, q8 M10 r11 → ((r11 = 0 → (∃ q14 : Mm → Int32 → Prop, Cn G m_X11_isDigit d [.ref m, .int ((mI M10 m 20))] X M10 q14 ∧ ∀ M16 r17, q14 M16 r17 → ((r17 = 0 → (∀ M20 : Mm, M20 = sI M16 m 22 3 → (∃ j21 : Nat, (mI M20 m 20) = nI j21 ∧ j21 < 96 ∧ (∀ M24 : Mm, M24 = sI M20 m 24 (mI M20 (m + 17) j21) → (∀ M25 : Mm, M25 = sI M24 m 21 ((mI M24 m 21) + 1) → Q M25))))) ∧ (¬ (r17 = 0) → (∀ M26 : Mm, M26 = sI M16 m 23 0 → Wv G m_X11_next (d + 1) 214 [(0, .ref m), (1, .int v5)] [] X M26 Q))))) ∧ (¬ (r11 = 0) → Wv G m_X11_next (d + 1) 128 [(0, .ref m), (1, .int v5)] [] X M10 Q)))) ∧ ((mI M6 m 20) = (mI M6 m 19) → (∀ M27 : Mm, M27 = sI M6 m 22 0 → Q M27))))) := by
  have n96 := hB.2.1
  have bl : tbeg c n k ≤ n := (TV.next hk).1.2.1
  have b0 : kE k ≤ tbeg c n k := (TV.next hk).2
  intro v5 e5 M6 e6
  have F6 := hF.set (by omega) e6
  have z20 : mI M6 m 20 = nI (tbeg c n k) := by rw [e6, mI_sI, up2_same, h21]
  have z21 : mI M6 m 21 = nI (tbeg c n k) := by rw [e6, mI_sI, up2_k _ _ _ (by omega), h21]
  have z19 : mI M6 m 19 = nI n := (F6.by hB).1
  have ev : v5 = nI (kZ (tnext c n k)) := by
    rw [e5, h21]
    show _ = nI (if (kS k = 1 ∨ kS k = 2) ∧ tbeg c n k = kE k then 1 else 0)
    by_cases w : kS k = 1 ∨ kS k = 2
    · rw [if_pos w]
      by_cases y : tbeg c n k = kE k
      · rw [if_pos ⟨by decide, congrArg nI y.symm⟩, if_pos ⟨w, y⟩]
        rfl
      · rw [if_neg (fun u => y ((nI_inj (by omega) (by omega)).mp u.2).symm), if_neg (fun u => y u.2)]
        rfl
    · rw [if_neg w, if_neg (fun u => u.1 rfl), if_neg (fun u => w u.1)]
      rfl
  have zz : kZ (tnext c n k) ≤ 1 := (TV.next hk).1.2.2.2.2.2.2.2
  rw [z20, z19]
  refine ⟨fun hne => ?_, fun he => ?_⟩
  · have blt : tbeg c n k < n := by
      rcases Nat.lt_or_ge (tbeg c n k) n with q | q
      · exact q
      · exact absurd (congrArg nI (show tbeg c n k = n by omega)) hne
    refine ⟨_, cp_X11_isLetter G d hd X M6 m (tbeg c n k) n c hM (F6.by hB) (by omega), ?_⟩
    rintro M10 r11 ⟨e, e11⟩
    have e := e.symm
    subst e
    refine ⟨fun q => ?_, fun q => ?_⟩
    · have nl := e11.mp q
      rw [z20]
      refine ⟨_, cp_X11_isDigit G d hd X M6 m (tbeg c n k) n c hM (F6.by hB) (by omega), ?_⟩
      rintro M16 r17 ⟨e, e17⟩
      have e := e.symm
      subst e
      have s0 : ¬ tsrt c n (tbeg c n k) = 0 := fun y => by
        have := tsrt_0.mp y
        omega
      refine ⟨fun q2 => ?_, fun q2 => ?_⟩
      · have nd := e17.mp q2
        have s3 : tsrt c n (tbeg c n k) = 3 := by
          have := tsrt_le c n (tbeg c n k)
          omega
        intro M20 e20
        refine ⟨tbeg c n k, by rw [e20, mI_sI, up2_k _ _ _ (by omega), z20], by omega, ?_⟩
        intro M24 e24 M25 e25
        have F20 := F6.set (by omega) e20
        have F24 := F20.set (by omega) e24
        have F25 := F24.set (by omega) e25
        have fin : tfin c n (tbeg c n k) = tbeg c n k + 1 := by
          unfold tfin
          rw [if_neg s0, if_pos s3]
        refine hq M25 ⟨?_, ?_, ?_, fun y => ?_, fun y => ?_, fun _ => ?_⟩ F25
        · rw [e25, mI_sI, up2_k _ _ _ (by omega), e24, mI_sI, up2_k _ _ _ (by omega), e20, mI_sI, up2_k _ _ _ (by omega), z20]
          rfl
        · rw [e25, mI_sI, up2_same, e24, mI_sI, up2_k _ _ _ (by omega), e20, mI_sI, up2_k _ _ _ (by omega), z21, nI_1]
          show _ = nI (tfin c n (tbeg c n k))
          rw [fin]
        · rw [e25, mI_sI, up2_k _ _ _ (by omega), e24, mI_sI, up2_k _ _ _ (by omega), e20, mI_sI, up2_same]
          have : rtok (tnext c n k) = 3 := by
            unfold rtok
            show (if tsrt c n (tbeg c n k) = 0 then 0 else if tsrt c n (tbeg c n k) = 3 then 3 else _) = 3
            rw [if_neg s0, if_pos s3]
          rw [this]
          rfl
        · exfalso
          have : rtok (tnext c n k) = 3 := by
            unfold rtok
            show (if tsrt c n (tbeg c n k) = 0 then 0 else if tsrt c n (tbeg c n k) = 3 then 3 else _) = 3
            rw [if_neg s0, if_pos s3]
          omega
        · have y : tsrt c n (tbeg c n k) = 1 := y
          omega
        · rw [e25, mI_sI, up2_k _ _ _ (by omega), e24, mI_sI, up2_same, F20.1 (m + 17) (by omega), (hB.2.2 _ blt).1]
          rfl
      · have s2 : tsrt c n (tbeg c n k) = 2 := Decidable.byContradiction (fun y => q2 (e17.mpr y))
        intro M26 e26
        have F26 := F6.set (by omega) e26
        rw [ev]
        have fin : tfin c n (tbeg c n k) = tend c n 2 (n - (tbeg c n k + 1)) (tbeg c n k + 1) := by
          unfold tfin
          rw [if_neg s0, if_neg (by omega), s2]
        refine cl_next_214 G d hd hM M0 hB zz (fun M2 e t1 t2 t3 t4 t5 t6 => ?_) (n - tbeg c n k) (tbeg c n k) M26 (by omega) (Nat.le_refl _) (fun g hg => by rw [show g = n - tbeg c n k by omega]) (fun i i1 i2 => absurd i2 (by omega)) ?_ ?_ ?_ F26
        · have ee : e = tfin c n (tbeg c n k) := by
            rw [t1 (n - tbeg c n k) (by omega), fin, show n - tbeg c n k = n - (tbeg c n k + 1) + 1 by omega]
            show (if tsrt c n (tbeg c n k) = 2 then _ else _) = _
            rw [if_pos s2]
          have er : rtok (tnext c n k) = if kZ (tnext c n k) = 1 ∨ 4 < e - tbeg c n k then 4 else 2 := by
            unfold rtok
            show (if tsrt c n (tbeg c n k) = 0 then 0 else if tsrt c n (tbeg c n k) = 3 then 3 else if tsrt c n (tbeg c n k) = 1 then _ else if kZ (tnext c n k) = 1 ∨ 4 < tfin c n (tbeg c n k) - tbeg c n k then 4 else 2) = _
            rw [if_neg s0, if_neg (by omega), if_neg (by omega), ee]
          refine hq M2 ⟨t2, by rw [t3, ee]; rfl, by rw [t4, er], fun y => ?_, fun y => ?_, fun y => ?_⟩ t6
          · rw [er] at y
            have : e - tbeg c n k ≤ 4 := by
              split at y <;> omega
            rw [t5 this, ee]
            rfl
          · have y : tsrt c n (tbeg c n k) = 1 := y
            omega
          · have y : tsrt c n (tbeg c n k) = 3 := y
            omega
        · rw [e26, mI_sI, up2_k _ _ _ (by omega), z20]
        · rw [e26, mI_sI, up2_k _ _ _ (by omega), z21]
        · rw [e26, mI_sI, up2_same, Nat.sub_self]
          rfl
    · have s1 : tsrt c n (tbeg c n k) = 1 := Decidable.byContradiction (fun y => q (e11.mpr y))
      rw [ev]
      have fin : tfin c n (tbeg c n k) = tend c n 1 (n - (tbeg c n k + 1)) (tbeg c n k + 1) := by
        unfold tfin
        rw [if_neg (by omega), if_neg (by omega), s1]
      refine cl_next_128 G d hd hM M0 hB zz blt (fun M2 e t1 t2 t3 t4 t5 t6 => ?_) (n - tbeg c n k) (tbeg c n k) M6 (by omega) (Nat.le_refl _) (fun g hg => by rw [show g = n - tbeg c n k by omega]) z20 z21 F6
      have ee : e = tfin c n (tbeg c n k) := by
        rw [t1 (n - tbeg c n k) (by omega), fin, show n - tbeg c n k = n - (tbeg c n k + 1) + 1 by omega]
        show (if tsrt c n (tbeg c n k) = 1 then _ else _) = _
        rw [if_pos s1]
      have er : rtok (tnext c n k) = if kZ (tnext c n k) = 1 then 4 else 1 := by
        unfold rtok
        show (if tsrt c n (tbeg c n k) = 0 then 0 else if tsrt c n (tbeg c n k) = 3 then 3 else if tsrt c n (tbeg c n k) = 1 then (if kZ (tnext c n k) = 1 then 4 else 1) else _) = _
        rw [if_neg (by omega), if_neg (by omega), if_pos s1]
      refine hq M2 ⟨t2, by rw [t3, ee]; rfl, by rw [t4, er], fun y => ?_, fun y => ?_, fun y => ?_⟩ t6
      · rw [er] at y
        split at y <;> omega
      · rw [t5, ee]
        rfl
      · have y : tsrt c n (tbeg c n k) = 3 := y
        omega
  · have he := (nI_inj (by omega) (by omega)).mp he
    have s0 : tsrt c n (tbeg c n k) = 0 := tsrt_0.mpr (by omega)
    intro M27 e27
    have er : rtok (tnext c n k) = 0 := by
      unfold rtok
      exact if_pos s0
    have fin : tfin c n (tbeg c n k) = tbeg c n k := by
      unfold tfin
      exact if_pos s0
    refine hq M27 ⟨?_, ?_, ?_, fun y => ?_, fun y => ?_, fun y => ?_⟩ (F6.set (by omega) e27)
    · rw [e27, mI_sI, up2_k _ _ _ (by omega), z20]
      rfl
    · rw [e27, mI_sI, up2_k _ _ _ (by omega), z21]
      show _ = nI (tfin c n (tbeg c n k))
      rw [fin]
    · rw [e27, mI_sI, up2_same, er]
      rfl
    · omega
    · have y : tsrt c n (tbeg c n k) = 1 := y
      omega
    · have y : tsrt c n (tbeg c n k) = 3 := y
      omega
theorem cl_next_34 (G : Gl) (d : Nat) (hd : 1 ≤ d) {X : Sh} {m n : Nat} {c : Nat → Nat} {k : Tk} {Q : Mm → Prop} (hM : Sh10 X m) (M0 : Mm) (hB : BY M0 m c n) (hk : kE k ≤ n) (hq : ∀ M2, RT M2 m c (tnext c n k) → NxF m M0 M2 → Q M2) :
    ∀ (f p : Nat) (M : Mm), p + f = n → tbeg c n k = tskip c f p → mI M m 21 = nI p → NxF m M0 M → Wv G m_X11_next (d + 1) 34 [(0, .ref m), (1, .int (if kS k = 1 ∨ kS k = 2 then (1 : Int32) else 0)), (2, .int (nI (kE k)))] [] X M Q
  | 0, p, M, h, hs, h21, hF => by
    have hp : p = n := h
    have hs : tbeg c n k = p := hs
    refine bX11_next_34 hM ⟨fun _ => next_cont G d hd hM M0 hB hk hq M (by rw [h21, hs]) hF, fun q => absurd ?_ q⟩
    rw [h21, (hF.by hB).1, hp]
    exact Int32.le_refl _
  | f + 1, p, M, h, hs, h21, hF => by
    have n96 := hB.2.1
    obtain ⟨eb, lb⟩ := hB.2.2 p (by omega)
    have ebM : mI M (m + 17) p = nI (c p) := by rw [hF.1 _ (by omega), eb]
    have hs2 : tbeg c n k = if c p = 32 then tskip c f (p + 1) else p := hs
    refine bX11_next_34 hM ⟨fun q => ?_, fun _ => ⟨p, h21, by omega, fun q => ?_, fun q => ?_⟩⟩
    · rw [h21, (hF.by hB).1] at q
      have := (nI_leI (by omega) (by omega)).mp q
      omega
    · rw [ebM] at q
      rw [if_neg (fun y => q (by rw [y]; rfl))] at hs2
      exact next_cont G d hd hM M0 hB hk hq M (by rw [h21, hs2]) hF
    · rw [ebM] at q
      have q := (nI_inj (b := 32) (by omega) (by omega)).mp q
      rw [if_pos q] at hs2
      intro M58 e58
      rw [h21, nI_1] at e58
      exact cl_next_34 G d hd hM M0 hB hk hq f (p + 1) M58 (by omega) hs2 (by rw [e58, mI_sI, up2_same]) (hF.set (by omega) e58)
/-- the reference goes on to the next word or sign -/
theorem cp_X11_next (G : Gl) (d : Nat) (hd : 2 ≤ d) (X : Sh) (M : Mm) (m n : Nat) (c : Nat → Nat) (k : Tk) (hM : Sh10 X m) (hB : BY M m c n) (hk : kE k ≤ n) (h21 : mI M m 21 = nI (kE k)) (hz : (¬ (mI M m 21 ≤ 0) ∧ (mI M m 22 = 1 ∨ mI M m 22 = 2)) ↔ (kS k = 1 ∨ kS k = 2)) : Cv G m_X11_next d [.ref m] X M (fun M2 => RT M2 m c (tnext c n k) ∧ NxF m M M2) := by
  obtain ⟨d, rfl⟩ : ∃ d1, d = d1 + 1 := ⟨d - 1, by omega⟩
  refine Cv.of (by decide) (Nat.le_of_ble_eq_true rfl) (bX11_next_0 hM ?_)
  intro v5 e5 v6 e6
  have ev : v5 = if kS k = 1 ∨ kS k = 2 then (1 : Int32) else 0 := by
    rw [e5]
    by_cases w : kS k = 1 ∨ kS k = 2
    · rw [if_pos w, if_pos (hz.mpr w)]
    · rw [if_neg w, if_neg (fun y => w (hz.mp y))]
  rw [ev, e6, h21]
  exact cl_next_34 G d (by omega) hM M hB hk (fun M2 h1 h2 => ⟨h1, h2⟩) (n - kE k) (kE k) M (by omega) rfl h21 ⟨fun _ _ => rfl, fun _ _ => rfl, rfl⟩
