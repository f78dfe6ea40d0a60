/-! the reference reads a text: its head, the whole -/
theorem bX11_isWordAt_0 {G : Gl} {d : Nat} {X : Sh} {M : Mm} {Q : Mm → Int32 → Prop} {a : Nat} {x1 : Int32} {x2 : Int32} {x3 : Int32} {x4 : Int32} (hS : Sh10 X a) (h : (∀ v3 : Int32, v3 = (if x4 = 0 then 3 else 4) → ((¬ ((mI M a 22) = 1) → Q M 0) ∧ ((mI M a 22) = 1 → ((¬ (((mI M a 21) - (mI M a 20)) = v3) → Q M 0) ∧ (((mI M a 21) - (mI M a 20)) = v3 → (∃ j6 : Nat, (mI M a 20) = nI j6 ∧ j6 < 96 ∧ ((¬ ((mI M (a + 17) j6) = x1) → Q M 0) ∧ ((mI M (a + 17) j6) = x1 → (∃ j10 : Nat, ((mI M a 20) + 1) = nI j10 ∧ j10 < 96 ∧ ((¬ ((mI M (a + 17) j10) = x2) → Q M 0) ∧ ((mI M (a + 17) j10) = x2 → (∃ j14 : Nat, ((mI M a 20) + 2) = nI j14 ∧ j14 < 96 ∧ ((¬ ((mI M (a + 17) j14) = x3) → Q M 0) ∧ ((mI M (a + 17) j14) = x3 → ((x4 = 0 → Q M 1) ∧ (¬ (x4 = 0) → (∃ j19 : Nat, ((mI M a 20) + 3) = nI j19 ∧ j19 < 96 ∧ Q M (if (mI M (a + 17) j19) = x4 then 1 else 0))))))))))))))))))) : Wn G m_X11_isWordAt d 0 [(0, .ref a), (1, .int x1), (2, .int x2), (3, .int x3), (4, .int x4)] [] X M Q := by
  refine wp_iload 4 dX11_isWordAt_0 rfl ?_
  have K2 : Wp G m_X11_isWordAt d 0 0 0 0 10 [(0, .ref a), (1, .int x1), (2, .int x2), (3, .int x3), (4, .int x4)] [.int ((if x4 = 0 then 3 else 4))] X M (fun X2 M2 v => X2 = X ∧ ∃ x, v = some (.int x) ∧ Q M2 x) := by
    refine wp_topi (fun v3 ev3 => ?_)
    replace h := h v3 ev3
    refine wp_istore (lo2 := [(5, .int _), (0, .ref _), (1, .int _), (2, .int _), (3, .int _), (4, .int _)]) dX11_isWordAt_10 (by decide) rfl ?_
    refine wp_aload_n 1 dX11_isWordAt_12 rfl rfl ?_
    refine wp_getI dX11_isWordAt_13 fl_RX11_233 rfl (sh10_K hS) ?_
    refine wp_iconst (v := 1) dX11_isWordAt_16 rfl ?_
    refine wp_icmp_ne (tgt := 102) dX11_isWordAt_17 (by decide) (fun c4 => ?_) (fun c4 => ?_)
    · replace h := h.1 c4
      refine wp_iconst (v := 0) dX11_isWordAt_102 rfl ?_
      exact wn_zret dX11_isWordAt_103 rfl (Or.inl rfl) h
    · replace h := h.2 c4
      refine wp_aload_n 1 dX11_isWordAt_20 rfl rfl ?_
      refine wp_getI dX11_isWordAt_21 fl_RX11_230 rfl (sh10_K hS) ?_
      refine wp_aload_n 1 dX11_isWordAt_24 rfl rfl ?_
      refine wp_getI dX11_isWordAt_25 fl_RX11_236 rfl (sh10_K hS) ?_
      refine wp_isub dX11_isWordAt_28 ?_
      refine wp_iload 0 dX11_isWordAt_29 rfl ?_
      refine wp_icmp_ne (tgt := 102) dX11_isWordAt_31 (by decide) (fun c5 => ?_) (fun c5 => ?_)
      · replace h := h.1 c5
        refine wp_iconst (v := 0) dX11_isWordAt_102 rfl ?_
        exact wn_zret dX11_isWordAt_103 rfl (Or.inl rfl) h
      · replace h := h.2 c5
        refine wp_aload_n 1 dX11_isWordAt_34 rfl rfl ?_
        refine wp_getR dX11_isWordAt_35 fl_RX11_59 rfl (sh10_K hS) (sh10_F_tape hS) ?_
        refine wp_aload_n 1 dX11_isWordAt_38 rfl rfl ?_
        refine wp_getI dX11_isWordAt_39 fl_RX11_236 rfl (sh10_K hS) ?_
        obtain ⟨j6, o7, o8, h⟩ := h
        refine wp_iald (n := 96) dX11_isWordAt_42 (sh10_K_tape hS) (sh10_N_tape hS) (by decide) o7 o8 ?_
        refine wp_iload_n 2 dX11_isWordAt_43 rfl rfl ?_
        refine wp_icmp_ne (tgt := 102) dX11_isWordAt_44 (by decide) (fun c9 => ?_) (fun c9 => ?_)
        · replace h := h.1 c9
          refine wp_iconst (v := 0) dX11_isWordAt_102 rfl ?_
          exact wn_zret dX11_isWordAt_103 rfl (Or.inl rfl) h
        · replace h := h.2 c9
          refine wp_aload_n 1 dX11_isWordAt_47 rfl rfl ?_
          refine wp_getR dX11_isWordAt_48 fl_RX11_59 rfl (sh10_K hS) (sh10_F_tape hS) ?_
          refine wp_aload_n 1 dX11_isWordAt_51 rfl rfl ?_
          refine wp_getI dX11_isWordAt_52 fl_RX11_236 rfl (sh10_K hS) ?_
          refine wp_iconst (v := 1) dX11_isWordAt_55 rfl ?_
          refine wp_iadd dX11_isWordAt_56 ?_
          obtain ⟨j10, o11, o12, h⟩ := h
          refine wp_iald (n := 96) dX11_isWordAt_57 (sh10_K_tape hS) (sh10_N_tape hS) (by decide) o11 o12 ?_
          refine wp_iload_n 3 dX11_isWordAt_58 rfl rfl ?_
          refine wp_icmp_ne (tgt := 102) dX11_isWordAt_59 (by decide) (fun c13 => ?_) (fun c13 => ?_)
          · replace h := h.1 c13
            refine wp_iconst (v := 0) dX11_isWordAt_102 rfl ?_
            exact wn_zret dX11_isWordAt_103 rfl (Or.inl rfl) h
          · replace h := h.2 c13
            refine wp_aload_n 1 dX11_isWordAt_62 rfl rfl ?_
            refine wp_getR dX11_isWordAt_63 fl_RX11_59 rfl (sh10_K hS) (sh10_F_tape hS) ?_
            refine wp_aload_n 1 dX11_isWordAt_66 rfl rfl ?_
            refine wp_getI dX11_isWordAt_67 fl_RX11_236 rfl (sh10_K hS) ?_
            refine wp_iconst (v := 2) dX11_isWordAt_70 rfl ?_
            refine wp_iadd dX11_isWordAt_71 ?_
            obtain ⟨j14, o15, o16, h⟩ := h
            refine wp_iald (n := 96) dX11_isWordAt_72 (sh10_K_tape hS) (sh10_N_tape hS) (by decide) o15 o16 ?_
            refine wp_iload_n 4 dX11_isWordAt_73 rfl rfl ?_
            refine wp_icmp_ne (tgt := 102) dX11_isWordAt_74 (by decide) (fun c17 => ?_) (fun c17 => ?_)
            · replace h := h.1 c17
              refine wp_iconst (v := 0) dX11_isWordAt_102 rfl ?_
              exact wn_zret dX11_isWordAt_103 rfl (Or.inl rfl) h
            · replace h := h.2 c17
              refine wp_iload 5 dX11_isWordAt_77 rfl ?_
              refine wp_if_eq (tgt := 98) dX11_isWordAt_79 (by decide) (fun c18 => ?_) (fun c18 => ?_)
              · replace h := h.1 c18
                refine wp_iconst (v := 1) dX11_isWordAt_98 rfl ?_
                refine wp_goto (tgt := 103) dX11_isWordAt_99 (by decide) ?_
                exact wn_zret dX11_isWordAt_103 rfl (Or.inr rfl) h
              · replace h := h.2 c18
                refine wp_aload_n 1 dX11_isWordAt_82 rfl rfl ?_
                refine wp_getR dX11_isWordAt_83 fl_RX11_59 rfl (sh10_K hS) (sh10_F_tape hS) ?_
                refine wp_aload_n 1 dX11_isWordAt_86 rfl rfl ?_
                refine wp_getI dX11_isWordAt_87 fl_RX11_236 rfl (sh10_K hS) ?_
                refine wp_iconst (v := 3) dX11_isWordAt_90 rfl ?_
                refine wp_iadd dX11_isWordAt_91 ?_
                obtain ⟨j19, o20, o21, h⟩ := h
                refine wp_iald (n := 96) dX11_isWordAt_92 (sh10_K_tape hS) (sh10_N_tape hS) (by decide) o20 o21 ?_
                refine wp_iload 5 dX11_isWordAt_93 rfl ?_
                have K23 : Wp G m_X11_isWordAt d 0 0 0 0 103 [(5, .int v3), (0, .ref a), (1, .int x1), (2, .int x2), (3, .int x3), (4, .int x4)] [.int (if (mI M (a + 17) j19) = x4 then 1 else 0)] X M (fun X2 M2 v => X2 = X ∧ ∃ x, v = some (.int x) ∧ Q M2 x) := by
                  exact wn_zret dX11_isWordAt_103 rfl (ite_01 _) h
                refine wp_icmp_ne (tgt := 102) dX11_isWordAt_95 (by decide) (fun c22 => ?_) (fun c22 => ?_)
                · refine wp_iconst (v := 0) dX11_isWordAt_102 rfl ?_
                  rw [if_neg c22] at K23
                  exact K23
                · refine wp_iconst (v := 1) dX11_isWordAt_98 rfl ?_
                  refine wp_goto (tgt := 103) dX11_isWordAt_99 (by decide) ?_
                  rw [if_pos c22] at K23
                  exact K23
  refine wp_if_ne (tgt := 9) dX11_isWordAt_2 (by decide) (fun c1 => ?_) (fun c1 => ?_)
  · refine wp_iconst (v := 4) dX11_isWordAt_9 rfl ?_
    rw [if_neg c1] at K2
    exact K2
  · refine wp_iconst (v := 3) dX11_isWordAt_5 rfl ?_
    refine wp_goto (tgt := 10) dX11_isWordAt_6 (by decide) ?_
    rw [if_pos c1] at K2
    exact K2
theorem bX11_key_0 {G : Gl} {d : Nat} {X : Sh} {M : Mm} {Q : Mm → Int32 → Prop} {a : Nat} (hS : Sh10 X a) (h : (∃ q1 : Mm → Int32 → Prop, Cn G m_X11_isWordAt d [.ref a, .int 103, .int 97, .int 115, .int 0] X M q1 ∧ ∀ M3 r4, q1 M3 r4 → ((r4 = 0 → (∃ q7 : Mm → Int32 → Prop, Cn G m_X11_isWordAt d [.ref a, .int 108, .int 97, .int 116, .int 101] X M3 q7 ∧ ∀ M9 r10, q7 M9 r10 → ((r10 = 0 → (∃ q13 : Mm → Int32 → Prop, Cn G m_X11_isWordAt d [.ref a, .int 100, .int 114, .int 97, .int 119] X M9 q13 ∧ ∀ M15 r16, q13 M15 r16 → ((¬ (r16 = 0) → (∃ q19 : Mm → Prop, Cv G m_X11_next d [.ref a] X M15 q19 ∧ ∀ M21, q19 M21 → Q M21 (if (mI M21 a 22) = 2 then (if 6 ≤ (mI M21 a 23) then (-1) else (mI M21 a 23)) else (-1)))) ∧ (r16 = 0 → Q M15 (-1))))) ∧ (¬ (r10 = 0) → Q M9 7)))) ∧ (¬ (r4 = 0) → Q M3 6)))) : Wn G m_X11_key (d + 1) 0 [(0, .ref a)] [] X M Q := by
  refine wp_aload_n 0 dX11_key_0 rfl rfl ?_
  refine wp_bipush (v := 103) dX11_key_1 rfl ?_
  refine wp_bipush (v := 97) dX11_key_3 rfl ?_
  refine wp_bipush (v := 115) dX11_key_5 rfl ?_
  refine wp_iconst (v := 0) dX11_key_7 rfl ?_
  obtain ⟨q1, o2, h⟩ := h
  refine wp_cvi dX11_key_8 ck_RX11_251 (sh10_K hS) (as := [.int 103, .int 97, .int 115, .int 0]) rfl rfl (Nat.le_of_ble_eq_true rfl) o2 (fun M3 r4 o5 => ?_)
  replace h := h M3 r4 o5
  refine wp_if_eq (tgt := 17) dX11_key_11 (by decide) (fun c6 => ?_) (fun c6 => ?_)
  · replace h := h.1 c6
    refine wp_aload_n 0 dX11_key_17 rfl rfl ?_
    refine wp_bipush (v := 108) dX11_key_18 rfl ?_
    refine wp_bipush (v := 97) dX11_key_20 rfl ?_
    refine wp_bipush (v := 116) dX11_key_22 rfl ?_
    refine wp_bipush (v := 101) dX11_key_24 rfl ?_
    obtain ⟨q7, o8, h⟩ := h
    refine wp_cvi dX11_key_26 ck_RX11_251 (sh10_K hS) (as := [.int 108, .int 97, .int 116, .int 101]) rfl rfl (Nat.le_of_ble_eq_true rfl) o8 (fun M9 r10 o11 => ?_)
    replace h := h M9 r10 o11
    refine wp_if_eq (tgt := 35) dX11_key_29 (by decide) (fun c12 => ?_) (fun c12 => ?_)
    · replace h := h.1 c12
      refine wp_aload_n 0 dX11_key_35 rfl rfl ?_
      refine wp_bipush (v := 100) dX11_key_36 rfl ?_
      refine wp_bipush (v := 114) dX11_key_38 rfl ?_
      refine wp_bipush (v := 97) dX11_key_40 rfl ?_
      refine wp_bipush (v := 119) dX11_key_42 rfl ?_
      obtain ⟨q13, o14, h⟩ := h
      refine wp_cvi dX11_key_44 ck_RX11_251 (sh10_K hS) (as := [.int 100, .int 114, .int 97, .int 119]) rfl rfl (Nat.le_of_ble_eq_true rfl) o14 (fun M15 r16 o17 => ?_)
      replace h := h M15 r16 o17
      refine wp_if_ne (tgt := 52) dX11_key_47 (by decide) (fun c18 => ?_) (fun c18 => ?_)
      · replace h := h.1 c18
        refine wp_aload_n 0 dX11_key_52 rfl rfl ?_
        obtain ⟨q19, o20, h⟩ := h
        refine wp_cvv dX11_key_53 ck_RX11_255 (sh10_K hS) (as := []) rfl rfl (Nat.le_of_ble_eq_true rfl) o20 (fun M21 o22 => ?_)
        replace h := h M21 o22
        refine wp_aload_n 0 dX11_key_56 rfl rfl ?_
        refine wp_getI dX11_key_57 fl_RX11_233 rfl (sh10_K hS) ?_
        refine wp_iconst (v := 2) dX11_key_60 rfl ?_
        have K25 : Wp G m_X11_key (d + 1) 0 0 0 0 81 [(0, .ref a)] [.int ((if (mI M21 a 22) = 2 then (if 6 ≤ (mI M21 a 23) then (-1) else (mI M21 a 23)) else (-1)))] X M21 (fun X2 M2 v => X2 = X ∧ ∃ x, v = some (.int x) ∧ Q M2 x) := by
          exact wn_iret dX11_key_81 rfl h
        refine wp_icmp_ne (tgt := 80) dX11_key_61 (by decide) (fun c23 => ?_) (fun c23 => ?_)
        · refine wp_iconst (v := (-1)) dX11_key_80 rfl ?_
          rw [if_neg c23] at K25
          exact K25
        · refine wp_aload_n 0 dX11_key_64 rfl rfl ?_
          refine wp_getI dX11_key_65 fl_RX11_248 rfl (sh10_K hS) ?_
          refine wp_bipush (v := 6) dX11_key_68 rfl ?_
          refine wp_icmp_ge (tgt := 80) dX11_key_70 (by decide) (fun c24 => ?_) (fun c24 => ?_)
          · refine wp_iconst (v := (-1)) dX11_key_80 rfl ?_
            rw [if_pos c23] at K25
            rw [if_pos c24] at K25
            exact K25
          · refine wp_aload_n 0 dX11_key_73 rfl rfl ?_
            refine wp_getI dX11_key_74 fl_RX11_248 rfl (sh10_K hS) ?_
            refine wp_goto (tgt := 81) dX11_key_77 (by decide) ?_
            rw [if_pos c23] at K25
            rw [if_neg c24] at K25
            exact K25
      · replace h := h.2 c18
        refine wp_iconst (v := (-1)) dX11_key_50 rfl ?_
        exact wn_iret dX11_key_51 rfl h
    · replace h := h.2 c12
      refine wp_bipush (v := 7) dX11_key_32 rfl ?_
      exact wn_iret dX11_key_34 rfl h
  · replace h := h.2 c6
    refine wp_bipush (v := 6) dX11_key_14 rfl ?_
    exact wn_iret dX11_key_16 rfl h
theorem bX11_parse_0 {G : Gl} {d : Nat} {X : Sh} {M : Mm} {Q : Mm → Int32 → Prop} {a : Nat} (hS : Sh10 X a) (h : (∀ M1 : Mm, M1 = sI M a 21 0 → (∀ M2 : Mm, M2 = sI M1 a 22 3 → (∀ M3 : Mm, M3 = sI M2 a 25 0 → (∀ M4 : Mm, M4 = sI M3 a 26 0 → (∀ M5 : Mm, M5 = sI M4 a 27 0 → (∀ M6 : Mm, M6 = sI M5 a 29 0 → ((12 ≤ (mI M6 (a + 1) 2) → (∀ M8 : Mm, M8 = sI M6 a 28 2750 → (∃ q9 : Mm → Prop, Cv G m_X11_next d [.ref a] X M8 q9 ∧ ∀ M11, q9 M11 → (∃ q13 : Mm → Int32 → Prop, Cn G m_X11_key d [.ref a] X M11 q13 ∧ ∀ M15 r16, q13 M15 r16 → (∀ v20 : Int32, v20 = (if ¬ (r16 < 0) then 1 else 0) → ((v20 = 0 → (∀ M22 : Mm, M22 = sI M15 a 19 0 → Q M22 (if v20 = 0 then (-1) else r16))) ∧ (¬ (v20 = 0) → (∃ q25 : Mm → Prop, Cv G m_X11_next d [.ref a] X M15 q25 ∧ ∀ M27, q25 M27 → (∃ q29 : Mm → Int32 → Prop, Cn G m_X11_either d [.ref a, .int r16] X M27 q29 ∧ ∀ M31 r32, q29 M31 r32 → (∀ v37 : Int32, v37 = (if ((¬ (r32 = 0)) ∧ ((mI M31 a 22) = 0)) then 1 else 0) → (∀ M38 : Mm, M38 = sI M31 a 19 0 → Q M38 (if v37 = 0 then (-1) else r16)))))))))))) ∧ (¬ (12 ≤ (mI M6 (a + 1) 2)) → (∀ M41 : Mm, M41 = sI M6 a 28 ((340 + 200 * (mI M6 (a + 1) 2)) + 4) → (∃ q42 : Mm → Prop, Cv G m_X11_next d [.ref a] X M41 q42 ∧ ∀ M44, q42 M44 → (∃ q46 : Mm → Int32 → Prop, Cn G m_X11_key d [.ref a] X M44 q46 ∧ ∀ M48 r49, q46 M48 r49 → (∀ v53 : Int32, v53 = (if ¬ (r49 < 0) then 1 else 0) → ((v53 = 0 → (∀ M55 : Mm, M55 = sI M48 a 19 0 → Q M55 (if v53 = 0 then (-1) else r49))) ∧ (¬ (v53 = 0) → (∃ q58 : Mm → Prop, Cv G m_X11_next d [.ref a] X M48 q58 ∧ ∀ M60, q58 M60 → (∃ q62 : Mm → Int32 → Prop, Cn G m_X11_either d [.ref a, .int r49] X M60 q62 ∧ ∀ M64 r65, q62 M64 r65 → (∀ v70 : Int32, v70 = (if ((¬ (r65 = 0)) ∧ ((mI M64 a 22) = 0)) then 1 else 0) → (∀ M71 : Mm, M71 = sI M64 a 19 0 → Q M71 (if v70 = 0 then (-1) else r49)))))))))))))))))))) : Wn G m_X11_parse (d + 1) 0 [(0, .ref a)] [] X M Q := by
  refine wp_aload_n 0 dX11_parse_0 rfl rfl ?_
  refine wp_iconst (v := 0) dX11_parse_1 rfl ?_
  refine wp_putI dX11_parse_2 fp_RX11_230 rfl (sh10_K hS) ?_
  refine wp_nm (fun M1 eM1 => ?_)
  replace h := h M1 eM1
  refine wp_aload_n 0 dX11_parse_5 rfl rfl ?_
  refine wp_iconst (v := 3) dX11_parse_6 rfl ?_
  refine wp_putI dX11_parse_7 fp_RX11_233 rfl (sh10_K hS) ?_
  refine wp_nm (fun M2 eM2 => ?_)
  replace h := h M2 eM2
  refine wp_aload_n 0 dX11_parse_10 rfl rfl ?_
  refine wp_iconst (v := 0) dX11_parse_11 rfl ?_
  refine wp_putI dX11_parse_12 fp_RX11_294 rfl (sh10_K hS) ?_
  refine wp_nm (fun M3 eM3 => ?_)
  replace h := h M3 eM3
  refine wp_aload_n 0 dX11_parse_15 rfl rfl ?_
  refine wp_iconst (v := 0) dX11_parse_16 rfl ?_
  refine wp_putI dX11_parse_17 fp_RX11_291 rfl (sh10_K hS) ?_
  refine wp_nm (fun M4 eM4 => ?_)
  replace h := h M4 eM4
  refine wp_aload_n 0 dX11_parse_20 rfl rfl ?_
  refine wp_iconst (v := 0) dX11_parse_21 rfl ?_
  refine wp_putI dX11_parse_22 fp_RX11_261 rfl (sh10_K hS) ?_
  refine wp_nm (fun M5 eM5 => ?_)
  replace h := h M5 eM5
  refine wp_aload_n 0 dX11_parse_25 rfl rfl ?_
  refine wp_iconst (v := 0) dX11_parse_26 rfl ?_
  refine wp_putI dX11_parse_27 fp_RX11_285 rfl (sh10_K hS) ?_
  refine wp_nm (fun M6 eM6 => ?_)
  replace h := h M6 eM6
  refine wp_aload_n 0 dX11_parse_30 rfl rfl ?_
  refine wp_aload_n 0 dX11_parse_31 rfl rfl ?_
  refine wp_getR dX11_parse_32 fl_RX11_7 rfl (sh10_K hS) (sh10_F_s hS) ?_
  refine wp_iconst (v := 2) dX11_parse_35 rfl ?_
  refine wp_iald (n := 2950) dX11_parse_36 (sh10_K_s hS) (sh10_N_s hS) (by decide) rfl (by decide) ?_
  refine wp_bipush (v := 12) dX11_parse_37 rfl ?_
  refine wp_icmp_ge (tgt := 57) dX11_parse_39 (by decide) (fun c7 => ?_) (fun c7 => ?_)
  · replace h := h.1 c7
    refine wp_sipush (v := 2750) dX11_parse_57 rfl ?_
    refine wp_putI dX11_parse_60 fp_RX11_258 rfl (sh10_K hS) ?_
    refine wp_nm (fun M8 eM8 => ?_)
    replace h := h M8 eM8
    refine wp_aload_n 0 dX11_parse_63 rfl rfl ?_
    obtain ⟨q9, o10, h⟩ := h
    refine wp_cvv dX11_parse_64 ck_RX11_255 (sh10_K hS) (as := []) rfl rfl (Nat.le_of_ble_eq_true rfl) o10 (fun M11 o12 => ?_)
    replace h := h M11 o12
    refine wp_aload_n 0 dX11_parse_67 rfl rfl ?_
    obtain ⟨q13, o14, h⟩ := h
    refine wp_cvi dX11_parse_68 ck_RX11_303 (sh10_K hS) (as := []) rfl rfl (Nat.le_of_ble_eq_true rfl) o14 (fun M15 r16 o17 => ?_)
    replace h := h M15 r16 o17
    refine wp_istore_n (lo2 := [(1, .int _), (0, .ref _)]) dX11_parse_71 rfl (by decide) rfl ?_
    refine wp_iload_n 0 dX11_parse_72 rfl rfl ?_
    have K19 : Wp G m_X11_parse (d + 1) 0 0 0 0 81 [(1, .int r16), (0, .ref a)] [.int (if ¬ (r16 < 0) then 1 else 0)] X M15 (fun X2 M2 v => X2 = X ∧ ∃ x, v = some (.int x) ∧ Q M2 x) := by
      refine wp_topi (fun v20 ev20 => ?_)
      replace h := h v20 ev20
      refine wp_istore_n (lo2 := [(2, .int _), (1, .int _), (0, .ref _)]) dX11_parse_81 rfl (by decide) rfl ?_
      refine wp_iload_n 0 dX11_parse_82 rfl rfl ?_
      refine wp_if_eq (tgt := 111) dX11_parse_83 (by decide) (fun c21 => ?_) (fun c21 => ?_)
      · replace h := h.1 c21
        refine wp_aload_n 2 dX11_parse_111 rfl rfl ?_
        refine wp_iconst (v := 0) dX11_parse_112 rfl ?_
        refine wp_putI dX11_parse_113 fp_RX11_219 rfl (sh10_K hS) ?_
        refine wp_nm (fun M22 eM22 => ?_)
        replace h := h M22 eM22
        refine wp_iload_n 0 dX11_parse_116 rfl rfl ?_
        have K24 : Wp G m_X11_parse (d + 1) 0 0 0 0 125 [(2, .int v20), (1, .int r16), (0, .ref a)] [.int ((if v20 = 0 then (-1) else r16))] X M22 (fun X2 M2 v => X2 = X ∧ ∃ x, v = some (.int x) ∧ Q M2 x) := by
          exact wn_iret dX11_parse_125 rfl h
        refine wp_if_eq (tgt := 124) dX11_parse_117 (by decide) (fun c23 => ?_) (fun c23 => ?_)
        · refine wp_iconst (v := (-1)) dX11_parse_124 rfl ?_
          rw [if_pos c23] at K24
          exact K24
        · refine wp_iload_n 1 dX11_parse_120 rfl rfl ?_
          refine wp_goto (tgt := 125) dX11_parse_121 (by decide) ?_
          rw [if_neg c23] at K24
          exact K24
      · replace h := h.2 c21
        refine wp_aload_n 2 dX11_parse_86 rfl rfl ?_
        obtain ⟨q25, o26, h⟩ := h
        refine wp_cvv dX11_parse_87 ck_RX11_255 (sh10_K hS) (as := []) rfl rfl (Nat.le_of_ble_eq_true rfl) o26 (fun M27 o28 => ?_)
        replace h := h M27 o28
        refine wp_aload_n 2 dX11_parse_90 rfl rfl ?_
        refine wp_iload_n 1 dX11_parse_91 rfl rfl ?_
        obtain ⟨q29, o30, h⟩ := h
        refine wp_cvi dX11_parse_92 ck_RX11_297 (sh10_K hS) (as := [.int r16]) rfl rfl (Nat.le_of_ble_eq_true rfl) o30 (fun M31 r32 o33 => ?_)
        replace h := h M31 r32 o33
        have K36 : Wp G m_X11_parse (d + 1) 0 0 0 0 110 [(2, .int v20), (1, .int r16), (0, .ref a)] [.int (if ((¬ (r32 = 0)) ∧ ((mI M31 a 22) = 0)) then 1 else 0)] X M31 (fun X2 M2 v => X2 = X ∧ ∃ x, v = some (.int x) ∧ Q M2 x) := by
          refine wp_topi (fun v37 ev37 => ?_)
          replace h := h v37 ev37
          refine wp_istore_n (lo2 := [(2, .int _), (1, .int _), (0, .ref _)]) dX11_parse_110 rfl (by decide) rfl ?_
          refine wp_aload_n 2 dX11_parse_111 rfl rfl ?_
          refine wp_iconst (v := 0) dX11_parse_112 rfl ?_
          refine wp_putI dX11_parse_113 fp_RX11_219 rfl (sh10_K hS) ?_
          refine wp_nm (fun M38 eM38 => ?_)
          replace h := h M38 eM38
          refine wp_iload_n 0 dX11_parse_116 rfl rfl ?_
          have K40 : Wp G m_X11_parse (d + 1) 0 0 0 0 125 [(2, .int v37), (1, .int r16), (0, .ref a)] [.int ((if v37 = 0 then (-1) else r16))] X M38 (fun X2 M2 v => X2 = X ∧ ∃ x, v = some (.int x) ∧ Q M2 x) := by
            exact wn_iret dX11_parse_125 rfl h
          refine wp_if_eq (tgt := 124) dX11_parse_117 (by decide) (fun c39 => ?_) (fun c39 => ?_)
          · refine wp_iconst (v := (-1)) dX11_parse_124 rfl ?_
            rw [if_pos c39] at K40
            exact K40
          · refine wp_iload_n 1 dX11_parse_120 rfl rfl ?_
            refine wp_goto (tgt := 125) dX11_parse_121 (by decide) ?_
            rw [if_neg c39] at K40
            exact K40
        refine wp_if_eq (tgt := 109) dX11_parse_95 (by decide) (fun c34 => ?_) (fun c34 => ?_)
        · refine wp_iconst (v := 0) dX11_parse_109 rfl ?_
          rw [if_neg (fun q => (fun q => q c34) q.1)] at K36
          exact K36
        · refine wp_aload_n 2 dX11_parse_98 rfl rfl ?_
          refine wp_getI dX11_parse_99 fl_RX11_233 rfl (sh10_K hS) ?_
          refine wp_if_ne (tgt := 109) dX11_parse_102 (by decide) (fun c35 => ?_) (fun c35 => ?_)
          · refine wp_iconst (v := 0) dX11_parse_109 rfl ?_
            rw [if_neg (fun q => c35 q.2)] at K36
            exact K36
          · refine wp_iconst (v := 1) dX11_parse_105 rfl ?_
            refine wp_goto (tgt := 110) dX11_parse_106 (by decide) ?_
            rw [if_pos ⟨c34, c35⟩] at K36
            exact K36
    refine wp_if_lt (tgt := 80) dX11_parse_73 (by decide) (fun c18 => ?_) (fun c18 => ?_)
    · refine wp_iconst (v := 0) dX11_parse_80 rfl ?_
      rw [if_neg (fun q => q c18)] at K19
      exact K19
    · refine wp_iconst (v := 1) dX11_parse_76 rfl ?_
      refine wp_goto (tgt := 81) dX11_parse_77 (by decide) ?_
      rw [if_pos c18] at K19
      exact K19
  · replace h := h.2 c7
    refine wp_aload_n 0 dX11_parse_42 rfl rfl ?_
    refine wp_aload_n 0 dX11_parse_43 rfl rfl ?_
    refine wp_getR dX11_parse_44 fl_RX11_7 rfl (sh10_K hS) (sh10_F_s hS) ?_
    refine wp_iconst (v := 2) dX11_parse_47 rfl ?_
    refine wp_iald (n := 2950) dX11_parse_48 (sh10_K_s hS) (sh10_N_s hS) (by decide) rfl (by decide) ?_
    refine wp_cvip dX11_parse_49 ck_RX11_300 (sh10_K hS) (as := [.int ((mI M6 (a + 1) 2))]) rfl rfl (Nat.le_of_ble_eq_true rfl) (cp_X11_textAt G d X M6 a (mI M6 (a + 1) 2) hS) ?_
    refine wp_iconst (v := 4) dX11_parse_52 rfl ?_
    refine wp_iadd dX11_parse_53 ?_
    refine wp_goto (tgt := 60) dX11_parse_54 (by decide) ?_
    refine wp_putI dX11_parse_60 fp_RX11_258 rfl (sh10_K hS) ?_
    refine wp_nm (fun M41 eM41 => ?_)
    replace h := h M41 eM41
    refine wp_aload_n 0 dX11_parse_63 rfl rfl ?_
    obtain ⟨q42, o43, h⟩ := h
    refine wp_cvv dX11_parse_64 ck_RX11_255 (sh10_K hS) (as := []) rfl rfl (Nat.le_of_ble_eq_true rfl) o43 (fun M44 o45 => ?_)
    replace h := h M44 o45
    refine wp_aload_n 0 dX11_parse_67 rfl rfl ?_
    obtain ⟨q46, o47, h⟩ := h
    refine wp_cvi dX11_parse_68 ck_RX11_303 (sh10_K hS) (as := []) rfl rfl (Nat.le_of_ble_eq_true rfl) o47 (fun M48 r49 o50 => ?_)
    replace h := h M48 r49 o50
    refine wp_istore_n (lo2 := [(1, .int _), (0, .ref _)]) dX11_parse_71 rfl (by decide) rfl ?_
    refine wp_iload_n 0 dX11_parse_72 rfl rfl ?_
    have K52 : Wp G m_X11_parse (d + 1) 0 0 0 0 81 [(1, .int r49), (0, .ref a)] [.int (if ¬ (r49 < 0) then 1 else 0)] X M48 (fun X2 M2 v => X2 = X ∧ ∃ x, v = some (.int x) ∧ Q M2 x) := by
      refine wp_topi (fun v53 ev53 => ?_)
      replace h := h v53 ev53
      refine wp_istore_n (lo2 := [(2, .int _), (1, .int _), (0, .ref _)]) dX11_parse_81 rfl (by decide) rfl ?_
      refine wp_iload_n 0 dX11_parse_82 rfl rfl ?_
      refine wp_if_eq (tgt := 111) dX11_parse_83 (by decide) (fun c54 => ?_) (fun c54 => ?_)
      · replace h := h.1 c54
        refine wp_aload_n 2 dX11_parse_111 rfl rfl ?_
        refine wp_iconst (v := 0) dX11_parse_112 rfl ?_
        refine wp_putI dX11_parse_113 fp_RX11_219 rfl (sh10_K hS) ?_
        refine wp_nm (fun M55 eM55 => ?_)
        replace h := h M55 eM55
        refine wp_iload_n 0 dX11_parse_116 rfl rfl ?_
        have K57 : Wp G m_X11_parse (d + 1) 0 0 0 0 125 [(2, .int v53), (1, .int r49), (0, .ref a)] [.int ((if v53 = 0 then (-1) else r49))] X M55 (fun X2 M2 v => X2 = X ∧ ∃ x, v = some (.int x) ∧ Q M2 x) := by
          exact wn_iret dX11_parse_125 rfl h
        refine wp_if_eq (tgt := 124) dX11_parse_117 (by decide) (fun c56 => ?_) (fun c56 => ?_)
        · refine wp_iconst (v := (-1)) dX11_parse_124 rfl ?_
          rw [if_pos c56] at K57
          exact K57
        · refine wp_iload_n 1 dX11_parse_120 rfl rfl ?_
          refine wp_goto (tgt := 125) dX11_parse_121 (by decide) ?_
          rw [if_neg c56] at K57
          exact K57
      · replace h := h.2 c54
        refine wp_aload_n 2 dX11_parse_86 rfl rfl ?_
        obtain ⟨q58, o59, h⟩ := h
        refine wp_cvv dX11_parse_87 ck_RX11_255 (sh10_K hS) (as := []) rfl rfl (Nat.le_of_ble_eq_true rfl) o59 (fun M60 o61 => ?_)
        replace h := h M60 o61
        refine wp_aload_n 2 dX11_parse_90 rfl rfl ?_
        refine wp_iload_n 1 dX11_parse_91 rfl rfl ?_
        obtain ⟨q62, o63, h⟩ := h
        refine wp_cvi dX11_parse_92 ck_RX11_297 (sh10_K hS) (as := [.int r49]) rfl rfl (Nat.le_of_ble_eq_true rfl) o63 (fun M64 r65 o66 => ?_)
        replace h := h M64 r65 o66
        have K69 : Wp G m_X11_parse (d + 1) 0 0 0 0 110 [(2, .int v53), (1, .int r49), (0, .ref a)] [.int (if ((¬ (r65 = 0)) ∧ ((mI M64 a 22) = 0)) then 1 else 0)] X M64 (fun X2 M2 v => X2 = X ∧ ∃ x, v = some (.int x) ∧ Q M2 x) := by
          refine wp_topi (fun v70 ev70 => ?_)
          replace h := h v70 ev70
          refine wp_istore_n (lo2 := [(2, .int _), (1, .int _), (0, .ref _)]) dX11_parse_110 rfl (by decide) rfl ?_
          refine wp_aload_n 2 dX11_parse_111 rfl rfl ?_
          refine wp_iconst (v := 0) dX11_parse_112 rfl ?_
          refine wp_putI dX11_parse_113 fp_RX11_219 rfl (sh10_K hS) ?_
          refine wp_nm (fun M71 eM71 => ?_)
          replace h := h M71 eM71
          refine wp_iload_n 0 dX11_parse_116 rfl rfl ?_
          have K73 : Wp G m_X11_parse (d + 1) 0 0 0 0 125 [(2, .int v70), (1, .int r49), (0, .ref a)] [.int ((if v70 = 0 then (-1) else r49))] X M71 (fun X2 M2 v => X2 = X ∧ ∃ x, v = some (.int x) ∧ Q M2 x) := by
            exact wn_iret dX11_parse_125 rfl h
          refine wp_if_eq (tgt := 124) dX11_parse_117 (by decide) (fun c72 => ?_) (fun c72 => ?_)
          · refine wp_iconst (v := (-1)) dX11_parse_124 rfl ?_
            rw [if_pos c72] at K73
            exact K73
          · refine wp_iload_n 1 dX11_parse_120 rfl rfl ?_
            refine wp_goto (tgt := 125) dX11_parse_121 (by decide) ?_
            rw [if_neg c72] at K73
            exact K73
        refine wp_if_eq (tgt := 109) dX11_parse_95 (by decide) (fun c67 => ?_) (fun c67 => ?_)
        · refine wp_iconst (v := 0) dX11_parse_109 rfl ?_
          rw [if_neg (fun q => (fun q => q c67) q.1)] at K69
          exact K69
        · refine wp_aload_n 2 dX11_parse_98 rfl rfl ?_
          refine wp_getI dX11_parse_99 fl_RX11_233 rfl (sh10_K hS) ?_
          refine wp_if_ne (tgt := 109) dX11_parse_102 (by decide) (fun c68 => ?_) (fun c68 => ?_)
          · refine wp_iconst (v := 0) dX11_parse_109 rfl ?_
            rw [if_neg (fun q => c68 q.2)] at K69
            exact K69
          · refine wp_iconst (v := 1) dX11_parse_105 rfl ?_
            refine wp_goto (tgt := 110) dX11_parse_106 (by decide) ?_
            rw [if_pos ⟨c67, c68⟩] at K69
            exact K69
    refine wp_if_lt (tgt := 80) dX11_parse_73 (by decide) (fun c51 => ?_) (fun c51 => ?_)
    · refine wp_iconst (v := 0) dX11_parse_80 rfl ?_
      rw [if_neg (fun q => q c51)] at K52
      exact K52
    · refine wp_iconst (v := 1) dX11_parse_76 rfl ?_
      refine wp_goto (tgt := 81) dX11_parse_77 (by decide) ?_
      rw [if_pos c51] at K52
      exact K52
theorem isT_1 {c : Nat → Nat} {n i : Nat} {k : Tk} (hi : i < 6) (hT : TV c n k) (hc : ∀ j, j < n → c j ≤ 255) (h : isT c k i) : kS k = 1 := by
  have h0 := kLn_pos hi
  have ke := hT.2.2.1
  have bn : kB k < n := by
    have := h.1
    omega
  obtain ⟨_, _, b, b1, b2, b3⟩ := kCh_c (j := 0) hi h0
  have e : nI (c (kB k)) = kCh i 0 := h.2 0 h0
  rw [b3] at e
  have cb := hc _ bn
  have := (nI_inj (by omega) (by omega)).mp e
  rw [hT.1]
  exact (tsrt_1 bn).mpr (by omega)
theorem kLn_3 {i : Nat} (hi : i < 3) : 3 ≤ kLn i := by
  match i, hi with
  | 0, _ => decide
  | 1, _ => decide
  | 2, _ => decide
theorem cp_X11_isWordAt (G : Gl) (d : Nat) (X : Sh) (M : Mm) (m n i : Nat) (c : Nat → Nat) (k : Tk) (x1 x2 x3 x4 : Int32) (hM : Sh10 X m) (hB : BY M m c n) (hT : TV c n k) (hR : RT M m c k) (hz : kZ k = 0) (hi : i < 3) (e1 : x1 = kCh i 0) (e2 : x2 = kCh i 1) (e3 : x3 = kCh i 2) (e4 : (x4 = 0 ∧ kLn i = 3) ∨ (¬ x4 = 0 ∧ kLn i = 4 ∧ x4 = kCh i 3)) : Cn G m_X11_isWordAt d [.ref m, .int x1, .int x2, .int x3, .int x4] X M (fun M2 r => M2 = M ∧ (isT c k i → r = 1) ∧ (¬ isT c k i → r = 0)) := by
  have n96 := hB.2.1
  have l4 := kLn_le (i := i) (by omega)
  have l3 := kLn_3 hi
  have ke := hT.2.2.1
  have s1 : isT c k i → kS k = 1 := fun h => isT_1 (by omega) hT (fun j hj => (hB.2.2 j hj).2) h
  have no : ¬ isT c k i → M = M ∧ (isT c k i → (0 : Int32) = 1) ∧ (¬ isT c k i → (0 : Int32) = 0) := fun y => ⟨rfl, fun z => absurd z y, fun _ => rfl⟩
  have ys : isT c k i → M = M ∧ (isT c k i → (1 : Int32) = 1) ∧ (¬ isT c k i → (1 : Int32) = 0) := fun y => ⟨rfl, fun _ => rfl, fun z => absurd y z⟩
  refine Cn.of (by decide) (Nat.le_of_ble_eq_true rfl) (bX11_isWordAt_0 hM ?_)
  intro v3 ev3
  have ev : v3 = nI (kLn i) := by
    rcases e4 with ⟨z, l⟩ | ⟨z, l, _⟩
    · rw [ev3, if_pos z, l]
      rfl
    · rw [ev3, if_neg z, l]
      rfl
  rw [hR.2.2.1]
  refine ⟨fun q => no (fun h => q ?_), fun q => ?_⟩
  · rw [rtok_1 (s1 h), if_neg (by omega)]
    rfl
  · have rl := rtok_le k
    have l1 := rtok_is1 ((nI_inj (b := 1) (by omega) (by omega)).mp q)
    have lt := hT.2.2.2.2.1 (by omega)
    rw [hR.1, hR.2.1, nI_subI _ _ (by omega), ev]
    refine ⟨fun q2 => no (fun h => q2 (congrArg nI h.1)), fun q2 => ?_⟩
    have len := (nI_inj (by omega) (by omega)).mp q2
    have b0 := (hB.2.2 (kB k) (by omega)).1
    have b1 := (hB.2.2 (kB k + 1) (by omega)).1
    have b2 := (hB.2.2 (kB k + 2) (by omega)).1
    refine ⟨kB k, rfl, by omega, fun q3 => no (fun h => q3 ?_), fun q3 => ⟨kB k + 1, nI_1 _, by omega, fun q4 => no (fun h => q4 ?_), fun q4 => ⟨kB k + 2, by rw [n_lit 2, nI_add], by omega, fun q5 => no (fun h => q5 ?_), fun q5 => ⟨fun q6 => ys ?_, fun q6 => ?_⟩⟩⟩⟩
    · rw [b0, e1]
      exact h.2 0 (by omega)
    · rw [b1, e2]
      exact h.2 1 (by omega)
    · rw [b2, e3]
      exact h.2 2 (by omega)
    · have k3 : kLn i = 3 := by
        rcases e4 with y | y
        · exact y.2
        · exact absurd q6 y.1
      refine ⟨len, fun j hj => ?_⟩
      rw [k3] at hj
      match j, hj with
      | 0, _ => exact b0.symm.trans (q3.trans e1)
      | 1, _ => exact b1.symm.trans (q4.trans e2)
      | 2, _ => exact b2.symm.trans (q5.trans e3)
    · obtain ⟨k4, ex4⟩ : kLn i = 4 ∧ x4 = kCh i 3 := by
        rcases e4 with y | y
        · exact absurd y.1 q6
        · exact y.2
      have b3 := (hB.2.2 (kB k + 3) (by omega)).1
      refine ⟨kB k + 3, by rw [n_lit 3, nI_add], by omega, ?_⟩
      by_cases y : mI M (m + 17) (kB k + 3) = x4
      · rw [if_pos y]
        refine ys ⟨len, fun j hj => ?_⟩
        rw [k4] at hj
        match j, hj with
        | 0, _ => exact b0.symm.trans (q3.trans e1)
        | 1, _ => exact b1.symm.trans (q4.trans e2)
        | 2, _ => exact b2.symm.trans (q5.trans e3)
        | 3, _ => exact b3.symm.trans (y.trans ex4)
      · rw [if_neg y]
        refine no (fun h => y ?_)
        rw [b3, ex4]
        exact h.2 3 (by omega)
theorem kZ_1 (c : Nat → Nat) (n : Nat) : kZ (tnext c n k00) = 0 := by
  show (if (kS k00 = 1 ∨ kS k00 = 2) ∧ tbeg c n k00 = kE k00 then 1 else 0) = 0
  refine if_neg (fun y => ?_)
  rcases y.1 with z | z
  · exact absurd z (by decide)
  · exact absurd z (by decide)
theorem isT_01 {c : Nat → Nat} {k : Tk} (h : isT c k 0) : ¬ isT c k 1 := fun h2 => absurd (h.1.symm.trans h2.1) (by decide)
theorem isT_02 {c : Nat → Nat} {k : Tk} (h : isT c k 0) : ¬ isT c k 2 := fun h2 => absurd ((h.2 0 (by decide)).symm.trans (h2.2 0 (by decide))) (by decide)
theorem isT_12 {c : Nat → Nat} {k : Tk} (h : isT c k 1) : ¬ isT c k 2 := fun h2 => absurd (h.1.symm.trans h2.1) (by decide)
def okey : Option Nat → Int32
  | some key => nI key
  | none => -1
theorem NxF.refl (m : Nat) (M : Mm) : NxF m M M := ⟨fun _ _ => rfl, fun _ _ => rfl, rfl⟩
theorem cp_X11_key (G : Gl) (d : Nat) (hd : 3 ≤ d) (X : Sh) (M : Mm) (m n : Nat) (c : Nat → Nat) (k : Tk) (o : Option Nat) (hM : Sh10 X m) (hB : BY M m c n) (hR : RT M m c (tnext c n k00)) (hH : Head c n k o) : Cn G m_X11_key d [.ref m] X M (fun M2 r => RT M2 m c k ∧ NxF m M M2 ∧ r = okey o) := by
  obtain ⟨d, rfl⟩ : ∃ d1, d = d1 + 1 := ⟨d - 1, by omega⟩
  obtain ⟨T1, T2⟩ := TV.two c n
  have n96 := hB.2.1
  have hcc : ∀ j, j < n → c j ≤ 255 := fun j hj => (hB.2.2 j hj).2
  refine Cn.of (by decide) (Nat.le_of_ble_eq_true rfl) (bX11_key_0 hM ⟨_, cp_X11_isWordAt G d X M m n 1 c (tnext c n k00) 103 97 115 0 hM hB T1 hR (kZ_1 c n) (by omega) rfl rfl rfl (Or.inl ⟨rfl, rfl⟩), ?_⟩)
  rintro M3 r4 ⟨e, y1, y0⟩
  have e := e.symm
  subst e
  by_cases i1 : isT c (tnext c n k00) 1
  · refine ⟨fun q => absurd q (by rw [y1 i1]; decide), fun _ => ?_⟩
    rcases hH with ⟨i0, _⟩ | ⟨_, _, rfl, rfl⟩ | ⟨_, n1, _⟩ | ⟨_, n1, _⟩
    · exact absurd i1 (isT_01 i0)
    · exact ⟨hR, NxF.refl _ _, rfl⟩
    · exact absurd i1 n1
    · exact absurd i1 n1
  refine ⟨fun _ => ?_, fun q => absurd (y0 i1) q⟩
  refine ⟨_, cp_X11_isWordAt G d X M m n 2 c (tnext c n k00) 108 97 116 101 hM hB T1 hR (kZ_1 c n) (by omega) rfl rfl rfl (Or.inr ⟨by decide, rfl, rfl⟩), ?_⟩
  rintro M9 r10 ⟨e, z1, z0⟩
  have e := e.symm
  subst e
  by_cases i2 : isT c (tnext c n k00) 2
  · refine ⟨fun q => absurd q (by rw [z1 i2]; decide), fun _ => ?_⟩
    rcases hH with ⟨i0, _⟩ | ⟨_, i1b, _⟩ | ⟨_, _, _, rfl, rfl⟩ | ⟨_, _, n2, _⟩
    · exact absurd i2 (isT_02 i0)
    · exact absurd i1b i1
    · exact ⟨hR, NxF.refl _ _, rfl⟩
    · exact absurd i2 n2
  refine ⟨fun _ => ?_, fun q => absurd (z0 i2) q⟩
  refine ⟨_, cp_X11_isWordAt G d X M m n 0 c (tnext c n k00) 100 114 97 119 hM hB T1 hR (kZ_1 c n) (by omega) rfl rfl rfl (Or.inr ⟨by decide, rfl, rfl⟩), ?_⟩
  rintro M15 r16 ⟨e, w1, w0⟩
  have e := e.symm
  subst e
  by_cases i0 : isT c (tnext c n k00) 0
  · refine ⟨fun _ => ?_, fun q => absurd q (by rw [w1 i0]; decide)⟩
    have sk := isT_1 (by omega) T1 hcc i0
    have r4n : ¬ rtok (tnext c n k00) = 4 := by
      rw [rtok_1 sk, kZ_1]
      decide
    refine ⟨_, cp_X11_next G d (by omega) X M m n c (tnext c n k00) hM hB T1.2.2.1 hR.2.1 (hz_of n96 T1 hR r4n), ?_⟩
    rintro M21 ⟨R2, F2⟩
    rcases hH with ⟨_, rfl, hH⟩ | ⟨n0, _⟩ | ⟨n0, _⟩ | ⟨n0, _⟩
    · refine ⟨R2, F2, ?_⟩
      have s3 := T2.2.2.2.2.2.2.1
      have zz := T2.2.2.2.2.2.2.2
      have rl := rtok_le (tnext c n (tnext c n k00))
      rw [R2.2.2.1]
      by_cases y : rtok (tnext c n (tnext c n k00)) = 2
      · obtain ⟨s2, nz⟩ := rtok_is2 s3 y
        have n23 := R2.2.2.2.1 y
        have dg := T2.2.2.2.2.2.1 s2
        have l4 : kE (tnext c n (tnext c n k00)) - kB (tnext c n (tnext c n k00)) ≤ 4 := by omega
        have le := tnum_le (c := c) (b := kB (tnext c n (tnext c n k00))) l4 (fun i i1 i2 => dg i i1 (by omega))
        rw [y, if_pos (show nI 2 = (2 : Int32) from rfl), n23]
        by_cases l6 : tnum c (kB (tnext c n (tnext c n k00))) (kE (tnext c n (tnext c n k00)) - kB (tnext c n (tnext c n k00))) < 6
        · have q6 : ¬ (6 : Int32) ≤ nI (tnum c (kB (tnext c n (tnext c n k00))) (kE (tnext c n (tnext c n k00)) - kB (tnext c n (tnext c n k00)))) := fun u => by
            have := (nI_leI (a := 6) (by omega) (by omega)).mp u
            omega
          rw [if_neg q6]
          rcases hH with ⟨_, _, _, _, h⟩ | ⟨h, _⟩
          · rw [h]
            rfl
          · exact absurd ⟨s2, by omega, l4, l6⟩ h
        · have q6 : (6 : Int32) ≤ nI (tnum c (kB (tnext c n (tnext c n k00))) (kE (tnext c n (tnext c n k00)) - kB (tnext c n (tnext c n k00)))) := (nI_leI (a := 6) (by omega) (by omega)).mpr (by omega)
          rw [if_pos q6]
          rcases hH with ⟨_, _, _, h, _⟩ | ⟨_, h⟩
          · exact absurd h l6
          · rw [h]
            rfl
      · have q2 : ¬ nI (rtok (tnext c n (tnext c n k00))) = (2 : Int32) := fun u => y ((nI_inj (b := 2) (by omega) (by omega)).mp u)
        rw [if_neg q2]
        rcases hH with ⟨h1, h2, h3, _, _⟩ | ⟨_, h⟩
        · exfalso
          rw [rtok_2 h1, if_neg (by omega)] at y
          exact y rfl
        · rw [h]
          rfl
    · exact absurd i0 n0
    · exact absurd i0 n0
    · exact absurd i0 n0
  refine ⟨fun q => absurd (w0 i0) q, fun _ => ?_⟩
  rcases hH with ⟨i0b, _⟩ | ⟨_, i1b, _⟩ | ⟨_, _, i2b, _⟩ | ⟨_, _, _, rfl, rfl⟩
  · exact absurd i0b i0
  · exact absurd i1b i1
  · exact absurd i2b i2
  · exact ⟨hR, NxF.refl _ _, rfl⟩
theorem Head.rt {c : Nat → Nat} {n key : Nat} {k : Tk} (h : Head c n k (some key)) (hc : ∀ j, j < n → c j ≤ 255) : ¬ rtok k = 4 := by
  obtain ⟨T1, T2⟩ := TV.two c n
  rcases h with ⟨_, rfl, h⟩ | ⟨_, i, rfl, _⟩ | ⟨_, _, i, rfl, _⟩ | ⟨_, _, _, _, h⟩
  · rcases h with ⟨h1, h2, h3, _, _⟩ | ⟨_, h⟩
    · rw [rtok_2 h1, if_neg (by omega)]
      decide
    · cases h
  · rw [rtok_1 (isT_1 (by omega) T1 hc i), kZ_1]
    decide
  · rw [rtok_1 (isT_1 (by omega) T1 hc i), kZ_1]
    decide
  · cases h
def FP (m B : Nat) (M M2 : Mm) : Prop := (∀ b, b ≠ m → b ≠ m + 1 → mI M2 b = mI M b) ∧ (∀ j, j < 19 ∨ 29 < j → mI M2 m j = mI M m j) ∧ mI M2 m 19 = 0 ∧ (∀ k, k < B ∨ B + 192 ≤ k → mI M2 (m + 1) k = mI M (m + 1) k) ∧ mR M2 = mR M
def Done (s2 : Tk × Bd) : Prop := kS s2.1 = 0 ∧ s2.2.1 = false ∧ s2.2.2.2.2.1 = 0
def PRes (c : Nat → Nat) (n m B : Nat) (k : Tk) (o : Option Nat) (M M2 : Mm) (r : Int32) : Prop := FP m B M M2 ∧
  ((o = none ∧ r = -1 ∧ mI M2 m 20 = nI (kB k)) ∨ (∃ (key : Nat) (s2 : Tk × Bd), o = some key ∧ Runs c n key (tnext c n k, true, [], [], 0, 0, 0) s2 ∧ ((Stuck c key s2 ∧ r = -1 ∧ mI M2 m 20 = nI (kB s2.1)) ∨ (Done s2 ∧ r = nI key ∧ ∃ O, fl 1 true s2.2.2.1 s2.2.2.2.1 = ([], O) ∧ mI M2 m 27 = nI O.length ∧ RwIs (mI M2 (m + 1)) B O ∧ mI M2 m 29 = nI s2.2.2.2.2.2.2 ∧ AOK key O ∧ dpO O = some 1 ∧ O.length ≤ 96))))
theorem FX.fp {m B : Nat} {M M1 M2 : Mm} (h : FX m B M M1) (e : M2 = sI M1 m 19 0) : FP m B M M2 := ⟨fun b h1 h2 => by rw [e, mI_sI, up2_off _ _ _ h1, h.1 b h1 h2], fun j hj => by rw [e, mI_sI, up2_k _ _ _ (by omega), h.2.1 j (by omega)], by rw [e, mI_sI, up2_same], fun k hk => by rw [e, mI_sI, up2_off _ _ _ (by omega), h.2.2.1 k hk], by rw [e]; exact h.2.2.2⟩
theorem parse_cont (G : Gl) (d : Nat) (hd : 64 ≤ d) {X : Sh} {m n B : Nat} {c : Nat → Nat} {k : Tk} {o : Option Nat} {Q : Mm → Int32 → Prop} (hM : Sh10 X m) (hH : Head c n k o) (hb192 : B + 192 ≤ 2950) (M0 M8 : Mm) (hF : FX m B M0 M8) (hB : BY M8 m c n) (h21 : mI M8 m 21 = 0) (h25 : mI M8 m 25 = 0) (h26 : mI M8 m 26 = 0) (h27 : mI M8 m 27 = 0) (h28 : mI M8 m 28 = nI B) (h29 : mI M8 m 29 = 0) (hq : ∀ M2 r, PRes c n m B k o M0 M2 r → Q M2 r) : (∃ q9 : Mm → Prop, Cv G m_X11_next d [.ref m] X M8 q9 ∧ ∀ M11, q9 M11 → (∃ q13 : Mm → Int32 → Prop, Cn G m_X11_key d [.ref m] X M11 q13 ∧ ∀ M15 r16, q13 M15 r16 → (∀ v20 : Int32, v20 = (if ¬ (r16 < 0) then 1 else 0) → ((v20 = 0 → (∀ M22 : Mm, M22 = sI M15 m 19 0 → Q M22 (if v20 = 0 then (-1) else r16))) ∧ (¬ (v20 = 0) → (∃ q25 : Mm → Prop, Cv G m_X11_next d [.ref m] X M15 q25 ∧ ∀ M27, q25 M27 → (∃ q29 : Mm → Int32 → Prop, Cn G m_X11_either d [.ref m, .int r16] X M27 q29 ∧ ∀ M31 r32, q29 M31 r32 → (∀ v37 : Int32, v37 = (if ((¬ (r32 = 0)) ∧ ((mI M31 m 22) = 0)) then 1 else 0) → (∀ M38 : Mm, M38 = sI M31 m 19 0 → Q M38 (if v37 = 0 then (-1) else r16)))))))))) := by
  have n96 := hB.2.1
  have hcc : ∀ j, j < n → c j ≤ 255 := fun j hj => (hB.2.2 j hj).2
  refine ⟨_, cp_X11_next G d (by omega) X M8 m n c k00 hM hB (Nat.zero_le _) h21 ⟨fun y => absurd (by rw [h21]; exact Int32.le_refl _) y.1, fun y => ?_⟩, ?_⟩
  · exfalso
    rcases y with z | z
    · exact absurd z (by decide)
    · exact absurd z (by decide)
  rintro M11 ⟨R1, F1⟩
  refine ⟨_, cp_X11_key G d (by omega) X M11 m n c k o hM (F1.by hB) R1 hH, ?_⟩
  rintro M15 r16 ⟨R2, F2, rfl⟩
  have X2 : FX m B M0 M15 := hF.trans ((F1.fx B).trans (F2.fx B))
  have w : ∀ j, 24 < j → mI M15 m j = mI M8 m j := fun j hj => by rw [F2.2.1 j (by omega), F1.2.1 j (by omega)]
  intro v20 e20
  cases o with
  | none =>
    have e20 : v20 = 0 := e20
    subst e20
    refine ⟨fun _ M22 e22 => hq _ _ ⟨X2.fp e22, Or.inl ⟨rfl, rfl, ?_⟩⟩, fun y => absurd rfl y⟩
    rw [e22, mI_sI, up2_k _ _ _ (by omega)]
    exact R2.1
  | some key =>
    have hk := hH.key
    have e20 : v20 = 1 := e20.trans (if_pos (show ¬ nI key < 0 from nI_pos (by omega)))
    subst e20
    refine ⟨fun y => absurd y (by decide), fun _ => ?_⟩
    have B2 := F2.by (F1.by hB)
    have S2 : RS M15 m c n B k [] 0 0 0 := ⟨B2, R2, by rw [w 25 (by omega), h25]; rfl, by rw [w 26 (by omega), h26]; rfl, by rw [w 27 (by omega), h27]; rfl, by rw [w 28 (by omega), h28], by rw [w 29 (by omega), h29]; rfl, fun i hi => absurd hi (Nat.not_lt_zero i)⟩
    refine ⟨_, S2.next (G := G) (by omega) hM hH.tv (hH.rt hcc), ?_⟩
    rintro M27 ⟨S3, F3⟩
    have T3 := (TV.next (c := c) hH.tv.2.2.1).1
    refine ⟨_, (gram hM hb192 n).2 d M27 (tnext c n k) [] [] 0 0 0 (by unfold dreq; omega) S3 T3 (Nat.zero_le _) (Nat.zero_lt_one) (fun y => y) (fun it hit => by cases hit) (Nat.zero_le _) (Nat.zero_le _) (Nat.sub_le _ _), ?_⟩
    rintro M31 r32 ⟨F4, h4⟩
    have X4 := X2.trans (F3.trans F4)
    intro v37 e37 M38 e38
    rcases h4 with ⟨rfl, k2, P, O2, np2, hRun, S4, hP, hFo, hA, hdp⟩ | ⟨rfl, s2, hRun, hSt, h20⟩
    · have inv := hRun.inv T3 (Nat.zero_le _)
      have T4 := inv.1
      have len : (P ++ []).length + O2.length ≤ kB k2 := inv.2.1
      have s3 := T4.2.2.2.2.2.2.1
      have kn := T4.2.1
      have hf : fl 1 true (P ++ []) O2 = ([], O2 ++ sgs P) := fl_all (fun p hp => by
        have := hP p hp
        by_cases y : rk p = 1
        · exact Or.inr ⟨rfl, y⟩
        · exact Or.inl (by omega)) (Or.inr rfl)
      by_cases z : kS k2 = 0
      · have z22 : mI M31 m 22 = 0 := by
          rw [S4.2.1.2.2.1, rtok_0 z]
          rfl
        rw [if_pos ⟨by decide, z22⟩] at e37
        subst e37
        rw [if_neg (by decide)]
        refine hq _ _ ⟨X4.fp e38, Or.inr ⟨key, (k2, false, P ++ [], O2, 0, 0, np2), rfl, hRun, Or.inr ⟨⟨z, rfl, rfl⟩, rfl, O2 ++ sgs P, hf, ?_, ?_, ?_, hA, hdp 0 rfl, ?_⟩⟩⟩
        · rw [e38, mI_sI, up2_k _ _ _ (by omega)]
          exact S4.2.2.2.2.1
        · rw [e38, mI_sI, up2_off _ _ _ (by omega)]
          exact S4.2.2.2.2.2.2.2
        · rw [e38, mI_sI, up2_k _ _ _ (by omega)]
          exact S4.2.2.2.2.2.2.1
        · rw [List.length_append, sgs_len]
          rw [List.append_nil] at len
          have : kB k2 ≤ n := kn
          omega
      · have z22 : ¬ mI M31 m 22 = 0 := fun y => z (by
          have rl := rtok_le k2
          rw [S4.2.1.2.2.1] at y
          have := (nI_inj (b := 0) (by omega) (by omega)).mp y
          unfold rtok at this
          repeat' split at this
          all_goals omega)
        rw [if_neg (fun y => z22 y.2)] at e37
        subst e37
        rw [if_pos rfl]
        refine hq _ _ ⟨X4.fp e38, Or.inr ⟨key, (k2, false, P ++ [], O2, 0, 0, np2), rfl, hRun, Or.inl ⟨stuck_here hFo (fun y => absurd y z) (fun _ _ => rfl), rfl, ?_⟩⟩⟩
        rw [e38, mI_sI, up2_k _ _ _ (by omega)]
        exact S4.2.1.1
    · rw [if_neg (fun y => y.1 rfl)] at e37
      subst e37
      rw [if_pos rfl]
      refine hq _ _ ⟨X4.fp e38, Or.inr ⟨key, s2, rfl, hRun, Or.inl ⟨hSt, rfl, ?_⟩⟩⟩
      rw [e38, mI_sI, up2_k _ _ _ (by omega)]
      exact h20
/-- where the reference lays a text, nx being there -/
def lay0 (nx : Nat) : Nat := if 12 ≤ nx then 2750 else 344 + 200 * nx
theorem cp_X11_parse (G : Gl) (d : Nat) (hd : 65 ≤ d) (X : Sh) (M : Mm) (m n nx : Nat) (c : Nat → Nat) (k : Tk) (o : Option Nat) (hM : Sh10 X m) (hB : BY M m c n) (hH : Head c n k o) (h2 : mI M (m + 1) 2 = nI nx) (hnx : nx ≤ 12) : Cn G m_X11_parse d [.ref m] X M (PRes c n m (lay0 nx) k o M) := by
  obtain ⟨d, rfl⟩ : ∃ d1, d = d1 + 1 := ⟨d - 1, by omega⟩
  refine Cn.of (by decide) (Nat.le_of_ble_eq_true rfl) (bX11_parse_0 hM ?_)
  intro M1 e1 M2 e2 M3 e3 M4 e4 M5 e5 M6 e6
  have fx : ∀ {B j : Nat} {v : Int32} {M M2 : Mm}, 20 ≤ j ∧ j ≤ 29 → M2 = sI M m j v → FX m B M M2 := fun hj e => FX.set hj e
  have F6 : ∀ B, FX m B M M6 := fun B => (fx (by omega) e1).trans ((fx (by omega) e2).trans ((fx (by omega) e3).trans ((fx (by omega) e4).trans ((fx (by omega) e5).trans (fx (by omega) e6)))))
  have s6 : mI M6 (m + 1) 2 = nI nx := by rw [e6, mI_sI, up2_off _ _ _ (by omega), e5, mI_sI, up2_off _ _ _ (by omega), e4, mI_sI, up2_off _ _ _ (by omega), e3, mI_sI, up2_off _ _ _ (by omega), e2, mI_sI, up2_off _ _ _ (by omega), e1, mI_sI, up2_off _ _ _ (by omega), h2]
  have z21 : mI M6 m 21 = 0 := by rw [e6, mI_sI, up2_k _ _ _ (by omega), e5, mI_sI, up2_k _ _ _ (by omega), e4, mI_sI, up2_k _ _ _ (by omega), e3, mI_sI, up2_k _ _ _ (by omega), e2, mI_sI, up2_k _ _ _ (by omega), e1, mI_sI, up2_same]
  have z25 : mI M6 m 25 = 0 := by rw [e6, mI_sI, up2_k _ _ _ (by omega), e5, mI_sI, up2_k _ _ _ (by omega), e4, mI_sI, up2_k _ _ _ (by omega), e3, mI_sI, up2_same]
  have z26 : mI M6 m 26 = 0 := by rw [e6, mI_sI, up2_k _ _ _ (by omega), e5, mI_sI, up2_k _ _ _ (by omega), e4, mI_sI, up2_same]
  have z27 : mI M6 m 27 = 0 := by rw [e6, mI_sI, up2_k _ _ _ (by omega), e5, mI_sI, up2_same]
  have z29 : mI M6 m 29 = 0 := by rw [e6, mI_sI, up2_same]
  have go : ∀ (M8 : Mm) (v : Int32), M8 = sI M6 m 28 v → v = nI (lay0 nx) → FX m (lay0 nx) M M8 ∧ BY M8 m c n ∧ mI M8 m 21 = 0 ∧ mI M8 m 25 = 0 ∧ mI M8 m 26 = 0 ∧ mI M8 m 27 = 0 ∧ mI M8 m 28 = nI (lay0 nx) ∧ mI M8 m 29 = 0 := by
    intro M8 v e8 ev
    have F8 : FX m (lay0 nx) M M8 := (F6 _).trans (fx (by omega) e8)
    refine ⟨F8, ⟨by rw [F8.2.1 19 (by omega)]; exact hB.1, hB.2.1, fun i hi => by rw [F8.1 (m + 17) (by omega) (by omega)]; exact hB.2.2 i hi⟩, ?_, ?_, ?_, ?_, ?_, ?_⟩
    · rw [e8, mI_sI, up2_k _ _ _ (by omega), z21]
    · rw [e8, mI_sI, up2_k _ _ _ (by omega), z25]
    · rw [e8, mI_sI, up2_k _ _ _ (by omega), z26]
    · rw [e8, mI_sI, up2_k _ _ _ (by omega), z27]
    · rw [e8, mI_sI, up2_same, ev]
    · rw [e8, mI_sI, up2_k _ _ _ (by omega), z29]
  rw [s6]
  refine ⟨fun q M8 e8 => ?_, fun q M8 e8 => ?_⟩
  · have y := (nI_leI (a := 12) (by omega) (by omega)).mp q
    have el : lay0 nx = 2750 := if_pos y
    obtain ⟨g1, g2, g3, g4, g5, g6, g7, g8⟩ := go M8 _ e8 (by rw [el]; rfl)
    exact parse_cont G d (by omega) hM hH (by omega) M M8 g1 g2 g3 g4 g5 g6 g7 g8 (fun M2 r h => h)
  · have y : ¬ 12 ≤ nx := fun z => q ((nI_leI (a := 12) (by omega) (by omega)).mpr z)
    have el : lay0 nx = 344 + 200 * nx := if_neg y
    obtain ⟨g1, g2, g3, g4, g5, g6, g7, g8⟩ := go M8 _ e8 (by
      rw [el, n_lit 340, n_lit 200, pk_mul, nI_add, n_lit 4, nI_add]
      exact congrArg nI (by omega))
    exact parse_cont G d (by omega) hM hH (by omega) M M8 g1 g2 g3 g4 g5 g6 g7 g8 (fun M2 r h => h)
