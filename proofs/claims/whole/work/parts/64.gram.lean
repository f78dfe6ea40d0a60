/-! the reference's grammar against the class's automaton -/
theorem bX11_part0_0 {G : Gl} {d : Nat} {X : Sh} {M : Mm} {Q : Mm → Int32 → Prop} {a : Nat} {x1 : Int32} (hS : Sh10 X a) (h : ((¬ ((mI M a 22) = 2) → ((¬ ((mI M a 22) = 1) → Wn G m_X11_part0 (d + 1) 84 [(0, .ref a), (1, .int x1)] [] X M Q) ∧ ((mI M a 22) = 1 → (((mI M a 24) = 0 → Wn G m_X11_part0 (d + 1) 84 [(0, .ref a), (1, .int x1)] [] X M Q) ∧ (¬ ((mI M a 24) = 0) → ((¬ (p_isName x1 (mI M a 24)) → Wn G m_X11_part0 (d + 1) 84 [(0, .ref a), (1, .int x1)] [] X M Q) ∧ (p_isName x1 (mI M a 24) → (∃ q5 : Mm → Prop, Cv G m_X11_step d [.ref a, .int 1, .int ((mI M a 24))] X M q5 ∧ ∀ M7, q5 M7 → (∀ M9 : Mm, M9 = sI M7 a 29 ((mI M7 a 29) + 1) → (∃ q10 : Mm → Prop, Cv G m_X11_next d [.ref a] X M9 q10 ∧ ∀ M12, q10 M12 → Q M12 1)))))))))) ∧ ((mI M a 22) = 2 → (∃ q14 : Mm → Prop, Cv G m_X11_step d [.ref a, .int 0, .int ((mI M a 23))] X M q14 ∧ ∀ M16, q14 M16 → (∀ M18 : Mm, M18 = sI M16 a 29 ((mI M16 a 29) + 1) → (∃ q19 : Mm → Prop, Cv G m_X11_next d [.ref a] X M18 q19 ∧ ∀ M21, q19 M21 → Q M21 1)))))) : Wn G m_X11_part0 (d + 1) 0 [(0, .ref a), (1, .int x1)] [] X M Q := by
  refine wp_aload_n 0 dX11_part0_0 rfl rfl ?_
  refine wp_getI dX11_part0_1 fl_RX11_233 rfl (sh10_K hS) ?_
  refine wp_iconst (v := 2) dX11_part0_4 rfl ?_
  refine wp_icmp_ne (tgt := 33) dX11_part0_5 (by decide) (fun c1 => ?_) (fun c1 => ?_)
  · replace h := h.1 c1
    refine wp_aload_n 0 dX11_part0_33 rfl rfl ?_
    refine wp_getI dX11_part0_34 fl_RX11_233 rfl (sh10_K hS) ?_
    refine wp_iconst (v := 1) dX11_part0_37 rfl ?_
    refine wp_icmp_ne (tgt := 84) dX11_part0_38 (by decide) (fun c2 => ?_) (fun c2 => ?_)
    · replace h := h.1 c2
      exact Wp.sub [0, 1] rfl h
    · replace h := h.2 c2
      refine wp_aload_n 0 dX11_part0_41 rfl rfl ?_
      refine wp_getI dX11_part0_42 fl_RX11_242 rfl (sh10_K hS) ?_
      refine wp_if_eq (tgt := 84) dX11_part0_45 (by decide) (fun c3 => ?_) (fun c3 => ?_)
      · replace h := h.1 c3
        exact Wp.sub [0, 1] rfl h
      · replace h := h.2 c3
        refine wp_iload_n 1 dX11_part0_48 rfl rfl ?_
        refine wp_aload_n 0 dX11_part0_49 rfl rfl ?_
        refine wp_getI dX11_part0_50 fl_RX11_242 rfl (sh10_K hS) ?_
        refine wp_csip dX11_part0_53 ck_RX11_288 rfl (as := [.int x1, .int ((mI M a 24))]) rfl rfl (Nat.le_of_ble_eq_true rfl) (cp_X11_isName G d X M x1 (mI M a 24)) ?_
        refine wp_ifB_eq (inferInstance) (tgt := 84) dX11_part0_56 (by decide) (fun c4 => ?_) (fun c4 => ?_)
        · replace h := h.1 c4
          exact Wp.sub [0, 1] rfl h
        · replace h := h.2 c4
          refine wp_aload_n 0 dX11_part0_59 rfl rfl ?_
          refine wp_iconst (v := 1) dX11_part0_60 rfl ?_
          refine wp_aload_n 0 dX11_part0_61 rfl rfl ?_
          refine wp_getI dX11_part0_62 fl_RX11_242 rfl (sh10_K hS) ?_
          obtain ⟨q5, o6, h⟩ := h
          refine wp_cvv dX11_part0_65 ck_RX11_270 (sh10_K hS) (as := [.int 1, .int ((mI M a 24))]) rfl rfl (Nat.le_of_ble_eq_true rfl) o6 (fun M7 o8 => ?_)
          replace h := h M7 o8
          refine wp_aload_n 0 dX11_part0_68 rfl rfl ?_
          refine wp_dup dX11_part0_69 rfl ?_
          refine wp_getI dX11_part0_70 fl_RX11_285 rfl (sh10_K hS) ?_
          refine wp_iconst (v := 1) dX11_part0_73 rfl ?_
          refine wp_iadd dX11_part0_74 ?_
          refine wp_putI dX11_part0_75 fp_RX11_285 rfl (sh10_K hS) ?_
          refine wp_nm (fun M9 eM9 => ?_)
          replace h := h M9 eM9
          refine wp_aload_n 0 dX11_part0_78 rfl rfl ?_
          obtain ⟨q10, o11, h⟩ := h
          refine wp_cvv dX11_part0_79 ck_RX11_255 (sh10_K hS) (as := []) rfl rfl (Nat.le_of_ble_eq_true rfl) o11 (fun M12 o13 => ?_)
          replace h := h M12 o13
          refine wp_iconst (v := 1) dX11_part0_82 rfl ?_
          exact wn_zret dX11_part0_83 rfl (Or.inr rfl) h
  · replace h := h.2 c1
    refine wp_aload_n 0 dX11_part0_8 rfl rfl ?_
    refine wp_iconst (v := 0) dX11_part0_9 rfl ?_
    refine wp_aload_n 0 dX11_part0_10 rfl rfl ?_
    refine wp_getI dX11_part0_11 fl_RX11_248 rfl (sh10_K hS) ?_
    obtain ⟨q14, o15, h⟩ := h
    refine wp_cvv dX11_part0_14 ck_RX11_270 (sh10_K hS) (as := [.int 0, .int ((mI M a 23))]) rfl rfl (Nat.le_of_ble_eq_true rfl) o15 (fun M16 o17 => ?_)
    replace h := h M16 o17
    refine wp_aload_n 0 dX11_part0_17 rfl rfl ?_
    refine wp_dup dX11_part0_18 rfl ?_
    refine wp_getI dX11_part0_19 fl_RX11_285 rfl (sh10_K hS) ?_
    refine wp_iconst (v := 1) dX11_part0_22 rfl ?_
    refine wp_iadd dX11_part0_23 ?_
    refine wp_putI dX11_part0_24 fp_RX11_285 rfl (sh10_K hS) ?_
    refine wp_nm (fun M18 eM18 => ?_)
    replace h := h M18 eM18
    refine wp_aload_n 0 dX11_part0_27 rfl rfl ?_
    obtain ⟨q19, o20, h⟩ := h
    refine wp_cvv dX11_part0_28 ck_RX11_255 (sh10_K hS) (as := []) rfl rfl (Nat.le_of_ble_eq_true rfl) o20 (fun M21 o22 => ?_)
    replace h := h M21 o22
    refine wp_iconst (v := 1) dX11_part0_31 rfl ?_
    exact wn_zret dX11_part0_32 rfl (Or.inr rfl) h
theorem bX11_part0_84 {G : Gl} {d : Nat} {X : Sh} {M : Mm} {Q : Mm → Int32 → Prop} {a : Nat} {x1 : Int32} (hS : Sh10 X a) (h : ((¬ (mI M a 22 = 3 ∧ mI M a 24 = 33) → Wn G m_X11_part0 (d + 1) 145 [(0, .ref a), (1, .int x1)] [] X M Q) ∧ (mI M a 22 = 3 ∧ mI M a 24 = 33 → ((8 ≤ (mI M a 26) → Wn G m_X11_part0 (d + 1) 145 [(0, .ref a), (1, .int x1)] [] X M Q) ∧ (¬ (8 ≤ (mI M a 26)) → (∀ M3 : Mm, M3 = sI M a 26 ((mI M a 26) + 1) → (∃ q4 : Mm → Prop, Cv G m_X11_next d [.ref a] X M3 q4 ∧ ∀ M6, q4 M6 → (∃ q8 : Mm → Int32 → Prop, Cn G m_X11_part0 d [.ref a, .int x1] X M6 q8 ∧ ∀ M10 r11, q8 M10 r11 → ((¬ (r11 = 0) → (∀ M14 : Mm, M14 = sI M10 a 26 ((mI M10 a 26) - 1) → (∃ q15 : Mm → Prop, Cv G m_X11_step d [.ref a, .int 2, .int 33] X M14 q15 ∧ ∀ M17, q15 M17 → Q M17 1))) ∧ (r11 = 0 → Q M10 0)))))))))) : Wn G m_X11_part0 (d + 1) 84 [(0, .ref a), (1, .int x1)] [] X M Q := by
  refine wp_aload_n 0 dX11_part0_84 rfl rfl ?_
  refine wp_bipush (v := 33) dX11_part0_85 rfl ?_
  refine wp_cvip dX11_part0_87 ck_RX11_267 (sh10_K hS) (as := [.int 33]) rfl rfl (Nat.le_of_ble_eq_true rfl) (cp_X11_isSign G d X M a 33 hS) ?_
  refine wp_ifB_eq (inferInstance) (tgt := 145) dX11_part0_90 (by decide) (fun c1 => ?_) (fun c1 => ?_)
  · replace h := h.1 c1
    exact Wp.sub [0, 1] rfl h
  · replace h := h.2 c1
    refine wp_aload_n 0 dX11_part0_93 rfl rfl ?_
    refine wp_getI dX11_part0_94 fl_RX11_291 rfl (sh10_K hS) ?_
    refine wp_bipush (v := 8) dX11_part0_97 rfl ?_
    refine wp_icmp_ge (tgt := 145) dX11_part0_99 (by decide) (fun c2 => ?_) (fun c2 => ?_)
    · replace h := h.1 c2
      exact Wp.sub [0, 1] rfl h
    · replace h := h.2 c2
      refine wp_aload_n 0 dX11_part0_102 rfl rfl ?_
      refine wp_dup dX11_part0_103 rfl ?_
      refine wp_getI dX11_part0_104 fl_RX11_291 rfl (sh10_K hS) ?_
      refine wp_iconst (v := 1) dX11_part0_107 rfl ?_
      refine wp_iadd dX11_part0_108 ?_
      refine wp_putI dX11_part0_109 fp_RX11_291 rfl (sh10_K hS) ?_
      refine wp_nm (fun M3 eM3 => ?_)
      replace h := h M3 eM3
      refine wp_aload_n 0 dX11_part0_112 rfl rfl ?_
      obtain ⟨q4, o5, h⟩ := h
      refine wp_cvv dX11_part0_113 ck_RX11_255 (sh10_K hS) (as := []) rfl rfl (Nat.le_of_ble_eq_true rfl) o5 (fun M6 o7 => ?_)
      replace h := h M6 o7
      refine wp_aload_n 0 dX11_part0_116 rfl rfl ?_
      refine wp_iload_n 1 dX11_part0_117 rfl rfl ?_
      obtain ⟨q8, o9, h⟩ := h
      refine wp_cvi dX11_part0_118 ck_RX11_282 (sh10_K hS) (as := [.int x1]) rfl rfl (Nat.le_of_ble_eq_true rfl) o9 (fun M10 r11 o12 => ?_)
      replace h := h M10 r11 o12
      refine wp_if_ne (tgt := 126) dX11_part0_121 (by decide) (fun c13 => ?_) (fun c13 => ?_)
      · replace h := h.1 c13
        refine wp_aload_n 0 dX11_part0_126 rfl rfl ?_
        refine wp_dup dX11_part0_127 rfl ?_
        refine wp_getI dX11_part0_128 fl_RX11_291 rfl (sh10_K hS) ?_
        refine wp_iconst (v := 1) dX11_part0_131 rfl ?_
        refine wp_isub dX11_part0_132 ?_
        refine wp_putI dX11_part0_133 fp_RX11_291 rfl (sh10_K hS) ?_
        refine wp_nm (fun M14 eM14 => ?_)
        replace h := h M14 eM14
        refine wp_aload_n 0 dX11_part0_136 rfl rfl ?_
        refine wp_iconst (v := 2) dX11_part0_137 rfl ?_
        refine wp_bipush (v := 33) dX11_part0_138 rfl ?_
        obtain ⟨q15, o16, h⟩ := h
        refine wp_cvv dX11_part0_140 ck_RX11_270 (sh10_K hS) (as := [.int 2, .int 33]) rfl rfl (Nat.le_of_ble_eq_true rfl) o16 (fun M17 o18 => ?_)
        replace h := h M17 o18
        refine wp_iconst (v := 1) dX11_part0_143 rfl ?_
        exact wn_zret dX11_part0_144 rfl (Or.inr rfl) h
      · replace h := h.2 c13
        refine wp_iconst (v := 0) dX11_part0_124 rfl ?_
        exact wn_zret dX11_part0_125 rfl (Or.inl rfl) h
theorem bX11_part0_145 {G : Gl} {d : Nat} {X : Sh} {M : Mm} {Q : Mm → Int32 → Prop} {a : Nat} {x1 : Int32} (hS : Sh10 X a) (h : ((¬ (mI M a 22 = 3 ∧ mI M a 24 = 40) → Q M 0) ∧ (mI M a 22 = 3 ∧ mI M a 24 = 40 → ((¬ ((mI M a 25) = 8) → (∀ M3 : Mm, M3 = sI M a 25 ((mI M a 25) + 1) → (∃ q4 : Mm → Prop, Cv G m_X11_next d [.ref a] X M3 q4 ∧ ∀ M6, q4 M6 → (∃ q8 : Mm → Int32 → Prop, Cn G m_X11_either d [.ref a, .int x1] X M6 q8 ∧ ∀ M10 r11, q8 M10 r11 → ((r11 = 0 → Q M10 0) ∧ (¬ (r11 = 0) → ((mI M10 a 22 = 3 ∧ mI M10 a 24 = 41 → (∀ M15 : Mm, M15 = sI M10 a 25 ((mI M10 a 25) - 1) → (∃ q16 : Mm → Prop, Cv G m_X11_next d [.ref a] X M15 q16 ∧ ∀ M18, q16 M18 → Q M18 1))) ∧ (¬ (mI M10 a 22 = 3 ∧ mI M10 a 24 = 41) → Q M10 0)))))))) ∧ ((mI M a 25) = 8 → Q M 0))))) : Wn G m_X11_part0 (d + 1) 145 [(0, .ref a), (1, .int x1)] [] X M Q := by
  refine wp_aload_n 0 dX11_part0_145 rfl rfl ?_
  refine wp_bipush (v := 40) dX11_part0_146 rfl ?_
  refine wp_cvip dX11_part0_148 ck_RX11_267 (sh10_K hS) (as := [.int 40]) rfl rfl (Nat.le_of_ble_eq_true rfl) (cp_X11_isSign G d X M a 40 hS) ?_
  refine wp_ifB_eq (inferInstance) (tgt := 163) dX11_part0_151 (by decide) (fun c1 => ?_) (fun c1 => ?_)
  · replace h := h.1 c1
    refine wp_iconst (v := 0) dX11_part0_163 rfl ?_
    exact wn_zret dX11_part0_164 rfl (Or.inl rfl) h
  · replace h := h.2 c1
    refine wp_aload_n 0 dX11_part0_154 rfl rfl ?_
    refine wp_getI dX11_part0_155 fl_RX11_294 rfl (sh10_K hS) ?_
    refine wp_bipush (v := 8) dX11_part0_158 rfl ?_
    refine wp_icmp_ne (tgt := 165) dX11_part0_160 (by decide) (fun c2 => ?_) (fun c2 => ?_)
    · replace h := h.1 c2
      refine wp_aload_n 0 dX11_part0_165 rfl rfl ?_
      refine wp_dup dX11_part0_166 rfl ?_
      refine wp_getI dX11_part0_167 fl_RX11_294 rfl (sh10_K hS) ?_
      refine wp_iconst (v := 1) dX11_part0_170 rfl ?_
      refine wp_iadd dX11_part0_171 ?_
      refine wp_putI dX11_part0_172 fp_RX11_294 rfl (sh10_K hS) ?_
      refine wp_nm (fun M3 eM3 => ?_)
      replace h := h M3 eM3
      refine wp_aload_n 0 dX11_part0_175 rfl rfl ?_
      obtain ⟨q4, o5, h⟩ := h
      refine wp_cvv dX11_part0_176 ck_RX11_255 (sh10_K hS) (as := []) rfl rfl (Nat.le_of_ble_eq_true rfl) o5 (fun M6 o7 => ?_)
      replace h := h M6 o7
      refine wp_aload_n 0 dX11_part0_179 rfl rfl ?_
      refine wp_iload_n 1 dX11_part0_180 rfl rfl ?_
      obtain ⟨q8, o9, h⟩ := h
      refine wp_cvi dX11_part0_181 ck_RX11_297 (sh10_K hS) (as := [.int x1]) rfl rfl (Nat.le_of_ble_eq_true rfl) o9 (fun M10 r11 o12 => ?_)
      replace h := h M10 r11 o12
      refine wp_if_eq (tgt := 196) dX11_part0_184 (by decide) (fun c13 => ?_) (fun c13 => ?_)
      · replace h := h.1 c13
        refine wp_iconst (v := 0) dX11_part0_196 rfl ?_
        exact wn_zret dX11_part0_197 rfl (Or.inl rfl) h
      · replace h := h.2 c13
        refine wp_aload_n 0 dX11_part0_187 rfl rfl ?_
        refine wp_bipush (v := 41) dX11_part0_188 rfl ?_
        refine wp_cvip dX11_part0_190 ck_RX11_267 (sh10_K hS) (as := [.int 41]) rfl rfl (Nat.le_of_ble_eq_true rfl) (cp_X11_isSign G d X M10 a 41 hS) ?_
        refine wp_ifB_ne (inferInstance) (tgt := 198) dX11_part0_193 (by decide) (fun c14 => ?_) (fun c14 => ?_)
        · replace h := h.1 c14
          refine wp_aload_n 0 dX11_part0_198 rfl rfl ?_
          refine wp_dup dX11_part0_199 rfl ?_
          refine wp_getI dX11_part0_200 fl_RX11_294 rfl (sh10_K hS) ?_
          refine wp_iconst (v := 1) dX11_part0_203 rfl ?_
          refine wp_isub dX11_part0_204 ?_
          refine wp_putI dX11_part0_205 fp_RX11_294 rfl (sh10_K hS) ?_
          refine wp_nm (fun M15 eM15 => ?_)
          replace h := h M15 eM15
          refine wp_aload_n 0 dX11_part0_208 rfl rfl ?_
          obtain ⟨q16, o17, h⟩ := h
          refine wp_cvv dX11_part0_209 ck_RX11_255 (sh10_K hS) (as := []) rfl rfl (Nat.le_of_ble_eq_true rfl) o17 (fun M18 o19 => ?_)
          replace h := h M18 o19
          refine wp_iconst (v := 1) dX11_part0_212 rfl ?_
          exact wn_zret dX11_part0_213 rfl (Or.inr rfl) h
        · replace h := h.2 c14
          refine wp_iconst (v := 0) dX11_part0_196 rfl ?_
          exact wn_zret dX11_part0_197 rfl (Or.inl rfl) h
    · replace h := h.2 c2
      refine wp_iconst (v := 0) dX11_part0_163 rfl ?_
      exact wn_zret dX11_part0_164 rfl (Or.inl rfl) h
theorem bX11_term_0 {G : Gl} {d : Nat} {X : Sh} {M : Mm} {Q : Mm → Int32 → Prop} {a : Nat} {x1 : Int32} (hS : Sh10 X a) (h : (∃ q1 : Mm → Int32 → Prop, Cn G m_X11_part0 d [.ref a, .int x1] X M q1 ∧ ∀ M3 r4, q1 M3 r4 → ((¬ (r4 = 0) → Wn G m_X11_term (d + 1) 10 [(0, .ref a), (1, .int x1)] [] X M3 Q) ∧ (r4 = 0 → Q M3 0)))) : Wn G m_X11_term (d + 1) 0 [(0, .ref a), (1, .int x1)] [] X M Q := by
  refine wp_aload_n 0 dX11_term_0 rfl rfl ?_
  refine wp_iload_n 1 dX11_term_1 rfl rfl ?_
  obtain ⟨q1, o2, h⟩ := h
  refine wp_cvi dX11_term_2 ck_RX11_282 (sh10_K hS) (as := [.int x1]) rfl rfl (Nat.le_of_ble_eq_true rfl) o2 (fun M3 r4 o5 => ?_)
  replace h := h M3 r4 o5
  refine wp_if_ne (tgt := 10) dX11_term_5 (by decide) (fun c6 => ?_) (fun c6 => ?_)
  · replace h := h.1 c6
    exact Wp.sub [0, 1] rfl h
  · replace h := h.2 c6
    refine wp_iconst (v := 0) dX11_term_8 rfl ?_
    exact wn_zret dX11_term_9 rfl (Or.inl rfl) h
theorem bX11_term_10 {G : Gl} {d : Nat} {X : Sh} {M : Mm} {Q : Mm → Int32 → Prop} {a : Nat} {x1 : Int32} (hS : Sh10 X a) (h : ((mI M a 22 = 3 ∧ mI M a 24 = 42 → (∀ v2 : Int32, v2 = (mI M a 24) → (∃ q3 : Mm → Prop, Cv G m_X11_next d [.ref a] X M q3 ∧ ∀ M5, q3 M5 → (∃ q7 : Mm → Int32 → Prop, Cn G m_X11_part0 d [.ref a, .int x1] X M5 q7 ∧ ∀ M9 r10, q7 M9 r10 → ((¬ (r10 = 0) → (∃ q13 : Mm → Prop, Cv G m_X11_step d [.ref a, .int 2, .int v2] X M9 q13 ∧ ∀ M15, q13 M15 → Wn G m_X11_term (d + 1) 10 [(0, .ref a), (1, .int x1)] [] X M15 Q)) ∧ (r10 = 0 → Q M9 0)))))) ∧ (¬ (mI M a 22 = 3 ∧ mI M a 24 = 42) → ((¬ (mI M a 22 = 3 ∧ mI M a 24 = 47) → Q M 1) ∧ (mI M a 22 = 3 ∧ mI M a 24 = 47 → (∀ v18 : Int32, v18 = (mI M a 24) → (∃ q19 : Mm → Prop, Cv G m_X11_next d [.ref a] X M q19 ∧ ∀ M21, q19 M21 → (∃ q23 : Mm → Int32 → Prop, Cn G m_X11_part0 d [.ref a, .int x1] X M21 q23 ∧ ∀ M25 r26, q23 M25 r26 → ((¬ (r26 = 0) → (∃ q29 : Mm → Prop, Cv G m_X11_step d [.ref a, .int 2, .int v18] X M25 q29 ∧ ∀ M31, q29 M31 → Wn G m_X11_term (d + 1) 10 [(0, .ref a), (1, .int x1)] [] X M31 Q)) ∧ (r26 = 0 → Q M25 0)))))))))) : Wn G m_X11_term (d + 1) 10 [(0, .ref a), (1, .int x1)] [] X M Q := by
  refine wp_aload_n 0 dX11_term_10 rfl rfl ?_
  refine wp_bipush (v := 42) dX11_term_11 rfl ?_
  refine wp_cvip dX11_term_13 ck_RX11_267 (sh10_K hS) (as := [.int 42]) rfl rfl (Nat.le_of_ble_eq_true rfl) (cp_X11_isSign G d X M a 42 hS) ?_
  refine wp_ifB_ne (inferInstance) (tgt := 28) dX11_term_16 (by decide) (fun c1 => ?_) (fun c1 => ?_)
  · replace h := h.1 c1
    refine wp_aload_n 0 dX11_term_28 rfl rfl ?_
    refine wp_getI dX11_term_29 fl_RX11_242 rfl (sh10_K hS) ?_
    refine wp_topi (fun v2 ev2 => ?_)
    replace h := h v2 ev2
    refine wp_istore_n (lo2 := [(2, .int _), (0, .ref _), (1, .int _)]) dX11_term_32 rfl (by decide) rfl ?_
    refine wp_aload_n 1 dX11_term_33 rfl rfl ?_
    obtain ⟨q3, o4, h⟩ := h
    refine wp_cvv dX11_term_34 ck_RX11_255 (sh10_K hS) (as := []) rfl rfl (Nat.le_of_ble_eq_true rfl) o4 (fun M5 o6 => ?_)
    replace h := h M5 o6
    refine wp_aload_n 1 dX11_term_37 rfl rfl ?_
    refine wp_iload_n 2 dX11_term_38 rfl rfl ?_
    obtain ⟨q7, o8, h⟩ := h
    refine wp_cvi dX11_term_39 ck_RX11_282 (sh10_K hS) (as := [.int x1]) rfl rfl (Nat.le_of_ble_eq_true rfl) o8 (fun M9 r10 o11 => ?_)
    replace h := h M9 r10 o11
    refine wp_if_ne (tgt := 47) dX11_term_42 (by decide) (fun c12 => ?_) (fun c12 => ?_)
    · replace h := h.1 c12
      refine wp_aload_n 1 dX11_term_47 rfl rfl ?_
      refine wp_iconst (v := 2) dX11_term_48 rfl ?_
      refine wp_iload_n 0 dX11_term_49 rfl rfl ?_
      obtain ⟨q13, o14, h⟩ := h
      refine wp_cvv dX11_term_50 ck_RX11_270 (sh10_K hS) (as := [.int 2, .int v2]) rfl rfl (Nat.le_of_ble_eq_true rfl) o14 (fun M15 o16 => ?_)
      replace h := h M15 o16
      refine wp_goto (tgt := 10) dX11_term_53 (by decide) ?_
      exact Wp.sub [1, 2] rfl h
    · replace h := h.2 c12
      refine wp_iconst (v := 0) dX11_term_45 rfl ?_
      exact wn_zret dX11_term_46 rfl (Or.inl rfl) h
  · replace h := h.2 c1
    refine wp_aload_n 0 dX11_term_19 rfl rfl ?_
    refine wp_bipush (v := 47) dX11_term_20 rfl ?_
    refine wp_cvip dX11_term_22 ck_RX11_267 (sh10_K hS) (as := [.int 47]) rfl rfl (Nat.le_of_ble_eq_true rfl) (cp_X11_isSign G d X M a 47 hS) ?_
    refine wp_ifB_eq (inferInstance) (tgt := 56) dX11_term_25 (by decide) (fun c17 => ?_) (fun c17 => ?_)
    · replace h := h.1 c17
      refine wp_iconst (v := 1) dX11_term_56 rfl ?_
      exact wn_zret dX11_term_57 rfl (Or.inr rfl) h
    · replace h := h.2 c17
      refine wp_aload_n 0 dX11_term_28 rfl rfl ?_
      refine wp_getI dX11_term_29 fl_RX11_242 rfl (sh10_K hS) ?_
      refine wp_topi (fun v18 ev18 => ?_)
      replace h := h v18 ev18
      refine wp_istore_n (lo2 := [(2, .int _), (0, .ref _), (1, .int _)]) dX11_term_32 rfl (by decide) rfl ?_
      refine wp_aload_n 1 dX11_term_33 rfl rfl ?_
      obtain ⟨q19, o20, h⟩ := h
      refine wp_cvv dX11_term_34 ck_RX11_255 (sh10_K hS) (as := []) rfl rfl (Nat.le_of_ble_eq_true rfl) o20 (fun M21 o22 => ?_)
      replace h := h M21 o22
      refine wp_aload_n 1 dX11_term_37 rfl rfl ?_
      refine wp_iload_n 2 dX11_term_38 rfl rfl ?_
      obtain ⟨q23, o24, h⟩ := h
      refine wp_cvi dX11_term_39 ck_RX11_282 (sh10_K hS) (as := [.int x1]) rfl rfl (Nat.le_of_ble_eq_true rfl) o24 (fun M25 r26 o27 => ?_)
      replace h := h M25 r26 o27
      refine wp_if_ne (tgt := 47) dX11_term_42 (by decide) (fun c28 => ?_) (fun c28 => ?_)
      · replace h := h.1 c28
        refine wp_aload_n 1 dX11_term_47 rfl rfl ?_
        refine wp_iconst (v := 2) dX11_term_48 rfl ?_
        refine wp_iload_n 0 dX11_term_49 rfl rfl ?_
        obtain ⟨q29, o30, h⟩ := h
        refine wp_cvv dX11_term_50 ck_RX11_270 (sh10_K hS) (as := [.int 2, .int v18]) rfl rfl (Nat.le_of_ble_eq_true rfl) o30 (fun M31 o32 => ?_)
        replace h := h M31 o32
        refine wp_goto (tgt := 10) dX11_term_53 (by decide) ?_
        exact Wp.sub [1, 2] rfl h
      · replace h := h.2 c28
        refine wp_iconst (v := 0) dX11_term_45 rfl ?_
        exact wn_zret dX11_term_46 rfl (Or.inl rfl) h
theorem bX11_sum_0 {G : Gl} {d : Nat} {X : Sh} {M : Mm} {Q : Mm → Int32 → Prop} {a : Nat} {x1 : Int32} (hS : Sh10 X a) (h : (∃ q1 : Mm → Int32 → Prop, Cn G m_X11_term d [.ref a, .int x1] X M q1 ∧ ∀ M3 r4, q1 M3 r4 → ((¬ (r4 = 0) → Wn G m_X11_sum (d + 1) 10 [(0, .ref a), (1, .int x1)] [] X M3 Q) ∧ (r4 = 0 → Q M3 0)))) : Wn G m_X11_sum (d + 1) 0 [(0, .ref a), (1, .int x1)] [] X M Q := by
  refine wp_aload_n 0 dX11_sum_0 rfl rfl ?_
  refine wp_iload_n 1 dX11_sum_1 rfl rfl ?_
  obtain ⟨q1, o2, h⟩ := h
  refine wp_cvi dX11_sum_2 ck_RX11_279 (sh10_K hS) (as := [.int x1]) rfl rfl (Nat.le_of_ble_eq_true rfl) o2 (fun M3 r4 o5 => ?_)
  replace h := h M3 r4 o5
  refine wp_if_ne (tgt := 10) dX11_sum_5 (by decide) (fun c6 => ?_) (fun c6 => ?_)
  · replace h := h.1 c6
    exact Wp.sub [0, 1] rfl h
  · replace h := h.2 c6
    refine wp_iconst (v := 0) dX11_sum_8 rfl ?_
    exact wn_zret dX11_sum_9 rfl (Or.inl rfl) h
theorem bX11_sum_10 {G : Gl} {d : Nat} {X : Sh} {M : Mm} {Q : Mm → Int32 → Prop} {a : Nat} {x1 : Int32} (hS : Sh10 X a) (h : ((mI M a 22 = 3 ∧ mI M a 24 = 43 → (∀ v2 : Int32, v2 = (mI M a 24) → (∃ q3 : Mm → Prop, Cv G m_X11_next d [.ref a] X M q3 ∧ ∀ M5, q3 M5 → (∃ q7 : Mm → Int32 → Prop, Cn G m_X11_term d [.ref a, .int x1] X M5 q7 ∧ ∀ M9 r10, q7 M9 r10 → ((¬ (r10 = 0) → (∃ q13 : Mm → Prop, Cv G m_X11_step d [.ref a, .int 2, .int v2] X M9 q13 ∧ ∀ M15, q13 M15 → Wn G m_X11_sum (d + 1) 10 [(0, .ref a), (1, .int x1)] [] X M15 Q)) ∧ (r10 = 0 → Q M9 0)))))) ∧ (¬ (mI M a 22 = 3 ∧ mI M a 24 = 43) → ((¬ (mI M a 22 = 3 ∧ mI M a 24 = 45) → Q M 1) ∧ (mI M a 22 = 3 ∧ mI M a 24 = 45 → (∀ v18 : Int32, v18 = (mI M a 24) → (∃ q19 : Mm → Prop, Cv G m_X11_next d [.ref a] X M q19 ∧ ∀ M21, q19 M21 → (∃ q23 : Mm → Int32 → Prop, Cn G m_X11_term d [.ref a, .int x1] X M21 q23 ∧ ∀ M25 r26, q23 M25 r26 → ((¬ (r26 = 0) → (∃ q29 : Mm → Prop, Cv G m_X11_step d [.ref a, .int 2, .int v18] X M25 q29 ∧ ∀ M31, q29 M31 → Wn G m_X11_sum (d + 1) 10 [(0, .ref a), (1, .int x1)] [] X M31 Q)) ∧ (r26 = 0 → Q M25 0)))))))))) : Wn G m_X11_sum (d + 1) 10 [(0, .ref a), (1, .int x1)] [] X M Q := by
  refine wp_aload_n 0 dX11_sum_10 rfl rfl ?_
  refine wp_bipush (v := 43) dX11_sum_11 rfl ?_
  refine wp_cvip dX11_sum_13 ck_RX11_267 (sh10_K hS) (as := [.int 43]) rfl rfl (Nat.le_of_ble_eq_true rfl) (cp_X11_isSign G d X M a 43 hS) ?_
  refine wp_ifB_ne (inferInstance) (tgt := 28) dX11_sum_16 (by decide) (fun c1 => ?_) (fun c1 => ?_)
  · replace h := h.1 c1
    refine wp_aload_n 0 dX11_sum_28 rfl rfl ?_
    refine wp_getI dX11_sum_29 fl_RX11_242 rfl (sh10_K hS) ?_
    refine wp_topi (fun v2 ev2 => ?_)
    replace h := h v2 ev2
    refine wp_istore_n (lo2 := [(2, .int _), (0, .ref _), (1, .int _)]) dX11_sum_32 rfl (by decide) rfl ?_
    refine wp_aload_n 1 dX11_sum_33 rfl rfl ?_
    obtain ⟨q3, o4, h⟩ := h
    refine wp_cvv dX11_sum_34 ck_RX11_255 (sh10_K hS) (as := []) rfl rfl (Nat.le_of_ble_eq_true rfl) o4 (fun M5 o6 => ?_)
    replace h := h M5 o6
    refine wp_aload_n 1 dX11_sum_37 rfl rfl ?_
    refine wp_iload_n 2 dX11_sum_38 rfl rfl ?_
    obtain ⟨q7, o8, h⟩ := h
    refine wp_cvi dX11_sum_39 ck_RX11_279 (sh10_K hS) (as := [.int x1]) rfl rfl (Nat.le_of_ble_eq_true rfl) o8 (fun M9 r10 o11 => ?_)
    replace h := h M9 r10 o11
    refine wp_if_ne (tgt := 47) dX11_sum_42 (by decide) (fun c12 => ?_) (fun c12 => ?_)
    · replace h := h.1 c12
      refine wp_aload_n 1 dX11_sum_47 rfl rfl ?_
      refine wp_iconst (v := 2) dX11_sum_48 rfl ?_
      refine wp_iload_n 0 dX11_sum_49 rfl rfl ?_
      obtain ⟨q13, o14, h⟩ := h
      refine wp_cvv dX11_sum_50 ck_RX11_270 (sh10_K hS) (as := [.int 2, .int v2]) rfl rfl (Nat.le_of_ble_eq_true rfl) o14 (fun M15 o16 => ?_)
      replace h := h M15 o16
      refine wp_goto (tgt := 10) dX11_sum_53 (by decide) ?_
      exact Wp.sub [1, 2] rfl h
    · replace h := h.2 c12
      refine wp_iconst (v := 0) dX11_sum_45 rfl ?_
      exact wn_zret dX11_sum_46 rfl (Or.inl rfl) h
  · replace h := h.2 c1
    refine wp_aload_n 0 dX11_sum_19 rfl rfl ?_
    refine wp_bipush (v := 45) dX11_sum_20 rfl ?_
    refine wp_cvip dX11_sum_22 ck_RX11_267 (sh10_K hS) (as := [.int 45]) rfl rfl (Nat.le_of_ble_eq_true rfl) (cp_X11_isSign G d X M a 45 hS) ?_
    refine wp_ifB_eq (inferInstance) (tgt := 56) dX11_sum_25 (by decide) (fun c17 => ?_) (fun c17 => ?_)
    · replace h := h.1 c17
      refine wp_iconst (v := 1) dX11_sum_56 rfl ?_
      exact wn_zret dX11_sum_57 rfl (Or.inr rfl) h
    · replace h := h.2 c17
      refine wp_aload_n 0 dX11_sum_28 rfl rfl ?_
      refine wp_getI dX11_sum_29 fl_RX11_242 rfl (sh10_K hS) ?_
      refine wp_topi (fun v18 ev18 => ?_)
      replace h := h v18 ev18
      refine wp_istore_n (lo2 := [(2, .int _), (0, .ref _), (1, .int _)]) dX11_sum_32 rfl (by decide) rfl ?_
      refine wp_aload_n 1 dX11_sum_33 rfl rfl ?_
      obtain ⟨q19, o20, h⟩ := h
      refine wp_cvv dX11_sum_34 ck_RX11_255 (sh10_K hS) (as := []) rfl rfl (Nat.le_of_ble_eq_true rfl) o20 (fun M21 o22 => ?_)
      replace h := h M21 o22
      refine wp_aload_n 1 dX11_sum_37 rfl rfl ?_
      refine wp_iload_n 2 dX11_sum_38 rfl rfl ?_
      obtain ⟨q23, o24, h⟩ := h
      refine wp_cvi dX11_sum_39 ck_RX11_279 (sh10_K hS) (as := [.int x1]) rfl rfl (Nat.le_of_ble_eq_true rfl) o24 (fun M25 r26 o27 => ?_)
      replace h := h M25 r26 o27
      refine wp_if_ne (tgt := 47) dX11_sum_42 (by decide) (fun c28 => ?_) (fun c28 => ?_)
      · replace h := h.1 c28
        refine wp_aload_n 1 dX11_sum_47 rfl rfl ?_
        refine wp_iconst (v := 2) dX11_sum_48 rfl ?_
        refine wp_iload_n 0 dX11_sum_49 rfl rfl ?_
        obtain ⟨q29, o30, h⟩ := h
        refine wp_cvv dX11_sum_50 ck_RX11_270 (sh10_K hS) (as := [.int 2, .int v18]) rfl rfl (Nat.le_of_ble_eq_true rfl) o30 (fun M31 o32 => ?_)
        replace h := h M31 o32
        refine wp_goto (tgt := 10) dX11_sum_53 (by decide) ?_
        exact Wp.sub [1, 2] rfl h
      · replace h := h.2 c28
        refine wp_iconst (v := 0) dX11_sum_45 rfl ?_
        exact wn_zret dX11_sum_46 rfl (Or.inl rfl) h
theorem bX11_test_0 {G : Gl} {d : Nat} {X : Sh} {M : Mm} {Q : Mm → Int32 → Prop} {a : Nat} {x1 : Int32} (hS : Sh10 X a) (h : (∃ q1 : Mm → Int32 → Prop, Cn G m_X11_sum d [.ref a, .int x1] X M q1 ∧ ∀ M3 r4, q1 M3 r4 → ((¬ (r4 = 0) → ((mI M3 a 22 = 3 ∧ mI M3 a 24 = 60 → (∀ v8 : Int32, v8 = (mI M3 a 24) → (∃ q9 : Mm → Prop, Cv G m_X11_next d [.ref a] X M3 q9 ∧ ∀ M11, q9 M11 → (∃ q13 : Mm → Int32 → Prop, Cn G m_X11_sum d [.ref a, .int x1] X M11 q13 ∧ ∀ M15 r16, q13 M15 r16 → ((¬ (r16 = 0) → (∃ q19 : Mm → Prop, Cv G m_X11_step d [.ref a, .int 2, .int v8] X M15 q19 ∧ ∀ M21, q19 M21 → Q M21 1)) ∧ (r16 = 0 → Q M15 0)))))) ∧ (¬ (mI M3 a 22 = 3 ∧ mI M3 a 24 = 60) → ((mI M3 a 22 = 3 ∧ mI M3 a 24 = 61 → (∀ v24 : Int32, v24 = (mI M3 a 24) → (∃ q25 : Mm → Prop, Cv G m_X11_next d [.ref a] X M3 q25 ∧ ∀ M27, q25 M27 → (∃ q29 : Mm → Int32 → Prop, Cn G m_X11_sum d [.ref a, .int x1] X M27 q29 ∧ ∀ M31 r32, q29 M31 r32 → ((¬ (r32 = 0) → (∃ q35 : Mm → Prop, Cv G m_X11_step d [.ref a, .int 2, .int v24] X M31 q35 ∧ ∀ M37, q35 M37 → Q M37 1)) ∧ (r32 = 0 → Q M31 0)))))) ∧ (¬ (mI M3 a 22 = 3 ∧ mI M3 a 24 = 61) → ((¬ (mI M3 a 22 = 3 ∧ mI M3 a 24 = 62) → Q M3 1) ∧ (mI M3 a 22 = 3 ∧ mI M3 a 24 = 62 → (∀ v40 : Int32, v40 = (mI M3 a 24) → (∃ q41 : Mm → Prop, Cv G m_X11_next d [.ref a] X M3 q41 ∧ ∀ M43, q41 M43 → (∃ q45 : Mm → Int32 → Prop, Cn G m_X11_sum d [.ref a, .int x1] X M43 q45 ∧ ∀ M47 r48, q45 M47 r48 → ((¬ (r48 = 0) → (∃ q51 : Mm → Prop, Cv G m_X11_step d [.ref a, .int 2, .int v40] X M47 q51 ∧ ∀ M53, q51 M53 → Q M53 1)) ∧ (r48 = 0 → Q M47 0)))))))))))) ∧ (r4 = 0 → Q M3 0)))) : Wn G m_X11_test (d + 1) 0 [(0, .ref a), (1, .int x1)] [] X M Q := by
  refine wp_aload_n 0 dX11_test_0 rfl rfl ?_
  refine wp_iload_n 1 dX11_test_1 rfl rfl ?_
  obtain ⟨q1, o2, h⟩ := h
  refine wp_cvi dX11_test_2 ck_RX11_276 (sh10_K hS) (as := [.int x1]) rfl rfl (Nat.le_of_ble_eq_true rfl) o2 (fun M3 r4 o5 => ?_)
  replace h := h M3 r4 o5
  refine wp_if_ne (tgt := 10) dX11_test_5 (by decide) (fun c6 => ?_) (fun c6 => ?_)
  · replace h := h.1 c6
    refine wp_aload_n 0 dX11_test_10 rfl rfl ?_
    refine wp_bipush (v := 60) dX11_test_11 rfl ?_
    refine wp_cvip dX11_test_13 ck_RX11_267 (sh10_K hS) (as := [.int 60]) rfl rfl (Nat.le_of_ble_eq_true rfl) (cp_X11_isSign G d X M3 a 60 hS) ?_
    refine wp_ifB_ne (inferInstance) (tgt := 37) dX11_test_16 (by decide) (fun c7 => ?_) (fun c7 => ?_)
    · replace h := h.1 c7
      refine wp_aload_n 0 dX11_test_37 rfl rfl ?_
      refine wp_getI dX11_test_38 fl_RX11_242 rfl (sh10_K hS) ?_
      refine wp_topi (fun v8 ev8 => ?_)
      replace h := h v8 ev8
      refine wp_istore_n (lo2 := [(2, .int _), (0, .ref _), (1, .int _)]) dX11_test_41 rfl (by decide) rfl ?_
      refine wp_aload_n 1 dX11_test_42 rfl rfl ?_
      obtain ⟨q9, o10, h⟩ := h
      refine wp_cvv dX11_test_43 ck_RX11_255 (sh10_K hS) (as := []) rfl rfl (Nat.le_of_ble_eq_true rfl) o10 (fun M11 o12 => ?_)
      replace h := h M11 o12
      refine wp_aload_n 1 dX11_test_46 rfl rfl ?_
      refine wp_iload_n 2 dX11_test_47 rfl rfl ?_
      obtain ⟨q13, o14, h⟩ := h
      refine wp_cvi dX11_test_48 ck_RX11_276 (sh10_K hS) (as := [.int x1]) rfl rfl (Nat.le_of_ble_eq_true rfl) o14 (fun M15 r16 o17 => ?_)
      replace h := h M15 r16 o17
      refine wp_if_ne (tgt := 56) dX11_test_51 (by decide) (fun c18 => ?_) (fun c18 => ?_)
      · replace h := h.1 c18
        refine wp_aload_n 1 dX11_test_56 rfl rfl ?_
        refine wp_iconst (v := 2) dX11_test_57 rfl ?_
        refine wp_iload_n 0 dX11_test_58 rfl rfl ?_
        obtain ⟨q19, o20, h⟩ := h
        refine wp_cvv dX11_test_59 ck_RX11_270 (sh10_K hS) (as := [.int 2, .int v8]) rfl rfl (Nat.le_of_ble_eq_true rfl) o20 (fun M21 o22 => ?_)
        replace h := h M21 o22
        refine wp_iconst (v := 1) dX11_test_62 rfl ?_
        exact wn_zret dX11_test_63 rfl (Or.inr rfl) h
      · replace h := h.2 c18
        refine wp_iconst (v := 0) dX11_test_54 rfl ?_
        exact wn_zret dX11_test_55 rfl (Or.inl rfl) h
    · replace h := h.2 c7
      refine wp_aload_n 0 dX11_test_19 rfl rfl ?_
      refine wp_bipush (v := 61) dX11_test_20 rfl ?_
      refine wp_cvip dX11_test_22 ck_RX11_267 (sh10_K hS) (as := [.int 61]) rfl rfl (Nat.le_of_ble_eq_true rfl) (cp_X11_isSign G d X M3 a 61 hS) ?_
      refine wp_ifB_ne (inferInstance) (tgt := 37) dX11_test_25 (by decide) (fun c23 => ?_) (fun c23 => ?_)
      · replace h := h.1 c23
        refine wp_aload_n 0 dX11_test_37 rfl rfl ?_
        refine wp_getI dX11_test_38 fl_RX11_242 rfl (sh10_K hS) ?_
        refine wp_topi (fun v24 ev24 => ?_)
        replace h := h v24 ev24
        refine wp_istore_n (lo2 := [(2, .int _), (0, .ref _), (1, .int _)]) dX11_test_41 rfl (by decide) rfl ?_
        refine wp_aload_n 1 dX11_test_42 rfl rfl ?_
        obtain ⟨q25, o26, h⟩ := h
        refine wp_cvv dX11_test_43 ck_RX11_255 (sh10_K hS) (as := []) rfl rfl (Nat.le_of_ble_eq_true rfl) o26 (fun M27 o28 => ?_)
        replace h := h M27 o28
        refine wp_aload_n 1 dX11_test_46 rfl rfl ?_
        refine wp_iload_n 2 dX11_test_47 rfl rfl ?_
        obtain ⟨q29, o30, h⟩ := h
        refine wp_cvi dX11_test_48 ck_RX11_276 (sh10_K hS) (as := [.int x1]) rfl rfl (Nat.le_of_ble_eq_true rfl) o30 (fun M31 r32 o33 => ?_)
        replace h := h M31 r32 o33
        refine wp_if_ne (tgt := 56) dX11_test_51 (by decide) (fun c34 => ?_) (fun c34 => ?_)
        · replace h := h.1 c34
          refine wp_aload_n 1 dX11_test_56 rfl rfl ?_
          refine wp_iconst (v := 2) dX11_test_57 rfl ?_
          refine wp_iload_n 0 dX11_test_58 rfl rfl ?_
          obtain ⟨q35, o36, h⟩ := h
          refine wp_cvv dX11_test_59 ck_RX11_270 (sh10_K hS) (as := [.int 2, .int v24]) rfl rfl (Nat.le_of_ble_eq_true rfl) o36 (fun M37 o38 => ?_)
          replace h := h M37 o38
          refine wp_iconst (v := 1) dX11_test_62 rfl ?_
          exact wn_zret dX11_test_63 rfl (Or.inr rfl) h
        · replace h := h.2 c34
          refine wp_iconst (v := 0) dX11_test_54 rfl ?_
          exact wn_zret dX11_test_55 rfl (Or.inl rfl) h
      · replace h := h.2 c23
        refine wp_aload_n 0 dX11_test_28 rfl rfl ?_
        refine wp_bipush (v := 62) dX11_test_29 rfl ?_
        refine wp_cvip dX11_test_31 ck_RX11_267 (sh10_K hS) (as := [.int 62]) rfl rfl (Nat.le_of_ble_eq_true rfl) (cp_X11_isSign G d X M3 a 62 hS) ?_
        refine wp_ifB_eq (inferInstance) (tgt := 62) dX11_test_34 (by decide) (fun c39 => ?_) (fun c39 => ?_)
        · replace h := h.1 c39
          refine wp_iconst (v := 1) dX11_test_62 rfl ?_
          exact wn_zret dX11_test_63 rfl (Or.inr rfl) h
        · replace h := h.2 c39
          refine wp_aload_n 0 dX11_test_37 rfl rfl ?_
          refine wp_getI dX11_test_38 fl_RX11_242 rfl (sh10_K hS) ?_
          refine wp_topi (fun v40 ev40 => ?_)
          replace h := h v40 ev40
          refine wp_istore_n (lo2 := [(2, .int _), (0, .ref _), (1, .int _)]) dX11_test_41 rfl (by decide) rfl ?_
          refine wp_aload_n 1 dX11_test_42 rfl rfl ?_
          obtain ⟨q41, o42, h⟩ := h
          refine wp_cvv dX11_test_43 ck_RX11_255 (sh10_K hS) (as := []) rfl rfl (Nat.le_of_ble_eq_true rfl) o42 (fun M43 o44 => ?_)
          replace h := h M43 o44
          refine wp_aload_n 1 dX11_test_46 rfl rfl ?_
          refine wp_iload_n 2 dX11_test_47 rfl rfl ?_
          obtain ⟨q45, o46, h⟩ := h
          refine wp_cvi dX11_test_48 ck_RX11_276 (sh10_K hS) (as := [.int x1]) rfl rfl (Nat.le_of_ble_eq_true rfl) o46 (fun M47 r48 o49 => ?_)
          replace h := h M47 r48 o49
          refine wp_if_ne (tgt := 56) dX11_test_51 (by decide) (fun c50 => ?_) (fun c50 => ?_)
          · replace h := h.1 c50
            refine wp_aload_n 1 dX11_test_56 rfl rfl ?_
            refine wp_iconst (v := 2) dX11_test_57 rfl ?_
            refine wp_iload_n 0 dX11_test_58 rfl rfl ?_
            obtain ⟨q51, o52, h⟩ := h
            refine wp_cvv dX11_test_59 ck_RX11_270 (sh10_K hS) (as := [.int 2, .int v40]) rfl rfl (Nat.le_of_ble_eq_true rfl) o52 (fun M53 o54 => ?_)
            replace h := h M53 o54
            refine wp_iconst (v := 1) dX11_test_62 rfl ?_
            exact wn_zret dX11_test_63 rfl (Or.inr rfl) h
          · replace h := h.2 c50
            refine wp_iconst (v := 0) dX11_test_54 rfl ?_
            exact wn_zret dX11_test_55 rfl (Or.inl rfl) h
  · replace h := h.2 c6
    refine wp_iconst (v := 0) dX11_test_8 rfl ?_
    exact wn_zret dX11_test_9 rfl (Or.inl rfl) h
theorem bX11_both_0 {G : Gl} {d : Nat} {X : Sh} {M : Mm} {Q : Mm → Int32 → Prop} {a : Nat} {x1 : Int32} (hS : Sh10 X a) (h : (∃ q1 : Mm → Int32 → Prop, Cn G m_X11_test d [.ref a, .int x1] X M q1 ∧ ∀ M3 r4, q1 M3 r4 → ((¬ (r4 = 0) → Wn G m_X11_both (d + 1) 10 [(0, .ref a), (1, .int x1)] [] X M3 Q) ∧ (r4 = 0 → Q M3 0)))) : Wn G m_X11_both (d + 1) 0 [(0, .ref a), (1, .int x1)] [] X M Q := by
  refine wp_aload_n 0 dX11_both_0 rfl rfl ?_
  refine wp_iload_n 1 dX11_both_1 rfl rfl ?_
  obtain ⟨q1, o2, h⟩ := h
  refine wp_cvi dX11_both_2 ck_RX11_273 (sh10_K hS) (as := [.int x1]) rfl rfl (Nat.le_of_ble_eq_true rfl) o2 (fun M3 r4 o5 => ?_)
  replace h := h M3 r4 o5
  refine wp_if_ne (tgt := 10) dX11_both_5 (by decide) (fun c6 => ?_) (fun c6 => ?_)
  · replace h := h.1 c6
    exact Wp.sub [0, 1] rfl h
  · replace h := h.2 c6
    refine wp_iconst (v := 0) dX11_both_8 rfl ?_
    exact wn_zret dX11_both_9 rfl (Or.inl rfl) h
theorem bX11_both_10 {G : Gl} {d : Nat} {X : Sh} {M : Mm} {Q : Mm → Int32 → Prop} {a : Nat} {x1 : Int32} (hS : Sh10 X a) (h : ((¬ (mI M a 22 = 3 ∧ mI M a 24 = 38) → Q M 1) ∧ (mI M a 22 = 3 ∧ mI M a 24 = 38 → (∃ q2 : Mm → Prop, Cv G m_X11_next d [.ref a] X M q2 ∧ ∀ M4, q2 M4 → (∃ q6 : Mm → Int32 → Prop, Cn G m_X11_test d [.ref a, .int x1] X M4 q6 ∧ ∀ M8 r9, q6 M8 r9 → ((¬ (r9 = 0) → (∃ q12 : Mm → Prop, Cv G m_X11_step d [.ref a, .int 2, .int 38] X M8 q12 ∧ ∀ M14, q12 M14 → Wn G m_X11_both (d + 1) 10 [(0, .ref a), (1, .int x1)] [] X M14 Q)) ∧ (r9 = 0 → Q M8 0))))))) : Wn G m_X11_both (d + 1) 10 [(0, .ref a), (1, .int x1)] [] X M Q := by
  refine wp_aload_n 0 dX11_both_10 rfl rfl ?_
  refine wp_bipush (v := 38) dX11_both_11 rfl ?_
  refine wp_cvip dX11_both_13 ck_RX11_267 (sh10_K hS) (as := [.int 38]) rfl rfl (Nat.le_of_ble_eq_true rfl) (cp_X11_isSign G d X M a 38 hS) ?_
  refine wp_ifB_eq (inferInstance) (tgt := 43) dX11_both_16 (by decide) (fun c1 => ?_) (fun c1 => ?_)
  · replace h := h.1 c1
    refine wp_iconst (v := 1) dX11_both_43 rfl ?_
    exact wn_zret dX11_both_44 rfl (Or.inr rfl) h
  · replace h := h.2 c1
    refine wp_aload_n 0 dX11_both_19 rfl rfl ?_
    obtain ⟨q2, o3, h⟩ := h
    refine wp_cvv dX11_both_20 ck_RX11_255 (sh10_K hS) (as := []) rfl rfl (Nat.le_of_ble_eq_true rfl) o3 (fun M4 o5 => ?_)
    replace h := h M4 o5
    refine wp_aload_n 0 dX11_both_23 rfl rfl ?_
    refine wp_iload_n 1 dX11_both_24 rfl rfl ?_
    obtain ⟨q6, o7, h⟩ := h
    refine wp_cvi dX11_both_25 ck_RX11_273 (sh10_K hS) (as := [.int x1]) rfl rfl (Nat.le_of_ble_eq_true rfl) o7 (fun M8 r9 o10 => ?_)
    replace h := h M8 r9 o10
    refine wp_if_ne (tgt := 33) dX11_both_28 (by decide) (fun c11 => ?_) (fun c11 => ?_)
    · replace h := h.1 c11
      refine wp_aload_n 0 dX11_both_33 rfl rfl ?_
      refine wp_iconst (v := 2) dX11_both_34 rfl ?_
      refine wp_bipush (v := 38) dX11_both_35 rfl ?_
      obtain ⟨q12, o13, h⟩ := h
      refine wp_cvv dX11_both_37 ck_RX11_270 (sh10_K hS) (as := [.int 2, .int 38]) rfl rfl (Nat.le_of_ble_eq_true rfl) o13 (fun M14 o15 => ?_)
      replace h := h M14 o15
      refine wp_goto (tgt := 10) dX11_both_40 (by decide) ?_
      exact Wp.sub [0, 1] rfl h
    · replace h := h.2 c11
      refine wp_iconst (v := 0) dX11_both_31 rfl ?_
      exact wn_zret dX11_both_32 rfl (Or.inl rfl) h
theorem bX11_either_0 {G : Gl} {d : Nat} {X : Sh} {M : Mm} {Q : Mm → Int32 → Prop} {a : Nat} {x1 : Int32} (hS : Sh10 X a) (h : (∃ q1 : Mm → Int32 → Prop, Cn G m_X11_both d [.ref a, .int x1] X M q1 ∧ ∀ M3 r4, q1 M3 r4 → ((¬ (r4 = 0) → Wn G m_X11_either (d + 1) 10 [(0, .ref a), (1, .int x1)] [] X M3 Q) ∧ (r4 = 0 → Q M3 0)))) : Wn G m_X11_either (d + 1) 0 [(0, .ref a), (1, .int x1)] [] X M Q := by
  refine wp_aload_n 0 dX11_either_0 rfl rfl ?_
  refine wp_iload_n 1 dX11_either_1 rfl rfl ?_
  obtain ⟨q1, o2, h⟩ := h
  refine wp_cvi dX11_either_2 ck_RX11_264 (sh10_K hS) (as := [.int x1]) rfl rfl (Nat.le_of_ble_eq_true rfl) o2 (fun M3 r4 o5 => ?_)
  replace h := h M3 r4 o5
  refine wp_if_ne (tgt := 10) dX11_either_5 (by decide) (fun c6 => ?_) (fun c6 => ?_)
  · replace h := h.1 c6
    exact Wp.sub [0, 1] rfl h
  · replace h := h.2 c6
    refine wp_iconst (v := 0) dX11_either_8 rfl ?_
    exact wn_zret dX11_either_9 rfl (Or.inl rfl) h
theorem bX11_either_10 {G : Gl} {d : Nat} {X : Sh} {M : Mm} {Q : Mm → Int32 → Prop} {a : Nat} {x1 : Int32} (hS : Sh10 X a) (h : ((¬ (mI M a 22 = 3 ∧ mI M a 24 = 124) → Q M 1) ∧ (mI M a 22 = 3 ∧ mI M a 24 = 124 → (∃ q2 : Mm → Prop, Cv G m_X11_next d [.ref a] X M q2 ∧ ∀ M4, q2 M4 → (∃ q6 : Mm → Int32 → Prop, Cn G m_X11_both d [.ref a, .int x1] X M4 q6 ∧ ∀ M8 r9, q6 M8 r9 → ((¬ (r9 = 0) → (∃ q12 : Mm → Prop, Cv G m_X11_step d [.ref a, .int 2, .int 124] X M8 q12 ∧ ∀ M14, q12 M14 → Wn G m_X11_either (d + 1) 10 [(0, .ref a), (1, .int x1)] [] X M14 Q)) ∧ (r9 = 0 → Q M8 0))))))) : Wn G m_X11_either (d + 1) 10 [(0, .ref a), (1, .int x1)] [] X M Q := by
  refine wp_aload_n 0 dX11_either_10 rfl rfl ?_
  refine wp_bipush (v := 124) dX11_either_11 rfl ?_
  refine wp_cvip dX11_either_13 ck_RX11_267 (sh10_K hS) (as := [.int 124]) rfl rfl (Nat.le_of_ble_eq_true rfl) (cp_X11_isSign G d X M a 124 hS) ?_
  refine wp_ifB_eq (inferInstance) (tgt := 43) dX11_either_16 (by decide) (fun c1 => ?_) (fun c1 => ?_)
  · replace h := h.1 c1
    refine wp_iconst (v := 1) dX11_either_43 rfl ?_
    exact wn_zret dX11_either_44 rfl (Or.inr rfl) h
  · replace h := h.2 c1
    refine wp_aload_n 0 dX11_either_19 rfl rfl ?_
    obtain ⟨q2, o3, h⟩ := h
    refine wp_cvv dX11_either_20 ck_RX11_255 (sh10_K hS) (as := []) rfl rfl (Nat.le_of_ble_eq_true rfl) o3 (fun M4 o5 => ?_)
    replace h := h M4 o5
    refine wp_aload_n 0 dX11_either_23 rfl rfl ?_
    refine wp_iload_n 1 dX11_either_24 rfl rfl ?_
    obtain ⟨q6, o7, h⟩ := h
    refine wp_cvi dX11_either_25 ck_RX11_264 (sh10_K hS) (as := [.int x1]) rfl rfl (Nat.le_of_ble_eq_true rfl) o7 (fun M8 r9 o10 => ?_)
    replace h := h M8 r9 o10
    refine wp_if_ne (tgt := 33) dX11_either_28 (by decide) (fun c11 => ?_) (fun c11 => ?_)
    · replace h := h.1 c11
      refine wp_aload_n 0 dX11_either_33 rfl rfl ?_
      refine wp_iconst (v := 2) dX11_either_34 rfl ?_
      refine wp_bipush (v := 124) dX11_either_35 rfl ?_
      obtain ⟨q12, o13, h⟩ := h
      refine wp_cvv dX11_either_37 ck_RX11_270 (sh10_K hS) (as := [.int 2, .int 124]) rfl rfl (Nat.le_of_ble_eq_true rfl) o13 (fun M14 o15 => ?_)
      replace h := h M14 o15
      refine wp_goto (tgt := 10) dX11_either_40 (by decide) ?_
      exact Wp.sub [0, 1] rfl h
    · replace h := h.2 c11
      refine wp_iconst (v := 0) dX11_either_31 rfl ?_
      exact wn_zret dX11_either_32 rfl (Or.inl rfl) h
def RwIs (σ : Nat → Int32) (B : Nat) (O : List (Nat × Nat)) : Prop := ∀ i, i < O.length → σ (B + 2 * i) = nI (O.getD i (0, 0)).1 ∧ σ (B + 2 * i + 1) = nI (O.getD i (0, 0)).2
theorem RwIs.snoc {σ τ : Nat → Int32} {B : Nat} {O : List (Nat × Nat)} {it : Nat × Nat} (h : RwIs σ B O) (e : ∀ k, k < B + 2 * O.length → τ k = σ k) (e1 : τ (B + 2 * O.length) = nI it.1) (e2 : τ (B + 2 * O.length + 1) = nI it.2) : RwIs τ B (O ++ [it]) := by
  intro i hi
  simp only [List.length_append, List.length_cons, List.length_nil] at hi
  by_cases q : i < O.length
  · rw [e _ (by omega), e _ (by omega)]
    have := h i q
    rw [List.getD_eq_getElem?_getD, List.getElem?_append_left q, ← List.getD_eq_getElem?_getD]
    exact this
  · have hi2 : i = O.length := by omega
    subst hi2
    rw [e1, e2, List.getD_eq_getElem?_getD, List.getElem?_append_right (Nat.le_refl _), Nat.sub_self]
    exact ⟨rfl, rfl⟩
/-- the reference reads: it looks at k, has laid O from B on -/
def RS (M : Mm) (m : Nat) (c : Nat → Nat) (n B : Nat) (k : Tk) (O : List (Nat × Nat)) (np nb nn : Nat) : Prop := BY M m c n ∧ RT M m c k ∧ mI M m 25 = nI nb ∧ mI M m 26 = nI nn ∧ mI M m 27 = nI O.length ∧ mI M m 28 = nI B ∧ mI M m 29 = nI np ∧ RwIs (mI M (m + 1)) B O
/-- what the reference's reading leaves as it was -/
def FX (m B : Nat) (M M2 : Mm) : Prop := (∀ b, b ≠ m → b ≠ m + 1 → mI M2 b = mI M b) ∧ (∀ j, j < 20 ∨ 29 < j → mI M2 m j = mI M m j) ∧ (∀ k, k < B ∨ B + 192 ≤ k → mI M2 (m + 1) k = mI M (m + 1) k) ∧ mR M2 = mR M
theorem FX.refl (m B : Nat) (M : Mm) : FX m B M M := ⟨fun _ _ _ => rfl, fun _ _ => rfl, fun _ _ => rfl, rfl⟩
theorem FX.trans {m B : Nat} {M M2 M3 : Mm} (h1 : FX m B M M2) (h2 : FX m B M2 M3) : FX m B M M3 := ⟨fun b h h' => (h2.1 b h h').trans (h1.1 b h h'), fun j h => (h2.2.1 j h).trans (h1.2.1 j h), fun k h => (h2.2.2.1 k h).trans (h1.2.2.1 k h), h2.2.2.2.trans h1.2.2.2⟩
theorem NxF.fx {m : Nat} {M M2 : Mm} (B : Nat) (h : NxF m M M2) : FX m B M M2 := ⟨fun b h1 _ => h.1 b h1, fun j hj => h.2.1 j (by omega), fun k _ => by rw [h.1 (m + 1) (by omega)], h.2.2⟩
theorem FX.set {m B j : Nat} {v : Int32} {M M2 : Mm} (hj : 20 ≤ j ∧ j ≤ 29) (e : M2 = sI M m j v) : FX m B M M2 := by
  refine ⟨fun b h1 _ => by rw [e, mI_sI, up2_off _ _ _ h1], fun i hi => by rw [e, mI_sI, up2_k _ _ _ (by omega)], fun k _ => by rw [e, mI_sI, up2_off _ _ _ (by omega)], by rw [e]; rfl⟩
theorem rtok_3 {k : Tk} (h : kS k = 3) : rtok k = 3 := by
  unfold rtok
  rw [if_neg (by omega), if_pos h]
theorem rtok_0 {k : Tk} (h : kS k = 0) : rtok k = 0 := by
  unfold rtok
  rw [if_pos h]
theorem rtok_1 {k : Tk} (h : kS k = 1) : rtok k = if kZ k = 1 then 4 else 1 := by
  unfold rtok
  rw [if_neg (by omega), if_neg (by omega), if_pos h]
theorem rtok_2 {k : Tk} (h : kS k = 2) : rtok k = if kZ k = 1 ∨ 4 < kE k - kB k then 4 else 2 := by
  unfold rtok
  rw [if_neg (by omega), if_neg (by omega), if_neg (by omega)]
theorem rtok_le (k : Tk) : rtok k ≤ 4 := by
  unfold rtok
  repeat' split
  all_goals omega
theorem rtok_is3 {k : Tk} (h : rtok k = 3) : kS k = 3 := by
  unfold rtok at h
  repeat' split at h
  all_goals omega
theorem rtok_is2 {k : Tk} (hk : kS k ≤ 3) (h : rtok k = 2) : kS k = 2 ∧ ¬ (kZ k = 1 ∨ 4 < kE k - kB k) := by
  unfold rtok at h
  repeat' split at h
  all_goals omega
theorem rtok_is1 {k : Tk} (h : rtok k = 1) : kS k = 1 ∧ ¬ kZ k = 1 := by
  unfold rtok at h
  repeat' split at h
  all_goals omega
theorem hz_of {M : Mm} {m n : Nat} {c : Nat → Nat} {k : Tk} (hn : n ≤ 96) (hT : TV c n k) (hR : RT M m c k) (h4 : ¬ rtok k = 4) : (¬ (mI M m 21 ≤ 0) ∧ (mI M m 22 = 1 ∨ mI M m 22 = 2)) ↔ (kS k = 1 ∨ kS k = 2) := by
  obtain ⟨t1, t2, t3, t4, t5, t6, t7, t8⟩ := hT
  have hl := rtok_le k
  rw [hR.2.1, hR.2.2.1]
  constructor
  · rintro ⟨h1, h2 | h2⟩
    · exact Or.inl (rtok_is1 ((nI_inj (b := 1) (by omega) (by omega)).mp h2)).1
    · exact Or.inr (rtok_is2 t7 ((nI_inj (b := 2) (by omega) (by omega)).mp h2)).1
  · intro h
    refine ⟨fun q => ?_, ?_⟩
    · have := (nI_leI (b := 0) (by omega) (by omega)).mp q
      have := t5 (by omega)
      omega
    · rcases h with h | h
      · refine Or.inl (congrArg nI ?_)
        have e := rtok_1 h
        by_cases z : kZ k = 1
        · rw [if_pos z] at e
          exact absurd e h4
        · rw [if_neg z] at e
          exact e
      · refine Or.inr (congrArg nI ?_)
        have e := rtok_2 h
        by_cases z : kZ k = 1 ∨ 4 < kE k - kB k
        · rw [if_pos z] at e
          exact absurd e h4
        · rw [if_neg z] at e
          exact e
theorem RS.next {G : Gl} {d : Nat} {X : Sh} {M : Mm} {m n B np nb nn : Nat} {c : Nat → Nat} {k : Tk} {O : List (Nat × Nat)} (hd : 2 ≤ d) (hM : Sh10 X m) (h : RS M m c n B k O np nb nn) (hT : TV c n k) (h4 : ¬ rtok k = 4) : Cv G m_X11_next d [.ref m] X M (fun M2 => RS M2 m c n B (tnext c n k) O np nb nn ∧ FX m B M M2) := by
  obtain ⟨hB, hR, h25, h26, h27, h28, h29, hw⟩ := h
  refine (cp_X11_next G d hd X M m n c k hM hB hT.2.2.1 hR.2.1 (hz_of hB.2.1 hT hR h4)).mono ?_
  rintro M2 ⟨r2, f2⟩
  refine ⟨⟨f2.by hB, r2, by rw [f2.2.1 _ (by omega), h25], by rw [f2.2.1 _ (by omega), h26], by rw [f2.2.1 _ (by omega), h27], by rw [f2.2.1 _ (by omega), h28], by rw [f2.2.1 _ (by omega), h29], ?_⟩, f2.fx B⟩
  rw [f2.1 (m + 1) (by omega)]
  exact hw
theorem RS.set {M M2 : Mm} {m n B np nb nn j : Nat} {v : Int32} {c : Nat → Nat} {k : Tk} {O : List (Nat × Nat)} (h : RS M m c n B k O np nb nn) (e : M2 = sI M m j v) (hj : j = 25 ∨ j = 26 ∨ j = 29) {nb2 nn2 np2 : Nat} (e25 : mI M2 m 25 = nI nb2) (e26 : mI M2 m 26 = nI nn2) (e29 : mI M2 m 29 = nI np2) : RS M2 m c n B k O np2 nb2 nn2 := by
  obtain ⟨hB, hR, h25, h26, h27, h28, h29, hw⟩ := h
  have o : ∀ i, i ≠ j → mI M2 m i = mI M m i := fun i hi => by rw [e, mI_sI, up2_k _ _ _ hi]
  have p : ∀ b, b ≠ m → mI M2 b = mI M b := fun b hb => by rw [e, mI_sI, up2_off _ _ _ hb]
  refine ⟨⟨by rw [o 19 (by omega)]; exact hB.1, hB.2.1, fun i hi => by rw [p (m + 17) (by omega)]; exact hB.2.2 i hi⟩, ?_, e25, e26, by rw [o 27 (by omega), h27], by rw [o 28 (by omega), h28], e29, by rw [p (m + 1) (by omega)]; exact hw⟩
  unfold RT
  rw [o 20 (by omega), o 21 (by omega), o 22 (by omega), o 23 (by omega), o 24 (by omega)]
  exact hR
theorem cp_X11_step (G : Gl) (d : Nat) (X : Sh) (M : Mm) (m n B np nb nn : Nat) (c : Nat → Nat) (k : Tk) (O : List (Nat × Nat)) (w v : Nat) (hM : Sh10 X m) (h : RS M m c n B k O np nb nn) (hl : O.length ≤ 95) (hB : B + 192 ≤ 2950) : Cv G m_X11_step d [.ref m, .int (nI w), .int (nI v)] X M (fun M2 => RS M2 m c n B k (O ++ [(w, v)]) np nb nn ∧ FX m B M M2) := by
  obtain ⟨hBY, hR, h25, h26, h27, h28, h29, hw⟩ := h
  refine Cv.of (by decide) (Nat.le_of_ble_eq_true rfl) (bX11_step_0 hM ⟨B + 2 * O.length, by rw [h27, h28]; exact (by first | rfl | (simp only [n_lit, nI_add, pk_mul]; done) | (simp only [n_lit, nI_add, pk_mul]; exact congrArg nI (by omega))), by omega, ?_⟩)
  intro M4 e4
  have o4 : ∀ b, b ≠ m + 1 → mI M4 b = mI M b := fun b hb => by rw [e4, mI_sI, up2_off _ _ _ hb]
  refine ⟨B + 2 * O.length + 1, by rw [o4 m (by omega), h27, h28]; exact (by first | rfl | (simp only [n_lit, nI_add, pk_mul]; done) | (simp only [n_lit, nI_add, pk_mul]; exact congrArg nI (by omega))), by omega, ?_⟩
  intro M8 e8 M9 e9
  have o8 : ∀ b, b ≠ m + 1 → mI M8 b = mI M b := fun b hb => by rw [e8, mI_sI, up2_off _ _ _ hb, o4 b hb]
  have o9 : ∀ b, b ≠ m → b ≠ m + 1 → mI M9 b = mI M b := fun b h1 h2 => by rw [e9, mI_sI, up2_off _ _ _ h1, o8 b h2]
  have q9 : ∀ j, j ≠ 27 → mI M9 m j = mI M m j := fun j hj => by rw [e9, mI_sI, up2_k _ _ _ hj, o8 m (by omega)]
  have row : mI M9 (m + 1) = upd (upd (mI M (m + 1)) (B + 2 * O.length) (nI w)) (B + 2 * O.length + 1) (nI v) := by rw [e9, mI_sI, up2_off _ _ _ (by omega), e8, mI_sI, up2_row, e4, mI_sI, up2_row]
  refine ⟨⟨⟨by rw [q9 19 (by omega)]; exact hBY.1, hBY.2.1, fun i hi => by rw [o9 (m + 17) (by omega) (by omega)]; exact hBY.2.2 i hi⟩, ?_, by rw [q9 25 (by omega), h25], by rw [q9 26 (by omega), h26], ?_, by rw [q9 28 (by omega), h28], by rw [q9 29 (by omega), h29], ?_⟩, ⟨o9, fun j hj => q9 j (by omega), fun y hy => ?_, by rw [e9, e8, e4]; rfl⟩⟩
  · unfold RT
    rw [q9 20 (by omega), q9 21 (by omega), q9 22 (by omega), q9 23 (by omega), q9 24 (by omega)]
    exact hR
  · rw [e9, mI_sI, up2_same, o8 m (by omega), h27, nI_1]
    simp only [List.length_append, List.length_cons, List.length_nil]
  · rw [row]
    refine hw.snoc (fun y hy => ?_) ?_ upd_eq
    · rw [upd_ne (by omega), upd_ne (by omega)]
    · rw [upd_ne (by omega), upd_eq]
  · rw [row, upd_ne (by omega), upd_ne (by omega)]
/-- along the class's run -/
theorem crun_inv {c : Nat → Nat} {n key : Nat} : ∀ {j : Nat} {s s2 : Tk × Bd}, crun c n key j s = some s2 → TV c n s.1 → s.2.2.1.length + s.2.2.2.1.length ≤ kB s.1 → TV c n s2.1 ∧ s2.2.2.1.length + s2.2.2.2.1.length ≤ kB s2.1 ∧ kB s.1 + j ≤ kB s2.1
  | 0, s, s2, h, hT, hc => by
    cases h
    exact ⟨hT, hc, Nat.le_refl _⟩
  | j + 1, s, s2, h, hT, hc => by
    unfold crun at h
    by_cases h0 : kS s.1 = 0
    · rw [if_pos h0] at h
      cases h
    · rw [if_neg h0] at h
      cases hb : cbody c key s.1 s.2 with
      | none => rw [hb] at h; cases h
      | some b =>
        rw [hb] at h
        obtain ⟨t1, t2, t3, t4, t5, t6, t7, t8⟩ := id hT
        obtain ⟨n1, n2⟩ := TV.next (c := c) t3
        have := t5 h0
        have hl := cbody_len hb
        obtain ⟨i1, i2, i3⟩ := crun_inv (s := (tnext c n s.1, b)) h n1 (by
          show b.2.1.length + b.2.2.1.length ≤ kB (tnext c n s.1)
          omega)
        have i3 : kB (tnext c n s.1) + j ≤ kB s2.1 := i3
        exact ⟨i1, i2, by omega⟩
theorem Runs.inv {c : Nat → Nat} {n key : Nat} {s s2 : Tk × Bd} (h : Runs c n key s s2) (hT : TV c n s.1) (hc : s.2.2.1.length + s.2.2.2.1.length ≤ kB s.1) : TV c n s2.1 ∧ s2.2.2.1.length + s2.2.2.2.1.length ≤ kB s2.1 ∧ kB s.1 ≤ kB s2.1 := by
  obtain ⟨j, h⟩ := h
  obtain ⟨h1, h2, h3⟩ := crun_inv h hT hc
  exact ⟨h1, h2, by omega⟩
/-- what a rank's method of the reference answers, against the class's run -/
def GQ (c : Nat → Nat) (n key m B r : Nat) (M : Mm) (k : Tk) (H : List Nat) (O : List (Nat × Nat)) (nb nn np : Nat) (M2 : Mm) (x : Int32) : Prop := FX m B M M2 ∧ ((x = 1 ∧ ∃ (k2 : Tk) (P : List Nat) (O2 : List (Nat × Nat)) (np2 : Nat), Runs c n key (k, true, H, O, nb, nn, np) (k2, false, P ++ H, O2, nb, nn, np2) ∧ RS M2 m c n B k2 (O2 ++ sgs P) np2 nb nn ∧ (∀ p ∈ P, r ≤ rk p) ∧ Fol2 c r k2 P ∧ AOK key (O2 ++ sgs P) ∧ ∀ dd, dpO O = some dd → dpO (O2 ++ sgs P) = some (dd + 1)) ∨ (x = 0 ∧ ∃ s2 : Tk × Bd, Runs c n key (k, true, H, O, nb, nn, np) s2 ∧ Stuck c key s2 ∧ mI M2 m 20 = nI (kB s2.1)))
def dreq (r nb nn : Nat) : Nat := 6 * (8 - nb) + (8 - nn) + 3 + (6 - r)
def GP (G : Gl) (X : Sh) (m : Nat) (c : Nat → Nat) (n B key : Nat) (y : Md) (r N : Nat) : Prop := ∀ (d : Nat) (M : Mm) (k : Tk) (H : List Nat) (O : List (Nat × Nat)) (nb nn np : Nat), dreq r nb nn ≤ d → RS M m c n B k O np nb nn → TV c n k → H.length + O.length ≤ kB k → trk H < r → ¬ hd33 H → AOK key O → nb ≤ 8 → nn ≤ 8 → n - kB k ≤ N → Cn G y d [.ref m, .int (nI key)] X M (GQ c n key m B r M k H O nb nn np)
/-- of a part, j signs ! being right ahead of it -/
def PQ (c : Nat → Nat) (n key m B j : Nat) (M : Mm) (k : Tk) (H : List Nat) (O : List (Nat × Nat)) (nb nn np : Nat) (M2 : Mm) (x : Int32) : Prop := FX m B M M2 ∧ ((x = 1 ∧ ∃ (k2 : Tk) (O2 : List (Nat × Nat)) (np2 : Nat), Runs c n key (k, true, List.replicate j 33 ++ H, O, nb, nn, np) (k2, false, H, O2 ++ List.replicate j (2, 33), nb, nn - j, np2) ∧ RS M2 m c n B k2 O2 np2 nb nn ∧ AOK key O2 ∧ ∀ dd, dpO O = some dd → dpO O2 = some (dd + 1)) ∨ (x = 0 ∧ ∃ s2 : Tk × Bd, Runs c n key (k, true, List.replicate j 33 ++ H, O, nb, nn, np) s2 ∧ Stuck c key s2 ∧ mI M2 m 20 = nI (kB s2.1)))
def PP (G : Gl) (X : Sh) (m : Nat) (c : Nat → Nat) (n B key N : Nat) : Prop := ∀ (d : Nat) (M : Mm) (k : Tk) (j : Nat) (H : List Nat) (O : List (Nat × Nat)) (nb nn np : Nat), dreq 6 nb nn ≤ d → RS M m c n B k O np nb nn → TV c n k → j + H.length + O.length ≤ kB k → ¬ hd33 H → AOK key O → nb ≤ 8 → nn ≤ 8 → j ≤ nn → n - kB k ≤ N → Cn G m_X11_part0 d [.ref m, .int (nI key)] X M (PQ c n key m B j M k H O nb nn np)
theorem sgs_len (P : List Nat) : (sgs P).length = P.length := List.length_map ..
theorem sgs_snoc (P : List Nat) (x : Nat) : sgs (P ++ [x]) = sgs P ++ [(2, x)] := List.map_append ..
theorem dp_num (d v w : Nat) (h : w = 0 ∨ w = 1) : dp_step (nI w) (nI v) d = some (d + 1) := by
  rcases h with rfl | rfl <;> rfl
theorem dp_sgn (d x : Nat) (hx : x ≤ 255) (h : ¬ x = 33) : dp_step (nI 2) (nI x) (d + 2) = some (d + 1) := by
  show (if nI 2 = 2 then (if nI x = 33 then _ else if 2 ≤ d + 2 then some (d + 2 - 1) else none) else _) = _
  have h2 : ¬ nI x = (33 : Int32) := fun q => h ((nI_inj (b := 33) (by omega) (by omega)).mp q)
  rw [if_pos (show nI 2 = (2 : Int32) from rfl), if_neg h2, if_pos (by omega)]
  rfl
theorem dp_not (d : Nat) : dp_step (nI 2) (nI 33) (d + 1) = some (d + 1) := by
  show (if nI 2 = 2 then (if nI 33 = 33 then (if 1 ≤ d + 1 then some (d + 1) else none) else _) else _) = _
  rw [if_pos (show nI 2 = (2 : Int32) from rfl), if_pos (show nI 33 = (33 : Int32) from rfl), if_pos (by omega)]
theorem ok_sgn {key x : Nat} (h : x ∈ [33, 38, 42, 43, 45, 47, 60, 61, 62, 124]) : st_ok (nI key) (nI 2) (nI x) := Or.inr (Or.inr ⟨rfl, x, h, rfl⟩)
/-- the reference's sign is the token's -/
theorem RS.sign {M : Mm} {m n B np nb nn x : Nat} {c : Nat → Nat} {k : Tk} {O : List (Nat × Nat)} (h : RS M m c n B k O np nb nn) (hT : TV c n k) (hx : x ≤ 255) : (mI M m 22 = 3 ∧ mI M m 24 = nI x) ↔ (kS k = 3 ∧ c (kB k) = x) := by
  obtain ⟨hB, hR, _⟩ := h
  have hl := rtok_le k
  rw [hR.2.2.1]
  constructor
  · rintro ⟨h1, h2⟩
    have h3 := rtok_is3 ((nI_inj (b := 3) (by omega) (by omega)).mp h1)
    have := (hB.2.2 (kB k) (by have := tsrt_lt (c := c) (n := n) (p := kB k) (by rw [← hT.1]; omega); exact this)).2
    rw [hR.2.2.2.2.2 h3] at h2
    exact ⟨h3, (nI_inj (by omega) (by omega)).mp h2⟩
  · rintro ⟨h1, h2⟩
    rw [rtok_3 h1, hR.2.2.2.2.2 h1, h2]
    exact ⟨rfl, rfl⟩
/-- a sign of this rank, and the sub-method's part behind it -/
theorem op_step {G : Gl} {d : Nat} {X : Sh} {m n B key r N : Nat} {c : Nat → Nat} {y : Md} (hM : Sh10 X m) (hB : B + 192 ≤ 2950) (hsub : GP G X m c n B key y (r + 1) N) {M0 M1 : Mm} {k k1 : Tk} {H P : List Nat} {O O1 : List (Nat × Nat)} {nb nn np np1 x : Nat} (hd : dreq (r + 1) nb nn ≤ d) (hb8 : nb ≤ 8) (hn8 : nn ≤ 8) (hT : TV c n k) (hcap : H.length + O.length ≤ kB k) (hF : FX m B M0 M1) (ru : Runs c n key (k, true, H, O, nb, nn, np) (k1, false, P ++ H, O1, nb, nn, np1)) (hR : RS M1 m c n B k1 (O1 ++ sgs P) np1 nb nn) (hA : AOK key (O1 ++ sgs P)) (hdp : ∀ dd, dpO O = some dd → dpO (O1 ++ sgs P) = some (dd + 1)) (h3 : kS k1 = 3) (hx : c (kB k1) = x) (hxr : rk x = r) (hr : 0 < r) (hN : n - kB k ≤ N)
    (hbody : cbody c key k1 (false, P ++ H, O1, nb, nn, np1) = some (true, x :: H, O1 ++ sgs P, nb, nn, np1)) {W1 : Mm → Prop} {Q : Mm → Int32 → Prop}
    (hq0 : ∀ M2, FX m B M0 M2 → (∃ s2 : Tk × Bd, Runs c n key (k, true, H, O, nb, nn, np) s2 ∧ Stuck c key s2 ∧ mI M2 m 20 = nI (kB s2.1)) → Q M2 0)
    (hq1 : ∀ (M2 : Mm) (k2 : Tk) (P2 : List Nat) (O2 : List (Nat × Nat)) (np2 : Nat), kB k1 < kB k2 → FX m B M0 M2 → Runs c n key (k, true, H, O, nb, nn, np) (k2, false, (P2 ++ [x]) ++ H, O2, nb, nn, np2) → RS M2 m c n B k2 (O2 ++ sgs (P2 ++ [x])) np2 nb nn → (∀ p ∈ P2, r + 1 ≤ rk p) → Fol2 c (r + 1) k2 P2 → AOK key (O2 ++ sgs (P2 ++ [x])) → (∀ dd, dpO O = some dd → dpO (O2 ++ sgs (P2 ++ [x])) = some (dd + 1)) → W1 M2) :
    ∃ q2 : Mm → Prop, Cv G m_X11_next d [.ref m] X M1 q2 ∧ ∀ M4, q2 M4 → (∃ q6 : Mm → Int32 → Prop, Cn G y d [.ref m, .int (nI key)] X M4 q6 ∧ ∀ M8 r9, q6 M8 r9 → ((¬ (r9 = 0) → (∃ q12 : Mm → Prop, Cv G m_X11_step d [.ref m, .int 2, .int (nI x)] X M8 q12 ∧ ∀ M14, q12 M14 → W1 M14)) ∧ (r9 = 0 → Q M8 0))) := by
  obtain ⟨i1, i2, i3⟩ := ru.inv hT hcap
  have i1 : TV c n k1 := i1
  have i2 : (P ++ H).length + O1.length ≤ kB k1 := i2
  have i3 : kB k ≤ kB k1 := i3
  obtain ⟨t1, t2, t3, t4, t5, t6, t7, t8⟩ := id i1
  have e5 := t5 (by omega)
  obtain ⟨n1, n2⟩ := TV.next (c := c) t3
  have go : Runs c n key (k, true, H, O, nb, nn, np) (tnext c n k1, true, x :: H, O1 ++ sgs P, nb, nn, np1) := ru.trans (Runs.one (by omega) hbody)
  have n96 := hR.1.2.1
  have d2 : 2 ≤ d := by
    unfold dreq at hd
    omega
  refine ⟨_, hR.next d2 hM i1 (by rw [rtok_3 h3]; omega), ?_⟩
  rintro M4 ⟨hR4, F4⟩
  have hmem := rk_mem (x := x) (by omega)
  have hx255 : x ≤ 255 := by
    have := (hR.1.2.2 (kB k1) (by omega)).2
    omega
  simp only [List.length_append] at i2
  have hcap4 : (x :: H).length + (O1 ++ sgs P).length ≤ kB (tnext c n k1) := by
    simp only [List.length_cons, List.length_append, sgs_len]
    omega
  refine ⟨_, hsub d M4 (tnext c n k1) (x :: H) (O1 ++ sgs P) nb nn np1 hd hR4 n1 hcap4 (by show rk x < r + 1; omega) hmem.2 hA hb8 hn8 (by omega), ?_⟩
  rintro M8 r9 ⟨F8, ⟨rfl, k3, P3, O3, np3, ru3, hR3, hP3, hF3, hA3, hdp3⟩ | ⟨rfl, s2, ru2, hst, hbeg⟩⟩
  · refine ⟨fun _ => ?_, fun q => absurd q (by decide)⟩
    obtain ⟨j1, j2, j3⟩ := ru3.inv n1 hcap4
    have j2 : (P3 ++ x :: H).length + O3.length ≤ kB k3 := j2
    have j3 : kB (tnext c n k1) ≤ kB k3 := j3
    have j1 : TV c n k3 := j1
    simp only [List.length_append, List.length_cons] at j2
    have := j1.2.1
    refine ⟨_, cp_X11_step G d X M8 m n B np3 nb nn c k3 (O3 ++ sgs P3) 2 x hM hR3 (by simp only [List.length_append, sgs_len]; omega) hB, ?_⟩
    rintro M14 ⟨hR14, F14⟩
    have eO : O3 ++ sgs P3 ++ [(2, x)] = O3 ++ sgs (P3 ++ [x]) := by rw [sgs_snoc, List.append_assoc]
    rw [eO] at hR14
    refine hq1 M14 k3 P3 O3 np3 (by omega) (((hF.trans F4).trans F8).trans F14) ?_ hR14 hP3 hF3 ?_ (fun dd h0 => ?_)
    · have := go.trans ru3
      rw [List.append_assoc]
      exact this
    · rw [← eO]
      exact hA3.snoc (ok_sgn hmem.1)
    · rw [← eO, dpO_snoc, hdp3 _ (hdp dd h0)]
      exact dp_sgn dd x hx255 hmem.2
  · exact ⟨fun q => absurd rfl q, fun _ => hq0 M8 ((hF.trans F4).trans F8) ⟨s2, go.trans ru2, hst, hbeg⟩⟩
/-- the class's step at a sign of rank r, all that is pending being of r at least -/
theorem body_op {c : Nat → Nat} {key r x : Nat} {k1 : Tk} {P H : List Nat} {O1 : List (Nat × Nat)} {nb nn np : Nat} (h3 : kS k1 = 3) (hx : c (kB k1) = x) (hxr : rk x = r) (hr : 0 < r) (hP : ∀ p ∈ P, r ≤ rk p) (hP3 : r = 3 → ∀ p ∈ P, 4 ≤ rk p) (ht : trk H < r) : cbody c key k1 (false, P ++ H, O1, nb, nn, np) = some (true, x :: H, O1 ++ sgs P, nb, nn, np) := by
  have h41 : ¬ x = 41 := fun q => by
    rw [q] at hxr
    have : rk 41 = 0 := rfl
    omega
  have e : fl r (decide (¬ r = 3)) (P ++ H) O1 = (H, O1 ++ sgs P) := by
    refine fl_all (fun p hp => ?_) (Or.inl ?_)
    · have := hP p hp
      by_cases z : r = 3
      · have := hP3 z p hp
        exact Or.inl (by omega)
      · by_cases z2 : rk p = r
        · exact Or.inr ⟨decide_eq_true z, z2⟩
        · exact Or.inl (by omega)
    · rintro (q | q)
      · omega
      · omega
  rw [cbody_f, if_pos h3, hx, if_neg h41, if_neg (by omega), hxr]
  by_cases z : r = 3
  · have e3 : fl 3 false (P ++ H) O1 = (H, O1 ++ sgs P) := by
      rw [← e, z]
      rfl
    rw [if_neg ?_]
    · show some (true, x :: (fl r (decide (¬ r = 3)) (P ++ H) O1).1, (fl r (decide (¬ r = 3)) (P ++ H) O1).2, nb, nn, np) = _
      rw [e]
    · rintro ⟨_, q⟩
      have q : trk (fl 3 false (P ++ H) O1).1 = 3 := q
      rw [e3] at q
      have q : trk H = 3 := q
      omega
  · rw [if_neg (fun q => z q.1)]
    show some (true, x :: (fl r (decide (¬ r = 3)) (P ++ H) O1).1, (fl r (decide (¬ r = 3)) (P ++ H) O1).2, nb, nn, np) = _
    rw [e]
theorem rk_1 {x : Nat} : rk x = 1 ↔ x = 124 := by
  unfold rk
  constructor
  · intro h
    repeat' split at h
    all_goals omega
  · rintro rfl
    rfl
theorem rk_2 {x : Nat} : rk x = 2 ↔ x = 38 := by
  unfold rk
  constructor
  · intro h
    repeat' split at h
    all_goals omega
  · rintro rfl
    rfl
theorem rk_3 {x : Nat} : rk x = 3 ↔ x = 60 ∨ x = 61 ∨ x = 62 := by
  unfold rk
  constructor
  · intro h
    repeat' split at h
    all_goals omega
  · rintro (rfl | rfl | rfl) <;> rfl
theorem rk_4 {x : Nat} : rk x = 4 ↔ x = 43 ∨ x = 45 := by
  unfold rk
  constructor
  · intro h
    repeat' split at h
    all_goals omega
  · rintro (rfl | rfl) <;> rfl
theorem rk_5 {x : Nat} : rk x = 5 ↔ x = 42 ∨ x = 47 := by
  unfold rk
  constructor
  · intro h
    repeat' split at h
    all_goals omega
  · rintro (rfl | rfl) <;> rfl
theorem lp_term {G : Gl} {d : Nat} {X : Sh} {m n B key N : Nat} {c : Nat → Nat} (hM : Sh10 X m) (hB : B + 192 ≤ 2950) (hsub : GP G X m c n B key m_X11_part0 (6) N) {M0 : Mm} {k : Tk} {H : List Nat} {O : List (Nat × Nat)} {nb nn np : Nat} (hd : dreq (6) nb nn ≤ d) (hb8 : nb ≤ 8) (hn8 : nn ≤ 8) (hT : TV c n k) (hcap : H.length + O.length ≤ kB k) (htrk : trk H < 5) (hN : n - kB k ≤ N) :
    ∀ (μ : Nat) (M1 : Mm) (k1 : Tk) (P : List Nat) (O1 : List (Nat × Nat)) (np1 : Nat), n - kB k1 ≤ μ → FX m B M0 M1 → Runs c n key (k, true, H, O, nb, nn, np) (k1, false, P ++ H, O1, nb, nn, np1) → RS M1 m c n B k1 (O1 ++ sgs P) np1 nb nn → (∀ p ∈ P, 5 ≤ rk p) → Fol2 c (6) k1 P → AOK key (O1 ++ sgs P) → (∀ dd, dpO O = some dd → dpO (O1 ++ sgs P) = some (dd + 1)) → Wn G m_X11_term (d + 1) 10 [(0, .ref m), (1, .int (nI key))] [] X M1 (GQ c n key m B 5 M0 k H O nb nn np) := by
  intro μ
  induction μ with
  | zero =>
    intro M1 k1 P O1 np1 hμ hF ru hR hP hFo hA hdp
    obtain ⟨i1, _, _⟩ := ru.inv hT hcap
    have i1 : TV c n k1 := i1
    have no3 : ¬ kS k1 = 3 := fun q => by
      have := tsrt_lt (c := c) (n := n) (p := kB k1) (by rw [← i1.1]; omega)
      omega
    have fin : GQ c n key m B 5 M0 k H O nb nn np M1 1 := ⟨hF, Or.inl ⟨rfl, k1, P, O1, np1, ru, hR, hP, fun z => absurd z no3, hA, hdp⟩⟩
    have ns : ∀ x, x ≤ 255 → ¬ (mI M1 m 22 = 3 ∧ mI M1 m 24 = nI x) := fun x hx q => no3 ((hR.sign i1 hx).mp q).1
    exact bX11_term_10 hM ⟨fun q => absurd q (ns 42 (by decide)), fun _ => ⟨fun _ => fin, fun q => absurd q (ns 47 (by decide))⟩⟩
  | succ μ ih =>
    intro M1 k1 P O1 np1 hμ hF ru hR hP hFo hA hdp
    obtain ⟨i1, _, i3⟩ := ru.inv hT hcap
    have i1 : TV c n k1 := i1
    have i3 : kB k ≤ kB k1 := i3
    have fin : (kS k1 = 3 → ¬ rk (c (kB k1)) = 5) → GQ c n key m B 5 M0 k H O nb nn np M1 1 := fun hno => ⟨hF, Or.inl ⟨rfl, k1, P, O1, np1, ru, hR, hP, fun z => by
      rcases hFo z with h1 | h1
      · have := hno z
        exact Or.inl (by omega)
      · exact Or.inr h1, hA, hdp⟩⟩
    have go : ∀ x, x ≤ 255 → rk x = 5 → mI M1 m 22 = 3 ∧ mI M1 m 24 = nI x → ∃ q2 : Mm → Prop, Cv G m_X11_next d [.ref m] X M1 q2 ∧ ∀ M4, q2 M4 → (∃ q6 : Mm → Int32 → Prop, Cn G m_X11_part0 d [.ref m, .int (nI key)] X M4 q6 ∧ ∀ M8 r9, q6 M8 r9 → ((¬ (r9 = 0) → (∃ q12 : Mm → Prop, Cv G m_X11_step d [.ref m, .int 2, .int (nI x)] X M8 q12 ∧ ∀ M14, q12 M14 → Wn G m_X11_term (d + 1) 10 [(0, .ref m), (1, .int (nI key))] [] X M14 (GQ c n key m B 5 M0 k H O nb nn np))) ∧ (r9 = 0 → GQ c n key m B 5 M0 k H O nb nn np M8 0))) := fun x hx hxr hs => by
      obtain ⟨h3, hcx⟩ := (hR.sign i1 hx).mp hs
      have blt := tsrt_lt (c := c) (n := n) (p := kB k1) (by rw [← i1.1]; omega)
      refine op_step hM hB hsub hd hb8 hn8 hT hcap hF ru hR hA hdp h3 hcx hxr (by omega) hN (body_op h3 hcx hxr (by omega) hP (fun z => absurd z (by omega)) htrk) (fun M2 f2 g2 => ⟨f2, Or.inr ⟨rfl, g2⟩⟩) (fun M2 k2 P2 O2 np2 g1 g2 g3 g4 g5 g6 g7 g8 => ?_)
      refine ih M2 k2 (P2 ++ [x]) O2 np2 (by omega) g2 g3 g4 (fun p hp => ?_) (g6.more (by omega)) g7 g8
      rcases List.mem_append.mp hp with z | z
      · have := g5 p z
        omega
      · rw [List.mem_singleton.mp z]
        omega
    exact bX11_term_10 hM ⟨fun q => fun v e => by rw [e, q.2]; exact go 42 (by decide) rfl q, fun q1 => ⟨fun q2 => fin (fun z y => by rcases rk_5.mp y with y | y; exact q1 ((hR.sign i1 (by decide)).mpr ⟨z, y⟩); exact q2 ((hR.sign i1 (by decide)).mpr ⟨z, y⟩)), fun q => fun v e => by rw [e, q.2]; exact go 47 (by decide) rfl q⟩⟩
theorem lv_term {G : Gl} {X : Sh} {m n B key N : Nat} {c : Nat → Nat} (hM : Sh10 X m) (hB : B + 192 ≤ 2950) (hsub : GP G X m c n B key m_X11_part0 (6) N) : GP G X m c n B key m_X11_term 5 N := by
  intro d M k H O nb nn np hd hR hT hcap htrk h33 hA hb8 hn8 hN
  obtain ⟨d, rfl⟩ : ∃ d1, d = d1 + 1 := ⟨d - 1, by unfold dreq at hd; omega⟩
  have hd2 : dreq (6) nb nn ≤ d := by
    unfold dreq at hd ⊢
    omega
  refine Cn.of (by decide) (Nat.le_of_ble_eq_true rfl) (bX11_term_0 hM ⟨_, hsub d M k H O nb nn np hd2 hR hT hcap (by omega) h33 hA hb8 hn8 hN, ?_⟩)
  rintro M3 r4 ⟨F3, ⟨rfl, k2, P, O2, np2, ru, hR2, hP, hF, hA2, hdp⟩ | ⟨rfl, s2, ru, hst, hbeg⟩⟩
  · exact ⟨fun _ => lp_term hM hB hsub hd2 hb8 hn8 hT hcap htrk hN (n - kB k2) M3 k2 P O2 np2 (Nat.le_refl _) F3 ru hR2 (fun p hp => by have := hP p hp; omega) hF hA2 hdp, fun q => absurd q (by decide)⟩
  · exact ⟨fun q => absurd rfl q, fun _ => ⟨F3, Or.inr ⟨rfl, s2, ru, hst, hbeg⟩⟩⟩
theorem lp_sum {G : Gl} {d : Nat} {X : Sh} {m n B key N : Nat} {c : Nat → Nat} (hM : Sh10 X m) (hB : B + 192 ≤ 2950) (hsub : GP G X m c n B key m_X11_term (5) N) {M0 : Mm} {k : Tk} {H : List Nat} {O : List (Nat × Nat)} {nb nn np : Nat} (hd : dreq (5) nb nn ≤ d) (hb8 : nb ≤ 8) (hn8 : nn ≤ 8) (hT : TV c n k) (hcap : H.length + O.length ≤ kB k) (htrk : trk H < 4) (hN : n - kB k ≤ N) :
    ∀ (μ : Nat) (M1 : Mm) (k1 : Tk) (P : List Nat) (O1 : List (Nat × Nat)) (np1 : Nat), n - kB k1 ≤ μ → FX m B M0 M1 → Runs c n key (k, true, H, O, nb, nn, np) (k1, false, P ++ H, O1, nb, nn, np1) → RS M1 m c n B k1 (O1 ++ sgs P) np1 nb nn → (∀ p ∈ P, 4 ≤ rk p) → Fol2 c (5) k1 P → AOK key (O1 ++ sgs P) → (∀ dd, dpO O = some dd → dpO (O1 ++ sgs P) = some (dd + 1)) → Wn G m_X11_sum (d + 1) 10 [(0, .ref m), (1, .int (nI key))] [] X M1 (GQ c n key m B 4 M0 k H O nb nn np) := by
  intro μ
  induction μ with
  | zero =>
    intro M1 k1 P O1 np1 hμ hF ru hR hP hFo hA hdp
    obtain ⟨i1, _, _⟩ := ru.inv hT hcap
    have i1 : TV c n k1 := i1
    have no3 : ¬ kS k1 = 3 := fun q => by
      have := tsrt_lt (c := c) (n := n) (p := kB k1) (by rw [← i1.1]; omega)
      omega
    have fin : GQ c n key m B 4 M0 k H O nb nn np M1 1 := ⟨hF, Or.inl ⟨rfl, k1, P, O1, np1, ru, hR, hP, fun z => absurd z no3, hA, hdp⟩⟩
    have ns : ∀ x, x ≤ 255 → ¬ (mI M1 m 22 = 3 ∧ mI M1 m 24 = nI x) := fun x hx q => no3 ((hR.sign i1 hx).mp q).1
    exact bX11_sum_10 hM ⟨fun q => absurd q (ns 43 (by decide)), fun _ => ⟨fun _ => fin, fun q => absurd q (ns 45 (by decide))⟩⟩
  | succ μ ih =>
    intro M1 k1 P O1 np1 hμ hF ru hR hP hFo hA hdp
    obtain ⟨i1, _, i3⟩ := ru.inv hT hcap
    have i1 : TV c n k1 := i1
    have i3 : kB k ≤ kB k1 := i3
    have fin : (kS k1 = 3 → ¬ rk (c (kB k1)) = 4) → GQ c n key m B 4 M0 k H O nb nn np M1 1 := fun hno => ⟨hF, Or.inl ⟨rfl, k1, P, O1, np1, ru, hR, hP, fun z => by
      rcases hFo z with h1 | h1
      · have := hno z
        exact Or.inl (by omega)
      · exact Or.inr h1, hA, hdp⟩⟩
    have go : ∀ x, x ≤ 255 → rk x = 4 → mI M1 m 22 = 3 ∧ mI M1 m 24 = nI x → ∃ q2 : Mm → Prop, Cv G m_X11_next d [.ref m] X M1 q2 ∧ ∀ M4, q2 M4 → (∃ q6 : Mm → Int32 → Prop, Cn G m_X11_term d [.ref m, .int (nI key)] X M4 q6 ∧ ∀ M8 r9, q6 M8 r9 → ((¬ (r9 = 0) → (∃ q12 : Mm → Prop, Cv G m_X11_step d [.ref m, .int 2, .int (nI x)] X M8 q12 ∧ ∀ M14, q12 M14 → Wn G m_X11_sum (d + 1) 10 [(0, .ref m), (1, .int (nI key))] [] X M14 (GQ c n key m B 4 M0 k H O nb nn np))) ∧ (r9 = 0 → GQ c n key m B 4 M0 k H O nb nn np M8 0))) := fun x hx hxr hs => by
      obtain ⟨h3, hcx⟩ := (hR.sign i1 hx).mp hs
      have blt := tsrt_lt (c := c) (n := n) (p := kB k1) (by rw [← i1.1]; omega)
      refine op_step hM hB hsub hd hb8 hn8 hT hcap hF ru hR hA hdp h3 hcx hxr (by omega) hN (body_op h3 hcx hxr (by omega) hP (fun z => absurd z (by omega)) htrk) (fun M2 f2 g2 => ⟨f2, Or.inr ⟨rfl, g2⟩⟩) (fun M2 k2 P2 O2 np2 g1 g2 g3 g4 g5 g6 g7 g8 => ?_)
      refine ih M2 k2 (P2 ++ [x]) O2 np2 (by omega) g2 g3 g4 (fun p hp => ?_) (g6.more (by omega)) g7 g8
      rcases List.mem_append.mp hp with z | z
      · have := g5 p z
        omega
      · rw [List.mem_singleton.mp z]
        omega
    exact bX11_sum_10 hM ⟨fun q => fun v e => by rw [e, q.2]; exact go 43 (by decide) rfl q, fun q1 => ⟨fun q2 => fin (fun z y => by rcases rk_4.mp y with y | y; exact q1 ((hR.sign i1 (by decide)).mpr ⟨z, y⟩); exact q2 ((hR.sign i1 (by decide)).mpr ⟨z, y⟩)), fun q => fun v e => by rw [e, q.2]; exact go 45 (by decide) rfl q⟩⟩
theorem lv_sum {G : Gl} {X : Sh} {m n B key N : Nat} {c : Nat → Nat} (hM : Sh10 X m) (hB : B + 192 ≤ 2950) (hsub : GP G X m c n B key m_X11_term (5) N) : GP G X m c n B key m_X11_sum 4 N := by
  intro d M k H O nb nn np hd hR hT hcap htrk h33 hA hb8 hn8 hN
  obtain ⟨d, rfl⟩ : ∃ d1, d = d1 + 1 := ⟨d - 1, by unfold dreq at hd; omega⟩
  have hd2 : dreq (5) nb nn ≤ d := by
    unfold dreq at hd ⊢
    omega
  refine Cn.of (by decide) (Nat.le_of_ble_eq_true rfl) (bX11_sum_0 hM ⟨_, hsub d M k H O nb nn np hd2 hR hT hcap (by omega) h33 hA hb8 hn8 hN, ?_⟩)
  rintro M3 r4 ⟨F3, ⟨rfl, k2, P, O2, np2, ru, hR2, hP, hF, hA2, hdp⟩ | ⟨rfl, s2, ru, hst, hbeg⟩⟩
  · exact ⟨fun _ => lp_sum hM hB hsub hd2 hb8 hn8 hT hcap htrk hN (n - kB k2) M3 k2 P O2 np2 (Nat.le_refl _) F3 ru hR2 (fun p hp => by have := hP p hp; omega) hF hA2 hdp, fun q => absurd q (by decide)⟩
  · exact ⟨fun q => absurd rfl q, fun _ => ⟨F3, Or.inr ⟨rfl, s2, ru, hst, hbeg⟩⟩⟩
theorem lv_test {G : Gl} {X : Sh} {m n B key N : Nat} {c : Nat → Nat} (hM : Sh10 X m) (hB : B + 192 ≤ 2950) (hsub : GP G X m c n B key m_X11_sum 4 N) : GP G X m c n B key m_X11_test 3 N := by
  intro d M k H O nb nn np hd hR hT hcap htrk h33 hA hb8 hn8 hN
  obtain ⟨d, rfl⟩ : ∃ d1, d = d1 + 1 := ⟨d - 1, by unfold dreq at hd; omega⟩
  have hd2 : dreq 4 nb nn ≤ d := by
    unfold dreq at hd ⊢
    omega
  refine Cn.of (by decide) (Nat.le_of_ble_eq_true rfl) (bX11_test_0 hM ⟨_, hsub d M k H O nb nn np hd2 hR hT hcap (by omega) h33 hA hb8 hn8 hN, ?_⟩)
  rintro M3 r4 ⟨F3, ⟨rfl, k1, P, O1, np1, ru, hR1, hP, hF, hA1, hdp⟩ | ⟨rfl, s2, ru, hst, hbeg⟩⟩
  · obtain ⟨i1, _, i3⟩ := ru.inv hT hcap
    have i1 : TV c n k1 := i1
    have go : ∀ x, x ≤ 255 → rk x = 3 → mI M3 m 22 = 3 ∧ mI M3 m 24 = nI x → ∃ q2 : Mm → Prop, Cv G m_X11_next d [.ref m] X M3 q2 ∧ ∀ M4, q2 M4 → (∃ q6 : Mm → Int32 → Prop, Cn G m_X11_sum d [.ref m, .int (nI key)] X M4 q6 ∧ ∀ M8 r9, q6 M8 r9 → ((¬ (r9 = 0) → (∃ q12 : Mm → Prop, Cv G m_X11_step d [.ref m, .int 2, .int (nI x)] X M8 q12 ∧ ∀ M14, q12 M14 → GQ c n key m B 3 M k H O nb nn np M14 1)) ∧ (r9 = 0 → GQ c n key m B 3 M k H O nb nn np M8 0))) := fun x hx hxr hs => by
      obtain ⟨h3, hcx⟩ := (hR1.sign i1 hx).mp hs
      refine op_step (r := 3) hM hB hsub hd2 hb8 hn8 hT hcap F3 ru hR1 hA1 hdp h3 hcx hxr (by omega) hN (body_op h3 hcx hxr (by omega) (fun p hp => by have := hP p hp; omega) (fun _ => hP) htrk) (fun M2 f2 g2 => ⟨f2, Or.inr ⟨rfl, g2⟩⟩) (fun M2 k2 P2 O2 np2 g1 g2 g3 g4 g5 g6 g7 g8 => ?_)
      refine ⟨g2, Or.inl ⟨rfl, k2, P2 ++ [x], O2, np2, g3, g4, fun p hp => ?_, fun z => ?_, g7, g8⟩⟩
      · rcases List.mem_append.mp hp with z | z
        · have := g5 p z
          omega
        · rw [List.mem_singleton.mp z]
          omega
      · rcases g6 z with y | ⟨y, _⟩
        · by_cases y3 : rk (c (kB k2)) = 3
          · exact Or.inr ⟨y3, P2, x, [], rfl, fun q hq => by have := g5 q hq; omega, hxr⟩
          · exact Or.inl (by omega)
        · exact Or.inr ⟨y, P2, x, [], rfl, fun q hq => by have := g5 q hq; omega, hxr⟩
    refine ⟨fun _ => ⟨fun q => fun v e => by rw [e, q.2]; exact go 60 (by decide) rfl q, fun q1 => ⟨fun q => fun v e => by rw [e, q.2]; exact go 61 (by decide) rfl q, fun q2 => ⟨fun q3 => ?_, fun q => fun v e => by rw [e, q.2]; exact go 62 (by decide) rfl q⟩⟩⟩, fun q => absurd q (by decide)⟩
    refine ⟨F3, Or.inl ⟨rfl, k1, P, O1, np1, ru, hR1, fun p hp => by have := hP p hp; omega, fun z => ?_, hA1, hdp⟩⟩
    rcases hF z with y | y
    · by_cases y3 : rk (c (kB k1)) = 3
      · exfalso
        rcases rk_3.mp y3 with u | u | u
        · exact q1 ((hR1.sign i1 (by decide)).mpr ⟨z, u⟩)
        · exact q2 ((hR1.sign i1 (by decide)).mpr ⟨z, u⟩)
        · exact q3 ((hR1.sign i1 (by decide)).mpr ⟨z, u⟩)
      · exact Or.inl (by omega)
    · exact Or.inr y
  · exact ⟨fun q => absurd rfl q, fun _ => ⟨F3, Or.inr ⟨rfl, s2, ru, hst, hbeg⟩⟩⟩
theorem lp_both {G : Gl} {d : Nat} {X : Sh} {m n B key N : Nat} {c : Nat → Nat} (hM : Sh10 X m) (hB : B + 192 ≤ 2950) (hsub : GP G X m c n B key m_X11_test (3) N) {M0 : Mm} {k : Tk} {H : List Nat} {O : List (Nat × Nat)} {nb nn np : Nat} (hd : dreq (3) nb nn ≤ d) (hb8 : nb ≤ 8) (hn8 : nn ≤ 8) (hT : TV c n k) (hcap : H.length + O.length ≤ kB k) (htrk : trk H < 2) (hN : n - kB k ≤ N) :
    ∀ (μ : Nat) (M1 : Mm) (k1 : Tk) (P : List Nat) (O1 : List (Nat × Nat)) (np1 : Nat), n - kB k1 ≤ μ → FX m B M0 M1 → Runs c n key (k, true, H, O, nb, nn, np) (k1, false, P ++ H, O1, nb, nn, np1) → RS M1 m c n B k1 (O1 ++ sgs P) np1 nb nn → (∀ p ∈ P, 2 ≤ rk p) → Fol2 c (3) k1 P → AOK key (O1 ++ sgs P) → (∀ dd, dpO O = some dd → dpO (O1 ++ sgs P) = some (dd + 1)) → Wn G m_X11_both (d + 1) 10 [(0, .ref m), (1, .int (nI key))] [] X M1 (GQ c n key m B 2 M0 k H O nb nn np) := by
  intro μ
  induction μ with
  | zero =>
    intro M1 k1 P O1 np1 hμ hF ru hR hP hFo hA hdp
    obtain ⟨i1, _, _⟩ := ru.inv hT hcap
    have i1 : TV c n k1 := i1
    have no3 : ¬ kS k1 = 3 := fun q => by
      have := tsrt_lt (c := c) (n := n) (p := kB k1) (by rw [← i1.1]; omega)
      omega
    have fin : GQ c n key m B 2 M0 k H O nb nn np M1 1 := ⟨hF, Or.inl ⟨rfl, k1, P, O1, np1, ru, hR, hP, fun z => absurd z no3, hA, hdp⟩⟩
    have ns : ∀ x, x ≤ 255 → ¬ (mI M1 m 22 = 3 ∧ mI M1 m 24 = nI x) := fun x hx q => no3 ((hR.sign i1 hx).mp q).1
    exact bX11_both_10 hM ⟨fun _ => fin, fun q => absurd q (ns 38 (by decide))⟩
  | succ μ ih =>
    intro M1 k1 P O1 np1 hμ hF ru hR hP hFo hA hdp
    obtain ⟨i1, _, i3⟩ := ru.inv hT hcap
    have i1 : TV c n k1 := i1
    have i3 : kB k ≤ kB k1 := i3
    have fin : (kS k1 = 3 → ¬ rk (c (kB k1)) = 2) → GQ c n key m B 2 M0 k H O nb nn np M1 1 := fun hno => ⟨hF, Or.inl ⟨rfl, k1, P, O1, np1, ru, hR, hP, fun z => by
      rcases hFo z with h1 | h1
      · have := hno z
        exact Or.inl (by omega)
      · exact Or.inr h1, hA, hdp⟩⟩
    have go : ∀ x, x ≤ 255 → rk x = 2 → mI M1 m 22 = 3 ∧ mI M1 m 24 = nI x → ∃ q2 : Mm → Prop, Cv G m_X11_next d [.ref m] X M1 q2 ∧ ∀ M4, q2 M4 → (∃ q6 : Mm → Int32 → Prop, Cn G m_X11_test d [.ref m, .int (nI key)] X M4 q6 ∧ ∀ M8 r9, q6 M8 r9 → ((¬ (r9 = 0) → (∃ q12 : Mm → Prop, Cv G m_X11_step d [.ref m, .int 2, .int (nI x)] X M8 q12 ∧ ∀ M14, q12 M14 → Wn G m_X11_both (d + 1) 10 [(0, .ref m), (1, .int (nI key))] [] X M14 (GQ c n key m B 2 M0 k H O nb nn np))) ∧ (r9 = 0 → GQ c n key m B 2 M0 k H O nb nn np M8 0))) := fun x hx hxr hs => by
      obtain ⟨h3, hcx⟩ := (hR.sign i1 hx).mp hs
      have blt := tsrt_lt (c := c) (n := n) (p := kB k1) (by rw [← i1.1]; omega)
      refine op_step hM hB hsub hd hb8 hn8 hT hcap hF ru hR hA hdp h3 hcx hxr (by omega) hN (body_op h3 hcx hxr (by omega) hP (fun z => absurd z (by omega)) htrk) (fun M2 f2 g2 => ⟨f2, Or.inr ⟨rfl, g2⟩⟩) (fun M2 k2 P2 O2 np2 g1 g2 g3 g4 g5 g6 g7 g8 => ?_)
      refine ih M2 k2 (P2 ++ [x]) O2 np2 (by omega) g2 g3 g4 (fun p hp => ?_) (g6.more (by omega)) g7 g8
      rcases List.mem_append.mp hp with z | z
      · have := g5 p z
        omega
      · rw [List.mem_singleton.mp z]
        omega
    exact bX11_both_10 hM ⟨fun q => fin (fun z y => q ((hR.sign i1 (by decide)).mpr ⟨z, rk_2.mp y⟩)), fun q => go 38 (by decide) rfl q⟩
theorem lv_both {G : Gl} {X : Sh} {m n B key N : Nat} {c : Nat → Nat} (hM : Sh10 X m) (hB : B + 192 ≤ 2950) (hsub : GP G X m c n B key m_X11_test (3) N) : GP G X m c n B key m_X11_both 2 N := by
  intro d M k H O nb nn np hd hR hT hcap htrk h33 hA hb8 hn8 hN
  obtain ⟨d, rfl⟩ : ∃ d1, d = d1 + 1 := ⟨d - 1, by unfold dreq at hd; omega⟩
  have hd2 : dreq (3) nb nn ≤ d := by
    unfold dreq at hd ⊢
    omega
  refine Cn.of (by decide) (Nat.le_of_ble_eq_true rfl) (bX11_both_0 hM ⟨_, hsub d M k H O nb nn np hd2 hR hT hcap (by omega) h33 hA hb8 hn8 hN, ?_⟩)
  rintro M3 r4 ⟨F3, ⟨rfl, k2, P, O2, np2, ru, hR2, hP, hF, hA2, hdp⟩ | ⟨rfl, s2, ru, hst, hbeg⟩⟩
  · exact ⟨fun _ => lp_both hM hB hsub hd2 hb8 hn8 hT hcap htrk hN (n - kB k2) M3 k2 P O2 np2 (Nat.le_refl _) F3 ru hR2 (fun p hp => by have := hP p hp; omega) hF hA2 hdp, fun q => absurd q (by decide)⟩
  · exact ⟨fun q => absurd rfl q, fun _ => ⟨F3, Or.inr ⟨rfl, s2, ru, hst, hbeg⟩⟩⟩
theorem lp_either {G : Gl} {d : Nat} {X : Sh} {m n B key N : Nat} {c : Nat → Nat} (hM : Sh10 X m) (hB : B + 192 ≤ 2950) (hsub : GP G X m c n B key m_X11_both (2) N) {M0 : Mm} {k : Tk} {H : List Nat} {O : List (Nat × Nat)} {nb nn np : Nat} (hd : dreq (2) nb nn ≤ d) (hb8 : nb ≤ 8) (hn8 : nn ≤ 8) (hT : TV c n k) (hcap : H.length + O.length ≤ kB k) (htrk : trk H < 1) (hN : n - kB k ≤ N) :
    ∀ (μ : Nat) (M1 : Mm) (k1 : Tk) (P : List Nat) (O1 : List (Nat × Nat)) (np1 : Nat), n - kB k1 ≤ μ → FX m B M0 M1 → Runs c n key (k, true, H, O, nb, nn, np) (k1, false, P ++ H, O1, nb, nn, np1) → RS M1 m c n B k1 (O1 ++ sgs P) np1 nb nn → (∀ p ∈ P, 1 ≤ rk p) → Fol2 c (2) k1 P → AOK key (O1 ++ sgs P) → (∀ dd, dpO O = some dd → dpO (O1 ++ sgs P) = some (dd + 1)) → Wn G m_X11_either (d + 1) 10 [(0, .ref m), (1, .int (nI key))] [] X M1 (GQ c n key m B 1 M0 k H O nb nn np) := by
  intro μ
  induction μ with
  | zero =>
    intro M1 k1 P O1 np1 hμ hF ru hR hP hFo hA hdp
    obtain ⟨i1, _, _⟩ := ru.inv hT hcap
    have i1 : TV c n k1 := i1
    have no3 : ¬ kS k1 = 3 := fun q => by
      have := tsrt_lt (c := c) (n := n) (p := kB k1) (by rw [← i1.1]; omega)
      omega
    have fin : GQ c n key m B 1 M0 k H O nb nn np M1 1 := ⟨hF, Or.inl ⟨rfl, k1, P, O1, np1, ru, hR, hP, fun z => absurd z no3, hA, hdp⟩⟩
    have ns : ∀ x, x ≤ 255 → ¬ (mI M1 m 22 = 3 ∧ mI M1 m 24 = nI x) := fun x hx q => no3 ((hR.sign i1 hx).mp q).1
    exact bX11_either_10 hM ⟨fun _ => fin, fun q => absurd q (ns 124 (by decide))⟩
  | succ μ ih =>
    intro M1 k1 P O1 np1 hμ hF ru hR hP hFo hA hdp
    obtain ⟨i1, _, i3⟩ := ru.inv hT hcap
    have i1 : TV c n k1 := i1
    have i3 : kB k ≤ kB k1 := i3
    have fin : (kS k1 = 3 → ¬ rk (c (kB k1)) = 1) → GQ c n key m B 1 M0 k H O nb nn np M1 1 := fun hno => ⟨hF, Or.inl ⟨rfl, k1, P, O1, np1, ru, hR, hP, fun z => by
      rcases hFo z with h1 | h1
      · have := hno z
        exact Or.inl (by omega)
      · exact Or.inr h1, hA, hdp⟩⟩
    have go : ∀ x, x ≤ 255 → rk x = 1 → mI M1 m 22 = 3 ∧ mI M1 m 24 = nI x → ∃ q2 : Mm → Prop, Cv G m_X11_next d [.ref m] X M1 q2 ∧ ∀ M4, q2 M4 → (∃ q6 : Mm → Int32 → Prop, Cn G m_X11_both d [.ref m, .int (nI key)] X M4 q6 ∧ ∀ M8 r9, q6 M8 r9 → ((¬ (r9 = 0) → (∃ q12 : Mm → Prop, Cv G m_X11_step d [.ref m, .int 2, .int (nI x)] X M8 q12 ∧ ∀ M14, q12 M14 → Wn G m_X11_either (d + 1) 10 [(0, .ref m), (1, .int (nI key))] [] X M14 (GQ c n key m B 1 M0 k H O nb nn np))) ∧ (r9 = 0 → GQ c n key m B 1 M0 k H O nb nn np M8 0))) := fun x hx hxr hs => by
      obtain ⟨h3, hcx⟩ := (hR.sign i1 hx).mp hs
      have blt := tsrt_lt (c := c) (n := n) (p := kB k1) (by rw [← i1.1]; omega)
      refine op_step hM hB hsub hd hb8 hn8 hT hcap hF ru hR hA hdp h3 hcx hxr (by omega) hN (body_op h3 hcx hxr (by omega) hP (fun z => absurd z (by omega)) htrk) (fun M2 f2 g2 => ⟨f2, Or.inr ⟨rfl, g2⟩⟩) (fun M2 k2 P2 O2 np2 g1 g2 g3 g4 g5 g6 g7 g8 => ?_)
      refine ih M2 k2 (P2 ++ [x]) O2 np2 (by omega) g2 g3 g4 (fun p hp => ?_) (g6.more (by omega)) g7 g8
      rcases List.mem_append.mp hp with z | z
      · have := g5 p z
        omega
      · rw [List.mem_singleton.mp z]
        omega
    exact bX11_either_10 hM ⟨fun q => fin (fun z y => q ((hR.sign i1 (by decide)).mpr ⟨z, rk_1.mp y⟩)), fun q => go 124 (by decide) rfl q⟩
theorem lv_either {G : Gl} {X : Sh} {m n B key N : Nat} {c : Nat → Nat} (hM : Sh10 X m) (hB : B + 192 ≤ 2950) (hsub : GP G X m c n B key m_X11_both (2) N) : GP G X m c n B key m_X11_either 1 N := by
  intro d M k H O nb nn np hd hR hT hcap htrk h33 hA hb8 hn8 hN
  obtain ⟨d, rfl⟩ : ∃ d1, d = d1 + 1 := ⟨d - 1, by unfold dreq at hd; omega⟩
  have hd2 : dreq (2) nb nn ≤ d := by
    unfold dreq at hd ⊢
    omega
  refine Cn.of (by decide) (Nat.le_of_ble_eq_true rfl) (bX11_either_0 hM ⟨_, hsub d M k H O nb nn np hd2 hR hT hcap (by omega) h33 hA hb8 hn8 hN, ?_⟩)
  rintro M3 r4 ⟨F3, ⟨rfl, k2, P, O2, np2, ru, hR2, hP, hF, hA2, hdp⟩ | ⟨rfl, s2, ru, hst, hbeg⟩⟩
  · exact ⟨fun _ => lp_either hM hB hsub hd2 hb8 hn8 hT hcap htrk hN (n - kB k2) M3 k2 P O2 np2 (Nat.le_refl _) F3 ru hR2 (fun p hp => by have := hP p hp; omega) hF hA2 hdp, fun q => absurd q (by decide)⟩
  · exact ⟨fun q => absurd rfl q, fun _ => ⟨F3, Or.inr ⟨rfl, s2, ru, hst, hbeg⟩⟩⟩
theorem PP.gp {G : Gl} {X : Sh} {m n B key N : Nat} {c : Nat → Nat} (h : PP G X m c n B key N) : GP G X m c n B key m_X11_part0 6 N := by
  intro d M k H O nb nn np hd hR hT hcap htrk h33 hA hb8 hn8 hN
  refine (h d M k 0 H O nb nn np hd hR hT (by omega) h33 hA hb8 hn8 (Nat.zero_le _) hN).mono ?_
  rintro M2 x ⟨F2, ⟨rfl, k2, O2, np2, ru, hR2, hA2, hdp⟩ | ⟨rfl, s2, ru, hst, hbeg⟩⟩
  · refine ⟨F2, Or.inl ⟨rfl, k2, [], O2, np2, ?_, ?_, fun p hp => (List.not_mem_nil hp).elim, fun _ => Or.inl (by have := rk_le (c (kB k2)); omega), ?_, fun dd h0 => ?_⟩⟩
    · have ru : Runs c n key (k, true, H, O, nb, nn, np) (k2, false, H, O2 ++ [], nb, nn, np2) := ru
      rw [List.append_nil] at ru
      exact ru
    · show RS M2 m c n B k2 (O2 ++ []) np2 nb nn
      rw [List.append_nil]
      exact hR2
    · show AOK key (O2 ++ [])
      rw [List.append_nil]
      exact hA2
    · show dpO (O2 ++ []) = _
      rw [List.append_nil]
      exact hdp dd h0
  · exact ⟨F2, Or.inr ⟨rfl, s2, ru, hst, hbeg⟩⟩
theorem lv_all {G : Gl} {X : Sh} {m n B key N : Nat} {c : Nat → Nat} (hM : Sh10 X m) (hB : B + 192 ≤ 2950) (h : PP G X m c n B key N) : GP G X m c n B key m_X11_either 1 N := lv_either hM hB (lv_both hM hB (lv_test hM hB (lv_sum hM hB (lv_term hM hB h.gp))))
theorem part_of {G : Gl} {X : Sh} {m n B key N : Nat} {c : Nat → Nat} (hM : Sh10 X m) (hB : B + 192 ≤ 2950) (ih : ∀ N2, N2 < N → PP G X m c n B key N2 ∧ GP G X m c n B key m_X11_either 1 N2) : PP G X m c n B key N := by
  intro d M k j H O nb nn np hd hR hT hcap h33 hA hb8 hn8 hj hN
  obtain ⟨d, rfl⟩ : ∃ d1, d = d1 + 1 := ⟨d - 1, by unfold dreq at hd; omega⟩
  have d2 : 2 ≤ d := by
    unfold dreq at hd
    omega
  obtain ⟨t1, t2, t3, t4, t5, t6, t7, t8⟩ := id hT
  obtain ⟨n1, n2⟩ := TV.next (c := c) t3
  have n96 := hR.1.2.1
  obtain ⟨hBY, hRT, h25, h26, h27, h28, h29, hw⟩ := id hR
  have hl := rtok_le k
  have hO : O.length ≤ 95 ∨ kS k = 0 := by
    rcases Nat.eq_zero_or_pos (kS k) with q | q
    · exact Or.inr q
    · have := t5 (by omega)
      exact Or.inl (by omega)
  have piece : ∀ it : Nat × Nat, tpc c key k = some it → ¬ kS k = 0 → ¬ kS k = 3 → ¬ rtok k = 4 → (it.1 = 0 ∨ it.1 = 1) → st_ok (nI key) (nI it.1) (nI it.2) → ∃ q5 : Mm → Prop, Cv G m_X11_step d [.ref m, .int (nI it.1), .int (nI it.2)] X M q5 ∧ ∀ M7, q5 M7 → (∀ M9 : Mm, M9 = sI M7 m 29 ((mI M7 m 29) + 1) → (∃ q10 : Mm → Prop, Cv G m_X11_next d [.ref m] X M9 q10 ∧ ∀ M12, q10 M12 → PQ c n key m B j M k H O nb nn np M12 1)) := fun it hit h0 h3 h4 hi hok => by
    refine ⟨_, cp_X11_step G d X M m n B np nb nn c k O it.1 it.2 hM hR (by omega) hB, ?_⟩
    rintro M7 ⟨hR7, F7⟩
    intro M9 e9
    have v9 : mI M9 m 29 = nI (np + 1) := by rw [e9, mI_sI, up2_same, hR7.2.2.2.2.2.2.1, nI_1]
    have hR9 : RS M9 m c n B k (O ++ [(it.1, it.2)]) (np + 1) nb nn := hR7.set e9 (by omega) (by rw [e9, mI_sI, up2_k _ _ _ (by omega)]; exact hR7.2.2.1) (by rw [e9, mI_sI, up2_k _ _ _ (by omega)]; exact hR7.2.2.2.1) v9
    have F9 : FX m B M7 M9 := FX.set (by omega) e9
    refine ⟨_, hR9.next d2 hM hT h4, ?_⟩
    rintro M12 ⟨hR12, F12⟩
    refine ⟨(F7.trans F9).trans F12, Or.inl ⟨rfl, tnext c n k, O ++ [it], np + 1, Runs.one h0 ?_, hR12, hA.snoc hok, fun dd hdd => ?_⟩⟩
    · rw [cbody_t, if_neg h3, hit]
      show some (false, (nots (List.replicate j 33 ++ H) (O ++ [it]) nn).1, (nots (List.replicate j 33 ++ H) (O ++ [it]) nn).2.1, nb, (nots (List.replicate j 33 ++ H) (O ++ [it]) nn).2.2, np + 1) = _
      rw [nots_rep h33]
    · rw [dpO_snoc, hdd]
      exact dp_num dd it.2 it.1 hi
  have to84 : tpc c key k = none → Wn G m_X11_part0 (d + 1) 84 [(0, .ref m), (1, .int (nI key))] [] X M (PQ c n key m B j M k H O nb nn np) → Wn G m_X11_part0 (d + 1) 0 [(0, .ref m), (1, .int (nI key))] [] X M (PQ c n key m B j M k H O nb nn np) := fun hno hw84 => by
    refine bX11_part0_0 hM ⟨fun h2 => ⟨fun _ => hw84, fun h1 => ⟨fun _ => hw84, fun hl0 => ⟨fun _ => hw84, fun hn => ?_⟩⟩⟩, fun h2 => ?_⟩
    · exfalso
      rw [hRT.2.2.1] at h1
      obtain ⟨s1, z1⟩ := rtok_is1 ((nI_inj (b := 1) (by omega) (by omega)).mp h1)
      have e24 := hRT.2.2.2.2.1 s1
      rw [e24] at hl0 hn
      by_cases y : kE k - kB k = 1
      · rw [if_pos y] at hn
        unfold tpc at hno
        rw [if_neg (by omega), if_pos s1, if_pos ⟨by omega, y, hn⟩] at hno
        cases hno
      · rw [if_neg y] at hl0
        exact hl0 rfl
    · exfalso
      rw [hRT.2.2.1] at h2
      obtain ⟨s2, z2⟩ := rtok_is2 t7 ((nI_inj (b := 2) (by omega) (by omega)).mp h2)
      unfold tpc at hno
      rw [if_pos s2, if_pos ⟨by omega, by omega⟩] at hno
      cases hno
  have fail : cbody c key k (true, List.replicate j 33 ++ H, O, nb, nn, np) = none ∨ kS k = 0 → PQ c n key m B j M k H O nb nn np M 0 := fun h => by
    refine ⟨FX.refl _ _ _, Or.inr ⟨rfl, _, Runs.refl _, ?_, hRT.1⟩⟩
    by_cases z : kS k = 0
    · exact Or.inr ⟨z, Or.inl rfl⟩
    · rcases h with h | h
      · exact Or.inl ⟨z, h⟩
      · exact absurd h z
  refine Cn.of (by decide) (Nat.le_of_ble_eq_true rfl) ?_
  cases hp : tpc c key k with
  | some it =>
    have hp2 := hp
    unfold tpc at hp2
    by_cases s2 : kS k = 2
    · rw [if_pos s2] at hp2
      by_cases z : kZ k = 0 ∧ kE k - kB k ≤ 4
      · rw [if_pos z] at hp2
        cases hp2
        have r2 : rtok k = 2 := by
          rw [rtok_2 s2, if_neg (by omega)]
        have nle := tnum_le (c := c) (b := kB k) z.2 (fun i i1 i2 => t6 s2 i i1 (by omega))
        refine bX11_part0_0 hM ⟨fun q => absurd (by rw [hRT.2.2.1, r2]; rfl) q, fun _ => ?_⟩
        rw [hRT.2.2.2.1 r2]
        exact piece (0, tnum c (kB k) (kE k - kB k)) hp (by omega) (by omega) (by omega) (Or.inl rfl) (Or.inl ⟨rfl, _, nle, rfl⟩)
      · rw [if_neg z] at hp2
        cases hp2
    · rw [if_neg s2] at hp2
      by_cases s1 : kS k = 1
      · rw [if_pos s1] at hp2
        by_cases z : kZ k = 0 ∧ kE k - kB k = 1 ∧ p_isName (nI key) (nI (c (kB k)))
        · rw [if_pos z] at hp2
          cases hp2
          have r1 : rtok k = 1 := by
            rw [rtok_1 s1, if_neg (by omega)]
          have lt := tsrt_lt (c := c) (n := n) (p := kB k) (by rw [← t1]; omega)
          have le := (tsrt_1 lt).mp (by rw [← t1]; exact s1)
          have e24 : mI M m 24 = nI (c (kB k)) := by
            rw [hRT.2.2.2.2.1 s1, if_pos z.2.1]
          refine bX11_part0_0 hM ⟨fun _ => ⟨fun q => absurd (by rw [hRT.2.2.1, r1]; rfl) q, fun _ => ?_⟩, fun q => ?_⟩
          · rw [e24]
            refine ⟨fun q => ?_, fun _ => ⟨fun q => absurd z.2.2 q, fun _ => piece (1, c (kB k)) hp (by omega) (by omega) (by omega) (Or.inr rfl) (Or.inr (Or.inl ⟨rfl, _, ⟨by omega, z.2.2⟩, rfl⟩))⟩⟩
            have := (nI_inj (b := 0) (by omega) (by omega)).mp q
            omega
          · rw [hRT.2.2.1, r1] at q
            exact absurd q (by decide)
        · rw [if_neg z] at hp2
          cases hp2
      · rw [if_neg s1] at hp2
        cases hp2
  | none =>
    refine to84 hp ?_
    have bnone : ¬ kS k = 3 → cbody c key k (true, List.replicate j 33 ++ H, O, nb, nn, np) = none := fun h => by
      rw [cbody_t, if_neg h, hp]
    by_cases h3 : kS k = 3
    · have blt := tsrt_lt (c := c) (n := n) (p := kB k) (by rw [← t1]; omega)
      have e5 := t5 (by omega)
      have r4 : ¬ rtok k = 4 := by
        rw [rtok_3 h3]
        omega
      by_cases hx : c (kB k) = 33 ∧ nn < 8
      · have run1 : Runs c n key (k, true, List.replicate j 33 ++ H, O, nb, nn, np) (tnext c n k, true, List.replicate (j + 1) 33 ++ H, O, nb, nn + 1, np) := Runs.one (by omega) (by
          rw [cbody_t, if_pos h3, if_neg (fun q => by omega), if_pos hx]
          rfl)
        refine bX11_part0_84 hM ⟨fun q => absurd ((hR.sign (x := 33) hT (by decide)).mpr ⟨h3, hx.1⟩) q, fun _ => ⟨fun q => ?_, fun _ => ?_⟩⟩
        · rw [h26] at q
          have := (nI_leI (a := 8) (by omega) (by omega)).mp q
          omega
        intro M3 e3
        have v3 : mI M3 m 26 = nI (nn + 1) := by rw [e3, mI_sI, up2_same, h26, nI_1]
        have hR3 : RS M3 m c n B k O np nb (nn + 1) := hR.set e3 (by omega) (by rw [e3, mI_sI, up2_k _ _ _ (by omega), h25]) v3 (by rw [e3, mI_sI, up2_k _ _ _ (by omega), h29])
        have F3 : FX m B M M3 := FX.set (by omega) e3
        refine ⟨_, hR3.next d2 hM hT r4, ?_⟩
        rintro M6 ⟨hR6, F6⟩
        refine ⟨_, (ih (N - 1) (by omega)).1 d M6 (tnext c n k) (j + 1) H O nb (nn + 1) np (by unfold dreq at hd ⊢; omega) hR6 n1 (by omega) h33 hA hb8 (by omega) (by omega) (by omega), ?_⟩
        rintro M10 r11 ⟨F10, ⟨rfl, k2, O2, np2, ru, hR2, hA2, hdp⟩ | ⟨rfl, s2, ru, hst, hbeg⟩⟩
        · refine ⟨fun _ => ?_, fun q => absurd q (by decide)⟩
          have i2 := ru.inv n1 (by
            show (List.replicate (j + 1) 33 ++ H).length + O.length ≤ kB (tnext c n k)
            rw [List.length_append, List.length_replicate]
            omega)
          have i1 : TV c n k2 := i2.1
          have i2 : H.length + (O2 ++ List.replicate (j + 1) (2, 33)).length ≤ kB k2 := i2.2.1
          rw [List.length_append, List.length_replicate] at i2
          have := i1.2.1
          intro M14 e14
          have v14 : mI M14 m 26 = nI nn := by rw [e14, mI_sI, up2_same, hR2.2.2.2.1, nI_pred]
          have hR14 : RS M14 m c n B k2 O2 np2 nb nn := hR2.set e14 (by omega) (by rw [e14, mI_sI, up2_k _ _ _ (by omega)]; exact hR2.2.2.1) v14 (by rw [e14, mI_sI, up2_k _ _ _ (by omega)]; exact hR2.2.2.2.2.2.2.1)
          have F14 : FX m B M10 M14 := FX.set (by omega) e14
          refine ⟨_, cp_X11_step G d X M14 m n B np2 nb nn c k2 O2 2 33 hM hR14 (by omega) hB, ?_⟩
          rintro M17 ⟨hR17, F17⟩
          refine ⟨(((F3.trans F6).trans F10).trans F14).trans F17, Or.inl ⟨rfl, k2, O2 ++ [(2, 33)], np2, ?_, hR17, hA2.snoc (ok_sgn (by decide)), fun dd hdd => ?_⟩⟩
          · have := run1.trans ru
            rw [show nn + 1 - (j + 1) = nn - j by omega, show O2 ++ List.replicate (j + 1) (2, 33) = O2 ++ [(2, 33)] ++ List.replicate j (2, 33) by rw [List.append_assoc]; rfl] at this
            exact this
          · rw [dpO_snoc, hdp dd hdd]
            exact dp_not dd
        · exact ⟨fun q => absurd rfl q, fun _ => ⟨(F3.trans F6).trans F10, Or.inr ⟨rfl, s2, run1.trans ru, hst, hbeg⟩⟩⟩
      · have to145 : Wn G m_X11_part0 (d + 1) 145 [(0, .ref m), (1, .int (nI key))] [] X M (PQ c n key m B j M k H O nb nn np) → Wn G m_X11_part0 (d + 1) 84 [(0, .ref m), (1, .int (nI key))] [] X M (PQ c n key m B j M k H O nb nn np) := fun hw => by
          refine bX11_part0_84 hM ⟨fun _ => hw, fun q => ⟨fun _ => hw, fun q2 => ?_⟩⟩
          exfalso
          refine hx ⟨((hR.sign (x := 33) hT (by decide)).mp q).2, ?_⟩
          rw [h26] at q2
          exact Nat.lt_of_not_le (fun y => q2 ((nI_leI (a := 8) (by omega) (by omega)).mpr y))
        by_cases hy : c (kB k) = 40 ∧ nb < 8
        · have run1 : Runs c n key (k, true, List.replicate j 33 ++ H, O, nb, nn, np) (tnext c n k, true, 40 :: (List.replicate j 33 ++ H), O, nb + 1, nn, np) := Runs.one (by omega) (by
            rw [cbody_t, if_pos h3, if_pos hy])
          refine to145 (bX11_part0_145 hM ⟨fun q => absurd ((hR.sign (x := 40) hT (by decide)).mpr ⟨h3, hy.1⟩) q, fun _ => ⟨fun _ => ?_, fun q => ?_⟩⟩)
          · intro M3 e3
            have v3 : mI M3 m 25 = nI (nb + 1) := by rw [e3, mI_sI, up2_same, h25, nI_1]
            have hR3 : RS M3 m c n B k O np (nb + 1) nn := hR.set e3 (by omega) v3 (by rw [e3, mI_sI, up2_k _ _ _ (by omega), h26]) (by rw [e3, mI_sI, up2_k _ _ _ (by omega), h29])
            have F3 : FX m B M M3 := FX.set (by omega) e3
            refine ⟨_, hR3.next d2 hM hT r4, ?_⟩
            rintro M6 ⟨hR6, F6⟩
            have cap1 : (40 :: (List.replicate j 33 ++ H)).length + O.length ≤ kB (tnext c n k) := by
              rw [List.length_cons, List.length_append, List.length_replicate]
              omega
            refine ⟨_, (ih (N - 1) (by omega)).2 d M6 (tnext c n k) (40 :: (List.replicate j 33 ++ H)) O (nb + 1) nn np (by unfold dreq at hd ⊢; omega) hR6 n1 cap1 (by show rk 40 < 1; decide) (by show ¬ (40 = 33); decide) hA (by omega) hn8 (by omega), ?_⟩
            rintro M10 r11 ⟨F10, ⟨rfl, k2, P, O2, np2, ru, hR2, hP, hFo, hA2, hdp⟩ | ⟨rfl, s2, ru, hst, hbeg⟩⟩
            · have i1 : TV c n k2 := (ru.inv n1 cap1).1
              refine ⟨fun q => absurd q (by decide), fun _ => ⟨fun q => ?_, fun q => ?_⟩⟩
              · obtain ⟨g3, g41⟩ := (hR2.sign (x := 41) i1 (by decide)).mp q
                intro M15 e15
                have v15 : mI M15 m 25 = nI nb := by rw [e15, mI_sI, up2_same, hR2.2.2.1, nI_pred]
                have hR15 : RS M15 m c n B k2 (O2 ++ sgs P) np2 nb nn := hR2.set e15 (by omega) v15 (by rw [e15, mI_sI, up2_k _ _ _ (by omega)]; exact hR2.2.2.2.1) (by rw [e15, mI_sI, up2_k _ _ _ (by omega)]; exact hR2.2.2.2.2.2.2.1)
                have F15 : FX m B M10 M15 := FX.set (by omega) e15
                refine ⟨_, hR15.next d2 hM i1 (by rw [rtok_3 g3]; omega), ?_⟩
                rintro M18 ⟨hR18, F18⟩
                have efl : fl 1 true (P ++ 40 :: (List.replicate j 33 ++ H)) O2 = (40 :: (List.replicate j 33 ++ H), O2 ++ sgs P) := fl_all (fun p hp => by
                  have := hP p hp
                  by_cases y : rk p = 1
                  · exact Or.inr ⟨rfl, y⟩
                  · exact Or.inl (by omega)) (Or.inl (by
                  show ¬ (1 < rk 40 ∨ (true = true ∧ rk 40 = 1))
                  decide))
                refine ⟨(((F3.trans F6).trans F10).trans F15).trans F18, Or.inl ⟨rfl, tnext c n k2, O2 ++ sgs P, np2, (run1.trans ru).trans (Runs.one (by omega) ?_), hR18, hA2, hdp⟩⟩
                rw [cbody_f, if_pos g3, if_pos g41]
                show (if nb + 1 = 0 then none else some (false, (nots (fl 1 true (P ++ 40 :: (List.replicate j 33 ++ H)) O2).1.tail (fl 1 true (P ++ 40 :: (List.replicate j 33 ++ H)) O2).2 nn).1, (nots (fl 1 true (P ++ 40 :: (List.replicate j 33 ++ H)) O2).1.tail (fl 1 true (P ++ 40 :: (List.replicate j 33 ++ H)) O2).2 nn).2.1, nb + 1 - 1, (nots (fl 1 true (P ++ 40 :: (List.replicate j 33 ++ H)) O2).1.tail (fl 1 true (P ++ 40 :: (List.replicate j 33 ++ H)) O2).2 nn).2.2, np2)) = _
                rw [if_neg (by omega), efl]
                show some (false, (nots (List.replicate j 33 ++ H) (O2 ++ sgs P) nn).1, (nots (List.replicate j 33 ++ H) (O2 ++ sgs P) nn).2.1, nb + 1 - 1, (nots (List.replicate j 33 ++ H) (O2 ++ sgs P) nn).2.2, np2) = _
                rw [nots_rep h33]
                rfl
              · refine ⟨(F3.trans F6).trans F10, Or.inr ⟨rfl, _, run1.trans ru, stuck_here hFo (fun _ => by omega) (fun y3 y41 => absurd ((hR2.sign (x := 41) i1 (by decide)).mpr ⟨y3, y41⟩) q), hR2.2.1.1⟩⟩
            · exact ⟨fun _ => ⟨(F3.trans F6).trans F10, Or.inr ⟨rfl, s2, run1.trans ru, hst, hbeg⟩⟩, fun q => absurd rfl q⟩
          · rw [h25] at q
            have := (nI_inj (b := 8) (by omega) (by omega)).mp q
            omega
        · have bn : cbody c key k (true, List.replicate j 33 ++ H, O, nb, nn, np) = none := by
            rw [cbody_t, if_pos h3, if_neg hy, if_neg hx]
          refine to145 (bX11_part0_145 hM ⟨fun _ => fail (Or.inl bn), fun q => ⟨fun q2 => ?_, fun _ => fail (Or.inl bn)⟩⟩)
          exfalso
          refine hy ⟨((hR.sign (x := 40) hT (by decide)).mp q).2, ?_⟩
          rw [h25] at q2
          have : ¬ nb = 8 := fun y => q2 (by rw [y]; rfl)
          omega
    · have ns : ∀ x, x ≤ 255 → ¬ (mI M m 22 = 3 ∧ mI M m 24 = nI x) := fun x hx q => h3 ((hR.sign hT hx).mp q).1
      exact bX11_part0_84 hM ⟨fun _ => bX11_part0_145 hM ⟨fun _ => fail (Or.inl (bnone h3)), fun q => absurd q (ns 40 (by decide))⟩, fun q => absurd q (ns 33 (by decide))⟩
theorem gram {G : Gl} {X : Sh} {m n B key : Nat} {c : Nat → Nat} (hM : Sh10 X m) (hB : B + 192 ≤ 2950) (N : Nat) : PP G X m c n B key N ∧ GP G X m c n B key m_X11_either 1 N := by
  induction N using Nat.strongRecOn with
  | _ N ih =>
    have hp := part_of hM hB ih
    exact ⟨hp, lv_all hM hB hp⟩
